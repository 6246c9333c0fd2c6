section
/-! part 00: lengths of instructions, the check of a list of instructions (stands first, so that the printed lists behind it needn't compile again) -/
def ip_ln (i : Instr) : Nat := match i with
  | .bipush _ => 2
  | .iload _ => 2
  | .lload _ => 2
  | .aload _ => 2
  | .istore _ => 2
  | .lstore _ => 2
  | .astore _ => 2
  | .ldc _ => 2
  | .newarray _ => 2
  | .sipush _ => 3
  | .getfield _ => 3
  | .putfield _ => 3
  | .ifCond _ _ => 3
  | .if_icmp _ _ => 3
  | .ifnull _ => 3
  | .ifnonnull _ => 3
  | .goto _ => 3
  | .invokevirtual _ => 3
  | .invokestatic _ => 3
  | .invokespecial _ => 3
  | .new _ => 3
  | .anewarray _ => 3
  | .iinc _ _ => 3
  | .ldc_w _ => 3
  | .ldc2_w _ => 3
  | _ => 1
def ip_sw (i : Instr) : Bool := match i with
  | .lookupswitch _ _ => true
  | .tableswitch _ _ _ _ => true
  | _ => false
/-- a method's instructions are what its bytes decode to -/
def vt_chk (q : ByteArray × List (Nat × Instr × Nat)) : Bool := q.2.all (fun r => match decode q.1 r.1 with
  | .ok x => decide (x = (r.2.1, r.2.2)) && (r.2.2 == ip_ln r.2.1 || ip_sw r.2.1)
  | .error _ => false)
theorem vt_app {b : ByteArray} {l1 l2 : List (Nat × Instr × Nat)} (h1 : vt_chk (b, l1) = true) (h2 : vt_chk (b, l2) = true) : vt_chk (b, l1 ++ l2) = true := by
  unfold vt_chk at h1 h2 ⊢
  rw [List.all_append, h1, h2]
  rfl
end
section
/-! instructions of the methods 0 to 39, printed by wip/whole/tools/gen14.py out of the claim: each list is what decode gives -/
-- 0: VitalTwin.<init> (I)V
def vt_i0 : List (Nat × Instr × Nat) := [(0, .aload_n 0, 1), (1, .invokespecial 1, 3), (4, .bipush 16, 2), (6, .sipush 4096, 3), (9, .iload_n 1, 1), (10, .invokestatic 7, 3), (13, .invokestatic 13, 3), (16, .istore_n 2, 1), (17, .new 16, 3), (20, .dup, 1), (21, .invokespecial 18, 3), (24, .astore_n 3, 1), (25, .new 19, 3), (28, .dup, 1), (29, .aload_n 3, 1), (30, .iload_n 2, 1), (31, .invokespecial 21, 3), (34, .astore 4, 2), (36, .aload_n 0, 1), (37, .aload_n 3, 1), (38, .putfield 24, 3), (41, .aload_n 0, 1), (42, .aload 4, 2), (44, .putfield 30, 3), (47, .aload_n 0, 1), (48, .new 19, 3), (51, .dup, 1), (52, .aload_n 3, 1), (53, .iload_n 2, 1), (54, .invokespecial 21, 3), (57, .putfield 34, 3), (60, .aload_n 0, 1), (61, .new 37, 3), (64, .dup, 1), (65, .iload_n 2, 1), (66, .aload 4, 2), (68, .getfield 39, 3), (71, .invokespecial 43, 3), (74, .putfield 46, 3), (77, .aload_n 0, 1), (78, .bipush 64, 2), (80, .newarray .byte, 2), (82, .putfield 50, 3), (85, .return_, 1)]
theorem vt_o0 : vt_chk (prog_1_method_1_code, vt_i0) = true := by sorry
-- 1: VitalTwin$Reader.<init> ()V
def vt_i1 : List (Nat × Instr × Nat) := [(0, .aload_n 0, 1), (1, .invokespecial 3, 3), (4, .aload_n 0, 1), (5, .bipush 20, 2), (7, .newarray .byte, 2), (9, .putfield 9, 3), (12, .aload_n 0, 1), (13, .sipush 1024, 3), (16, .newarray .byte, 2), (18, .putfield 15, 3), (21, .aload_n 0, 1), (22, .iconst 0, 1), (23, .newarray .byte, 2), (25, .putfield 18, 3), (28, .aload_n 0, 1), (29, .iconst 0, 1), (30, .newarray .int, 2), (32, .putfield 21, 3), (35, .return_, 1)]
theorem vt_o1 : vt_chk (prog_9_method_1_code, vt_i1) = true := by sorry
-- 2: VitalTwin$Declarations.<init> (LVitalTwin$Reader;I)V
def vt_i2 : List (Nat × Instr × Nat) := [(0, .aload_n 0, 1), (1, .invokespecial 3, 3), (4, .new 9, 3), (7, .dup, 1), (8, .invokespecial 11, 3), (11, .astore_n 3, 1), (12, .new 12, 3), (15, .dup, 1), (16, .aload_n 1, 1), (17, .aload_n 3, 1), (18, .invokespecial 14, 3), (21, .astore 4, 2), (23, .aload_n 0, 1), (24, .aload_n 1, 1), (25, .putfield 17, 3), (28, .aload_n 0, 1), (29, .iload_n 2, 1), (30, .putfield 23, 3), (33, .aload_n 0, 1), (34, .aload_n 3, 1), (35, .putfield 27, 3), (38, .aload_n 0, 1), (39, .aload 4, 2), (41, .putfield 31, 3), (44, .aload_n 0, 1), (45, .new 35, 3), (48, .dup, 1), (49, .aload_n 1, 1), (50, .aload_n 3, 1), (51, .aload 4, 2), (53, .invokespecial 37, 3), (56, .putfield 40, 3), (59, .return_, 1)]
theorem vt_o2 : vt_chk (prog_5_method_1_code, vt_i2) = true := by sorry
-- 3: VitalTwin$Program.<init> ()V
def vt_i3 : List (Nat × Instr × Nat) := [(0, .aload_n 0, 1), (1, .invokespecial 3, 3), (4, .aload_n 0, 1), (5, .new 9, 3), (8, .dup, 1), (9, .invokespecial 11, 3), (12, .putfield 12, 3), (15, .aload_n 0, 1), (16, .sipush 400, 3), (19, .anewarray 18, 3), (22, .putfield 20, 3), (25, .aload_n 0, 1), (26, .sipush 8000, 3), (29, .newarray .byte, 2), (31, .putfield 24, 3), (34, .return_, 1)]
theorem vt_o3 : vt_chk (prog_8_method_1_code, vt_i3) = true := by sorry
-- 4: VitalTwin$Code.<init> ()V
def vt_i4 : List (Nat × Instr × Nat) := [(0, .aload_n 0, 1), (1, .invokespecial 3, 3), (4, .aload_n 0, 1), (5, .iconst 0, 1), (6, .newarray .int, 2), (8, .putfield 9, 3), (11, .aload_n 0, 1), (12, .iconst 0, 1), (13, .newarray .int, 2), (15, .putfield 15, 3), (18, .aload_n 0, 1), (19, .iconst 0, 1), (20, .newarray .int, 2), (22, .putfield 18, 3), (25, .aload_n 0, 1), (26, .iconst 0, 1), (27, .newarray .int, 2), (29, .putfield 21, 3), (32, .aload_n 0, 1), (33, .iconst 0, 1), (34, .newarray .int, 2), (36, .putfield 24, 3), (39, .aload_n 0, 1), (40, .iconst 0, 1), (41, .newarray .int, 2), (43, .putfield 27, 3), (46, .aload_n 0, 1), (47, .sipush 401, 3), (50, .newarray .int, 2), (52, .putfield 30, 3), (55, .aload_n 0, 1), (56, .sipush 401, 3), (59, .newarray .int, 2), (61, .putfield 33, 3), (64, .aload_n 0, 1), (65, .sipush 1024, 3), (68, .newarray .int, 2), (70, .putfield 36, 3), (73, .aload_n 0, 1), (74, .sipush 1024, 3), (77, .newarray .int, 2), (79, .putfield 39, 3), (82, .return_, 1)]
theorem vt_o4 : vt_chk (prog_2_method_1_code, vt_i4) = true := by sorry
-- 5: VitalTwin$Constants.<init> (LVitalTwin$Reader;LVitalTwin$Program;)V
def vt_i5 : List (Nat × Instr × Nat) := [(0, .aload_n 0, 1), (1, .invokespecial 3, 3), (4, .aload_n 0, 1), (5, .aload_n 1, 1), (6, .putfield 9, 3), (9, .aload_n 0, 1), (10, .aload_n 2, 1), (11, .putfield 15, 3), (14, .return_, 1)]
theorem vt_o5 : vt_chk (prog_3_method_1_code, vt_i5) = true := by sorry
-- 6: VitalTwin$Statements.<init> (LVitalTwin$Reader;LVitalTwin$Program;LVitalTwin$Constants;)V
def vt_i6 : List (Nat × Instr × Nat) := [(0, .aload_n 0, 1), (1, .invokespecial 3, 3), (4, .aload_n 0, 1), (5, .aload_n 1, 1), (6, .putfield 9, 3), (9, .aload_n 0, 1), (10, .aload_n 2, 1), (11, .putfield 15, 3), (14, .aload_n 0, 1), (15, .aload_n 2, 1), (16, .getfield 19, 3), (19, .putfield 25, 3), (22, .aload_n 0, 1), (23, .aload_n 3, 1), (24, .putfield 26, 3), (27, .aload_n 0, 1), (28, .new 30, 3), (31, .dup, 1), (32, .aload_n 1, 1), (33, .aload_n 2, 1), (34, .aload_n 3, 1), (35, .invokespecial 32, 3), (38, .putfield 35, 3), (41, .return_, 1)]
theorem vt_o6 : vt_chk (prog_11_method_1_code, vt_i6) = true := by sorry
-- 7: VitalTwin$Expressions.<init> (LVitalTwin$Reader;LVitalTwin$Program;LVitalTwin$Constants;)V
def vt_i7 : List (Nat × Instr × Nat) := [(0, .aload_n 0, 1), (1, .invokespecial 3, 3), (4, .aload_n 0, 1), (5, .sipush 512, 3), (8, .newarray .int, 2), (10, .putfield 11, 3), (13, .aload_n 0, 1), (14, .sipush 512, 3), (17, .newarray .int, 2), (19, .putfield 15, 3), (22, .aload_n 0, 1), (23, .sipush 512, 3), (26, .newarray .int, 2), (28, .putfield 18, 3), (31, .aload_n 0, 1), (32, .sipush 512, 3), (35, .newarray .int, 2), (37, .putfield 21, 3), (40, .aload_n 0, 1), (41, .sipush 512, 3), (44, .newarray .int, 2), (46, .putfield 24, 3), (49, .aload_n 0, 1), (50, .sipush 512, 3), (53, .newarray .int, 2), (55, .putfield 27, 3), (58, .aload_n 0, 1), (59, .sipush 512, 3), (62, .newarray .int, 2), (64, .putfield 30, 3), (67, .aload_n 0, 1), (68, .aload_n 1, 1), (69, .putfield 33, 3), (72, .aload_n 0, 1), (73, .aload_n 2, 1), (74, .putfield 37, 3), (77, .aload_n 0, 1), (78, .aload_n 2, 1), (79, .getfield 41, 3), (82, .putfield 47, 3), (85, .aload_n 0, 1), (86, .aload_n 3, 1), (87, .putfield 48, 3), (90, .return_, 1)]
theorem vt_o7 : vt_chk (prog_6_method_1_code, vt_i7) = true := by sorry
-- 8: VitalTwin$Machine.<init> (ILVitalTwin$Program;)V
def vt_i8 : List (Nat × Instr × Nat) := [(0, .aload_n 0, 1), (1, .invokespecial 3, 3), (4, .aload_n 0, 1), (5, .iconst 0, 1), (6, .newarray .int, 2), (8, .putfield 9, 3), (11, .aload_n 0, 1), (12, .bipush 32, 2), (14, .newarray .int, 2), (16, .putfield 15, 3), (19, .aload_n 0, 1), (20, .new 18, 3), (23, .dup, 1), (24, .iload_n 1, 1), (25, .invokespecial 20, 3), (28, .putfield 23, 3), (31, .aload_n 0, 1), (32, .new 18, 3), (35, .dup, 1), (36, .iload_n 1, 1), (37, .invokespecial 20, 3), (40, .putfield 27, 3), (43, .aload_n 0, 1), (44, .new 18, 3), (47, .dup, 1), (48, .iload_n 1, 1), (49, .invokespecial 20, 3), (52, .putfield 30, 3), (55, .aload_n 0, 1), (56, .iload_n 1, 1), (57, .newarray .int, 2), (59, .putfield 33, 3), (62, .aload_n 0, 1), (63, .iload_n 1, 1), (64, .newarray .int, 2), (66, .putfield 36, 3), (69, .aload_n 0, 1), (70, .aload_n 2, 1), (71, .putfield 39, 3), (74, .return_, 1)]
theorem vt_o8 : vt_chk (prog_7_method_1_code, vt_i8) = true := by sorry
-- 9: VitalTwin$Run.<init> (I)V
def vt_i9 : List (Nat × Instr × Nat) := [(0, .aload_n 0, 1), (1, .invokespecial 3, 3), (4, .aload_n 0, 1), (5, .new 9, 3), (8, .dup, 1), (9, .iload_n 1, 1), (10, .lconst 1, 1), (11, .invokespecial 11, 3), (14, .putfield 14, 3), (17, .aload_n 0, 1), (18, .new 9, 3), (21, .dup, 1), (22, .iload_n 1, 1), (23, .ldc2_w 20, 3), (26, .invokespecial 11, 3), (29, .putfield 22, 3), (32, .return_, 1)]
theorem vt_o9 : vt_chk (prog_10_method_1_code, vt_i9) = true := by sorry
-- 10: VitalTwin$Copy.<init> (IJ)V
def vt_i10 : List (Nat × Instr × Nat) := [(0, .aload_n 0, 1), (1, .invokespecial 3, 3), (4, .aload_n 0, 1), (5, .bipush 16, 2), (7, .newarray .int, 2), (9, .putfield 9, 3), (12, .aload_n 0, 1), (13, .iload_n 1, 1), (14, .newarray .long, 2), (16, .putfield 15, 3), (19, .aload_n 0, 1), (20, .lload_n 2, 1), (21, .putfield 19, 3), (24, .return_, 1)]
theorem vt_o10 : vt_chk (prog_4_method_1_code, vt_i10) = true := by sorry
-- 11: VitalTwin.feed (JJ)I
def vt_i11 : List (Nat × Instr × Nat) := [(0, .aload_n 0, 1), (1, .getfield 24, 3), (4, .lload_n 1, 1), (5, .lload_n 3, 1), (6, .invokevirtual 54, 3), (9, .ireturn, 1)]
theorem vt_o11 : vt_chk (prog_1_method_2_code, vt_i11) = true := by sorry
-- 12: VitalTwin$Reader.add (JJ)I
def vt_i12 : List (Nat × Instr × Nat) := [(0, .lload_n 1, 1), (1, .invokestatic 25, 3), (4, .istore 5, 2), (6, .lload_n 3, 1), (7, .invokestatic 25, 3), (10, .istore 6, 2), (12, .iload 5, 2), (14, .ifCond .lt 23, 3), (17, .iload 6, 2), (19, .ifCond .lt 18, 3), (22, .aload_n 0, 1), (23, .getfield 29, 3), (26, .iload 5, 2), (28, .iadd, 1), (29, .iload 6, 2), (31, .iadd, 1), (32, .ldc 33, 2), (34, .if_icmp .le 5, 3), (37, .iconst (-1), 1), (38, .ireturn, 1), (39, .aload_n 0, 1), (40, .aload_n 0, 1), (41, .getfield 29, 3), (44, .iload 5, 2), (46, .iadd, 1), (47, .iload 6, 2), (49, .iadd, 1), (50, .invokevirtual 34, 3), (53, .aload_n 0, 1), (54, .lload_n 1, 1), (55, .invokevirtual 38, 3), (58, .aload_n 0, 1), (59, .lload_n 3, 1), (60, .invokevirtual 38, 3), (63, .aload_n 0, 1), (64, .getfield 29, 3), (67, .ireturn, 1)]
theorem vt_o12 : vt_chk (prog_9_method_2_code, vt_i12) = true := by sorry
-- 13: VitalTwin$Reader.signsOf (J)I
def vt_i13 : List (Nat × Instr × Nat) := [(0, .iconst 0, 1), (1, .istore_n 2, 1), (2, .bipush 56, 2), (4, .istore_n 3, 1), (5, .iload_n 3, 1), (6, .ifCond .lt 50, 3), (9, .lload_n 0, 1), (10, .iload_n 3, 1), (11, .lushr, 1), (12, .l2i, 1), (13, .sipush 255, 3), (16, .iand, 1), (17, .istore 4, 2), (19, .iload 4, 2), (21, .ifCond .eq 29, 3), (24, .iload 4, 2), (26, .bipush 10, 2), (28, .if_icmp .eq 19, 3), (31, .iload 4, 2), (33, .bipush 32, 2), (35, .if_icmp .lt 10, 3), (38, .iload 4, 2), (40, .bipush 126, 2), (42, .if_icmp .le 5, 3), (45, .iconst (-1), 1), (46, .ireturn, 1), (47, .iinc 2 1, 3), (50, .iinc 3 (-8), 3), (53, .goto (-48), 3), (56, .iload_n 2, 1), (57, .ireturn, 1)]
theorem vt_o13 : vt_chk (prog_9_method_3_code, vt_i13) = true := by sorry
-- 14: VitalTwin$Reader.makeRoom (I)V
def vt_i14 : List (Nat × Instr × Nat) := [(0, .iload_n 1, 1), (1, .aload_n 0, 1), (2, .getfield 15, 3), (5, .arraylength, 1), (6, .if_icmp .le 25, 3), (9, .aload_n 0, 1), (10, .aload_n 0, 1), (11, .getfield 15, 3), (14, .iload_n 1, 1), (15, .iconst 2, 1), (16, .aload_n 0, 1), (17, .getfield 15, 3), (20, .arraylength, 1), (21, .imul, 1), (22, .invokestatic 42, 3), (25, .invokestatic 48, 3), (28, .putfield 15, 3), (31, .return_, 1)]
theorem vt_o14 : vt_chk (prog_9_method_4_code, vt_i14) = true := by sorry
-- 15: VitalTwin$Reader.append (J)V
def vt_i15 : List (Nat × Instr × Nat) := [(0, .bipush 56, 2), (2, .istore_n 3, 1), (3, .iload_n 3, 1), (4, .ifCond .lt 58, 3), (7, .lload_n 1, 1), (8, .iload_n 3, 1), (9, .lushr, 1), (10, .l2i, 1), (11, .sipush 255, 3), (14, .iand, 1), (15, .istore 4, 2), (17, .iload 4, 2), (19, .ifCond .eq 37, 3), (22, .aload_n 0, 1), (23, .getfield 29, 3), (26, .aload_n 0, 1), (27, .getfield 15, 3), (30, .arraylength, 1), (31, .if_icmp .ge 25, 3), (34, .aload_n 0, 1), (35, .getfield 15, 3), (38, .aload_n 0, 1), (39, .getfield 29, 3), (42, .iload 4, 2), (44, .i2b, 1), (45, .bastore, 1), (46, .aload_n 0, 1), (47, .dup, 1), (48, .getfield 29, 3), (51, .iconst 1, 1), (52, .iadd, 1), (53, .putfield 29, 3), (56, .iinc 3 (-8), 3), (59, .goto (-56), 3), (62, .return_, 1)]
theorem vt_o15 : vt_chk (prog_9_method_5_code, vt_i15) = true := by sorry
-- 16: VitalTwin$Declarations.readProgram ()V
def vt_i16 : List (Nat × Instr × Nat) := [(0, .aload_n 0, 1), (1, .getfield 27, 3), (4, .invokevirtual 44, 3), (7, .aload_n 0, 1), (8, .getfield 40, 3), (11, .invokevirtual 47, 3), (14, .aload_n 0, 1), (15, .getfield 17, 3), (18, .invokevirtual 48, 3), (21, .iconst 0, 1), (22, .istore_n 1, 1), (23, .iload_n 1, 1), (24, .ldc 53, 2), (26, .if_icmp .ge 132, 3), (29, .aload_n 0, 1), (30, .getfield 17, 3), (33, .getfield 54, 3), (36, .sipush 214, 3), (39, .if_icmp .eq 119, 3), (42, .aload_n 0, 1), (43, .getfield 17, 3), (46, .getfield 54, 3), (49, .tableswitch 88 200 206 #[43, 50, 57, 65, 73, 88, 81], 43), (92, .aload_n 0, 1), (93, .invokevirtual 57, 3), (96, .goto 56, 3), (99, .aload_n 0, 1), (100, .invokevirtual 60, 3), (103, .goto 49, 3), (106, .aload_n 0, 1), (107, .iconst 1, 1), (108, .invokevirtual 63, 3), (111, .goto 41, 3), (114, .aload_n 0, 1), (115, .iconst 2, 1), (116, .invokevirtual 63, 3), (119, .goto 33, 3), (122, .aload_n 0, 1), (123, .iconst 3, 1), (124, .invokevirtual 63, 3), (127, .goto 25, 3), (130, .aload_n 0, 1), (131, .invokevirtual 67, 3), (134, .goto 18, 3), (137, .aload_n 0, 1), (138, .getfield 17, 3), (141, .iconst 1, 1), (142, .aload_n 0, 1), (143, .getfield 17, 3), (146, .getfield 70, 3), (149, .invokevirtual 73, 3), (152, .iinc 1 1, 3), (155, .goto (-132), 3), (158, .aload_n 0, 1), (159, .invokevirtual 77, 3), (162, .return_, 1)]
theorem vt_o16 : vt_chk (prog_5_method_2_code, vt_i16) = true := by sorry
-- 17: VitalTwin$Program.clear ()V
def vt_i17 : List (Nat × Instr × Nat) := [(0, .aload_n 0, 1), (1, .getfield 12, 3), (4, .invokevirtual 28, 3), (7, .aload_n 0, 1), (8, .iconst 0, 1), (9, .putfield 31, 3), (12, .aload_n 0, 1), (13, .iconst 0, 1), (14, .putfield 35, 3), (17, .aload_n 0, 1), (18, .iconst (-1), 1), (19, .putfield 38, 3), (22, .aload_n 0, 1), (23, .iconst 0, 1), (24, .putfield 41, 3), (27, .aload_n 0, 1), (28, .iconst 0, 1), (29, .putfield 44, 3), (32, .aload_n 0, 1), (33, .iconst 0, 1), (34, .putfield 47, 3), (37, .return_, 1)]
theorem vt_o17 : vt_chk (prog_8_method_2_code, vt_i17) = true := by sorry
-- 18: VitalTwin$Code.clear ()V
def vt_i18 : List (Nat × Instr × Nat) := [(0, .aload_n 0, 1), (1, .iconst 0, 1), (2, .putfield 42, 3), (5, .aload_n 0, 1), (6, .iconst 0, 1), (7, .putfield 46, 3), (10, .aload_n 0, 1), (11, .invokevirtual 49, 3), (14, .return_, 1)]
theorem vt_o18 : vt_chk (prog_2_method_2_code, vt_i18) = true := by sorry
-- 19: VitalTwin$Code.beginUnit ()V
def vt_i19 : List (Nat × Instr × Nat) := [(0, .aload_n 0, 1), (1, .iconst 0, 1), (2, .putfield 52, 3), (5, .aload_n 0, 1), (6, .iconst 0, 1), (7, .putfield 55, 3), (10, .aload_n 0, 1), (11, .iconst 0, 1), (12, .putfield 58, 3), (15, .aload_n 0, 1), (16, .iconst 0, 1), (17, .putfield 61, 3), (20, .aload_n 0, 1), (21, .iconst 0, 1), (22, .putfield 64, 3), (25, .return_, 1)]
theorem vt_o19 : vt_chk (prog_2_method_3_code, vt_i19) = true := by sorry
-- 20: VitalTwin$Statements.clear ()V
def vt_i20 : List (Nat × Instr × Nat) := [(0, .aload_n 0, 1), (1, .iconst (-1), 1), (2, .putfield 39, 3), (5, .aload_n 0, 1), (6, .getfield 35, 3), (9, .invokevirtual 43, 3), (12, .return_, 1)]
theorem vt_o20 : vt_chk (prog_11_method_2_code, vt_i20) = true := by sorry
-- 21: VitalTwin$Expressions.clear ()V
def vt_i21 : List (Nat × Instr × Nat) := [(0, .aload_n 0, 1), (1, .iconst 0, 1), (2, .putfield 52, 3), (5, .return_, 1)]
theorem vt_o21 : vt_chk (prog_6_method_2_code, vt_i21) = true := by sorry
-- 22: VitalTwin$Reader.begin ()V
def vt_i22_0 : List (Nat × Instr × Nat) := [(0, .aload_n 0, 1), (1, .getfield 18, 3), (4, .arraylength, 1), (5, .aload_n 0, 1), (6, .getfield 29, 3), (9, .if_icmp .gt 29, 3), (12, .aload_n 0, 1), (13, .aload_n 0, 1), (14, .getfield 15, 3), (17, .arraylength, 1), (18, .iconst 1, 1), (19, .iadd, 1), (20, .newarray .byte, 2), (22, .putfield 18, 3), (25, .aload_n 0, 1), (26, .aload_n 0, 1), (27, .getfield 15, 3), (30, .arraylength, 1), (31, .iconst 1, 1), (32, .iadd, 1), (33, .newarray .int, 2), (35, .putfield 21, 3), (38, .aload_n 0, 1), (39, .iconst 0, 1), (40, .putfield 54, 3), (43, .iconst 0, 1), (44, .istore_n 1, 1), (45, .iconst 0, 1), (46, .istore_n 2, 1), (47, .iload_n 2, 1), (48, .ldc 33, 2), (50, .if_icmp .ge 39, 3), (53, .iload_n 1, 1), (54, .aload_n 0, 1), (55, .getfield 29, 3), (58, .if_icmp .ge 31, 3), (61, .aload_n 0, 1), (62, .iload_n 1, 1), (63, .invokevirtual 57, 3), (66, .istore_n 3, 1), (67, .aload_n 0, 1), (68, .aload_n 0, 1), (69, .iload_n 1, 1), (70, .iload_n 3, 1), (71, .invokevirtual 61, 3), (74, .iload_n 1, 1), (75, .iload_n 3, 1), (76, .iload_n 1, 1), (77, .isub, 1), (78, .invokevirtual 64, 3), (81, .iload_n 3, 1), (82, .istore_n 1, 1), (83, .iinc 2 1, 3), (86, .goto (-39), 3), (89, .aload_n 0, 1), (90, .iconst 0, 1), (91, .aload_n 0, 1), (92, .getfield 29, 3), (95, .iconst 0, 1), (96, .invokevirtual 64, 3)]
def vt_i22_1 : List (Nat × Instr × Nat) := [(99, .aload_n 0, 1), (100, .iconst 0, 1), (101, .putfield 68, 3), (104, .aload_n 0, 1), (105, .iconst 0, 1), (106, .putfield 71, 3), (109, .aload_n 0, 1), (110, .iconst (-1), 1), (111, .putfield 74, 3), (114, .aload_n 0, 1), (115, .invokevirtual 77, 3), (118, .return_, 1)]
def vt_i22 : List (Nat × Instr × Nat) := vt_i22_0 ++ (vt_i22_1)
theorem vt_o22_0 : vt_chk (prog_9_method_7_code, vt_i22_0) = true := by sorry
theorem vt_o22_1 : vt_chk (prog_9_method_7_code, vt_i22_1) = true := by sorry
theorem vt_o22 : vt_chk (prog_9_method_7_code, vt_i22) = true := (vt_app vt_o22_0 vt_o22_1)
-- 23: VitalTwin$Reader.behindToken (I)I
def vt_i23_0 : List (Nat × Instr × Nat) := [(0, .iload_n 1, 1), (1, .iconst 1, 1), (2, .iadd, 1), (3, .istore_n 2, 1), (4, .aload_n 0, 1), (5, .iload_n 1, 1), (6, .invokevirtual 83, 3), (9, .invokestatic 86, 3), (12, .ifCond .eq 39, 3), (15, .iload_n 2, 1), (16, .aload_n 0, 1), (17, .getfield 29, 3), (20, .if_icmp .ge 119, 3), (23, .aload_n 0, 1), (24, .iload_n 2, 1), (25, .invokevirtual 83, 3), (28, .invokestatic 86, 3), (31, .ifCond .ne 14, 3), (34, .aload_n 0, 1), (35, .iload_n 2, 1), (36, .invokevirtual 83, 3), (39, .invokestatic 90, 3), (42, .ifCond .eq 97, 3), (45, .iinc 2 1, 3), (48, .goto (-33), 3), (51, .aload_n 0, 1), (52, .iload_n 1, 1), (53, .invokevirtual 83, 3), (56, .invokestatic 90, 3), (59, .ifCond .eq 28, 3), (62, .iload_n 2, 1), (63, .aload_n 0, 1), (64, .getfield 29, 3), (67, .if_icmp .ge 72, 3), (70, .aload_n 0, 1), (71, .iload_n 2, 1), (72, .invokevirtual 83, 3), (75, .invokestatic 90, 3), (78, .ifCond .eq 61, 3), (81, .iinc 2 1, 3), (84, .goto (-22), 3), (87, .aload_n 0, 1), (88, .iload_n 1, 1), (89, .invokevirtual 93, 3), (92, .ifCond .eq 27, 3), (95, .iload_n 2, 1), (96, .aload_n 0, 1), (97, .getfield 29, 3), (100, .if_icmp .ge 39, 3), (103, .aload_n 0, 1), (104, .iload_n 2, 1), (105, .invokevirtual 83, 3), (108, .bipush 10, 2), (110, .if_icmp .eq 29, 3), (113, .iinc 2 1, 3), (116, .goto (-21), 3), (119, .aload_n 0, 1), (120, .iload_n 1, 1), (121, .invokevirtual 83, 3), (124, .aload_n 0, 1)]
def vt_i23_1 : List (Nat × Instr × Nat) := [(125, .iload_n 2, 1), (126, .invokevirtual 83, 3), (129, .invokestatic 96, 3), (132, .iconst 1, 1), (133, .if_icmp .eq 6, 3), (136, .iinc 2 1, 3), (139, .iload_n 2, 1), (140, .ireturn, 1)]
def vt_i23 : List (Nat × Instr × Nat) := vt_i23_0 ++ (vt_i23_1)
theorem vt_o23_0 : vt_chk (prog_9_method_13_code, vt_i23_0) = true := by sorry
theorem vt_o23_1 : vt_chk (prog_9_method_13_code, vt_i23_1) = true := by sorry
theorem vt_o23 : vt_chk (prog_9_method_13_code, vt_i23) = true := (vt_app vt_o23_0 vt_o23_1)
-- 24: VitalTwin$Reader.signAt (I)I
def vt_i24 : List (Nat × Instr × Nat) := [(0, .iload_n 1, 1), (1, .ifCond .lt 20, 3), (4, .iload_n 1, 1), (5, .aload_n 0, 1), (6, .getfield 29, 3), (9, .if_icmp .ge 12, 3), (12, .aload_n 0, 1), (13, .getfield 15, 3), (16, .iload_n 1, 1), (17, .baload, 1), (18, .goto 4, 3), (21, .iconst 0, 1), (22, .ireturn, 1)]
theorem vt_o24 : vt_chk (prog_9_method_9_code, vt_i24) = true := by sorry
-- 25: VitalTwin$Reader.isLetter (I)Z
def vt_i25 : List (Nat × Instr × Nat) := [(0, .iload_n 0, 1), (1, .bipush 97, 2), (3, .if_icmp .lt 9, 3), (6, .iload_n 0, 1), (7, .bipush 122, 2), (9, .if_icmp .le 21, 3), (12, .iload_n 0, 1), (13, .bipush 65, 2), (15, .if_icmp .lt 9, 3), (18, .iload_n 0, 1), (19, .bipush 90, 2), (21, .if_icmp .le 9, 3), (24, .iload_n 0, 1), (25, .bipush 95, 2), (27, .if_icmp .ne 7, 3), (30, .iconst 1, 1), (31, .goto 4, 3), (34, .iconst 0, 1), (35, .ireturn, 1)]
theorem vt_o25 : vt_chk (prog_9_method_10_code, vt_i25) = true := by sorry
-- 26: VitalTwin$Reader.isDigit (I)Z
def vt_i26 : List (Nat × Instr × Nat) := [(0, .iload_n 0, 1), (1, .bipush 48, 2), (3, .if_icmp .lt 13, 3), (6, .iload_n 0, 1), (7, .bipush 57, 2), (9, .if_icmp .gt 7, 3), (12, .iconst 1, 1), (13, .goto 4, 3), (16, .iconst 0, 1), (17, .ireturn, 1)]
theorem vt_o26 : vt_chk (prog_9_method_11_code, vt_i26) = true := by sorry
-- 27: VitalTwin$Reader.isComment (I)Z
def vt_i27 : List (Nat × Instr × Nat) := [(0, .aload_n 0, 1), (1, .iload_n 1, 1), (2, .invokevirtual 83, 3), (5, .bipush 47, 2), (7, .if_icmp .ne 19, 3), (10, .aload_n 0, 1), (11, .iload_n 1, 1), (12, .iconst 1, 1), (13, .iadd, 1), (14, .invokevirtual 83, 3), (17, .bipush 47, 2), (19, .if_icmp .ne 7, 3), (22, .iconst 1, 1), (23, .goto 4, 3), (26, .iconst 0, 1), (27, .ireturn, 1)]
theorem vt_o27 : vt_chk (prog_9_method_12_code, vt_i27) = true := by sorry
-- 28: VitalTwin$Reader.markOfTwo (II)I
def vt_i28 : List (Nat × Instr × Nat) := [(0, .iload_n 1, 1), (1, .bipush 61, 2), (3, .if_icmp .ne 63, 3), (6, .iload_n 0, 1), (7, .lookupswitch 57 #[(33, 53), (60, 41), (61, 49), (62, 45)], 41), (48, .sipush 129, 3), (51, .ireturn, 1), (52, .sipush 130, 3), (55, .ireturn, 1), (56, .sipush 131, 3), (59, .ireturn, 1), (60, .sipush 132, 3), (63, .ireturn, 1), (64, .iconst 1, 1), (65, .ireturn, 1), (66, .iload_n 0, 1), (67, .iload_n 1, 1), (68, .if_icmp .eq 5, 3), (71, .iconst 1, 1), (72, .ireturn, 1), (73, .iload_n 0, 1), (74, .bipush 46, 2), (76, .if_icmp .ne 9, 3), (79, .sipush 128, 3), (82, .goto 28, 3), (85, .iload_n 0, 1), (86, .bipush 38, 2), (88, .if_icmp .ne 9, 3), (91, .sipush 133, 3), (94, .goto 16, 3), (97, .iload_n 0, 1), (98, .bipush 124, 2), (100, .if_icmp .ne 9, 3), (103, .sipush 134, 3), (106, .goto 4, 3), (109, .iconst 1, 1), (110, .ireturn, 1)]
theorem vt_o28 : vt_chk (prog_9_method_16_code, vt_i28) = true := by sorry
-- 29: VitalTwin$Reader.kindOf (II)I
def vt_i29_0 : List (Nat × Instr × Nat) := [(0, .aload_n 0, 1), (1, .iload_n 1, 1), (2, .invokevirtual 83, 3), (5, .istore_n 3, 1), (6, .iload_n 3, 1), (7, .bipush 32, 2), (9, .if_icmp .eq 17, 3), (12, .iload_n 3, 1), (13, .bipush 10, 2), (15, .if_icmp .eq 11, 3), (18, .aload_n 0, 1), (19, .iload_n 1, 1), (20, .invokevirtual 93, 3), (23, .ifCond .eq 5, 3), (26, .iconst 4, 1), (27, .ireturn, 1), (28, .iload_n 3, 1), (29, .invokestatic 86, 3), (32, .ifCond .eq 24, 3), (35, .iload_n 2, 1), (36, .iload_n 1, 1), (37, .isub, 1), (38, .bipush 20, 2), (40, .if_icmp .le 7, 3), (43, .iconst 1, 1), (44, .goto 11, 3), (47, .aload_n 0, 1), (48, .iload_n 1, 1), (49, .iload_n 2, 1), (50, .iload_n 1, 1), (51, .isub, 1), (52, .invokevirtual 99, 3), (55, .ireturn, 1), (56, .iload_n 3, 1), (57, .invokestatic 90, 3), (60, .ifCond .eq 32, 3), (63, .iload_n 2, 1), (64, .iload_n 1, 1), (65, .isub, 1), (66, .bipush 10, 2), (68, .if_icmp .gt 18, 3), (71, .aload_n 0, 1), (72, .iload_n 1, 1), (73, .iload_n 2, 1), (74, .iload_n 1, 1), (75, .isub, 1), (76, .invokevirtual 102, 3), (79, .ldc2_w 106, 3), (82, .lcmp, 1), (83, .ifCond .le 7, 3), (86, .iconst 1, 1), (87, .goto 4, 3), (90, .iconst 3, 1), (91, .ireturn, 1), (92, .iload_n 2, 1), (93, .iload_n 1, 1), (94, .isub, 1), (95, .iconst 2, 1), (96, .if_icmp .ne 15, 3), (99, .iload_n 3, 1)]
def vt_i29_1 : List (Nat × Instr × Nat) := [(100, .aload_n 0, 1), (101, .iload_n 1, 1), (102, .iconst 1, 1), (103, .iadd, 1), (104, .invokevirtual 83, 3), (107, .invokestatic 96, 3), (110, .ireturn, 1), (111, .ldc 108, 2), (113, .iload_n 3, 1), (114, .i2c, 1), (115, .invokevirtual 110, 3), (118, .ifCond .lt 7, 3), (121, .iload_n 3, 1), (122, .goto 4, 3), (125, .iconst 1, 1), (126, .ireturn, 1)]
def vt_i29 : List (Nat × Instr × Nat) := vt_i29_0 ++ (vt_i29_1)
theorem vt_o29_0 : vt_chk (prog_9_method_14_code, vt_i29_0) = true := by sorry
theorem vt_o29_1 : vt_chk (prog_9_method_14_code, vt_i29_1) = true := by sorry
theorem vt_o29 : vt_chk (prog_9_method_14_code, vt_i29) = true := (vt_app vt_o29_0 vt_o29_1)
-- 30: VitalTwin$Reader.wordOrName (II)I
def vt_i30 : List (Nat × Instr × Nat) := [(0, .sipush 200, 3), (3, .istore_n 3, 1), (4, .iconst 0, 1), (5, .istore 4, 2), (7, .iconst 1, 1), (8, .istore 5, 2), (10, .iconst 0, 1), (11, .istore 6, 2), (13, .iload 6, 2), (15, .ldc 115, 2), (17, .invokevirtual 117, 3), (20, .if_icmp .ge 78, 3), (23, .ldc 115, 2), (25, .iload 6, 2), (27, .invokevirtual 120, 3), (30, .istore 7, 2), (32, .iload 7, 2), (34, .bipush 32, 2), (36, .if_icmp .ne 28, 3), (39, .iload 5, 2), (41, .ifCond .eq 11, 3), (44, .iload 4, 2), (46, .iload_n 2, 1), (47, .if_icmp .ne 5, 3), (50, .iload_n 3, 1), (51, .ireturn, 1), (52, .iinc 3 1, 3), (55, .iconst 0, 1), (56, .istore 4, 2), (58, .iconst 1, 1), (59, .istore 5, 2), (61, .goto 31, 3), (64, .iload 5, 2), (66, .ifCond .eq 20, 3), (69, .aload_n 0, 1), (70, .iload_n 1, 1), (71, .iload 4, 2), (73, .iadd, 1), (74, .invokevirtual 83, 3), (77, .iload 7, 2), (79, .if_icmp .ne 7, 3), (82, .iconst 1, 1), (83, .goto 4, 3), (86, .iconst 0, 1), (87, .istore 5, 2), (89, .iinc 4 1, 3), (92, .iinc 6 1, 3), (95, .goto (-82), 3), (98, .iconst 2, 1), (99, .ireturn, 1)]
theorem vt_o30 : vt_chk (prog_9_method_15_code, vt_i30) = true := by sorry
-- 31: VitalTwin$Reader.numberAt (II)J
def vt_i31 : List (Nat × Instr × Nat) := [(0, .lconst 0, 1), (1, .lstore_n 3, 1), (2, .iconst 0, 1), (3, .istore 5, 2), (5, .iload 5, 2), (7, .iload_n 2, 1), (8, .if_icmp .ge 29, 3), (11, .ldc2_w 124, 3), (14, .lload_n 3, 1), (15, .lmul, 1), (16, .aload_n 0, 1), (17, .iload_n 1, 1), (18, .iload 5, 2), (20, .iadd, 1), (21, .invokevirtual 83, 3), (24, .i2l, 1), (25, .ladd, 1), (26, .ldc2_w 126, 3), (29, .lsub, 1), (30, .lstore_n 3, 1), (31, .iinc 5 1, 3), (34, .goto (-29), 3), (37, .lload_n 3, 1), (38, .lreturn, 1)]
theorem vt_o31 : vt_chk (prog_9_method_17_code, vt_i31) = true := by sorry
-- 32: VitalTwin$Reader.addToken (III)V
def vt_i32 : List (Nat × Instr × Nat) := [(0, .iload_n 1, 1), (1, .iconst 4, 1), (2, .if_icmp .eq 56, 3), (5, .aload_n 0, 1), (6, .getfield 54, 3), (9, .aload_n 0, 1), (10, .getfield 18, 3), (13, .arraylength, 1), (14, .if_icmp .ge 44, 3), (17, .aload_n 0, 1), (18, .getfield 18, 3), (21, .aload_n 0, 1), (22, .getfield 54, 3), (25, .iload_n 1, 1), (26, .i2b, 1), (27, .bastore, 1), (28, .aload_n 0, 1), (29, .getfield 21, 3), (32, .aload_n 0, 1), (33, .getfield 54, 3), (36, .bipush 32, 2), (38, .iload_n 2, 1), (39, .imul, 1), (40, .bipush 31, 2), (42, .iload_n 3, 1), (43, .invokestatic 80, 3), (46, .iadd, 1), (47, .iastore, 1), (48, .aload_n 0, 1), (49, .dup, 1), (50, .getfield 54, 3), (53, .iconst 1, 1), (54, .iadd, 1), (55, .putfield 54, 3), (58, .return_, 1)]
theorem vt_o32 : vt_chk (prog_9_method_8_code, vt_i32) = true := by sorry
-- 33: VitalTwin$Reader.next ()V
def vt_i33_0 : List (Nat × Instr × Nat) := [(0, .aload_n 0, 1), (1, .getfield 74, 3), (4, .iconst 1, 1), (5, .iadd, 1), (6, .aload_n 0, 1), (7, .getfield 54, 3), (10, .if_icmp .ge 62, 3), (13, .aload_n 0, 1), (14, .dup, 1), (15, .getfield 74, 3), (18, .iconst 1, 1), (19, .iadd, 1), (20, .putfield 74, 3), (23, .aload_n 0, 1), (24, .aload_n 0, 1), (25, .getfield 18, 3), (28, .aload_n 0, 1), (29, .getfield 74, 3), (32, .baload, 1), (33, .sipush 255, 3), (36, .iand, 1), (37, .putfield 131, 3), (40, .aload_n 0, 1), (41, .aload_n 0, 1), (42, .getfield 21, 3), (45, .aload_n 0, 1), (46, .getfield 74, 3), (49, .iaload, 1), (50, .bipush 32, 2), (52, .idiv, 1), (53, .putfield 134, 3), (56, .aload_n 0, 1), (57, .aload_n 0, 1), (58, .getfield 21, 3), (61, .aload_n 0, 1), (62, .getfield 74, 3), (65, .iaload, 1), (66, .bipush 32, 2), (68, .irem, 1), (69, .putfield 128, 3), (72, .aload_n 0, 1), (73, .getfield 131, 3), (76, .iconst 2, 1), (77, .if_icmp .eq 11, 3), (80, .aload_n 0, 1), (81, .getfield 131, 3), (84, .iconst 3, 1), (85, .if_icmp .ne 59, 3), (88, .iconst 0, 1), (89, .istore_n 1, 1), (90, .iload_n 1, 1), (91, .aload_n 0, 1), (92, .getfield 128, 3), (95, .if_icmp .ge 49, 3), (98, .iload_n 1, 1), (99, .aload_n 0, 1), (100, .getfield 9, 3), (103, .arraylength, 1), (104, .if_icmp .ge 40, 3), (107, .aload_n 0, 1)]
def vt_i33_1 : List (Nat × Instr × Nat) := [(108, .getfield 134, 3), (111, .iload_n 1, 1), (112, .iadd, 1), (113, .aload_n 0, 1), (114, .getfield 15, 3), (117, .arraylength, 1), (118, .if_icmp .ge 26, 3), (121, .aload_n 0, 1), (122, .getfield 9, 3), (125, .iload_n 1, 1), (126, .aload_n 0, 1), (127, .getfield 15, 3), (130, .aload_n 0, 1), (131, .getfield 134, 3), (134, .iload_n 1, 1), (135, .iadd, 1), (136, .baload, 1), (137, .bastore, 1), (138, .iinc 1 1, 3), (141, .goto (-51), 3), (144, .return_, 1)]
def vt_i33 : List (Nat × Instr × Nat) := vt_i33_0 ++ (vt_i33_1)
theorem vt_o33_0 : vt_chk (prog_9_method_19_code, vt_i33_0) = true := by sorry
theorem vt_o33_1 : vt_chk (prog_9_method_19_code, vt_i33_1) = true := by sorry
theorem vt_o33 : vt_chk (prog_9_method_19_code, vt_i33) = true := (vt_app vt_o33_0 vt_o33_1)
-- 34: VitalTwin$Declarations.constant ()V
def vt_i34 : List (Nat × Instr × Nat) := [(0, .aload_n 0, 1), (1, .getfield 17, 3), (4, .invokevirtual 120, 3), (7, .aload_n 0, 1), (8, .getfield 27, 3), (11, .iconst 0, 1), (12, .iconst 0, 1), (13, .aload_n 0, 1), (14, .getfield 17, 3), (17, .invokevirtual 123, 3), (20, .astore_n 1, 1), (21, .aload_n 0, 1), (22, .getfield 17, 3), (25, .bipush 61, 2), (27, .invokevirtual 80, 3), (30, .aload_n 1, 1), (31, .aload_n 0, 1), (32, .getfield 31, 3), (35, .iconst (-1), 1), (36, .invokevirtual 127, 3), (39, .putfield 131, 3), (42, .aload_n 1, 1), (43, .aload_n 0, 1), (44, .getfield 31, 3), (47, .getfield 136, 3), (50, .aload_n 1, 1), (51, .getfield 131, 3), (54, .aload_n 1, 1), (55, .getfield 131, 3), (58, .invokevirtual 138, 3), (61, .aload_n 0, 1), (62, .getfield 17, 3), (65, .bipush 59, 2), (67, .invokevirtual 80, 3), (70, .aload_n 1, 1), (71, .iconst 1, 1), (72, .putfield 142, 3), (75, .return_, 1)]
theorem vt_o34 : vt_chk (prog_5_method_4_code, vt_i34) = true := by sorry
-- 35: VitalTwin$Program.tell (IZLVitalTwin$Reader;)LVitalTwin$Symbol;
def vt_i35_0 : List (Nat × Instr × Nat) := [(0, .aload_n 3, 1), (1, .getfield 75, 3), (4, .iconst 2, 1), (5, .if_icmp .eq 12, 3), (8, .aload_n 3, 1), (9, .iconst 1, 1), (10, .aload_n 3, 1), (11, .getfield 78, 3), (14, .invokevirtual 81, 3), (17, .aload_n 0, 1), (18, .aload_n 3, 1), (19, .invokevirtual 85, 3), (22, .ifnull 12, 3), (25, .aload_n 3, 1), (26, .iconst 2, 1), (27, .aload_n 3, 1), (28, .getfield 78, 3), (31, .invokevirtual 81, 3), (34, .iload_n 2, 1), (35, .ifCond .ne 13, 3), (38, .aload_n 0, 1), (39, .getfield 31, 3), (42, .sipush 400, 3), (45, .if_icmp .lt 13, 3), (48, .aload_n 3, 1), (49, .bipush 10, 2), (51, .aload_n 3, 1), (52, .getfield 78, 3), (55, .invokevirtual 81, 3), (58, .aload_n 0, 1), (59, .getfield 20, 3), (62, .aload_n 0, 1), (63, .getfield 31, 3), (66, .aaload, 1), (67, .astore 4, 2), (69, .aload 4, 2), (71, .ifnonnull 27, 3), (74, .new 18, 3), (77, .dup, 1), (78, .aload_n 0, 1), (79, .getfield 31, 3), (82, .invokespecial 89, 3), (85, .astore 4, 2), (87, .aload_n 0, 1), (88, .getfield 20, 3), (91, .aload_n 0, 1), (92, .getfield 31, 3), (95, .aload 4, 2), (97, .aastore, 1), (98, .aload 4, 2), (100, .iload_n 1, 1), (101, .invokevirtual 92, 3), (104, .aload 4, 2), (106, .bipush 20, 2), (108, .aload_n 3, 1), (109, .getfield 64, 3), (112, .invokestatic 95, 3), (115, .putfield 54, 3), (118, .iconst 0, 1), (119, .istore 5, 2)]
def vt_i35_1 : List (Nat × Instr × Nat) := [(121, .iload 5, 2), (123, .aload 4, 2), (125, .getfield 54, 3), (128, .if_icmp .ge 32, 3), (131, .aload_n 0, 1), (132, .getfield 24, 3), (135, .aload 4, 2), (137, .getfield 57, 3), (140, .bipush 20, 2), (142, .imul, 1), (143, .iload 5, 2), (145, .iadd, 1), (146, .aload_n 3, 1), (147, .getfield 69, 3), (150, .iload 5, 2), (152, .baload, 1), (153, .bastore, 1), (154, .iinc 5 1, 3), (157, .goto (-36), 3), (160, .aload_n 0, 1), (161, .dup, 1), (162, .getfield 31, 3), (165, .iconst 1, 1), (166, .iadd, 1), (167, .putfield 31, 3), (170, .aload_n 3, 1), (171, .invokevirtual 101, 3), (174, .aload 4, 2), (176, .areturn, 1)]
def vt_i35 : List (Nat × Instr × Nat) := vt_i35_0 ++ (vt_i35_1)
theorem vt_o35_0 : vt_chk (prog_8_method_7_code, vt_i35_0) = true := by sorry
theorem vt_o35_1 : vt_chk (prog_8_method_7_code, vt_i35_1) = true := by sorry
theorem vt_o35 : vt_chk (prog_8_method_7_code, vt_i35) = true := (vt_app vt_o35_0 vt_o35_1)
-- 36: VitalTwin$Reader.fail (II)V
def vt_i36 : List (Nat × Instr × Nat) := [(0, .aload_n 0, 1), (1, .iload_n 1, 1), (2, .bipush 16, 2), (4, .iload_n 2, 1), (5, .imul, 1), (6, .iadd, 1), (7, .putfield 71, 3), (10, .new 137, 3), (13, .dup, 1), (14, .ldc 139, 2), (16, .invokespecial 141, 3), (19, .athrow, 1)]
theorem vt_o36 : vt_chk (prog_9_method_20_code, vt_i36) = true := by sorry
-- 37: VitalTwin$Program.find (LVitalTwin$Reader;)LVitalTwin$Symbol;
def vt_i37 : List (Nat × Instr × Nat) := [(0, .iconst 0, 1), (1, .istore_n 2, 1), (2, .iload_n 2, 1), (3, .aload_n 0, 1), (4, .getfield 31, 3), (7, .if_icmp .ge 98, 3), (10, .iload_n 2, 1), (11, .aload_n 0, 1), (12, .getfield 20, 3), (15, .arraylength, 1), (16, .if_icmp .ge 89, 3), (19, .aload_n 0, 1), (20, .getfield 20, 3), (23, .iload_n 2, 1), (24, .aaload, 1), (25, .astore_n 3, 1), (26, .aload_n 3, 1), (27, .ifnull 72, 3), (30, .aload_n 3, 1), (31, .getfield 60, 3), (34, .ifCond .eq 65, 3), (37, .aload_n 3, 1), (38, .getfield 54, 3), (41, .aload_n 1, 1), (42, .getfield 64, 3), (45, .if_icmp .ne 54, 3), (48, .iconst 0, 1), (49, .istore 4, 2), (51, .iload 4, 2), (53, .aload_n 3, 1), (54, .getfield 54, 3), (57, .if_icmp .ge 31, 3), (60, .aload_n 0, 1), (61, .getfield 24, 3), (64, .iload_n 2, 1), (65, .bipush 20, 2), (67, .imul, 1), (68, .iload 4, 2), (70, .iadd, 1), (71, .baload, 1), (72, .aload_n 1, 1), (73, .getfield 69, 3), (76, .iload 4, 2), (78, .baload, 1), (79, .if_icmp .ne 9, 3), (82, .iinc 4 1, 3), (85, .goto (-34), 3), (88, .iload 4, 2), (90, .aload_n 3, 1), (91, .getfield 54, 3), (94, .if_icmp .ne 5, 3), (97, .aload_n 3, 1), (98, .areturn, 1), (99, .iinc 2 1, 3), (102, .goto (-100), 3), (105, .aconst_null, 1), (106, .areturn, 1)]
theorem vt_o37 : vt_chk (prog_8_method_5_code, vt_i37) = true := by sorry
-- 38: VitalTwin$Symbol.<init> (I)V
def vt_i38 : List (Nat × Instr × Nat) := [(0, .aload_n 0, 1), (1, .invokespecial 3, 3), (4, .aload_n 0, 1), (5, .iload_n 1, 1), (6, .putfield 9, 3), (9, .return_, 1)]
theorem vt_o38 : vt_chk (prog_12_method_1_code, vt_i38) = true := by sorry
-- 39: VitalTwin$Symbol.begin (I)V
def vt_i39 : List (Nat × Instr × Nat) := [(0, .aload_n 0, 1), (1, .iload_n 1, 1), (2, .putfield 15, 3), (5, .aload_n 0, 1), (6, .iconst 2, 1), (7, .putfield 18, 3), (10, .aload_n 0, 1), (11, .iconst 0, 1), (12, .putfield 21, 3), (15, .aload_n 0, 1), (16, .iconst 0, 1), (17, .putfield 24, 3), (20, .aload_n 0, 1), (21, .iconst (-1), 1), (22, .putfield 27, 3), (25, .aload_n 0, 1), (26, .iconst 1, 1), (27, .putfield 30, 3), (30, .aload_n 0, 1), (31, .iconst (-1), 1), (32, .putfield 33, 3), (35, .aload_n 0, 1), (36, .iconst 0, 1), (37, .putfield 36, 3), (40, .aload_n 0, 1), (41, .iconst 0, 1), (42, .putfield 39, 3), (45, .aload_n 0, 1), (46, .iconst 0, 1), (47, .putfield 42, 3), (50, .aload_n 0, 1), (51, .iconst (-1), 1), (52, .putfield 45, 3), (55, .aload_n 0, 1), (56, .iconst 0, 1), (57, .putfield 48, 3), (60, .aload_n 0, 1), (61, .iconst 0, 1), (62, .putfield 52, 3), (65, .return_, 1)]
theorem vt_o39 : vt_chk (prog_12_method_2_code, vt_i39) = true := by sorry
end
section
/-! instructions of the methods 40 to 89, printed by wip/whole/tools/gen14.py out of the claim: each list is what decode gives -/
-- 40: VitalTwin$Reader.expect (I)V
def vt_i40 : List (Nat × Instr × Nat) := [(0, .aload_n 0, 1), (1, .getfield 131, 3), (4, .iload_n 1, 1), (5, .if_icmp .eq 12, 3), (8, .aload_n 0, 1), (9, .iconst 1, 1), (10, .aload_n 0, 1), (11, .getfield 134, 3), (14, .invokevirtual 144, 3), (17, .aload_n 0, 1), (18, .invokevirtual 77, 3), (21, .return_, 1)]
theorem vt_o40 : vt_chk (prog_9_method_21_code, vt_i40) = true := by sorry
-- 41: VitalTwin$Constants.read (I)I
def vt_i41_0 : List (Nat × Instr × Nat) := [(0, .aload_n 0, 1), (1, .aload_n 0, 1), (2, .getfield 9, 3), (5, .getfield 19, 3), (8, .putfield 25, 3), (11, .aload_n 0, 1), (12, .getfield 9, 3), (15, .getfield 28, 3), (18, .bipush 45, 2), (20, .if_icmp .ne 7, 3), (23, .iconst 1, 1), (24, .goto 4, 3), (27, .iconst 0, 1), (28, .istore_n 2, 1), (29, .iload_n 2, 1), (30, .ifCond .eq 10, 3), (33, .aload_n 0, 1), (34, .getfield 9, 3), (37, .invokevirtual 31, 3), (40, .aload_n 0, 1), (41, .getfield 9, 3), (44, .getfield 28, 3), (47, .iconst 3, 1), (48, .if_icmp .ne 22, 3), (51, .aload_n 0, 1), (52, .iconst 0, 1), (53, .putfield 34, 3), (56, .aload_n 0, 1), (57, .aload_n 0, 1), (58, .getfield 9, 3), (61, .invokevirtual 37, 3), (64, .putfield 41, 3), (67, .goto 185, 3), (70, .aload_n 0, 1), (71, .getfield 9, 3), (74, .getfield 28, 3), (77, .iconst 2, 1), (78, .if_icmp .ne 99, 3), (81, .aload_n 0, 1), (82, .getfield 15, 3), (85, .aload_n 0, 1), (86, .getfield 9, 3), (89, .invokevirtual 44, 3), (92, .astore_n 3, 1), (93, .aload_n 3, 1), (94, .ifnull 23, 3), (97, .aload_n 3, 1), (98, .getfield 50, 3), (101, .ifCond .eq 12, 3), (104, .aload_n 3, 1), (105, .getfield 50, 3), (108, .bipush 9, 2), (110, .if_icmp .ne 7, 3), (113, .iconst 1, 1), (114, .goto 4, 3), (117, .iconst 0, 1), (118, .istore 4, 2), (120, .iload 4, 2), (122, .ifCond .ne 18, 3), (125, .aload_n 0, 1)]
def vt_i41_1 : List (Nat × Instr × Nat) := [(126, .getfield 9, 3), (129, .iconst 3, 1), (130, .aload_n 0, 1), (131, .getfield 9, 3), (134, .getfield 19, 3), (137, .invokevirtual 55, 3), (140, .aload_n 0, 1), (141, .iload 4, 2), (143, .ifCond .eq 10, 3), (146, .aload_n 3, 1), (147, .getfield 59, 3), (150, .goto 4, 3), (153, .iconst 0, 1), (154, .putfield 34, 3), (157, .aload_n 0, 1), (158, .iload 4, 2), (160, .ifCond .eq 10, 3), (163, .aload_n 3, 1), (164, .getfield 60, 3), (167, .goto 4, 3), (170, .iconst 0, 1), (171, .putfield 41, 3), (174, .goto 78, 3), (177, .iload_n 2, 1), (178, .ifCond .ne 59, 3), (181, .aload_n 0, 1), (182, .getfield 9, 3), (185, .getfield 28, 3), (188, .sipush 216, 3), (191, .if_icmp .eq 16, 3), (194, .aload_n 0, 1), (195, .getfield 9, 3), (198, .getfield 28, 3), (201, .sipush 217, 3), (204, .if_icmp .ne 33, 3), (207, .aload_n 0, 1), (208, .iconst 1, 1), (209, .putfield 34, 3), (212, .aload_n 0, 1), (213, .aload_n 0, 1), (214, .getfield 9, 3), (217, .getfield 28, 3), (220, .sipush 216, 3), (223, .if_icmp .ne 7, 3), (226, .iconst 1, 1), (227, .goto 4, 3), (230, .iconst 0, 1), (231, .putfield 41, 3), (234, .goto 18, 3), (237, .aload_n 0, 1), (238, .getfield 9, 3), (241, .iconst 1, 1), (242, .aload_n 0, 1), (243, .getfield 9, 3), (246, .getfield 19, 3), (249, .invokevirtual 55, 3), (252, .iload_n 2, 1), (253, .ifCond .eq 10, 3), (256, .aload_n 0, 1), (257, .getfield 34, 3)]
def vt_i41_2 : List (Nat × Instr × Nat) := [(260, .ifCond .ne 16, 3), (263, .iload_n 1, 1), (264, .iconst (-1), 1), (265, .if_icmp .eq 23, 3), (268, .aload_n 0, 1), (269, .getfield 34, 3), (272, .iload_n 1, 1), (273, .if_icmp .eq 15, 3), (276, .aload_n 0, 1), (277, .getfield 9, 3), (280, .iconst 5, 1), (281, .aload_n 0, 1), (282, .getfield 25, 3), (285, .invokevirtual 55, 3), (288, .aload_n 0, 1), (289, .iload_n 2, 1), (290, .ifCond .eq 11, 3), (293, .aload_n 0, 1), (294, .getfield 41, 3), (297, .ineg, 1), (298, .goto 7, 3), (301, .aload_n 0, 1), (302, .getfield 41, 3), (305, .putfield 41, 3), (308, .aload_n 0, 1), (309, .getfield 9, 3), (312, .invokevirtual 31, 3), (315, .aload_n 0, 1), (316, .getfield 41, 3), (319, .ireturn, 1)]
def vt_i41 : List (Nat × Instr × Nat) := vt_i41_0 ++ (vt_i41_1 ++ (vt_i41_2))
theorem vt_o41_0 : vt_chk (prog_3_method_2_code, vt_i41_0) = true := by sorry
theorem vt_o41_1 : vt_chk (prog_3_method_2_code, vt_i41_1) = true := by sorry
theorem vt_o41_2 : vt_chk (prog_3_method_2_code, vt_i41_2) = true := by sorry
theorem vt_o41 : vt_chk (prog_3_method_2_code, vt_i41) = true := (vt_app vt_o41_0 (vt_app vt_o41_1 vt_o41_2))
-- 42: VitalTwin$Reader.number ()I
def vt_i42 : List (Nat × Instr × Nat) := [(0, .iconst 0, 1), (1, .istore_n 1, 1), (2, .iconst 0, 1), (3, .istore_n 2, 1), (4, .iload_n 2, 1), (5, .aload_n 0, 1), (6, .getfield 128, 3), (9, .if_icmp .ge 33, 3), (12, .iload_n 2, 1), (13, .aload_n 0, 1), (14, .getfield 9, 3), (17, .arraylength, 1), (18, .if_icmp .ge 24, 3), (21, .bipush 10, 2), (23, .iload_n 1, 1), (24, .imul, 1), (25, .aload_n 0, 1), (26, .getfield 9, 3), (29, .iload_n 2, 1), (30, .baload, 1), (31, .iadd, 1), (32, .bipush 48, 2), (34, .isub, 1), (35, .istore_n 1, 1), (36, .iinc 2 1, 3), (39, .goto (-35), 3), (42, .iload_n 1, 1), (43, .ireturn, 1)]
theorem vt_o42 : vt_chk (prog_9_method_18_code, vt_i42) = true := by sorry
-- 43: VitalTwin$Symbol.setType (III)V
def vt_i43 : List (Nat × Instr × Nat) := [(0, .aload_n 0, 1), (1, .iload_n 1, 1), (2, .putfield 18, 3), (5, .aload_n 0, 1), (6, .iload_n 2, 1), (7, .putfield 21, 3), (10, .aload_n 0, 1), (11, .iload_n 3, 1), (12, .putfield 24, 3), (15, .return_, 1)]
theorem vt_o43 : vt_chk (prog_12_method_3_code, vt_i43) = true := by sorry
-- 44: VitalTwin$Declarations.type ()V
def vt_i44_0 : List (Nat × Instr × Nat) := [(0, .aload_n 0, 1), (1, .getfield 17, 3), (4, .invokevirtual 120, 3), (7, .aload_n 0, 1), (8, .getfield 27, 3), (11, .bipush 8, 2), (13, .iconst 0, 1), (14, .aload_n 0, 1), (15, .getfield 17, 3), (18, .invokevirtual 123, 3), (21, .astore_n 1, 1), (22, .aload_n 1, 1), (23, .iconst 1, 1), (24, .putfield 142, 3), (27, .aload_n 1, 1), (28, .iconst 0, 1), (29, .putfield 146, 3), (32, .iconst 3, 1), (33, .aload_n 1, 1), (34, .getfield 149, 3), (37, .iadd, 1), (38, .istore_n 2, 1), (39, .aload_n 0, 1), (40, .getfield 17, 3), (43, .bipush 61, 2), (45, .invokevirtual 80, 3), (48, .iconst 1, 1), (49, .istore_n 3, 1), (50, .iconst 0, 1), (51, .istore 4, 2), (53, .iload 4, 2), (55, .ldc 53, 2), (57, .if_icmp .ge 123, 3), (60, .iload_n 3, 1), (61, .ifCond .eq 119, 3), (64, .aload_n 0, 1), (65, .getfield 27, 3), (68, .bipush 9, 2), (70, .aload_n 1, 1), (71, .getfield 146, 3), (74, .bipush 64, 2), (76, .if_icmp .lt 7, 3), (79, .iconst 1, 1), (80, .goto 4, 3), (83, .iconst 0, 1), (84, .aload_n 0, 1), (85, .getfield 17, 3), (88, .invokevirtual 123, 3), (91, .astore 5, 2), (93, .aload 5, 2), (95, .aload_n 1, 1), (96, .getfield 146, 3), (99, .putfield 131, 3), (102, .aload 5, 2), (104, .iload_n 2, 1), (105, .aload 5, 2), (107, .getfield 131, 3), (110, .aload 5, 2), (112, .getfield 131, 3), (115, .invokevirtual 138, 3)]
def vt_i44_1 : List (Nat × Instr × Nat) := [(118, .aload 5, 2), (120, .iconst 1, 1), (121, .putfield 142, 3), (124, .aload_n 1, 1), (125, .iload_n 2, 1), (126, .iconst 0, 1), (127, .aload 5, 2), (129, .getfield 131, 3), (132, .invokevirtual 138, 3), (135, .aload_n 1, 1), (136, .dup, 1), (137, .getfield 146, 3), (140, .iconst 1, 1), (141, .iadd, 1), (142, .putfield 146, 3), (145, .aload_n 0, 1), (146, .getfield 17, 3), (149, .getfield 54, 3), (152, .bipush 44, 2), (154, .if_icmp .ne 7, 3), (157, .iconst 1, 1), (158, .goto 4, 3), (161, .iconst 0, 1), (162, .istore_n 3, 1), (163, .iload_n 3, 1), (164, .ifCond .eq 10, 3), (167, .aload_n 0, 1), (168, .getfield 17, 3), (171, .invokevirtual 120, 3), (174, .iinc 4 1, 3), (177, .goto (-124), 3), (180, .aload_n 0, 1), (181, .getfield 17, 3), (184, .bipush 59, 2), (186, .invokevirtual 80, 3), (189, .return_, 1)]
def vt_i44 : List (Nat × Instr × Nat) := vt_i44_0 ++ (vt_i44_1)
theorem vt_o44_0 : vt_chk (prog_5_method_5_code, vt_i44_0) = true := by sorry
theorem vt_o44_1 : vt_chk (prog_5_method_5_code, vt_i44_1) = true := by sorry
theorem vt_o44 : vt_chk (prog_5_method_5_code, vt_i44) = true := (vt_app vt_o44_0 vt_o44_1)
-- 45: VitalTwin$Declarations.port (I)V
def vt_i45_0 : List (Nat × Instr × Nat) := [(0, .aload_n 0, 1), (1, .getfield 17, 3), (4, .invokevirtual 120, 3), (7, .aload_n 0, 1), (8, .getfield 27, 3), (11, .iload_n 1, 1), (12, .iconst 0, 1), (13, .aload_n 0, 1), (14, .getfield 17, 3), (17, .invokevirtual 123, 3), (20, .astore_n 2, 1), (21, .aload_n 0, 1), (22, .getfield 31, 3), (25, .aload_n 2, 1), (26, .invokevirtual 152, 3), (29, .aload_n 0, 1), (30, .getfield 17, 3), (33, .bipush 58, 2), (35, .invokevirtual 80, 3), (38, .aload_n 0, 1), (39, .getfield 31, 3), (42, .aload_n 2, 1), (43, .invokevirtual 156, 3), (46, .aload_n 2, 1), (47, .aload_n 0, 1), (48, .getfield 27, 3), (51, .getfield 116, 3), (54, .putfield 159, 3), (57, .aload_n 0, 1), (58, .getfield 27, 3), (61, .dup, 1), (62, .getfield 116, 3), (65, .aload_n 2, 1), (66, .getfield 146, 3), (69, .iadd, 1), (70, .putfield 116, 3), (73, .iload_n 1, 1), (74, .iconst 1, 1), (75, .if_icmp .ne 22, 3), (78, .aload_n 0, 1), (79, .getfield 27, 3), (82, .dup, 1), (83, .getfield 162, 3), (86, .aload_n 2, 1), (87, .getfield 146, 3), (90, .iadd, 1), (91, .putfield 162, 3), (94, .goto 24, 3), (97, .aload_n 0, 1), (98, .getfield 17, 3), (101, .bipush 61, 2), (103, .invokevirtual 80, 3), (106, .aload_n 2, 1), (107, .aload_n 0, 1), (108, .getfield 31, 3), (111, .aload_n 2, 1), (112, .invokevirtual 165, 3), (115, .putfield 131, 3), (118, .iload_n 1, 1), (119, .iconst 2, 1)]
def vt_i45_1 : List (Nat × Instr × Nat) := [(120, .if_icmp .ne 19, 3), (123, .aload_n 0, 1), (124, .getfield 27, 3), (127, .dup, 1), (128, .getfield 169, 3), (131, .aload_n 2, 1), (132, .getfield 146, 3), (135, .iadd, 1), (136, .putfield 169, 3), (139, .aload_n 0, 1), (140, .getfield 17, 3), (143, .bipush 59, 2), (145, .invokevirtual 80, 3), (148, .aload_n 2, 1), (149, .iconst 1, 1), (150, .putfield 142, 3), (153, .return_, 1)]
def vt_i45 : List (Nat × Instr × Nat) := vt_i45_0 ++ (vt_i45_1)
theorem vt_o45_0 : vt_chk (prog_5_method_6_code, vt_i45_0) = true := by sorry
theorem vt_o45_1 : vt_chk (prog_5_method_6_code, vt_i45_1) = true := by sorry
theorem vt_o45 : vt_chk (prog_5_method_6_code, vt_i45) = true := (vt_app vt_o45_0 vt_o45_1)
-- 46: VitalTwin$Constants.readLength (LVitalTwin$Symbol;)V
def vt_i46 : List (Nat × Instr × Nat) := [(0, .aload_n 0, 1), (1, .getfield 9, 3), (4, .getfield 28, 3), (7, .bipush 91, 2), (9, .if_icmp .eq 4, 3), (12, .return_, 1), (13, .aload_n 0, 1), (14, .getfield 9, 3), (17, .bipush 91, 2), (19, .invokevirtual 71, 3), (22, .aload_n 1, 1), (23, .iconst 1, 1), (24, .putfield 75, 3), (27, .aload_n 1, 1), (28, .aload_n 0, 1), (29, .iconst 0, 1), (30, .invokevirtual 61, 3), (33, .putfield 79, 3), (36, .aload_n 1, 1), (37, .getfield 79, 3), (40, .iconst 1, 1), (41, .if_icmp .lt 13, 3), (44, .aload_n 1, 1), (45, .getfield 79, 3), (48, .sipush 4096, 3), (51, .if_icmp .le 15, 3), (54, .aload_n 0, 1), (55, .getfield 9, 3), (58, .iconst 4, 1), (59, .aload_n 0, 1), (60, .getfield 25, 3), (63, .invokevirtual 55, 3), (66, .aload_n 0, 1), (67, .getfield 9, 3), (70, .bipush 93, 2), (72, .invokevirtual 82, 3), (75, .return_, 1)]
theorem vt_o46 : vt_chk (prog_3_method_5_code, vt_i46) = true := by sorry
-- 47: VitalTwin$Reader.open (I)V
def vt_i47 : List (Nat × Instr × Nat) := [(0, .aload_n 0, 1), (1, .getfield 131, 3), (4, .iload_n 1, 1), (5, .if_icmp .eq 12, 3), (8, .aload_n 0, 1), (9, .iconst 1, 1), (10, .aload_n 0, 1), (11, .getfield 134, 3), (14, .invokevirtual 144, 3), (17, .aload_n 0, 1), (18, .getfield 68, 3), (21, .bipush 64, 2), (23, .if_icmp .lt 13, 3), (26, .aload_n 0, 1), (27, .bipush 10, 2), (29, .aload_n 0, 1), (30, .getfield 134, 3), (33, .invokevirtual 144, 3), (36, .aload_n 0, 1), (37, .dup, 1), (38, .getfield 68, 3), (41, .iconst 1, 1), (42, .iadd, 1), (43, .putfield 68, 3), (46, .aload_n 0, 1), (47, .invokevirtual 77, 3), (50, .return_, 1)]
theorem vt_o47 : vt_chk (prog_9_method_22_code, vt_i47) = true := by sorry
-- 48: VitalTwin$Reader.close (I)V
def vt_i48 : List (Nat × Instr × Nat) := [(0, .aload_n 0, 1), (1, .getfield 131, 3), (4, .iload_n 1, 1), (5, .if_icmp .eq 12, 3), (8, .aload_n 0, 1), (9, .iconst 1, 1), (10, .aload_n 0, 1), (11, .getfield 134, 3), (14, .invokevirtual 144, 3), (17, .aload_n 0, 1), (18, .dup, 1), (19, .getfield 68, 3), (22, .iconst 1, 1), (23, .isub, 1), (24, .putfield 68, 3), (27, .aload_n 0, 1), (28, .invokevirtual 77, 3), (31, .return_, 1)]
theorem vt_o48 : vt_chk (prog_9_method_23_code, vt_i48) = true := by sorry
-- 49: VitalTwin$Constants.readType (LVitalTwin$Symbol;)V
def vt_i49_0 : List (Nat × Instr × Nat) := [(0, .aload_n 0, 1), (1, .getfield 9, 3), (4, .getfield 28, 3), (7, .sipush 215, 3), (10, .if_icmp .ne 18, 3), (13, .aload_n 1, 1), (14, .iconst 1, 1), (15, .iconst 0, 1), (16, .iconst 1, 1), (17, .invokevirtual 85, 3), (20, .aload_n 0, 1), (21, .getfield 9, 3), (24, .invokevirtual 31, 3), (27, .return_, 1), (28, .aload_n 0, 1), (29, .getfield 9, 3), (32, .getfield 28, 3), (35, .iconst 2, 1), (36, .if_icmp .ne 17, 3), (39, .aload_n 0, 1), (40, .getfield 15, 3), (43, .aload_n 0, 1), (44, .getfield 9, 3), (47, .invokevirtual 44, 3), (50, .goto 4, 3), (53, .aconst_null, 1), (54, .astore_n 2, 1), (55, .aload_n 2, 1), (56, .ifnull 33, 3), (59, .aload_n 2, 1), (60, .getfield 50, 3), (63, .bipush 8, 2), (65, .if_icmp .ne 24, 3), (68, .aload_n 1, 1), (69, .aload_n 2, 1), (70, .getfield 59, 3), (73, .iconst 0, 1), (74, .aload_n 2, 1), (75, .getfield 68, 3), (78, .invokevirtual 85, 3), (81, .aload_n 0, 1), (82, .getfield 9, 3), (85, .invokevirtual 31, 3), (88, .return_, 1), (89, .aload_n 0, 1), (90, .iconst 0, 1), (91, .invokevirtual 61, 3), (94, .istore_n 3, 1), (95, .aload_n 0, 1), (96, .getfield 9, 3), (99, .sipush 128, 3), (102, .invokevirtual 89, 3), (105, .aload_n 0, 1), (106, .iconst 0, 1), (107, .invokevirtual 61, 3), (110, .istore 4, 2), (112, .aload_n 0, 1), (113, .iload_n 3, 1), (114, .invokevirtual 92, 3), (117, .aload_n 1, 1)]
def vt_i49_1 : List (Nat × Instr × Nat) := [(118, .iconst 0, 1), (119, .iload_n 3, 1), (120, .iload 4, 2), (122, .invokevirtual 85, 3), (125, .return_, 1)]
def vt_i49 : List (Nat × Instr × Nat) := vt_i49_0 ++ (vt_i49_1)
theorem vt_o49_0 : vt_chk (prog_3_method_6_code, vt_i49_0) = true := by sorry
theorem vt_o49_1 : vt_chk (prog_3_method_6_code, vt_i49_1) = true := by sorry
theorem vt_o49 : vt_chk (prog_3_method_6_code, vt_i49) = true := (vt_app vt_o49_0 vt_o49_1)
-- 50: VitalTwin$Constants.askNotBelow (I)V
def vt_i50 : List (Nat × Instr × Nat) := [(0, .aload_n 0, 1), (1, .getfield 41, 3), (4, .iload_n 1, 1), (5, .if_icmp .ge 15, 3), (8, .aload_n 0, 1), (9, .getfield 9, 3), (12, .iconst 4, 1), (13, .aload_n 0, 1), (14, .getfield 25, 3), (17, .invokevirtual 55, 3), (20, .return_, 1)]
theorem vt_o50 : vt_chk (prog_3_method_3_code, vt_i50) = true := by sorry
-- 51: VitalTwin$Constants.readFor (LVitalTwin$Symbol;)I
def vt_i51 : List (Nat × Instr × Nat) := [(0, .aload_n 0, 1), (1, .aload_n 1, 1), (2, .getfield 59, 3), (5, .invokevirtual 61, 3), (8, .pop, 1), (9, .aload_n 0, 1), (10, .getfield 41, 3), (13, .aload_n 1, 1), (14, .getfield 65, 3), (17, .if_icmp .lt 14, 3), (20, .aload_n 0, 1), (21, .getfield 41, 3), (24, .aload_n 1, 1), (25, .getfield 68, 3), (28, .if_icmp .le 16, 3), (31, .aload_n 0, 1), (32, .getfield 9, 3), (35, .bipush 6, 2), (37, .aload_n 0, 1), (38, .getfield 25, 3), (41, .invokevirtual 55, 3), (44, .aload_n 0, 1), (45, .getfield 41, 3), (48, .ireturn, 1)]
theorem vt_o51 : vt_chk (prog_3_method_4_code, vt_i51) = true := by sorry
-- 52: VitalTwin$Declarations.function ()V
def vt_i52_0 : List (Nat × Instr × Nat) := [(0, .aload_n 0, 1), (1, .getfield 17, 3), (4, .invokevirtual 120, 3), (7, .aload_n 0, 1), (8, .getfield 27, 3), (11, .iconst 4, 1), (12, .iconst 0, 1), (13, .aload_n 0, 1), (14, .getfield 17, 3), (17, .invokevirtual 123, 3), (20, .astore_n 1, 1), (21, .aload_n 1, 1), (22, .aload_n 0, 1), (23, .getfield 27, 3), (26, .getfield 83, 3), (29, .getfield 87, 3), (32, .putfield 159, 3), (35, .aload_n 1, 1), (36, .iconst 0, 1), (37, .putfield 146, 3), (40, .aload_n 0, 1), (41, .getfield 40, 3), (44, .aload_n 1, 1), (45, .getfield 149, 3), (48, .putfield 172, 3), (51, .aload_n 0, 1), (52, .getfield 17, 3), (55, .bipush 40, 2), (57, .invokevirtual 175, 3), (60, .aload_n 0, 1), (61, .getfield 17, 3), (64, .getfield 54, 3), (67, .bipush 41, 2), (69, .if_icmp .eq 7, 3), (72, .iconst 1, 1), (73, .goto 4, 3), (76, .iconst 0, 1), (77, .istore_n 2, 1), (78, .iconst 0, 1), (79, .istore_n 3, 1), (80, .iload_n 3, 1), (81, .ldc 53, 2), (83, .if_icmp .ge 47, 3), (86, .iload_n 2, 1), (87, .ifCond .eq 43, 3), (90, .aload_n 0, 1), (91, .aload_n 1, 1), (92, .invokevirtual 178, 3), (95, .aload_n 0, 1), (96, .getfield 17, 3), (99, .getfield 54, 3), (102, .bipush 44, 2), (104, .if_icmp .ne 7, 3), (107, .iconst 1, 1), (108, .goto 4, 3), (111, .iconst 0, 1), (112, .istore_n 2, 1), (113, .iload_n 2, 1), (114, .ifCond .eq 10, 3), (117, .aload_n 0, 1)]
def vt_i52_1 : List (Nat × Instr × Nat) := [(118, .getfield 17, 3), (121, .invokevirtual 120, 3), (124, .iinc 3 1, 3), (127, .goto (-47), 3), (130, .aload_n 0, 1), (131, .getfield 17, 3), (134, .bipush 41, 2), (136, .invokevirtual 181, 3), (139, .aload_n 0, 1), (140, .getfield 17, 3), (143, .getfield 54, 3), (146, .bipush 58, 2), (148, .if_icmp .ne 18, 3), (151, .aload_n 0, 1), (152, .getfield 17, 3), (155, .invokevirtual 120, 3), (158, .aload_n 0, 1), (159, .getfield 31, 3), (162, .aload_n 1, 1), (163, .invokevirtual 156, 3), (166, .aload_n 0, 1), (167, .getfield 40, 3), (170, .aload_n 1, 1), (171, .getfield 149, 3), (174, .aload_n 1, 1), (175, .getfield 184, 3), (178, .iconst 2, 1), (179, .if_icmp .ne 7, 3), (182, .aconst_null, 1), (183, .goto 4, 3), (186, .aload_n 1, 1), (187, .invokevirtual 98, 3), (190, .aload_n 0, 1), (191, .getfield 27, 3), (194, .getfield 83, 3), (197, .bipush 28, 2), (199, .iconst 0, 1), (200, .invokevirtual 102, 3), (203, .pop, 1), (204, .aload_n 1, 1), (205, .aload_n 0, 1), (206, .getfield 27, 3), (209, .getfield 83, 3), (212, .getfield 106, 3), (215, .putfield 185, 3), (218, .aload_n 1, 1), (219, .iconst 1, 1), (220, .aload_n 0, 1), (221, .getfield 27, 3), (224, .getfield 83, 3), (227, .getfield 186, 3), (230, .iadd, 1), (231, .putfield 189, 3), (234, .aload_n 0, 1), (235, .getfield 27, 3), (238, .getfield 83, 3), (241, .invokevirtual 110, 3), (244, .aload_n 1, 1), (245, .iconst 1, 1), (246, .putfield 142, 3)]
def vt_i52_2 : List (Nat × Instr × Nat) := [(249, .aload_n 0, 1), (250, .getfield 40, 3), (253, .iconst (-1), 1), (254, .putfield 172, 3), (257, .return_, 1)]
def vt_i52 : List (Nat × Instr × Nat) := vt_i52_0 ++ (vt_i52_1 ++ (vt_i52_2))
theorem vt_o52_0 : vt_chk (prog_5_method_7_code, vt_i52_0) = true := by sorry
theorem vt_o52_1 : vt_chk (prog_5_method_7_code, vt_i52_1) = true := by sorry
theorem vt_o52_2 : vt_chk (prog_5_method_7_code, vt_i52_2) = true := by sorry
theorem vt_o52 : vt_chk (prog_5_method_7_code, vt_i52) = true := (vt_app vt_o52_0 (vt_app vt_o52_1 vt_o52_2))
-- 53: VitalTwin$Declarations.parameter (LVitalTwin$Symbol;)V
def vt_i53 : List (Nat × Instr × Nat) := [(0, .aload_n 0, 1), (1, .getfield 27, 3), (4, .iconst 5, 1), (5, .aload_n 1, 1), (6, .getfield 146, 3), (9, .bipush 8, 2), (11, .if_icmp .lt 7, 3), (14, .iconst 1, 1), (15, .goto 4, 3), (18, .iconst 0, 1), (19, .aload_n 0, 1), (20, .getfield 17, 3), (23, .invokevirtual 123, 3), (26, .astore_n 2, 1), (27, .aload_n 0, 1), (28, .getfield 17, 3), (31, .bipush 58, 2), (33, .invokevirtual 80, 3), (36, .aload_n 0, 1), (37, .getfield 31, 3), (40, .aload_n 2, 1), (41, .invokevirtual 156, 3), (44, .aload_n 0, 1), (45, .getfield 40, 3), (48, .aload_n 2, 1), (49, .invokevirtual 192, 3), (52, .aload_n 2, 1), (53, .iconst 1, 1), (54, .putfield 142, 3), (57, .aload_n 1, 1), (58, .dup, 1), (59, .getfield 146, 3), (62, .iconst 1, 1), (63, .iadd, 1), (64, .putfield 146, 3), (67, .return_, 1)]
theorem vt_o53 : vt_chk (prog_5_method_8_code, vt_i53) = true := by sorry
-- 54: VitalTwin$Statements.place (LVitalTwin$Symbol;)V
def vt_i54 : List (Nat × Instr × Nat) := [(0, .aload_n 1, 1), (1, .aload_n 0, 1), (2, .getfield 39, 3), (5, .putfield 132, 3), (8, .aload_n 1, 1), (9, .aload_n 0, 1), (10, .getfield 25, 3), (13, .getfield 133, 3), (16, .putfield 136, 3), (19, .aload_n 1, 1), (20, .aload_n 0, 1), (21, .getfield 25, 3), (24, .getfield 137, 3), (27, .putfield 140, 3), (30, .aload_n 0, 1), (31, .getfield 25, 3), (34, .dup, 1), (35, .getfield 137, 3), (38, .aload_n 1, 1), (39, .getfield 143, 3), (42, .iadd, 1), (43, .putfield 137, 3), (46, .return_, 1)]
theorem vt_o54 : vt_chk (prog_11_method_6_code, vt_i54) = true := by sorry
-- 55: VitalTwin$Statements.block (ILVitalTwin$Symbol;)V
def vt_i55 : List (Nat × Instr × Nat) := [(0, .aload_n 0, 1), (1, .getfield 9, 3), (4, .bipush 123, 2), (6, .invokevirtual 46, 3), (9, .iconst 0, 1), (10, .istore_n 3, 1), (11, .iload_n 3, 1), (12, .ldc 52, 2), (14, .if_icmp .ge 42, 3), (17, .aload_n 0, 1), (18, .getfield 9, 3), (21, .getfield 53, 3), (24, .bipush 125, 2), (26, .if_icmp .eq 30, 3), (29, .aload_n 2, 1), (30, .ifnull 16, 3), (33, .aload_n 0, 1), (34, .getfield 9, 3), (37, .getfield 53, 3), (40, .sipush 213, 3), (43, .if_icmp .eq 13, 3), (46, .aload_n 0, 1), (47, .invokevirtual 56, 3), (50, .iinc 3 1, 3), (53, .goto (-42), 3), (56, .aload_n 2, 1), (57, .ifnull 48, 3), (60, .aload_n 0, 1), (61, .getfield 9, 3), (64, .sipush 213, 3), (67, .invokevirtual 59, 3), (70, .aload_n 0, 1), (71, .getfield 35, 3), (74, .invokevirtual 62, 3), (77, .aload_n 0, 1), (78, .getfield 35, 3), (81, .aload_n 2, 1), (82, .getfield 65, 3), (85, .aload_n 2, 1), (86, .getfield 70, 3), (89, .aload_n 2, 1), (90, .getfield 73, 3), (93, .invokevirtual 76, 3), (96, .aload_n 0, 1), (97, .getfield 9, 3), (100, .bipush 59, 2), (102, .invokevirtual 59, 3), (105, .aload_n 0, 1), (106, .getfield 9, 3), (109, .bipush 125, 2), (111, .invokevirtual 80, 3), (114, .aload_n 0, 1), (115, .getfield 15, 3), (118, .iload_n 1, 1), (119, .invokevirtual 83, 3), (122, .return_, 1)]
theorem vt_o55 : vt_chk (prog_11_method_3_code, vt_i55) = true := by sorry
-- 56: VitalTwin$Statements.statement ()V
def vt_i56_0 : List (Nat × Instr × Nat) := [(0, .aload_n 0, 1), (1, .getfield 9, 3), (4, .getfield 53, 3), (7, .lookupswitch 177 #[(2, 119), (205, 57), (207, 105), (209, 98), (210, 112), (212, 64)], 57), (64, .aload_n 0, 1), (65, .invokevirtual 86, 3), (68, .goto 131, 3), (71, .aload_n 0, 1), (72, .getfield 9, 3), (75, .invokevirtual 89, 3), (78, .aload_n 0, 1), (79, .invokevirtual 92, 3), (82, .aload_n 0, 1), (83, .getfield 25, 3), (86, .bipush 30, 2), (88, .iconst 0, 1), (89, .invokevirtual 95, 3), (92, .pop, 1), (93, .aload_n 0, 1), (94, .getfield 9, 3), (97, .bipush 59, 2), (99, .invokevirtual 59, 3), (102, .goto 97, 3), (105, .aload_n 0, 1), (106, .invokevirtual 101, 3), (109, .goto 90, 3), (112, .aload_n 0, 1), (113, .invokevirtual 104, 3), (116, .goto 83, 3), (119, .aload_n 0, 1), (120, .invokevirtual 107, 3), (123, .goto 76, 3), (126, .aload_n 0, 1), (127, .getfield 9, 3), (130, .getfield 110, 3), (133, .istore_n 1, 1), (134, .aload_n 0, 1), (135, .invokevirtual 113, 3), (138, .astore_n 2, 1), (139, .aload_n 2, 1), (140, .ifnull 23, 3), (143, .aload_n 2, 1), (144, .getfield 117, 3), (147, .iconst 4, 1), (148, .if_icmp .ne 15, 3), (151, .aload_n 0, 1), (152, .getfield 35, 3), (155, .aload_n 2, 1), (156, .iload_n 1, 1), (157, .invokevirtual 120, 3), (160, .goto 12, 3), (163, .aload_n 2, 1), (164, .ifnull 8, 3), (167, .aload_n 0, 1), (168, .aload_n 2, 1), (169, .invokevirtual 124, 3), (172, .aload_n 0, 1), (173, .getfield 9, 3), (176, .bipush 59, 2), (178, .invokevirtual 59, 3)]
def vt_i56_1 : List (Nat × Instr × Nat) := [(181, .goto 18, 3), (184, .aload_n 0, 1), (185, .getfield 9, 3), (188, .iconst 1, 1), (189, .aload_n 0, 1), (190, .getfield 9, 3), (193, .getfield 110, 3), (196, .invokevirtual 128, 3), (199, .return_, 1)]
def vt_i56 : List (Nat × Instr × Nat) := vt_i56_0 ++ (vt_i56_1)
theorem vt_o56_0 : vt_chk (prog_11_method_4_code, vt_i56_0) = true := by sorry
theorem vt_o56_1 : vt_chk (prog_11_method_4_code, vt_i56_1) = true := by sorry
theorem vt_o56 : vt_chk (prog_11_method_4_code, vt_i56) = true := (vt_app vt_o56_0 vt_o56_1)
-- 57: VitalTwin$Statements.variable ()V
def vt_i57_0 : List (Nat × Instr × Nat) := [(0, .aload_n 0, 1), (1, .getfield 9, 3), (4, .invokevirtual 89, 3), (7, .aload_n 0, 1), (8, .getfield 15, 3), (11, .bipush 6, 2), (13, .iconst 0, 1), (14, .aload_n 0, 1), (15, .getfield 9, 3), (18, .invokevirtual 146, 3), (21, .astore_n 1, 1), (22, .aload_n 0, 1), (23, .getfield 26, 3), (26, .aload_n 1, 1), (27, .invokevirtual 150, 3), (30, .aload_n 0, 1), (31, .getfield 9, 3), (34, .bipush 58, 2), (36, .invokevirtual 59, 3), (39, .aload_n 0, 1), (40, .getfield 26, 3), (43, .aload_n 1, 1), (44, .invokevirtual 155, 3), (47, .aload_n 0, 1), (48, .aload_n 1, 1), (49, .invokevirtual 158, 3), (52, .aload_n 0, 1), (53, .getfield 9, 3), (56, .bipush 61, 2), (58, .invokevirtual 59, 3), (61, .aload_n 1, 1), (62, .getfield 160, 3), (65, .ifCond .eq 48, 3), (68, .aload_n 0, 1), (69, .getfield 26, 3), (72, .aload_n 1, 1), (73, .invokevirtual 164, 3), (76, .istore_n 2, 1), (77, .aload_n 0, 1), (78, .getfield 25, 3), (81, .iconst 0, 1), (82, .iload_n 2, 1), (83, .aload_n 1, 1), (84, .getfield 65, 3), (87, .ifCond .ne 7, 3), (90, .iload_n 2, 1), (91, .goto 4, 3), (94, .iconst 0, 1), (95, .aload_n 0, 1), (96, .getfield 15, 3), (99, .aload_n 1, 1), (100, .getfield 65, 3), (103, .iload_n 2, 1), (104, .invokevirtual 168, 3), (107, .invokevirtual 171, 3), (110, .goto 29, 3), (113, .aload_n 0, 1), (114, .getfield 35, 3), (117, .invokevirtual 62, 3), (120, .aload_n 0, 1)]
def vt_i57_1 : List (Nat × Instr × Nat) := [(121, .getfield 35, 3), (124, .aload_n 1, 1), (125, .getfield 65, 3), (128, .aload_n 1, 1), (129, .getfield 70, 3), (132, .aload_n 1, 1), (133, .getfield 73, 3), (136, .invokevirtual 76, 3), (139, .iconst 0, 1), (140, .istore_n 2, 1), (141, .iload_n 2, 1), (142, .aload_n 1, 1), (143, .getfield 143, 3), (146, .if_icmp .ge 18, 3), (149, .aload_n 0, 1), (150, .getfield 25, 3), (153, .aload_n 1, 1), (154, .iload_n 2, 1), (155, .invokevirtual 175, 3), (158, .iinc 2 1, 3), (161, .goto (-20), 3), (164, .aload_n 0, 1), (165, .getfield 9, 3), (168, .bipush 59, 2), (170, .invokevirtual 59, 3), (173, .aload_n 1, 1), (174, .iconst 1, 1), (175, .putfield 178, 3), (178, .return_, 1)]
def vt_i57 : List (Nat × Instr × Nat) := vt_i57_0 ++ (vt_i57_1)
theorem vt_o57_0 : vt_chk (prog_11_method_7_code, vt_i57_0) = true := by sorry
theorem vt_o57_1 : vt_chk (prog_11_method_7_code, vt_i57_1) = true := by sorry
theorem vt_o57 : vt_chk (prog_11_method_7_code, vt_i57) = true := (vt_app vt_o57_0 vt_o57_1)
-- 58: VitalTwin$Program.highOf (II)I
def vt_i58 : List (Nat × Instr × Nat) := [(0, .iload_n 1, 1), (1, .ifCond .ne 5, 3), (4, .iload_n 2, 1), (5, .ireturn, 1), (6, .iload_n 1, 1), (7, .iconst 3, 1), (8, .isub, 1), (9, .istore_n 3, 1), (10, .iload_n 3, 1), (11, .ifCond .lt 32, 3), (14, .iload_n 3, 1), (15, .aload_n 0, 1), (16, .getfield 31, 3), (19, .if_icmp .ge 24, 3), (22, .aload_n 0, 1), (23, .getfield 20, 3), (26, .iload_n 3, 1), (27, .aaload, 1), (28, .ifnull 15, 3), (31, .aload_n 0, 1), (32, .getfield 20, 3), (35, .iload_n 3, 1), (36, .aaload, 1), (37, .getfield 72, 3), (40, .goto 4, 3), (43, .iconst 1, 1), (44, .ireturn, 1)]
theorem vt_o58 : vt_chk (prog_8_method_6_code, vt_i58) = true := by sorry
-- 59: VitalTwin$Code.set (IIII)V
def vt_i59 : List (Nat × Instr × Nat) := [(0, .aload_n 0, 1), (1, .iload_n 1, 1), (2, .iload_n 2, 1), (3, .iconst 0, 1), (4, .iload_n 3, 1), (5, .iload 4, 2), (7, .iconst 0, 1), (8, .invokevirtual 86, 3), (11, .return_, 1)]
theorem vt_o59 : vt_chk (prog_2_method_9_code, vt_i59) = true := by sorry
-- 60: VitalTwin$Code.put (IIIIII)V
def vt_i60_0 : List (Nat × Instr × Nat) := [(0, .aload_n 0, 1), (1, .getfield 42, 3), (4, .istore 7, 2), (6, .iload 7, 2), (8, .aload_n 0, 1), (9, .getfield 9, 3), (12, .arraylength, 1), (13, .if_icmp .lt 15, 3), (16, .iload 7, 2), (18, .sipush 8192, 3), (21, .if_icmp .ge 7, 3), (24, .aload_n 0, 1), (25, .invokevirtual 67, 3), (28, .iload 7, 2), (30, .aload_n 0, 1), (31, .getfield 9, 3), (34, .arraylength, 1), (35, .if_icmp .ge 54, 3), (38, .aload_n 0, 1), (39, .getfield 9, 3), (42, .iload 7, 2), (44, .iload_n 1, 1), (45, .iastore, 1), (46, .aload_n 0, 1), (47, .getfield 15, 3), (50, .iload 7, 2), (52, .iload_n 2, 1), (53, .iastore, 1), (54, .aload_n 0, 1), (55, .getfield 18, 3), (58, .iload 7, 2), (60, .iload_n 3, 1), (61, .iastore, 1), (62, .aload_n 0, 1), (63, .getfield 21, 3), (66, .iload 7, 2), (68, .iload 4, 2), (70, .iastore, 1), (71, .aload_n 0, 1), (72, .getfield 24, 3), (75, .iload 7, 2), (77, .iload 5, 2), (79, .iastore, 1), (80, .aload_n 0, 1), (81, .getfield 27, 3), (84, .iload 7, 2), (86, .iload 6, 2), (88, .iastore, 1), (89, .aload_n 0, 1), (90, .dup, 1), (91, .getfield 42, 3), (94, .iconst 1, 1), (95, .iadd, 1), (96, .putfield 42, 3), (99, .aload_n 0, 1), (100, .ldc 70, 2), (102, .aload_n 0, 1), (103, .getfield 52, 3), (106, .iconst 1, 1), (107, .iadd, 1)]
def vt_i60_1 : List (Nat × Instr × Nat) := [(108, .invokestatic 71, 3), (111, .putfield 52, 3), (114, .return_, 1)]
def vt_i60 : List (Nat × Instr × Nat) := vt_i60_0 ++ (vt_i60_1)
theorem vt_o60_0 : vt_chk (prog_2_method_6_code, vt_i60_0) = true := by sorry
theorem vt_o60_1 : vt_chk (prog_2_method_6_code, vt_i60_1) = true := by sorry
theorem vt_o60 : vt_chk (prog_2_method_6_code, vt_i60) = true := (vt_app vt_o60_0 vt_o60_1)
-- 61: VitalTwin$Code.grow ()V
def vt_i61 : List (Nat × Instr × Nat) := [(0, .sipush 8192, 3), (3, .sipush 128, 3), (6, .iconst 2, 1), (7, .aload_n 0, 1), (8, .getfield 9, 3), (11, .arraylength, 1), (12, .imul, 1), (13, .invokestatic 77, 3), (16, .invokestatic 71, 3), (19, .istore_n 1, 1), (20, .aload_n 0, 1), (21, .aload_n 0, 1), (22, .getfield 9, 3), (25, .iload_n 1, 1), (26, .invokestatic 80, 3), (29, .putfield 9, 3), (32, .aload_n 0, 1), (33, .aload_n 0, 1), (34, .getfield 15, 3), (37, .iload_n 1, 1), (38, .invokestatic 80, 3), (41, .putfield 15, 3), (44, .aload_n 0, 1), (45, .aload_n 0, 1), (46, .getfield 18, 3), (49, .iload_n 1, 1), (50, .invokestatic 80, 3), (53, .putfield 18, 3), (56, .aload_n 0, 1), (57, .aload_n 0, 1), (58, .getfield 21, 3), (61, .iload_n 1, 1), (62, .invokestatic 80, 3), (65, .putfield 21, 3), (68, .aload_n 0, 1), (69, .aload_n 0, 1), (70, .getfield 24, 3), (73, .iload_n 1, 1), (74, .invokestatic 80, 3), (77, .putfield 24, 3), (80, .aload_n 0, 1), (81, .aload_n 0, 1), (82, .getfield 27, 3), (85, .iload_n 1, 1), (86, .invokestatic 80, 3), (89, .putfield 27, 3), (92, .return_, 1)]
theorem vt_o61 : vt_chk (prog_2_method_7_code, vt_i61) = true := by sorry
-- 62: VitalTwin$Expressions.expression ()V
def vt_i62_0 : List (Nat × Instr × Nat) := [(0, .aload_n 0, 1), (1, .getfield 33, 3), (4, .getfield 56, 3), (7, .istore_n 1, 1), (8, .aload_n 0, 1), (9, .getfield 52, 3), (12, .istore_n 2, 1), (13, .iconst 1, 1), (14, .istore_n 3, 1), (15, .iconst 0, 1), (16, .istore 4, 2), (18, .iload 4, 2), (20, .ldc 61, 2), (22, .if_icmp .ge 241, 3), (25, .iload_n 3, 1), (26, .ifCond .eq 237, 3), (29, .aload_n 0, 1), (30, .invokevirtual 62, 3), (33, .aload_n 0, 1), (34, .getfield 33, 3), (37, .getfield 65, 3), (40, .iconst 2, 1), (41, .if_icmp .ne 10, 3), (44, .aload_n 0, 1), (45, .invokevirtual 68, 3), (48, .goto 7, 3), (51, .aload_n 0, 1), (52, .invokevirtual 71, 3), (55, .aload_n 0, 1), (56, .iload_n 2, 1), (57, .invokevirtual 74, 3), (60, .istore 5, 2), (62, .iconst 0, 1), (63, .istore 6, 2), (65, .iload 6, 2), (67, .sipush 512, 3), (70, .if_icmp .ge 166, 3), (73, .aload_n 0, 1), (74, .getfield 52, 3), (77, .iload_n 2, 1), (78, .if_icmp .le 158, 3), (81, .aload_n 0, 1), (82, .getfield 15, 3), (85, .aload_n 0, 1), (86, .getfield 52, 3), (89, .iconst 1, 1), (90, .isub, 1), (91, .iaload, 1), (92, .iload 5, 2), (94, .if_icmp .lt 142, 3), (97, .aload_n 0, 1), (98, .dup, 1), (99, .getfield 52, 3), (102, .iconst 1, 1), (103, .isub, 1), (104, .putfield 52, 3), (107, .aload_n 0, 1), (108, .invokevirtual 78, 3), (111, .aload_n 0, 1), (112, .getfield 15, 3)]
def vt_i62_1 : List (Nat × Instr × Nat) := [(115, .aload_n 0, 1), (116, .getfield 52, 3), (119, .iaload, 1), (120, .iconst 2, 1), (121, .if_icmp .gt 22, 3), (124, .aload_n 0, 1), (125, .getfield 47, 3), (128, .aload_n 0, 1), (129, .getfield 30, 3), (132, .aload_n 0, 1), (133, .getfield 52, 3), (136, .iaload, 1), (137, .invokevirtual 81, 3), (140, .goto 90, 3), (143, .aload_n 0, 1), (144, .getfield 15, 3), (147, .aload_n 0, 1), (148, .getfield 52, 3), (151, .iaload, 1), (152, .bipush 6, 2), (154, .if_icmp .ne 48, 3), (157, .aload_n 0, 1), (158, .getfield 33, 3), (161, .dup, 1), (162, .getfield 87, 3), (165, .iconst 1, 1), (166, .isub, 1), (167, .putfield 87, 3), (170, .aload_n 0, 1), (171, .getfield 47, 3), (174, .aload_n 0, 1), (175, .getfield 11, 3), (178, .aload_n 0, 1), (179, .getfield 52, 3), (182, .iaload, 1), (183, .iconst 1, 1), (184, .invokestatic 90, 3), (187, .iconst 0, 1), (188, .aload_n 0, 1), (189, .getfield 94, 3), (192, .aload_n 0, 1), (193, .getfield 97, 3), (196, .invokevirtual 100, 3), (199, .goto 31, 3), (202, .aload_n 0, 1), (203, .getfield 47, 3), (206, .aload_n 0, 1), (207, .getfield 11, 3), (210, .aload_n 0, 1), (211, .getfield 52, 3), (214, .iaload, 1), (215, .iconst 0, 1), (216, .invokestatic 90, 3), (219, .aload_n 0, 1), (220, .getfield 94, 3), (223, .aload_n 0, 1), (224, .getfield 97, 3), (227, .invokevirtual 104, 3), (230, .iinc 6 1, 3), (233, .goto (-168), 3)]
def vt_i62_2 : List (Nat × Instr × Nat) := [(236, .iload 5, 2), (238, .ifCond .le 7, 3), (241, .iconst 1, 1), (242, .goto 4, 3), (245, .iconst 0, 1), (246, .istore_n 3, 1), (247, .iload_n 3, 1), (248, .ifCond .eq 9, 3), (251, .aload_n 0, 1), (252, .iload 5, 2), (254, .invokevirtual 108, 3), (257, .iinc 4 1, 3), (260, .goto (-242), 3), (263, .aload_n 0, 1), (264, .getfield 33, 3), (267, .getfield 65, 3), (270, .bipush 63, 2), (272, .if_icmp .ne 7, 3), (275, .aload_n 0, 1), (276, .invokevirtual 111, 3), (279, .aload_n 0, 1), (280, .iload_n 1, 1), (281, .putfield 114, 3), (284, .return_, 1)]
def vt_i62 : List (Nat × Instr × Nat) := vt_i62_0 ++ (vt_i62_1 ++ (vt_i62_2))
theorem vt_o62_0 : vt_chk (prog_6_method_3_code, vt_i62_0) = true := by sorry
theorem vt_o62_1 : vt_chk (prog_6_method_3_code, vt_i62_1) = true := by sorry
theorem vt_o62_2 : vt_chk (prog_6_method_3_code, vt_i62_2) = true := by sorry
theorem vt_o62 : vt_chk (prog_6_method_3_code, vt_i62) = true := (vt_app vt_o62_0 (vt_app vt_o62_1 vt_o62_2))
-- 63: VitalTwin$Expressions.readFronts ()V
def vt_i63 : List (Nat × Instr × Nat) := [(0, .iconst 0, 1), (1, .istore_n 1, 1), (2, .iload_n 1, 1), (3, .ldc 61, 2), (5, .if_icmp .ge 54, 3), (8, .aload_n 0, 1), (9, .getfield 33, 3), (12, .getfield 65, 3), (15, .bipush 45, 2), (17, .if_icmp .eq 15, 3), (20, .aload_n 0, 1), (21, .getfield 33, 3), (24, .getfield 65, 3), (27, .bipush 33, 2), (29, .if_icmp .ne 30, 3), (32, .aload_n 0, 1), (33, .bipush 6, 2), (35, .iconst (-1), 1), (36, .invokevirtual 120, 3), (39, .aload_n 0, 1), (40, .getfield 33, 3), (43, .aload_n 0, 1), (44, .getfield 33, 3), (47, .getfield 65, 3), (50, .invokevirtual 124, 3), (53, .iinc 1 1, 3), (56, .goto (-54), 3), (59, .return_, 1)]
theorem vt_o63 : vt_chk (prog_6_method_6_code, vt_i63) = true := by sorry
-- 64: VitalTwin$Expressions.push (II)V
def vt_i64_0 : List (Nat × Instr × Nat) := [(0, .aload_n 0, 1), (1, .getfield 52, 3), (4, .sipush 512, 3), (7, .if_icmp .lt 19, 3), (10, .aload_n 0, 1), (11, .getfield 33, 3), (14, .bipush 10, 2), (16, .aload_n 0, 1), (17, .getfield 33, 3), (20, .getfield 56, 3), (23, .invokevirtual 127, 3), (26, .aload_n 0, 1), (27, .getfield 11, 3), (30, .aload_n 0, 1), (31, .getfield 52, 3), (34, .aload_n 0, 1), (35, .getfield 33, 3), (38, .getfield 65, 3), (41, .iastore, 1), (42, .aload_n 0, 1), (43, .getfield 15, 3), (46, .aload_n 0, 1), (47, .getfield 52, 3), (50, .iload_n 1, 1), (51, .iastore, 1), (52, .aload_n 0, 1), (53, .getfield 18, 3), (56, .aload_n 0, 1), (57, .getfield 52, 3), (60, .aload_n 0, 1), (61, .getfield 33, 3), (64, .getfield 56, 3), (67, .iastore, 1), (68, .aload_n 0, 1), (69, .getfield 21, 3), (72, .aload_n 0, 1), (73, .getfield 52, 3), (76, .aload_n 0, 1), (77, .getfield 130, 3), (80, .iastore, 1), (81, .aload_n 0, 1), (82, .getfield 24, 3), (85, .aload_n 0, 1), (86, .getfield 52, 3), (89, .aload_n 0, 1), (90, .getfield 94, 3), (93, .iastore, 1), (94, .aload_n 0, 1), (95, .getfield 27, 3), (98, .aload_n 0, 1), (99, .getfield 52, 3), (102, .aload_n 0, 1), (103, .getfield 97, 3), (106, .iastore, 1), (107, .aload_n 0, 1), (108, .getfield 30, 3), (111, .aload_n 0, 1), (112, .getfield 52, 3), (115, .iload_n 2, 1), (116, .iastore, 1)]
def vt_i64_1 : List (Nat × Instr × Nat) := [(117, .aload_n 0, 1), (118, .dup, 1), (119, .getfield 52, 3), (122, .iconst 1, 1), (123, .iadd, 1), (124, .putfield 52, 3), (127, .return_, 1)]
def vt_i64 : List (Nat × Instr × Nat) := vt_i64_0 ++ (vt_i64_1)
theorem vt_o64_0 : vt_chk (prog_6_method_7_code, vt_i64_0) = true := by sorry
theorem vt_o64_1 : vt_chk (prog_6_method_7_code, vt_i64_1) = true := by sorry
theorem vt_o64 : vt_chk (prog_6_method_7_code, vt_i64) = true := (vt_app vt_o64_0 vt_o64_1)
-- 65: VitalTwin$Expressions.named ()V
def vt_i65_0 : List (Nat × Instr × Nat) := [(0, .aload_n 0, 1), (1, .getfield 33, 3), (4, .getfield 56, 3), (7, .istore_n 1, 1), (8, .aload_n 0, 1), (9, .getfield 37, 3), (12, .aload_n 0, 1), (13, .getfield 33, 3), (16, .invokevirtual 216, 3), (19, .astore_n 2, 1), (20, .aload_n 2, 1), (21, .ifnull 12, 3), (24, .aload_n 2, 1), (25, .getfield 220, 3), (28, .bipush 8, 2), (30, .if_icmp .ne 13, 3), (33, .aload_n 0, 1), (34, .getfield 33, 3), (37, .iconst 3, 1), (38, .iload_n 1, 1), (39, .invokevirtual 127, 3), (42, .return_, 1), (43, .aload_n 0, 1), (44, .getfield 33, 3), (47, .invokevirtual 140, 3), (50, .aload_n 0, 1), (51, .aload_n 2, 1), (52, .iload_n 1, 1), (53, .invokevirtual 225, 3), (56, .aload_n 2, 1), (57, .getfield 220, 3), (60, .iconst 4, 1), (61, .if_icmp .ne 29, 3), (64, .aload_n 2, 1), (65, .getfield 229, 3), (68, .iconst 2, 1), (69, .if_icmp .ne 12, 3), (72, .aload_n 0, 1), (73, .getfield 33, 3), (76, .iconst 5, 1), (77, .iload_n 1, 1), (78, .invokevirtual 127, 3), (81, .aload_n 0, 1), (82, .aload_n 2, 1), (83, .iload_n 1, 1), (84, .invokevirtual 230, 3), (87, .goto 151, 3), (90, .aload_n 2, 1), (91, .getfield 233, 3), (94, .ifCond .eq 35, 3), (97, .aload_n 0, 1), (98, .aload_n 2, 1), (99, .invokevirtual 237, 3), (102, .aload_n 0, 1), (103, .aload_n 2, 1), (104, .getfield 229, 3), (107, .aload_n 2, 1), (108, .getfield 241, 3), (111, .aload_n 2, 1), (112, .getfield 242, 3)]
def vt_i65_1 : List (Nat × Instr × Nat) := [(115, .invokevirtual 147, 3), (118, .aload_n 0, 1), (119, .getfield 47, 3), (122, .aload_n 2, 1), (123, .invokevirtual 243, 3), (126, .goto 112, 3), (129, .aload_n 2, 1), (130, .getfield 220, 3), (133, .ifCond .eq 12, 3), (136, .aload_n 2, 1), (137, .getfield 220, 3), (140, .bipush 9, 2), (142, .if_icmp .ne 64, 3), (145, .aload_n 0, 1), (146, .aload_n 2, 1), (147, .getfield 229, 3), (150, .aload_n 2, 1), (151, .getfield 229, 3), (154, .ifCond .ne 10, 3), (157, .aload_n 2, 1), (158, .getfield 246, 3), (161, .goto 4, 3), (164, .iconst 0, 1), (165, .aload_n 0, 1), (166, .getfield 37, 3), (169, .aload_n 2, 1), (170, .getfield 229, 3), (173, .aload_n 2, 1), (174, .getfield 246, 3), (177, .invokevirtual 249, 3), (180, .invokevirtual 147, 3), (183, .aload_n 0, 1), (184, .getfield 47, 3), (187, .iconst 0, 1), (188, .aload_n 2, 1), (189, .getfield 246, 3), (192, .aload_n 0, 1), (193, .getfield 94, 3), (196, .aload_n 0, 1), (197, .getfield 97, 3), (200, .invokevirtual 100, 3), (203, .goto 35, 3), (206, .aload_n 0, 1), (207, .aload_n 2, 1), (208, .getfield 229, 3), (211, .aload_n 2, 1), (212, .getfield 241, 3), (215, .aload_n 2, 1), (216, .getfield 242, 3), (219, .invokevirtual 147, 3), (222, .aload_n 0, 1), (223, .getfield 47, 3), (226, .aload_n 2, 1), (227, .aload_n 0, 1), (228, .getfield 94, 3), (231, .aload_n 0, 1), (232, .getfield 97, 3), (235, .invokevirtual 252, 3), (238, .return_, 1)]
def vt_i65 : List (Nat × Instr × Nat) := vt_i65_0 ++ (vt_i65_1)
theorem vt_o65_0 : vt_chk (prog_6_method_21_code, vt_i65_0) = true := by sorry
theorem vt_o65_1 : vt_chk (prog_6_method_21_code, vt_i65_1) = true := by sorry
theorem vt_o65 : vt_chk (prog_6_method_21_code, vt_i65) = true := (vt_app vt_o65_0 vt_o65_1)
-- 66: VitalTwin$Expressions.askUse (LVitalTwin$Symbol;I)V
def vt_i66 : List (Nat × Instr × Nat) := [(0, .aload_n 0, 1), (1, .getfield 33, 3), (4, .getfield 65, 3), (7, .bipush 40, 2), (9, .if_icmp .ne 7, 3), (12, .iconst 1, 1), (13, .goto 4, 3), (16, .iconst 0, 1), (17, .istore_n 3, 1), (18, .aload_n 0, 1), (19, .getfield 33, 3), (22, .getfield 65, 3), (25, .bipush 91, 2), (27, .if_icmp .ne 7, 3), (30, .iconst 1, 1), (31, .goto 4, 3), (34, .iconst 0, 1), (35, .istore 4, 2), (37, .iload_n 3, 1), (38, .aload_n 1, 1), (39, .getfield 220, 3), (42, .iconst 4, 1), (43, .if_icmp .ne 7, 3), (46, .iconst 1, 1), (47, .goto 4, 3), (50, .iconst 0, 1), (51, .if_icmp .ne 12, 3), (54, .iload 4, 2), (56, .aload_n 1, 1), (57, .getfield 233, 3), (60, .if_icmp .eq 12, 3), (63, .aload_n 0, 1), (64, .getfield 33, 3), (67, .iconst 3, 1), (68, .iload_n 2, 1), (69, .invokevirtual 127, 3), (72, .return_, 1)]
theorem vt_o66 : vt_chk (prog_6_method_22_code, vt_i66) = true := by sorry
-- 67: VitalTwin$Expressions.call (LVitalTwin$Symbol;I)V
def vt_i67_0 : List (Nat × Instr × Nat) := [(0, .aload_n 0, 1), (1, .getfield 37, 3), (4, .getfield 262, 3), (7, .iconst (-1), 1), (8, .if_icmp .ne 7, 3), (11, .iconst 1, 1), (12, .goto 4, 3), (15, .iconst 0, 1), (16, .istore_n 3, 1), (17, .aload_n 1, 1), (18, .getfield 265, 3), (21, .iload_n 3, 1), (22, .ifCond .eq 7, 3), (25, .iconst 1, 1), (26, .goto 4, 3), (29, .iconst 0, 1), (30, .iadd, 1), (31, .bipush 16, 2), (33, .if_icmp .le 13, 3), (36, .aload_n 0, 1), (37, .getfield 33, 3), (40, .bipush 10, 2), (42, .iload_n 2, 1), (43, .invokevirtual 127, 3), (46, .aload_n 0, 1), (47, .getfield 33, 3), (50, .bipush 40, 2), (52, .invokevirtual 124, 3), (55, .aload_n 0, 1), (56, .getfield 47, 3), (59, .getfield 268, 3), (62, .istore 4, 2), (64, .iconst 0, 1), (65, .istore 5, 2), (67, .aload_n 0, 1), (68, .getfield 33, 3), (71, .getfield 65, 3), (74, .bipush 41, 2), (76, .if_icmp .eq 7, 3), (79, .iconst 1, 1), (80, .goto 4, 3), (83, .iconst 0, 1), (84, .istore 6, 2), (86, .iconst 0, 1), (87, .istore 7, 2), (89, .iload 7, 2), (91, .ldc 61, 2), (93, .if_icmp .ge 123, 3), (96, .iload 6, 2), (98, .ifCond .eq 118, 3), (101, .aload_n 0, 1), (102, .invokevirtual 177, 3), (105, .iload 5, 2), (107, .aload_n 1, 1), (108, .getfield 256, 3), (111, .if_icmp .ge 22, 3), (114, .aload_n 0, 1), (115, .getfield 37, 3), (118, .aload_n 1, 1), (119, .getfield 271, 3)]
def vt_i67_1 : List (Nat × Instr × Nat) := [(122, .iconst 1, 1), (123, .iadd, 1), (124, .iload 5, 2), (126, .iadd, 1), (127, .invokevirtual 273, 3), (130, .goto 4, 3), (133, .aconst_null, 1), (134, .astore 8, 2), (136, .aload 8, 2), (138, .ifnull 38, 3), (141, .aload_n 0, 1), (142, .aload 8, 2), (144, .getfield 229, 3), (147, .aload 8, 2), (149, .getfield 241, 3), (152, .aload 8, 2), (154, .getfield 242, 3), (157, .invokevirtual 259, 3), (160, .aload_n 0, 1), (161, .getfield 47, 3), (164, .aload_n 0, 1), (165, .getfield 94, 3), (168, .aload_n 0, 1), (169, .getfield 97, 3), (172, .invokevirtual 137, 3), (175, .pop, 1), (176, .iinc 5 1, 3), (179, .aload_n 0, 1), (180, .getfield 33, 3), (183, .getfield 65, 3), (186, .bipush 44, 2), (188, .if_icmp .ne 7, 3), (191, .iconst 1, 1), (192, .goto 4, 3), (195, .iconst 0, 1), (196, .istore 6, 2), (198, .iload 6, 2), (200, .ifCond .eq 10, 3), (203, .aload_n 0, 1), (204, .getfield 33, 3), (207, .invokevirtual 140, 3), (210, .iinc 7 1, 3), (213, .goto (-124), 3), (216, .aload_n 0, 1), (217, .getfield 33, 3), (220, .getfield 65, 3), (223, .bipush 41, 2), (225, .if_icmp .ne 28, 3), (228, .iload 5, 2), (230, .aload_n 1, 1), (231, .getfield 256, 3), (234, .if_icmp .eq 19, 3), (237, .aload_n 0, 1), (238, .getfield 33, 3), (241, .bipush 9, 2), (243, .aload_n 0, 1), (244, .getfield 33, 3), (247, .getfield 56, 3), (250, .invokevirtual 127, 3), (253, .aload_n 0, 1)]
def vt_i67_2 : List (Nat × Instr × Nat) := [(254, .getfield 33, 3), (257, .bipush 41, 2), (259, .invokevirtual 191, 3), (262, .iconst 0, 1), (263, .istore 7, 2), (265, .iload 7, 2), (267, .aload_n 1, 1), (268, .getfield 256, 3), (271, .if_icmp .ge 46, 3), (274, .aload_n 0, 1), (275, .getfield 37, 3), (278, .aload_n 1, 1), (279, .getfield 271, 3), (282, .iconst 1, 1), (283, .iadd, 1), (284, .iload 7, 2), (286, .iadd, 1), (287, .invokevirtual 273, 3), (290, .astore 8, 2), (292, .aload 8, 2), (294, .ifnull 17, 3), (297, .aload_n 0, 1), (298, .getfield 47, 3), (301, .iload 4, 2), (303, .iload 7, 2), (305, .iadd, 1), (306, .aload 8, 2), (308, .invokevirtual 277, 3), (311, .iinc 7 1, 3), (314, .goto (-49), 3), (317, .aload_n 0, 1), (318, .getfield 47, 3), (321, .iload 4, 2), (323, .putfield 268, 3), (326, .aload_n 0, 1), (327, .getfield 47, 3), (330, .aload_n 1, 1), (331, .invokevirtual 281, 3), (334, .aload_n 0, 1), (335, .aload_n 1, 1), (336, .getfield 229, 3), (339, .aload_n 1, 1), (340, .getfield 241, 3), (343, .aload_n 1, 1), (344, .getfield 242, 3), (347, .invokevirtual 147, 3), (350, .return_, 1)]
def vt_i67 : List (Nat × Instr × Nat) := vt_i67_0 ++ (vt_i67_1 ++ (vt_i67_2))
theorem vt_o67_0 : vt_chk (prog_6_method_25_code, vt_i67_0) = true := by sorry
theorem vt_o67_1 : vt_chk (prog_6_method_25_code, vt_i67_1) = true := by sorry
theorem vt_o67_2 : vt_chk (prog_6_method_25_code, vt_i67_2) = true := by sorry
theorem vt_o67 : vt_chk (prog_6_method_25_code, vt_i67) = true := (vt_app vt_o67_0 (vt_app vt_o67_1 vt_o67_2))
-- 68: VitalTwin$Program.at (I)LVitalTwin$Symbol;
def vt_i68 : List (Nat × Instr × Nat) := [(0, .iload_n 1, 1), (1, .ifCond .lt 20, 3), (4, .iload_n 1, 1), (5, .aload_n 0, 1), (6, .getfield 31, 3), (9, .if_icmp .ge 12, 3), (12, .iload_n 1, 1), (13, .aload_n 0, 1), (14, .getfield 20, 3), (17, .arraylength, 1), (18, .if_icmp .lt 7, 3), (21, .aconst_null, 1), (22, .goto 9, 3), (25, .aload_n 0, 1), (26, .getfield 20, 3), (29, .iload_n 1, 1), (30, .aaload, 1), (31, .areturn, 1)]
theorem vt_o68 : vt_chk (prog_8_method_3_code, vt_i68) = true := by sorry
-- 69: VitalTwin$Expressions.askToSuit (III)V
def vt_i69 : List (Nat × Instr × Nat) := [(0, .aload_n 0, 1), (1, .getfield 130, 3), (4, .iload_n 1, 1), (5, .if_icmp .eq 15, 3), (8, .aload_n 0, 1), (9, .getfield 33, 3), (12, .iconst 5, 1), (13, .aload_n 0, 1), (14, .getfield 114, 3), (17, .invokevirtual 127, 3), (20, .aload_n 0, 1), (21, .getfield 94, 3), (24, .iload_n 2, 1), (25, .if_icmp .lt 11, 3), (28, .aload_n 0, 1), (29, .getfield 97, 3), (32, .iload_n 3, 1), (33, .if_icmp .le 16, 3), (36, .aload_n 0, 1), (37, .getfield 33, 3), (40, .bipush 6, 2), (42, .aload_n 0, 1), (43, .getfield 114, 3), (46, .invokevirtual 127, 3), (49, .return_, 1)]
theorem vt_o69 : vt_chk (prog_6_method_24_code, vt_i69) = true := by sorry
-- 70: VitalTwin$Code.keep (II)I
def vt_i70 : List (Nat × Instr × Nat) := [(0, .aload_n 0, 1), (1, .getfield 58, 3), (4, .istore_n 3, 1), (5, .aload_n 0, 1), (6, .dup, 1), (7, .getfield 58, 3), (10, .iconst 1, 1), (11, .iadd, 1), (12, .putfield 58, 3), (15, .aload_n 0, 1), (16, .aload_n 0, 1), (17, .getfield 61, 3), (20, .aload_n 0, 1), (21, .getfield 58, 3), (24, .invokestatic 77, 3), (27, .putfield 61, 3), (30, .iload_n 3, 1), (31, .sipush 1024, 3), (34, .if_icmp .ge 17, 3), (37, .aload_n 0, 1), (38, .getfield 36, 3), (41, .iload_n 3, 1), (42, .iload_n 1, 1), (43, .iastore, 1), (44, .aload_n 0, 1), (45, .getfield 39, 3), (48, .iload_n 3, 1), (49, .iload_n 2, 1), (50, .iastore, 1), (51, .aload_n 0, 1), (52, .iconst 2, 1), (53, .iload_n 3, 1), (54, .iconst 0, 1), (55, .iconst 1, 1), (56, .iconst 0, 1), (57, .aload_n 0, 1), (58, .invokevirtual 109, 3), (61, .invokevirtual 86, 3), (64, .iload_n 3, 1), (65, .ireturn, 1)]
theorem vt_o70 : vt_chk (prog_2_method_16_code, vt_i70) = true := by sorry
-- 71: VitalTwin$Code.homeOfTemps ()I
def vt_i71 : List (Nat × Instr × Nat) := [(0, .iconst 2, 1), (1, .aload_n 0, 1), (2, .getfield 46, 3), (5, .imul, 1), (6, .iconst 2, 1), (7, .iadd, 1), (8, .ireturn, 1)]
theorem vt_o71 : vt_chk (prog_2_method_11_code, vt_i71) = true := by sorry
-- 72: VitalTwin$Code.pass (ILVitalTwin$Symbol;)V
def vt_i72 : List (Nat × Instr × Nat) := [(0, .iload_n 1, 1), (1, .ifCond .lt 14, 3), (4, .iload_n 1, 1), (5, .sipush 1024, 3), (8, .if_icmp .ge 7, 3), (11, .iconst 1, 1), (12, .goto 4, 3), (15, .iconst 0, 1), (16, .istore_n 3, 1), (17, .aload_n 0, 1), (18, .iconst 1, 1), (19, .iload_n 1, 1), (20, .iconst 0, 1), (21, .iload_n 3, 1), (22, .ifCond .eq 12, 3), (25, .aload_n 0, 1), (26, .getfield 36, 3), (29, .iload_n 1, 1), (30, .iaload, 1), (31, .goto 4, 3), (34, .iconst 0, 1), (35, .iload_n 3, 1), (36, .ifCond .eq 12, 3), (39, .aload_n 0, 1), (40, .getfield 39, 3), (43, .iload_n 1, 1), (44, .iaload, 1), (45, .goto 4, 3), (48, .iconst 0, 1), (49, .aload_n 0, 1), (50, .invokevirtual 109, 3), (53, .invokevirtual 86, 3), (56, .aload_n 0, 1), (57, .iconst 2, 1), (58, .aload_n 2, 1), (59, .getfield 93, 3), (62, .iconst 0, 1), (63, .iconst 1, 1), (64, .iconst 0, 1), (65, .aload_n 2, 1), (66, .invokestatic 96, 3), (69, .invokevirtual 86, 3), (72, .return_, 1)]
theorem vt_o72 : vt_chk (prog_2_method_19_code, vt_i72) = true := by sorry
-- 73: VitalTwin$Code.homeOf (LVitalTwin$Symbol;)I
def vt_i73 : List (Nat × Instr × Nat) := [(0, .aload_n 0, 1), (1, .getfield 90, 3), (4, .ifCond .ge 7, 3), (7, .iconst 0, 1), (8, .goto 11, 3), (11, .iconst 2, 1), (12, .aload_n 0, 1), (13, .getfield 90, 3), (16, .imul, 1), (17, .iconst 1, 1), (18, .iadd, 1), (19, .ireturn, 1)]
theorem vt_o73 : vt_chk (prog_2_method_10_code, vt_i73) = true := by sorry
-- 74: VitalTwin$Code.call (LVitalTwin$Symbol;)V
def vt_i74 : List (Nat × Instr × Nat) := [(0, .aload_n 0, 1), (1, .bipush 27, 2), (3, .aload_n 1, 1), (4, .getfield 93, 3), (7, .iconst 0, 1), (8, .iconst 1, 1), (9, .iconst 0, 1), (10, .iconst 0, 1), (11, .invokevirtual 86, 3), (14, .aload_n 0, 1), (15, .aload_n 0, 1), (16, .getfield 64, 3), (19, .aload_n 1, 1), (20, .getfield 113, 3), (23, .invokestatic 77, 3), (26, .putfield 64, 3), (29, .aload_n 0, 1), (30, .aload_n 1, 1), (31, .getfield 116, 3), (34, .i2l, 1), (35, .invokevirtual 117, 3), (38, .return_, 1)]
theorem vt_o74 : vt_chk (prog_2_method_20_code, vt_i74) = true := by sorry
-- 75: VitalTwin$Code.spend (J)V
def vt_i75 : List (Nat × Instr × Nat) := [(0, .aload_n 0, 1), (1, .ldc2_w 121, 3), (4, .aload_n 0, 1), (5, .getfield 52, 3), (8, .i2l, 1), (9, .lload_n 1, 1), (10, .ladd, 1), (11, .invokestatic 123, 3), (14, .l2i, 1), (15, .putfield 52, 3), (18, .return_, 1)]
theorem vt_o75 : vt_chk (prog_2_method_21_code, vt_i75) = true := by sorry
-- 76: VitalTwin$Expressions.set (III)V
def vt_i76 : List (Nat × Instr × Nat) := [(0, .aload_n 0, 1), (1, .iload_n 1, 1), (2, .putfield 130, 3), (5, .aload_n 0, 1), (6, .iload_n 2, 1), (7, .putfield 94, 3), (10, .aload_n 0, 1), (11, .iload_n 3, 1), (12, .putfield 97, 3), (15, .return_, 1)]
theorem vt_o76 : vt_chk (prog_6_method_11_code, vt_i76) = true := by sorry
-- 77: VitalTwin$Expressions.index (LVitalTwin$Symbol;)V
def vt_i77 : List (Nat × Instr × Nat) := [(0, .aload_n 0, 1), (1, .getfield 33, 3), (4, .bipush 91, 2), (6, .invokevirtual 124, 3), (9, .aload_n 0, 1), (10, .invokevirtual 177, 3), (13, .aload_n 0, 1), (14, .iconst 0, 1), (15, .iconst 0, 1), (16, .aload_n 1, 1), (17, .getfield 256, 3), (20, .iconst 1, 1), (21, .isub, 1), (22, .invokevirtual 259, 3), (25, .aload_n 0, 1), (26, .getfield 33, 3), (29, .bipush 93, 2), (31, .invokevirtual 191, 3), (34, .return_, 1)]
theorem vt_o77 : vt_chk (prog_6_method_23_code, vt_i77) = true := by sorry
-- 78: VitalTwin$Code.loadElement (LVitalTwin$Symbol;)V
def vt_i78 : List (Nat × Instr × Nat) := [(0, .aload_n 0, 1), (1, .iconst 4, 1), (2, .aload_n 1, 1), (3, .getfield 93, 3), (6, .aload_n 1, 1), (7, .getfield 100, 3), (10, .aload_n 1, 1), (11, .getfield 103, 3), (14, .aload_n 1, 1), (15, .getfield 106, 3), (18, .aload_n 1, 1), (19, .invokestatic 96, 3), (22, .invokevirtual 86, 3), (25, .return_, 1)]
theorem vt_o78 : vt_chk (prog_2_method_14_code, vt_i78) = true := by sorry
-- 79: VitalTwin$Code.load (LVitalTwin$Symbol;II)V
def vt_i79 : List (Nat × Instr × Nat) := [(0, .aload_n 0, 1), (1, .iconst 1, 1), (2, .aload_n 1, 1), (3, .getfield 93, 3), (6, .iconst 0, 1), (7, .iload_n 2, 1), (8, .iload_n 3, 1), (9, .aload_n 1, 1), (10, .invokestatic 96, 3), (13, .invokevirtual 86, 3), (16, .return_, 1)]
theorem vt_o79 : vt_chk (prog_2_method_12_code, vt_i79) = true := by sorry
-- 80: VitalTwin$Expressions.operand ()V
def vt_i80_0 : List (Nat × Instr × Nat) := [(0, .aload_n 0, 1), (1, .getfield 33, 3), (4, .getfield 65, 3), (7, .istore_n 1, 1), (8, .iload_n 1, 1), (9, .lookupswitch 227 #[(3, 75), (40, 169), (216, 124), (217, 124), (218, 194), (219, 194), (220, 213), (221, 220)], 75), (84, .aload_n 0, 1), (85, .iconst 0, 1), (86, .aload_n 0, 1), (87, .getfield 33, 3), (90, .invokevirtual 187, 3), (93, .aload_n 0, 1), (94, .getfield 33, 3), (97, .invokevirtual 187, 3), (100, .invokevirtual 147, 3), (103, .aload_n 0, 1), (104, .getfield 47, 3), (107, .iconst 0, 1), (108, .aload_n 0, 1), (109, .getfield 94, 3), (112, .aload_n 0, 1), (113, .getfield 94, 3), (116, .aload_n 0, 1), (117, .getfield 97, 3), (120, .invokevirtual 100, 3), (123, .aload_n 0, 1), (124, .getfield 33, 3), (127, .invokevirtual 140, 3), (130, .goto 121, 3), (133, .aload_n 0, 1), (134, .iconst 1, 1), (135, .iconst 0, 1), (136, .iconst 1, 1), (137, .invokevirtual 147, 3), (140, .aload_n 0, 1), (141, .getfield 47, 3), (144, .iconst 0, 1), (145, .iload_n 1, 1), (146, .sipush 216, 3), (149, .if_icmp .ne 7, 3), (152, .iconst 1, 1), (153, .goto 4, 3), (156, .iconst 0, 1), (157, .aload_n 0, 1), (158, .getfield 94, 3), (161, .aload_n 0, 1), (162, .getfield 97, 3), (165, .invokevirtual 100, 3), (168, .aload_n 0, 1), (169, .getfield 33, 3), (172, .invokevirtual 140, 3), (175, .goto 76, 3), (178, .aload_n 0, 1), (179, .getfield 33, 3), (182, .bipush 40, 2), (184, .invokevirtual 124, 3), (187, .aload_n 0, 1), (188, .invokevirtual 177, 3), (191, .aload_n 0, 1), (192, .getfield 33, 3)]
def vt_i80_1 : List (Nat × Instr × Nat) := [(195, .bipush 41, 2), (197, .invokevirtual 191, 3), (200, .goto 51, 3), (203, .aload_n 0, 1), (204, .iload_n 1, 1), (205, .sipush 218, 3), (208, .if_icmp .ne 7, 3), (211, .iconst 1, 1), (212, .goto 4, 3), (215, .iconst 0, 1), (216, .invokevirtual 194, 3), (219, .goto 32, 3), (222, .aload_n 0, 1), (223, .invokevirtual 197, 3), (226, .goto 25, 3), (229, .aload_n 0, 1), (230, .invokevirtual 200, 3), (233, .goto 18, 3), (236, .aload_n 0, 1), (237, .getfield 33, 3), (240, .iconst 1, 1), (241, .aload_n 0, 1), (242, .getfield 33, 3), (245, .getfield 56, 3), (248, .invokevirtual 127, 3), (251, .return_, 1)]
def vt_i80 : List (Nat × Instr × Nat) := vt_i80_0 ++ (vt_i80_1)
theorem vt_o80_0 : vt_chk (prog_6_method_16_code, vt_i80_0) = true := by sorry
theorem vt_o80_1 : vt_chk (prog_6_method_16_code, vt_i80_1) = true := by sorry
theorem vt_o80 : vt_chk (prog_6_method_16_code, vt_i80) = true := (vt_app vt_o80_0 vt_o80_1)
-- 81: VitalTwin$Expressions.extreme (Z)V
def vt_i81_0 : List (Nat × Instr × Nat) := [(0, .aload_n 0, 1), (1, .getfield 33, 3), (4, .getfield 56, 3), (7, .istore_n 2, 1), (8, .aload_n 0, 1), (9, .getfield 33, 3), (12, .invokevirtual 140, 3), (15, .aload_n 0, 1), (16, .getfield 33, 3), (19, .bipush 40, 2), (21, .invokevirtual 124, 3), (24, .aload_n 0, 1), (25, .invokevirtual 177, 3), (28, .aload_n 0, 1), (29, .getfield 130, 3), (32, .istore_n 3, 1), (33, .aload_n 0, 1), (34, .getfield 94, 3), (37, .istore 4, 2), (39, .aload_n 0, 1), (40, .getfield 97, 3), (43, .istore 5, 2), (45, .aload_n 0, 1), (46, .getfield 47, 3), (49, .aload_n 0, 1), (50, .getfield 94, 3), (53, .aload_n 0, 1), (54, .getfield 97, 3), (57, .invokevirtual 137, 3), (60, .pop, 1), (61, .aload_n 0, 1), (62, .getfield 33, 3), (65, .bipush 44, 2), (67, .invokevirtual 180, 3), (70, .aload_n 0, 1), (71, .invokevirtual 177, 3), (74, .aload_n 0, 1), (75, .iload_n 3, 1), (76, .iload_n 2, 1), (77, .invokevirtual 203, 3), (80, .iload_n 1, 1), (81, .ifCond .eq 29, 3), (84, .aload_n 0, 1), (85, .iconst 0, 1), (86, .iload 4, 2), (88, .aload_n 0, 1), (89, .getfield 94, 3), (92, .invokestatic 183, 3), (95, .iload 5, 2), (97, .aload_n 0, 1), (98, .getfield 97, 3), (101, .invokestatic 183, 3), (104, .invokevirtual 147, 3), (107, .goto 26, 3), (110, .aload_n 0, 1), (111, .iconst 0, 1), (112, .iload 4, 2), (114, .aload_n 0, 1), (115, .getfield 94, 3), (118, .invokestatic 185, 3)]
def vt_i81_1 : List (Nat × Instr × Nat) := [(121, .iload 5, 2), (123, .aload_n 0, 1), (124, .getfield 97, 3), (127, .invokestatic 185, 3), (130, .invokevirtual 147, 3), (133, .aload_n 0, 1), (134, .getfield 47, 3), (137, .iload_n 1, 1), (138, .ifCond .eq 8, 3), (141, .bipush 11, 2), (143, .goto 5, 3), (146, .bipush 12, 2), (148, .aload_n 0, 1), (149, .getfield 94, 3), (152, .aload_n 0, 1), (153, .getfield 97, 3), (156, .invokevirtual 104, 3), (159, .aload_n 0, 1), (160, .getfield 33, 3), (163, .bipush 41, 2), (165, .invokevirtual 191, 3), (168, .return_, 1)]
def vt_i81 : List (Nat × Instr × Nat) := vt_i81_0 ++ (vt_i81_1)
theorem vt_o81_0 : vt_chk (prog_6_method_18_code, vt_i81_0) = true := by sorry
theorem vt_o81_1 : vt_chk (prog_6_method_18_code, vt_i81_1) = true := by sorry
theorem vt_o81 : vt_chk (prog_6_method_18_code, vt_i81) = true := (vt_app vt_o81_0 vt_o81_1)
-- 82: VitalTwin$Expressions.askInts (II)V
def vt_i82 : List (Nat × Instr × Nat) := [(0, .iload_n 1, 1), (1, .ifCond .ne 10, 3), (4, .aload_n 0, 1), (5, .getfield 130, 3), (8, .ifCond .eq 12, 3), (11, .aload_n 0, 1), (12, .getfield 33, 3), (15, .iconst 5, 1), (16, .iload_n 2, 1), (17, .invokevirtual 127, 3), (20, .return_, 1)]
theorem vt_o82 : vt_chk (prog_6_method_17_code, vt_i82) = true := by sorry
-- 83: VitalTwin$Code.combine (III)V
def vt_i83 : List (Nat × Instr × Nat) := [(0, .aload_n 0, 1), (1, .iconst 3, 1), (2, .iconst 0, 1), (3, .iconst 0, 1), (4, .iconst 1, 1), (5, .iconst 0, 1), (6, .iconst 0, 1), (7, .invokevirtual 86, 3), (10, .aload_n 0, 1), (11, .iconst 0, 1), (12, .sipush 1024, 3), (15, .aload_n 0, 1), (16, .getfield 58, 3), (19, .invokestatic 71, 3), (22, .iconst 1, 1), (23, .isub, 1), (24, .invokestatic 77, 3), (27, .putfield 58, 3), (30, .aload_n 0, 1), (31, .iconst 1, 1), (32, .aload_n 0, 1), (33, .getfield 58, 3), (36, .iconst 0, 1), (37, .aload_n 0, 1), (38, .getfield 36, 3), (41, .aload_n 0, 1), (42, .getfield 58, 3), (45, .iaload, 1), (46, .aload_n 0, 1), (47, .getfield 39, 3), (50, .aload_n 0, 1), (51, .getfield 58, 3), (54, .iaload, 1), (55, .aload_n 0, 1), (56, .invokevirtual 109, 3), (59, .invokevirtual 86, 3), (62, .aload_n 0, 1), (63, .iload_n 1, 1), (64, .iconst 0, 1), (65, .iconst 0, 1), (66, .iload_n 2, 1), (67, .iload_n 3, 1), (68, .iconst 0, 1), (69, .invokevirtual 86, 3), (72, .return_, 1)]
theorem vt_o83 : vt_chk (prog_2_method_18_code, vt_i83) = true := by sorry
-- 84: VitalTwin$Expressions.absolute ()V
def vt_i84_0 : List (Nat × Instr × Nat) := [(0, .aload_n 0, 1), (1, .getfield 33, 3), (4, .getfield 56, 3), (7, .istore_n 1, 1), (8, .aload_n 0, 1), (9, .getfield 33, 3), (12, .invokevirtual 140, 3), (15, .aload_n 0, 1), (16, .getfield 33, 3), (19, .bipush 40, 2), (21, .invokevirtual 124, 3), (24, .aload_n 0, 1), (25, .invokevirtual 177, 3), (28, .aload_n 0, 1), (29, .aload_n 0, 1), (30, .getfield 130, 3), (33, .iload_n 1, 1), (34, .invokevirtual 203, 3), (37, .aload_n 0, 1), (38, .getfield 94, 3), (41, .ifCond .gt 14, 3), (44, .aload_n 0, 1), (45, .getfield 97, 3), (48, .ifCond .lt 7, 3), (51, .iconst 1, 1), (52, .goto 4, 3), (55, .iconst 0, 1), (56, .istore_n 2, 1), (57, .iload_n 2, 1), (58, .ifCond .eq 7, 3), (61, .iconst 0, 1), (62, .goto 20, 3), (65, .aload_n 0, 1), (66, .getfield 94, 3), (69, .invokestatic 206, 3), (72, .aload_n 0, 1), (73, .getfield 97, 3), (76, .invokestatic 206, 3), (79, .invokestatic 183, 3), (82, .istore_n 3, 1), (83, .aload_n 0, 1), (84, .iconst 0, 1), (85, .iload_n 3, 1), (86, .aload_n 0, 1), (87, .getfield 94, 3), (90, .invokestatic 206, 3), (93, .aload_n 0, 1), (94, .getfield 97, 3), (97, .invokestatic 206, 3), (100, .invokestatic 185, 3), (103, .invokevirtual 147, 3), (106, .aload_n 0, 1), (107, .getfield 47, 3), (110, .bipush 20, 2), (112, .iconst 0, 1), (113, .aload_n 0, 1), (114, .getfield 94, 3), (117, .aload_n 0, 1), (118, .getfield 97, 3), (121, .invokevirtual 100, 3)]
def vt_i84_1 : List (Nat × Instr × Nat) := [(124, .aload_n 0, 1), (125, .getfield 33, 3), (128, .bipush 41, 2), (130, .invokevirtual 191, 3), (133, .return_, 1)]
def vt_i84 : List (Nat × Instr × Nat) := vt_i84_0 ++ (vt_i84_1)
theorem vt_o84_0 : vt_chk (prog_6_method_19_code, vt_i84_0) = true := by sorry
theorem vt_o84_1 : vt_chk (prog_6_method_19_code, vt_i84_1) = true := by sorry
theorem vt_o84 : vt_chk (prog_6_method_19_code, vt_i84) = true := (vt_app vt_o84_0 vt_o84_1)
-- 85: VitalTwin$Expressions.clamp ()V
def vt_i85_0 : List (Nat × Instr × Nat) := [(0, .aload_n 0, 1), (1, .getfield 33, 3), (4, .getfield 56, 3), (7, .istore_n 1, 1), (8, .aload_n 0, 1), (9, .getfield 33, 3), (12, .invokevirtual 140, 3), (15, .aload_n 0, 1), (16, .getfield 33, 3), (19, .bipush 40, 2), (21, .invokevirtual 124, 3), (24, .aload_n 0, 1), (25, .invokevirtual 177, 3), (28, .aload_n 0, 1), (29, .aload_n 0, 1), (30, .getfield 130, 3), (33, .iload_n 1, 1), (34, .invokevirtual 203, 3), (37, .aload_n 0, 1), (38, .getfield 33, 3), (41, .bipush 44, 2), (43, .invokevirtual 180, 3), (46, .aload_n 0, 1), (47, .getfield 48, 3), (50, .iconst 0, 1), (51, .invokevirtual 208, 3), (54, .istore_n 2, 1), (55, .aload_n 0, 1), (56, .iconst 0, 1), (57, .aload_n 0, 1), (58, .getfield 94, 3), (61, .iload_n 2, 1), (62, .invokestatic 185, 3), (65, .aload_n 0, 1), (66, .getfield 97, 3), (69, .iload_n 2, 1), (70, .invokestatic 185, 3), (73, .invokevirtual 147, 3), (76, .aload_n 0, 1), (77, .getfield 47, 3), (80, .bipush 22, 2), (82, .iload_n 2, 1), (83, .aload_n 0, 1), (84, .getfield 94, 3), (87, .aload_n 0, 1), (88, .getfield 97, 3), (91, .invokevirtual 100, 3), (94, .aload_n 0, 1), (95, .getfield 33, 3), (98, .bipush 44, 2), (100, .invokevirtual 180, 3), (103, .aload_n 0, 1), (104, .getfield 48, 3), (107, .iconst 0, 1), (108, .invokevirtual 208, 3), (111, .istore_n 3, 1), (112, .aload_n 0, 1), (113, .getfield 48, 3), (116, .iload_n 2, 1), (117, .invokevirtual 213, 3)]
def vt_i85_1 : List (Nat × Instr × Nat) := [(120, .aload_n 0, 1), (121, .iconst 0, 1), (122, .aload_n 0, 1), (123, .getfield 94, 3), (126, .iload_n 3, 1), (127, .invokestatic 183, 3), (130, .aload_n 0, 1), (131, .getfield 97, 3), (134, .iload_n 3, 1), (135, .invokestatic 183, 3), (138, .invokevirtual 147, 3), (141, .aload_n 0, 1), (142, .getfield 47, 3), (145, .bipush 23, 2), (147, .iload_n 3, 1), (148, .aload_n 0, 1), (149, .getfield 94, 3), (152, .aload_n 0, 1), (153, .getfield 97, 3), (156, .invokevirtual 100, 3), (159, .aload_n 0, 1), (160, .getfield 33, 3), (163, .bipush 41, 2), (165, .invokevirtual 191, 3), (168, .return_, 1)]
def vt_i85 : List (Nat × Instr × Nat) := vt_i85_0 ++ (vt_i85_1)
theorem vt_o85_0 : vt_chk (prog_6_method_20_code, vt_i85_0) = true := by sorry
theorem vt_o85_1 : vt_chk (prog_6_method_20_code, vt_i85_1) = true := by sorry
theorem vt_o85 : vt_chk (prog_6_method_20_code, vt_i85) = true := (vt_app vt_o85_0 vt_o85_1)
-- 86: VitalTwin$Expressions.levelOfNext (I)I
def vt_i86 : List (Nat × Instr × Nat) := [(0, .aload_n 0, 1), (1, .getfield 33, 3), (4, .getfield 65, 3), (7, .invokestatic 117, 3), (10, .istore_n 2, 1), (11, .iload_n 2, 1), (12, .iconst 3, 1), (13, .if_icmp .ne 31, 3), (16, .iload_n 1, 1), (17, .istore_n 3, 1), (18, .iload_n 3, 1), (19, .aload_n 0, 1), (20, .getfield 52, 3), (23, .if_icmp .ge 21, 3), (26, .aload_n 0, 1), (27, .getfield 15, 3), (30, .iload_n 3, 1), (31, .iaload, 1), (32, .iconst 3, 1), (33, .if_icmp .ne 5, 3), (36, .iconst 0, 1), (37, .ireturn, 1), (38, .iinc 3 1, 3), (41, .goto (-23), 3), (44, .iload_n 2, 1), (45, .ireturn, 1)]
theorem vt_o86 : vt_chk (prog_6_method_4_code, vt_i86) = true := by sorry
-- 87: VitalTwin$Expressions.levelOf (I)I
def vt_i87 : List (Nat × Instr × Nat) := [(0, .iload_n 0, 1), (1, .lookupswitch 125 #[(37, 123), (42, 123), (43, 121), (45, 121), (47, 123), (60, 119), (62, 119), (129, 119), (130, 119), (131, 119), (132, 119), (133, 117), (134, 115)], 115), (116, .iconst 1, 1), (117, .ireturn, 1), (118, .iconst 2, 1), (119, .ireturn, 1), (120, .iconst 3, 1), (121, .ireturn, 1), (122, .iconst 4, 1), (123, .ireturn, 1), (124, .iconst 5, 1), (125, .ireturn, 1), (126, .iconst 0, 1), (127, .ireturn, 1)]
theorem vt_o87 : vt_chk (prog_6_method_5_code, vt_i87) = true := by sorry
-- 88: VitalTwin$Expressions.finish ()V
def vt_i88_0 : List (Nat × Instr × Nat) := [(0, .aload_n 0, 1), (1, .getfield 21, 3), (4, .aload_n 0, 1), (5, .getfield 52, 3), (8, .iaload, 1), (9, .istore_n 1, 1), (10, .aload_n 0, 1), (11, .getfield 15, 3), (14, .aload_n 0, 1), (15, .getfield 52, 3), (18, .iaload, 1), (19, .tableswitch 196 1 6 #[97, 97, 122, 196, 196, 37], 37), (56, .aload_n 0, 1), (57, .aload_n 0, 1), (58, .getfield 130, 3), (61, .aload_n 0, 1), (62, .getfield 11, 3), (65, .aload_n 0, 1), (66, .getfield 52, 3), (69, .iaload, 1), (70, .bipush 45, 2), (72, .if_icmp .ne 7, 3), (75, .iconst 0, 1), (76, .goto 4, 3), (79, .iconst 1, 1), (80, .if_icmp .ne 7, 3), (83, .iconst 1, 1), (84, .goto 4, 3), (87, .iconst 0, 1), (88, .invokevirtual 143, 3), (91, .aload_n 0, 1), (92, .getfield 130, 3), (95, .ifCond .ne 173, 3), (98, .aload_n 0, 1), (99, .iconst 0, 1), (100, .aload_n 0, 1), (101, .getfield 97, 3), (104, .ineg, 1), (105, .aload_n 0, 1), (106, .getfield 94, 3), (109, .ineg, 1), (110, .invokevirtual 147, 3), (113, .goto 155, 3), (116, .aload_n 0, 1), (117, .iload_n 1, 1), (118, .iconst 1, 1), (119, .if_icmp .ne 15, 3), (122, .aload_n 0, 1), (123, .getfield 130, 3), (126, .iconst 1, 1), (127, .if_icmp .ne 7, 3), (130, .iconst 1, 1), (131, .goto 4, 3), (134, .iconst 0, 1), (135, .invokevirtual 143, 3), (138, .goto 130, 3), (141, .aload_n 0, 1), (142, .getfield 11, 3), (145, .aload_n 0, 1), (146, .getfield 52, 3)]
def vt_i88_1 : List (Nat × Instr × Nat) := [(149, .iaload, 1), (150, .sipush 131, 3), (153, .if_icmp .eq 18, 3), (156, .aload_n 0, 1), (157, .getfield 11, 3), (160, .aload_n 0, 1), (161, .getfield 52, 3), (164, .iaload, 1), (165, .sipush 132, 3), (168, .if_icmp .ne 7, 3), (171, .iconst 1, 1), (172, .goto 4, 3), (175, .iconst 0, 1), (176, .istore_n 2, 1), (177, .aload_n 0, 1), (178, .iload_n 1, 1), (179, .aload_n 0, 1), (180, .getfield 130, 3), (183, .if_icmp .ne 18, 3), (186, .iload_n 2, 1), (187, .ifCond .ne 10, 3), (190, .aload_n 0, 1), (191, .getfield 130, 3), (194, .ifCond .ne 7, 3), (197, .iconst 1, 1), (198, .goto 4, 3), (201, .iconst 0, 1), (202, .invokevirtual 143, 3), (205, .aload_n 0, 1), (206, .iconst 1, 1), (207, .iconst 0, 1), (208, .iconst 1, 1), (209, .invokevirtual 147, 3), (212, .goto 56, 3), (215, .aload_n 0, 1), (216, .iload_n 1, 1), (217, .ifCond .ne 14, 3), (220, .aload_n 0, 1), (221, .getfield 130, 3), (224, .ifCond .ne 7, 3), (227, .iconst 1, 1), (228, .goto 4, 3), (231, .iconst 0, 1), (232, .invokevirtual 143, 3), (235, .aload_n 0, 1), (236, .aload_n 0, 1), (237, .getfield 11, 3), (240, .aload_n 0, 1), (241, .getfield 52, 3), (244, .iaload, 1), (245, .aload_n 0, 1), (246, .getfield 24, 3), (249, .aload_n 0, 1), (250, .getfield 52, 3), (253, .iaload, 1), (254, .i2l, 1), (255, .aload_n 0, 1), (256, .getfield 27, 3), (259, .aload_n 0, 1), (260, .getfield 52, 3)]
def vt_i88_2 : List (Nat × Instr × Nat) := [(263, .iaload, 1), (264, .i2l, 1), (265, .invokevirtual 149, 3), (268, .return_, 1)]
def vt_i88 : List (Nat × Instr × Nat) := vt_i88_0 ++ (vt_i88_1 ++ (vt_i88_2))
theorem vt_o88_0 : vt_chk (prog_6_method_9_code, vt_i88_0) = true := by sorry
theorem vt_o88_1 : vt_chk (prog_6_method_9_code, vt_i88_1) = true := by sorry
theorem vt_o88_2 : vt_chk (prog_6_method_9_code, vt_i88_2) = true := by sorry
theorem vt_o88 : vt_chk (prog_6_method_9_code, vt_i88) = true := (vt_app vt_o88_0 (vt_app vt_o88_1 vt_o88_2))
-- 89: VitalTwin$Expressions.askType (Z)V
def vt_i89 : List (Nat × Instr × Nat) := [(0, .iload_n 1, 1), (1, .ifCond .ne 20, 3), (4, .aload_n 0, 1), (5, .getfield 33, 3), (8, .iconst 5, 1), (9, .aload_n 0, 1), (10, .getfield 18, 3), (13, .aload_n 0, 1), (14, .getfield 52, 3), (17, .iaload, 1), (18, .invokevirtual 127, 3), (21, .return_, 1)]
theorem vt_o89 : vt_chk (prog_6_method_10_code, vt_i89) = true := by sorry
end
section
/-! instructions of the methods 90 to 139, printed by wip/whole/tools/gen14.py out of the claim: each list is what decode gives -/
-- 90: VitalTwin$Expressions.finishSum (IJJ)V
def vt_i90_0 : List (Nat × Instr × Nat) := [(0, .iload_n 1, 1), (1, .bipush 47, 2), (3, .if_icmp .eq 9, 3), (6, .iload_n 1, 1), (7, .bipush 37, 2), (9, .if_icmp .ne 35, 3), (12, .aload_n 0, 1), (13, .getfield 94, 3), (16, .ifCond .gt 28, 3), (19, .aload_n 0, 1), (20, .getfield 97, 3), (23, .ifCond .lt 21, 3), (26, .aload_n 0, 1), (27, .getfield 33, 3), (30, .bipush 7, 2), (32, .aload_n 0, 1), (33, .getfield 18, 3), (36, .aload_n 0, 1), (37, .getfield 52, 3), (40, .iaload, 1), (41, .invokevirtual 127, 3), (44, .iload_n 1, 1), (45, .lload_n 2, 1), (46, .aload_n 0, 1), (47, .getfield 94, 3), (50, .i2l, 1), (51, .invokestatic 153, 3), (54, .lstore 6, 2), (56, .iload_n 1, 1), (57, .lload_n 2, 1), (58, .aload_n 0, 1), (59, .getfield 97, 3), (62, .i2l, 1), (63, .invokestatic 153, 3), (66, .lstore 8, 2), (68, .iload_n 1, 1), (69, .lload 4, 2), (71, .aload_n 0, 1), (72, .getfield 94, 3), (75, .i2l, 1), (76, .invokestatic 153, 3), (79, .lstore 10, 2), (81, .iload_n 1, 1), (82, .lload 4, 2), (84, .aload_n 0, 1), (85, .getfield 97, 3), (88, .i2l, 1), (89, .invokestatic 153, 3), (92, .lstore 12, 2), (94, .lload 6, 2), (96, .lload 8, 2), (98, .invokestatic 157, 3), (101, .lload 10, 2), (103, .lload 12, 2), (105, .invokestatic 157, 3), (108, .invokestatic 157, 3), (111, .lstore 14, 2), (113, .lload 6, 2), (115, .lload 8, 2), (117, .invokestatic 163, 3)]
def vt_i90_1 : List (Nat × Instr × Nat) := [(120, .lload 10, 2), (122, .lload 12, 2), (124, .invokestatic 163, 3), (127, .invokestatic 163, 3), (130, .lstore 16, 2), (132, .iload_n 1, 1), (133, .bipush 37, 2), (135, .if_icmp .ne 65, 3), (138, .aload_n 0, 1), (139, .getfield 94, 3), (142, .i2l, 1), (143, .invokestatic 166, 3), (146, .aload_n 0, 1), (147, .getfield 97, 3), (150, .i2l, 1), (151, .invokestatic 166, 3), (154, .invokestatic 163, 3), (157, .lconst 1, 1), (158, .lsub, 1), (159, .lstore 18, 2), (161, .lload_n 2, 1), (162, .lconst 0, 1), (163, .lcmp, 1), (164, .ifCond .ge 13, 3), (167, .lload 18, 2), (169, .lneg, 1), (170, .lload_n 2, 1), (171, .invokestatic 163, 3), (174, .goto 4, 3), (177, .lconst 0, 1), (178, .lstore 14, 2), (180, .lload 4, 2), (182, .lconst 0, 1), (183, .lcmp, 1), (184, .ifCond .le 13, 3), (187, .lload 18, 2), (189, .lload 4, 2), (191, .invokestatic 157, 3), (194, .goto 4, 3), (197, .lconst 0, 1), (198, .lstore 16, 2), (200, .lload 14, 2), (202, .ldc2_w 170, 3), (205, .lcmp, 1), (206, .ifCond .lt 12, 3), (209, .lload 16, 2), (211, .ldc2_w 172, 3), (214, .lcmp, 1), (215, .ifCond .le 21, 3), (218, .aload_n 0, 1), (219, .getfield 33, 3), (222, .bipush 8, 2), (224, .aload_n 0, 1), (225, .getfield 18, 3), (228, .aload_n 0, 1), (229, .getfield 52, 3), (232, .iaload, 1), (233, .invokevirtual 127, 3), (236, .aload_n 0, 1), (237, .lload 14, 2)]
def vt_i90_2 : List (Nat × Instr × Nat) := [(239, .l2i, 1), (240, .putfield 94, 3), (243, .aload_n 0, 1), (244, .lload 16, 2), (246, .l2i, 1), (247, .putfield 97, 3), (250, .return_, 1)]
def vt_i90 : List (Nat × Instr × Nat) := vt_i90_0 ++ (vt_i90_1 ++ (vt_i90_2))
theorem vt_o90_0 : vt_chk (prog_6_method_13_code, vt_i90_0) = true := by sorry
theorem vt_o90_1 : vt_chk (prog_6_method_13_code, vt_i90_1) = true := by sorry
theorem vt_o90_2 : vt_chk (prog_6_method_13_code, vt_i90_2) = true := by sorry
theorem vt_o90 : vt_chk (prog_6_method_13_code, vt_i90) = true := (vt_app vt_o90_0 (vt_app vt_o90_1 vt_o90_2))
-- 91: VitalTwin$Expressions.result (IJJ)J
def vt_i91 : List (Nat × Instr × Nat) := [(0, .iload_n 0, 1), (1, .tableswitch 43 42 45 #[39, 31, 43, 35], 31), (32, .lload_n 1, 1), (33, .lload_n 3, 1), (34, .ladd, 1), (35, .lreturn, 1), (36, .lload_n 1, 1), (37, .lload_n 3, 1), (38, .lsub, 1), (39, .lreturn, 1), (40, .lload_n 1, 1), (41, .lload_n 3, 1), (42, .lmul, 1), (43, .lreturn, 1), (44, .lload_n 3, 1), (45, .lconst 0, 1), (46, .lcmp, 1), (47, .ifCond .ne 7, 3), (50, .lconst 0, 1), (51, .goto 6, 3), (54, .lload_n 1, 1), (55, .lload_n 3, 1), (56, .ldiv, 1), (57, .lreturn, 1)]
theorem vt_o91 : vt_chk (prog_6_method_14_code, vt_i91) = true := by sorry
-- 92: VitalTwin$Code.land (I)V
def vt_i92 : List (Nat × Instr × Nat) := [(0, .aload_n 0, 1), (1, .iload_n 1, 1), (2, .invokevirtual 126, 3), (5, .ifCond .eq 13, 3), (8, .aload_n 0, 1), (9, .getfield 15, 3), (12, .iload_n 1, 1), (13, .aload_n 0, 1), (14, .getfield 42, 3), (17, .iastore, 1), (18, .return_, 1)]
theorem vt_o92 : vt_chk (prog_2_method_22_code, vt_i92) = true := by sorry
-- 93: VitalTwin$Code.has (I)Z
def vt_i93 : List (Nat × Instr × Nat) := [(0, .iload_n 1, 1), (1, .ifCond .lt 24, 3), (4, .iload_n 1, 1), (5, .aload_n 0, 1), (6, .getfield 42, 3), (9, .if_icmp .ge 16, 3), (12, .iload_n 1, 1), (13, .aload_n 0, 1), (14, .getfield 9, 3), (17, .arraylength, 1), (18, .if_icmp .ge 7, 3), (21, .iconst 1, 1), (22, .goto 4, 3), (25, .iconst 0, 1), (26, .ireturn, 1)]
theorem vt_o93 : vt_chk (prog_2_method_5_code, vt_i93) = true := by sorry
-- 94: VitalTwin$Expressions.opOf (IZ)I
def vt_i94 : List (Nat × Instr × Nat) := [(0, .iload_n 0, 1), (1, .lookupswitch 141 #[(37, 120), (42, 114), (43, 99), (45, 102), (47, 117), (60, 123), (62, 129), (129, 126), (130, 132), (131, 135), (132, 138)], 99), (100, .bipush 6, 2), (102, .ireturn, 1), (103, .iload_n 1, 1), (104, .ifCond .eq 8, 3), (107, .bipush 19, 2), (109, .goto 5, 3), (112, .bipush 7, 2), (114, .ireturn, 1), (115, .bipush 8, 2), (117, .ireturn, 1), (118, .bipush 9, 2), (120, .ireturn, 1), (121, .bipush 10, 2), (123, .ireturn, 1), (124, .bipush 13, 2), (126, .ireturn, 1), (127, .bipush 14, 2), (129, .ireturn, 1), (130, .bipush 15, 2), (132, .ireturn, 1), (133, .bipush 16, 2), (135, .ireturn, 1), (136, .bipush 17, 2), (138, .ireturn, 1), (139, .bipush 18, 2), (141, .ireturn, 1), (142, .bipush 21, 2), (144, .ireturn, 1)]
theorem vt_o94 : vt_chk (prog_6_method_12_code, vt_i94) = true := by sorry
-- 95: VitalTwin$Expressions.begin (I)V
def vt_i95 : List (Nat × Instr × Nat) := [(0, .iconst (-1), 1), (1, .istore_n 2, 1), (2, .iload_n 1, 1), (3, .iconst 2, 1), (4, .if_icmp .gt 27, 3), (7, .aload_n 0, 1), (8, .getfield 47, 3), (11, .iload_n 1, 1), (12, .iconst 1, 1), (13, .if_icmp .ne 8, 3), (16, .bipush 26, 2), (18, .goto 5, 3), (21, .bipush 25, 2), (23, .iconst 0, 1), (24, .invokevirtual 133, 3), (27, .istore_n 2, 1), (28, .goto 19, 3), (31, .aload_n 0, 1), (32, .getfield 47, 3), (35, .aload_n 0, 1), (36, .getfield 94, 3), (39, .aload_n 0, 1), (40, .getfield 97, 3), (43, .invokevirtual 137, 3), (46, .pop, 1), (47, .aload_n 0, 1), (48, .iload_n 1, 1), (49, .iload_n 2, 1), (50, .invokevirtual 120, 3), (53, .aload_n 0, 1), (54, .getfield 33, 3), (57, .invokevirtual 140, 3), (60, .return_, 1)]
theorem vt_o95 : vt_chk (prog_6_method_8_code, vt_i95) = true := by sorry
-- 96: VitalTwin$Code.add (II)I
def vt_i96 : List (Nat × Instr × Nat) := [(0, .aload_n 0, 1), (1, .iload_n 1, 1), (2, .iload_n 2, 1), (3, .iconst 0, 1), (4, .iconst 1, 1), (5, .iconst 0, 1), (6, .iconst 0, 1), (7, .invokevirtual 86, 3), (10, .aload_n 0, 1), (11, .getfield 42, 3), (14, .iconst 1, 1), (15, .isub, 1), (16, .ireturn, 1)]
theorem vt_o96 : vt_chk (prog_2_method_8_code, vt_i96) = true := by sorry
-- 97: VitalTwin$Expressions.choice ()V
def vt_i97_0 : List (Nat × Instr × Nat) := [(0, .aload_n 0, 1), (1, .getfield 33, 3), (4, .getfield 56, 3), (7, .istore_n 1, 1), (8, .aload_n 0, 1), (9, .getfield 130, 3), (12, .istore_n 2, 1), (13, .aload_n 0, 1), (14, .getfield 33, 3), (17, .bipush 63, 2), (19, .invokevirtual 124, 3), (22, .aload_n 0, 1), (23, .getfield 47, 3), (26, .bipush 25, 2), (28, .iconst 0, 1), (29, .invokevirtual 133, 3), (32, .istore_n 3, 1), (33, .aload_n 0, 1), (34, .getfield 47, 3), (37, .getfield 174, 3), (40, .istore 4, 2), (42, .aload_n 0, 1), (43, .invokevirtual 177, 3), (46, .aload_n 0, 1), (47, .getfield 130, 3), (50, .istore 5, 2), (52, .aload_n 0, 1), (53, .getfield 94, 3), (56, .istore 6, 2), (58, .aload_n 0, 1), (59, .getfield 97, 3), (62, .istore 7, 2), (64, .aload_n 0, 1), (65, .getfield 33, 3), (68, .bipush 58, 2), (70, .invokevirtual 180, 3), (73, .aload_n 0, 1), (74, .getfield 47, 3), (77, .bipush 24, 2), (79, .iconst 0, 1), (80, .invokevirtual 133, 3), (83, .istore 8, 2), (85, .aload_n 0, 1), (86, .getfield 47, 3), (89, .getfield 174, 3), (92, .istore 9, 2), (94, .aload_n 0, 1), (95, .getfield 47, 3), (98, .iload 4, 2), (100, .putfield 174, 3), (103, .aload_n 0, 1), (104, .getfield 47, 3), (107, .iload_n 3, 1), (108, .invokevirtual 81, 3), (111, .aload_n 0, 1), (112, .invokevirtual 177, 3), (115, .iload_n 2, 1), (116, .iconst 1, 1), (117, .if_icmp .ne 12, 3), (120, .iload 5, 2)]
def vt_i97_1 : List (Nat × Instr × Nat) := [(122, .aload_n 0, 1), (123, .getfield 130, 3), (126, .if_icmp .eq 12, 3), (129, .aload_n 0, 1), (130, .getfield 33, 3), (133, .iconst 5, 1), (134, .iload_n 1, 1), (135, .invokevirtual 127, 3), (138, .aload_n 0, 1), (139, .getfield 33, 3), (142, .dup, 1), (143, .getfield 87, 3), (146, .iconst 1, 1), (147, .isub, 1), (148, .putfield 87, 3), (151, .aload_n 0, 1), (152, .aload_n 0, 1), (153, .getfield 130, 3), (156, .iload 6, 2), (158, .aload_n 0, 1), (159, .getfield 94, 3), (162, .invokestatic 183, 3), (165, .iload 7, 2), (167, .aload_n 0, 1), (168, .getfield 97, 3), (171, .invokestatic 185, 3), (174, .invokevirtual 147, 3), (177, .aload_n 0, 1), (178, .getfield 47, 3), (181, .iload 8, 2), (183, .invokevirtual 81, 3), (186, .aload_n 0, 1), (187, .getfield 47, 3), (190, .iload 9, 2), (192, .aload_n 0, 1), (193, .getfield 47, 3), (196, .getfield 174, 3), (199, .invokestatic 185, 3), (202, .putfield 174, 3), (205, .return_, 1)]
def vt_i97 : List (Nat × Instr × Nat) := vt_i97_0 ++ (vt_i97_1)
theorem vt_o97_0 : vt_chk (prog_6_method_15_code, vt_i97_0) = true := by sorry
theorem vt_o97_1 : vt_chk (prog_6_method_15_code, vt_i97_1) = true := by sorry
theorem vt_o97 : vt_chk (prog_6_method_15_code, vt_i97) = true := (vt_app vt_o97_0 vt_o97_1)
-- 98: VitalTwin$Code.store (LVitalTwin$Symbol;I)V
def vt_i98 : List (Nat × Instr × Nat) := [(0, .aload_n 0, 1), (1, .iconst 2, 1), (2, .aload_n 1, 1), (3, .getfield 93, 3), (6, .iload_n 2, 1), (7, .iadd, 1), (8, .iconst 0, 1), (9, .iconst 1, 1), (10, .iconst 0, 1), (11, .aload_n 1, 1), (12, .invokestatic 96, 3), (15, .invokevirtual 86, 3), (18, .return_, 1)]
theorem vt_o98 : vt_chk (prog_2_method_13_code, vt_i98) = true := by sorry
-- 99: VitalTwin$Statements.condition ()V
def vt_i99 : List (Nat × Instr × Nat) := [(0, .aload_n 0, 1), (1, .getfield 35, 3), (4, .invokevirtual 62, 3), (7, .aload_n 0, 1), (8, .getfield 35, 3), (11, .iconst 1, 1), (12, .iconst 0, 1), (13, .iconst 1, 1), (14, .invokevirtual 76, 3), (17, .return_, 1)]
theorem vt_o99 : vt_chk (prog_11_method_5_code, vt_i99) = true := by sorry
-- 100: VitalTwin$Statements.cases ()V
def vt_i100_0 : List (Nat × Instr × Nat) := [(0, .aload_n 0, 1), (1, .getfield 9, 3), (4, .invokevirtual 89, 3), (7, .aload_n 0, 1), (8, .getfield 9, 3), (11, .bipush 40, 2), (13, .invokevirtual 46, 3), (16, .aload_n 0, 1), (17, .getfield 35, 3), (20, .invokevirtual 62, 3), (23, .aload_n 0, 1), (24, .getfield 35, 3), (27, .getfield 230, 3), (30, .istore_n 1, 1), (31, .iload_n 1, 1), (32, .iconst 1, 1), (33, .if_icmp .ne 18, 3), (36, .aload_n 0, 1), (37, .getfield 9, 3), (40, .iconst 5, 1), (41, .aload_n 0, 1), (42, .getfield 35, 3), (45, .getfield 231, 3), (48, .invokevirtual 128, 3), (51, .aload_n 0, 1), (52, .getfield 9, 3), (55, .bipush 41, 2), (57, .invokevirtual 80, 3), (60, .aload_n 0, 1), (61, .getfield 25, 3), (64, .aload_n 0, 1), (65, .getfield 35, 3), (68, .getfield 198, 3), (71, .aload_n 0, 1), (72, .getfield 35, 3), (75, .getfield 199, 3), (78, .invokevirtual 200, 3), (81, .istore_n 2, 1), (82, .aload_n 0, 1), (83, .getfield 9, 3), (86, .bipush 123, 2), (88, .invokevirtual 46, 3), (91, .iconst (-1), 1), (92, .istore_n 3, 1), (93, .iconst 0, 1), (94, .istore 4, 2), (96, .iconst 0, 1), (97, .istore 5, 2), (99, .iload 5, 2), (101, .ldc 52, 2), (103, .if_icmp .ge 106, 3), (106, .aload_n 0, 1), (107, .getfield 9, 3), (110, .getfield 53, 3), (113, .bipush 125, 2), (115, .if_icmp .eq 94, 3), (118, .aload_n 0, 1), (119, .getfield 9, 3), (122, .getfield 53, 3), (125, .sipush 208, 3)]
def vt_i100_1 : List (Nat × Instr × Nat) := [(128, .if_icmp .eq 81, 3), (131, .aload_n 0, 1), (132, .iload_n 1, 1), (133, .iload_n 2, 1), (134, .invokevirtual 234, 3), (137, .istore 6, 2), (139, .aload_n 0, 1), (140, .getfield 25, 3), (143, .getfield 209, 3), (146, .istore 7, 2), (148, .aload_n 0, 1), (149, .aload_n 0, 1), (150, .getfield 15, 3), (153, .getfield 212, 3), (156, .aconst_null, 1), (157, .invokevirtual 215, 3), (160, .aload_n 0, 1), (161, .getfield 25, 3), (164, .bipush 24, 2), (166, .iload_n 3, 1), (167, .invokevirtual 95, 3), (170, .istore_n 3, 1), (171, .iload 4, 2), (173, .aload_n 0, 1), (174, .getfield 25, 3), (177, .getfield 209, 3), (180, .invokestatic 219, 3), (183, .istore 4, 2), (185, .aload_n 0, 1), (186, .getfield 25, 3), (189, .iload 7, 2), (191, .putfield 209, 3), (194, .aload_n 0, 1), (195, .getfield 25, 3), (198, .iload 6, 2), (200, .invokevirtual 227, 3), (203, .iinc 5 1, 3), (206, .goto (-107), 3), (209, .aload_n 0, 1), (210, .getfield 9, 3), (213, .getfield 53, 3), (216, .sipush 208, 3), (219, .if_icmp .ne 22, 3), (222, .aload_n 0, 1), (223, .getfield 9, 3), (226, .invokevirtual 89, 3), (229, .aload_n 0, 1), (230, .aload_n 0, 1), (231, .getfield 15, 3), (234, .getfield 212, 3), (237, .aconst_null, 1), (238, .invokevirtual 215, 3), (241, .aload_n 0, 1), (242, .getfield 9, 3), (245, .bipush 125, 2), (247, .invokevirtual 80, 3), (250, .aload_n 0, 1), (251, .getfield 25, 3), (254, .iload_n 3, 1), (255, .invokevirtual 227, 3)]
def vt_i100_2 : List (Nat × Instr × Nat) := [(258, .aload_n 0, 1), (259, .getfield 25, 3), (262, .iload 4, 2), (264, .aload_n 0, 1), (265, .getfield 25, 3), (268, .getfield 209, 3), (271, .invokestatic 219, 3), (274, .putfield 209, 3), (277, .aload_n 0, 1), (278, .getfield 25, 3), (281, .iload_n 2, 1), (282, .putfield 192, 3), (285, .return_, 1)]
def vt_i100 : List (Nat × Instr × Nat) := vt_i100_0 ++ (vt_i100_1 ++ (vt_i100_2))
theorem vt_o100_0 : vt_chk (prog_11_method_12_code, vt_i100_0) = true := by sorry
theorem vt_o100_1 : vt_chk (prog_11_method_12_code, vt_i100_1) = true := by sorry
theorem vt_o100_2 : vt_chk (prog_11_method_12_code, vt_i100_2) = true := by sorry
theorem vt_o100 : vt_chk (prog_11_method_12_code, vt_i100) = true := (vt_app vt_o100_0 (vt_app vt_o100_1 vt_o100_2))
-- 101: VitalTwin$Statements.arm (II)I
def vt_i101_0 : List (Nat × Instr × Nat) := [(0, .aload_n 0, 1), (1, .getfield 26, 3), (4, .iload_n 1, 1), (5, .invokevirtual 237, 3), (8, .istore_n 3, 1), (9, .aload_n 0, 1), (10, .getfield 9, 3), (13, .getfield 53, 3), (16, .sipush 128, 3), (19, .if_icmp .ne 7, 3), (22, .iconst 1, 1), (23, .goto 4, 3), (26, .iconst 0, 1), (27, .istore 4, 2), (29, .iload 4, 2), (31, .ifCond .eq 22, 3), (34, .iload_n 1, 1), (35, .ifCond .eq 18, 3), (38, .aload_n 0, 1), (39, .getfield 9, 3), (42, .iconst 4, 1), (43, .aload_n 0, 1), (44, .getfield 9, 3), (47, .getfield 110, 3), (50, .invokevirtual 128, 3), (53, .aload_n 0, 1), (54, .iload_n 3, 1), (55, .iload_n 2, 1), (56, .iload 4, 2), (58, .ifCond .eq 8, 3), (61, .bipush 16, 2), (63, .goto 5, 3), (66, .bipush 17, 2), (68, .iconst (-1), 1), (69, .invokevirtual 241, 3), (72, .istore 5, 2), (74, .iload 4, 2), (76, .ifCond .eq 41, 3), (79, .aload_n 0, 1), (80, .getfield 9, 3), (83, .invokevirtual 89, 3), (86, .aload_n 0, 1), (87, .getfield 26, 3), (90, .iconst 0, 1), (91, .invokevirtual 237, 3), (94, .istore 6, 2), (96, .aload_n 0, 1), (97, .getfield 26, 3), (100, .iload_n 3, 1), (101, .invokevirtual 245, 3), (104, .aload_n 0, 1), (105, .iload 6, 2), (107, .iload_n 2, 1), (108, .bipush 14, 2), (110, .iload 5, 2), (112, .invokevirtual 241, 3), (115, .istore 5, 2), (117, .aload_n 0, 1), (118, .getfield 9, 3), (121, .bipush 58, 2)]
def vt_i101_1 : List (Nat × Instr × Nat) := [(123, .invokevirtual 59, 3), (126, .iload 5, 2), (128, .ireturn, 1)]
def vt_i101 : List (Nat × Instr × Nat) := vt_i101_0 ++ (vt_i101_1)
theorem vt_o101_0 : vt_chk (prog_11_method_13_code, vt_i101_0) = true := by sorry
theorem vt_o101_1 : vt_chk (prog_11_method_13_code, vt_i101_1) = true := by sorry
theorem vt_o101 : vt_chk (prog_11_method_13_code, vt_i101) = true := (vt_app vt_o101_0 vt_o101_1)
-- 102: VitalTwin$Statements.test (IIII)I
def vt_i102 : List (Nat × Instr × Nat) := [(0, .aload_n 0, 1), (1, .getfield 25, 3), (4, .iconst 0, 1), (5, .iload_n 1, 1), (6, .iload_n 1, 1), (7, .iload_n 1, 1), (8, .invokevirtual 171, 3), (11, .aload_n 0, 1), (12, .getfield 25, 3), (15, .iconst 3, 1), (16, .iconst 0, 1), (17, .invokevirtual 95, 3), (20, .pop, 1), (21, .aload_n 0, 1), (22, .getfield 25, 3), (25, .iload_n 2, 1), (26, .invokevirtual 203, 3), (29, .aload_n 0, 1), (30, .getfield 25, 3), (33, .iload_n 3, 1), (34, .iconst 0, 1), (35, .iconst 0, 1), (36, .iconst 1, 1), (37, .invokevirtual 171, 3), (40, .aload_n 0, 1), (41, .getfield 25, 3), (44, .bipush 25, 2), (46, .iload 4, 2), (48, .invokevirtual 95, 3), (51, .ireturn, 1)]
theorem vt_o102 : vt_chk (prog_11_method_14_code, vt_i102) = true := by sorry
-- 103: VitalTwin$Code.loadTemp (I)V
def vt_i103 : List (Nat × Instr × Nat) := [(0, .iload_n 1, 1), (1, .ifCond .lt 14, 3), (4, .iload_n 1, 1), (5, .sipush 1024, 3), (8, .if_icmp .ge 7, 3), (11, .iconst 1, 1), (12, .goto 4, 3), (15, .iconst 0, 1), (16, .istore_n 2, 1), (17, .aload_n 0, 1), (18, .iconst 1, 1), (19, .iload_n 1, 1), (20, .iconst 0, 1), (21, .iload_n 2, 1), (22, .ifCond .eq 12, 3), (25, .aload_n 0, 1), (26, .getfield 36, 3), (29, .iload_n 1, 1), (30, .iaload, 1), (31, .goto 4, 3), (34, .iconst 0, 1), (35, .iload_n 2, 1), (36, .ifCond .eq 12, 3), (39, .aload_n 0, 1), (40, .getfield 39, 3), (43, .iload_n 1, 1), (44, .iaload, 1), (45, .goto 4, 3), (48, .iconst 0, 1), (49, .aload_n 0, 1), (50, .invokevirtual 109, 3), (53, .invokevirtual 86, 3), (56, .return_, 1)]
theorem vt_o103 : vt_chk (prog_2_method_17_code, vt_i103) = true := by sorry
-- 104: VitalTwin$Code.landAll (I)V
def vt_i104 : List (Nat × Instr × Nat) := [(0, .iload_n 1, 1), (1, .istore_n 2, 1), (2, .iconst 0, 1), (3, .istore_n 3, 1), (4, .iload_n 3, 1), (5, .ldc 130, 2), (7, .if_icmp .ge 38, 3), (10, .aload_n 0, 1), (11, .iload_n 2, 1), (12, .invokevirtual 126, 3), (15, .ifCond .eq 30, 3), (18, .aload_n 0, 1), (19, .getfield 15, 3), (22, .iload_n 2, 1), (23, .iaload, 1), (24, .istore 4, 2), (26, .aload_n 0, 1), (27, .getfield 15, 3), (30, .iload_n 2, 1), (31, .aload_n 0, 1), (32, .getfield 42, 3), (35, .iastore, 1), (36, .iload 4, 2), (38, .istore_n 2, 1), (39, .iinc 3 1, 3), (42, .goto (-38), 3), (45, .return_, 1)]
theorem vt_o104 : vt_chk (prog_2_method_23_code, vt_i104) = true := by sorry
-- 105: VitalTwin$Statements.ifs ()V
def vt_i105_0 : List (Nat × Instr × Nat) := [(0, .iconst (-1), 1), (1, .istore_n 1, 1), (2, .iconst 0, 1), (3, .istore_n 2, 1), (4, .iconst 1, 1), (5, .istore_n 3, 1), (6, .iconst 0, 1), (7, .istore 4, 2), (9, .iload 4, 2), (11, .ldc 52, 2), (13, .if_icmp .ge 193, 3), (16, .iload_n 3, 1), (17, .ifCond .eq 189, 3), (20, .aload_n 0, 1), (21, .getfield 9, 3), (24, .invokevirtual 89, 3), (27, .aload_n 0, 1), (28, .getfield 9, 3), (31, .bipush 40, 2), (33, .invokevirtual 46, 3), (36, .aload_n 0, 1), (37, .invokevirtual 92, 3), (40, .aload_n 0, 1), (41, .getfield 9, 3), (44, .bipush 41, 2), (46, .invokevirtual 80, 3), (49, .aload_n 0, 1), (50, .getfield 25, 3), (53, .bipush 25, 2), (55, .iconst 0, 1), (56, .invokevirtual 95, 3), (59, .istore 5, 2), (61, .aload_n 0, 1), (62, .getfield 25, 3), (65, .getfield 209, 3), (68, .istore 6, 2), (70, .aload_n 0, 1), (71, .aload_n 0, 1), (72, .getfield 15, 3), (75, .getfield 212, 3), (78, .aconst_null, 1), (79, .invokevirtual 215, 3), (82, .aload_n 0, 1), (83, .getfield 9, 3), (86, .getfield 53, 3), (89, .sipush 208, 3), (92, .if_icmp .ne 7, 3), (95, .iconst 1, 1), (96, .goto 4, 3), (99, .iconst 0, 1), (100, .istore 7, 2), (102, .iload 7, 2), (104, .ifCond .eq 42, 3), (107, .aload_n 0, 1), (108, .getfield 25, 3), (111, .bipush 24, 2), (113, .iload_n 1, 1), (114, .invokevirtual 95, 3), (117, .istore_n 1, 1), (118, .iload_n 2, 1)]
def vt_i105_1 : List (Nat × Instr × Nat) := [(119, .aload_n 0, 1), (120, .getfield 25, 3), (123, .getfield 209, 3), (126, .invokestatic 219, 3), (129, .istore_n 2, 1), (130, .aload_n 0, 1), (131, .getfield 25, 3), (134, .iload 6, 2), (136, .putfield 209, 3), (139, .aload_n 0, 1), (140, .getfield 9, 3), (143, .invokevirtual 89, 3), (146, .aload_n 0, 1), (147, .getfield 25, 3), (150, .iload 5, 2), (152, .invokevirtual 224, 3), (155, .iload 7, 2), (157, .ifCond .eq 20, 3), (160, .aload_n 0, 1), (161, .getfield 9, 3), (164, .getfield 53, 3), (167, .sipush 207, 3), (170, .if_icmp .ne 7, 3), (173, .iconst 1, 1), (174, .goto 4, 3), (177, .iconst 0, 1), (178, .istore_n 3, 1), (179, .iload 7, 2), (181, .ifCond .eq 19, 3), (184, .iload_n 3, 1), (185, .ifCond .ne 15, 3), (188, .aload_n 0, 1), (189, .aload_n 0, 1), (190, .getfield 15, 3), (193, .getfield 212, 3), (196, .aconst_null, 1), (197, .invokevirtual 215, 3), (200, .iinc 4 1, 3), (203, .goto (-194), 3), (206, .aload_n 0, 1), (207, .getfield 25, 3), (210, .iload_n 1, 1), (211, .invokevirtual 227, 3), (214, .aload_n 0, 1), (215, .getfield 25, 3), (218, .iload_n 2, 1), (219, .aload_n 0, 1), (220, .getfield 25, 3), (223, .getfield 209, 3), (226, .invokestatic 219, 3), (229, .putfield 209, 3), (232, .return_, 1)]
def vt_i105 : List (Nat × Instr × Nat) := vt_i105_0 ++ (vt_i105_1)
theorem vt_o105_0 : vt_chk (prog_11_method_11_code, vt_i105_0) = true := by sorry
theorem vt_o105_1 : vt_chk (prog_11_method_11_code, vt_i105_1) = true := by sorry
theorem vt_o105 : vt_chk (prog_11_method_11_code, vt_i105) = true := (vt_app vt_o105_0 vt_o105_1)
-- 106: VitalTwin$Statements.rounds ()V
def vt_i106_0 : List (Nat × Instr × Nat) := [(0, .aload_n 0, 1), (1, .getfield 9, 3), (4, .invokevirtual 89, 3), (7, .aload_n 0, 1), (8, .getfield 15, 3), (11, .bipush 7, 2), (13, .iconst 0, 1), (14, .aload_n 0, 1), (15, .getfield 9, 3), (18, .invokevirtual 146, 3), (21, .astore_n 1, 1), (22, .aload_n 0, 1), (23, .aload_n 1, 1), (24, .invokevirtual 158, 3), (27, .aload_n 0, 1), (28, .getfield 9, 3), (31, .bipush 61, 2), (33, .invokevirtual 59, 3), (36, .aload_n 0, 1), (37, .getfield 26, 3), (40, .iconst 0, 1), (41, .invokevirtual 237, 3), (44, .istore_n 2, 1), (45, .aload_n 0, 1), (46, .getfield 9, 3), (49, .sipush 211, 3), (52, .invokevirtual 59, 3), (55, .aload_n 0, 1), (56, .getfield 26, 3), (59, .iconst 0, 1), (60, .invokevirtual 237, 3), (63, .istore_n 3, 1), (64, .aload_n 0, 1), (65, .getfield 26, 3), (68, .iload_n 2, 1), (69, .invokevirtual 245, 3), (72, .aload_n 1, 1), (73, .iconst 0, 1), (74, .iload_n 2, 1), (75, .iload_n 3, 1), (76, .invokevirtual 248, 3), (79, .aload_n 1, 1), (80, .iconst 1, 1), (81, .putfield 178, 3), (84, .aload_n 0, 1), (85, .getfield 25, 3), (88, .iconst 0, 1), (89, .iload_n 2, 1), (90, .iload_n 2, 1), (91, .iload_n 2, 1), (92, .invokevirtual 171, 3), (95, .aload_n 0, 1), (96, .getfield 25, 3), (99, .aload_n 1, 1), (100, .iconst 0, 1), (101, .invokevirtual 175, 3), (104, .aload_n 0, 1), (105, .getfield 25, 3), (108, .getfield 209, 3), (111, .istore 4, 2)]
def vt_i106_1 : List (Nat × Instr × Nat) := [(113, .aload_n 0, 1), (114, .getfield 25, 3), (117, .getfield 251, 3), (120, .istore 5, 2), (122, .aload_n 0, 1), (123, .getfield 25, 3), (126, .iconst 0, 1), (127, .iload_n 3, 1), (128, .iload_n 3, 1), (129, .iload_n 3, 1), (130, .invokevirtual 171, 3), (133, .aload_n 0, 1), (134, .getfield 25, 3), (137, .iconst 3, 1), (138, .iconst 0, 1), (139, .invokevirtual 95, 3), (142, .pop, 1), (143, .aload_n 0, 1), (144, .getfield 25, 3), (147, .aload_n 1, 1), (148, .iload_n 2, 1), (149, .iload_n 3, 1), (150, .iconst 1, 1), (151, .iadd, 1), (152, .invokevirtual 254, 3), (155, .aload_n 0, 1), (156, .getfield 25, 3), (159, .bipush 14, 2), (161, .iconst 0, 1), (162, .iconst 0, 1), (163, .iconst 1, 1), (164, .invokevirtual 171, 3), (167, .aload_n 0, 1), (168, .getfield 25, 3), (171, .bipush 25, 2), (173, .iconst 0, 1), (174, .invokevirtual 95, 3), (177, .istore 6, 2), (179, .aload_n 0, 1), (180, .getfield 25, 3), (183, .getfield 209, 3), (186, .iload 4, 2), (188, .isub, 1), (189, .istore 7, 2), (191, .aload_n 0, 1), (192, .aload_n 1, 1), (193, .getfield 258, 3), (196, .aconst_null, 1), (197, .invokevirtual 215, 3), (200, .aload_n 0, 1), (201, .getfield 25, 3), (204, .iconst 0, 1), (205, .iconst 1, 1), (206, .iconst 1, 1), (207, .iconst 1, 1), (208, .invokevirtual 171, 3), (211, .aload_n 0, 1), (212, .getfield 25, 3), (215, .iconst 3, 1), (216, .iconst 0, 1)]
def vt_i106_2 : List (Nat × Instr × Nat) := [(217, .invokevirtual 95, 3), (220, .pop, 1), (221, .aload_n 0, 1), (222, .getfield 25, 3), (225, .aload_n 1, 1), (226, .iload_n 2, 1), (227, .iload_n 3, 1), (228, .invokevirtual 254, 3), (231, .aload_n 0, 1), (232, .getfield 25, 3), (235, .bipush 6, 2), (237, .iconst 0, 1), (238, .iload_n 2, 1), (239, .iconst 1, 1), (240, .iadd, 1), (241, .iload_n 3, 1), (242, .iconst 1, 1), (243, .iadd, 1), (244, .invokevirtual 171, 3), (247, .aload_n 0, 1), (248, .getfield 25, 3), (251, .aload_n 1, 1), (252, .iconst 0, 1), (253, .invokevirtual 175, 3), (256, .aload_n 0, 1), (257, .getfield 25, 3), (260, .bipush 24, 2), (262, .iload 5, 2), (264, .invokevirtual 95, 3), (267, .pop, 1), (268, .aload_n 0, 1), (269, .getfield 25, 3), (272, .iload 6, 2), (274, .invokevirtual 224, 3), (277, .iload_n 3, 1), (278, .i2l, 1), (279, .iload_n 2, 1), (280, .i2l, 1), (281, .lsub, 1), (282, .lstore 8, 2), (284, .aload_n 0, 1), (285, .getfield 25, 3), (288, .lload 8, 2), (290, .aload_n 0, 1), (291, .getfield 25, 3), (294, .getfield 209, 3), (297, .iload 4, 2), (299, .isub, 1), (300, .i2l, 1), (301, .lmul, 1), (302, .iload 7, 2), (304, .i2l, 1), (305, .ladd, 1), (306, .invokevirtual 261, 3), (309, .return_, 1)]
def vt_i106 : List (Nat × Instr × Nat) := vt_i106_0 ++ (vt_i106_1 ++ (vt_i106_2))
theorem vt_o106_0 : vt_chk (prog_11_method_15_code, vt_i106_0) = true := by sorry
theorem vt_o106_1 : vt_chk (prog_11_method_15_code, vt_i106_1) = true := by sorry
theorem vt_o106_2 : vt_chk (prog_11_method_15_code, vt_i106_2) = true := by sorry
theorem vt_o106 : vt_chk (prog_11_method_15_code, vt_i106) = true := (vt_app vt_o106_0 (vt_app vt_o106_1 vt_o106_2))
-- 107: VitalTwin$Statements.beginning ()LVitalTwin$Symbol;
def vt_i107 : List (Nat × Instr × Nat) := [(0, .aload_n 0, 1), (1, .getfield 9, 3), (4, .getfield 110, 3), (7, .istore_n 1, 1), (8, .aload_n 0, 1), (9, .getfield 15, 3), (12, .aload_n 0, 1), (13, .getfield 9, 3), (16, .invokevirtual 181, 3), (19, .astore_n 2, 1), (20, .aload_n 2, 1), (21, .ifnull 13, 3), (24, .aload_n 2, 1), (25, .getfield 117, 3), (28, .invokestatic 185, 3), (31, .ifCond .ne 14, 3), (34, .aload_n 0, 1), (35, .getfield 9, 3), (38, .iconst 3, 1), (39, .iload_n 1, 1), (40, .invokevirtual 128, 3), (43, .aconst_null, 1), (44, .areturn, 1), (45, .aload_n 0, 1), (46, .getfield 9, 3), (49, .invokevirtual 89, 3), (52, .aload_n 0, 1), (53, .getfield 35, 3), (56, .aload_n 2, 1), (57, .iload_n 1, 1), (58, .invokevirtual 189, 3), (61, .aload_n 2, 1), (62, .areturn, 1)]
theorem vt_o107 : vt_chk (prog_11_method_8_code, vt_i107) = true := by sorry
-- 108: VitalTwin$Statements.canBegin (I)Z
def vt_i108 : List (Nat × Instr × Nat) := [(0, .iload_n 0, 1), (1, .iconst 2, 1), (2, .if_icmp .eq 24, 3), (5, .iload_n 0, 1), (6, .iconst 3, 1), (7, .if_icmp .eq 19, 3), (10, .iload_n 0, 1), (11, .iconst 4, 1), (12, .if_icmp .eq 14, 3), (15, .iload_n 0, 1), (16, .iconst 5, 1), (17, .if_icmp .eq 9, 3), (20, .iload_n 0, 1), (21, .bipush 6, 2), (23, .if_icmp .ne 7, 3), (26, .iconst 1, 1), (27, .goto 4, 3), (30, .iconst 0, 1), (31, .ireturn, 1)]
theorem vt_o108 : vt_chk (prog_11_method_9_code, vt_i108) = true := by sorry
-- 109: VitalTwin$Statements.assign (LVitalTwin$Symbol;)V
def vt_i109_0 : List (Nat × Instr × Nat) := [(0, .aload_n 0, 1), (1, .getfield 25, 3), (4, .getfield 192, 3), (7, .istore_n 2, 1), (8, .aload_n 1, 1), (9, .getfield 160, 3), (12, .ifCond .eq 33, 3), (15, .aload_n 0, 1), (16, .getfield 35, 3), (19, .aload_n 1, 1), (20, .invokevirtual 195, 3), (23, .aload_n 0, 1), (24, .getfield 25, 3), (27, .aload_n 0, 1), (28, .getfield 35, 3), (31, .getfield 198, 3), (34, .aload_n 0, 1), (35, .getfield 35, 3), (38, .getfield 199, 3), (41, .invokevirtual 200, 3), (44, .pop, 1), (45, .aload_n 0, 1), (46, .getfield 9, 3), (49, .bipush 61, 2), (51, .invokevirtual 59, 3), (54, .aload_n 0, 1), (55, .getfield 35, 3), (58, .invokevirtual 62, 3), (61, .aload_n 0, 1), (62, .getfield 35, 3), (65, .aload_n 1, 1), (66, .getfield 65, 3), (69, .aload_n 1, 1), (70, .getfield 70, 3), (73, .aload_n 1, 1), (74, .getfield 73, 3), (77, .invokevirtual 76, 3), (80, .aload_n 1, 1), (81, .getfield 160, 3), (84, .ifCond .eq 72, 3), (87, .aload_n 0, 1), (88, .getfield 25, 3), (91, .aload_n 0, 1), (92, .getfield 35, 3), (95, .getfield 198, 3), (98, .aload_n 0, 1), (99, .getfield 35, 3), (102, .getfield 199, 3), (105, .invokevirtual 200, 3), (108, .pop, 1), (109, .aload_n 0, 1), (110, .getfield 25, 3), (113, .iload_n 2, 1), (114, .invokevirtual 203, 3), (117, .aload_n 0, 1), (118, .getfield 25, 3), (121, .iconst 3, 1), (122, .iconst 0, 1), (123, .invokevirtual 95, 3), (126, .pop, 1)]
def vt_i109_1 : List (Nat × Instr × Nat) := [(127, .aload_n 0, 1), (128, .getfield 25, 3), (131, .iload_n 2, 1), (132, .iconst 1, 1), (133, .iadd, 1), (134, .invokevirtual 203, 3), (137, .aload_n 0, 1), (138, .getfield 25, 3), (141, .aload_n 1, 1), (142, .invokevirtual 206, 3), (145, .aload_n 0, 1), (146, .getfield 25, 3), (149, .iload_n 2, 1), (150, .putfield 192, 3), (153, .goto 12, 3), (156, .aload_n 0, 1), (157, .getfield 25, 3), (160, .aload_n 1, 1), (161, .iconst 0, 1), (162, .invokevirtual 175, 3), (165, .return_, 1)]
def vt_i109 : List (Nat × Instr × Nat) := vt_i109_0 ++ (vt_i109_1)
theorem vt_o109_0 : vt_chk (prog_11_method_10_code, vt_i109_0) = true := by sorry
theorem vt_o109_1 : vt_chk (prog_11_method_10_code, vt_i109_1) = true := by sorry
theorem vt_o109 : vt_chk (prog_11_method_10_code, vt_i109) = true := (vt_app vt_o109_0 vt_o109_1)
-- 110: VitalTwin$Code.storeElement (LVitalTwin$Symbol;)V
def vt_i110 : List (Nat × Instr × Nat) := [(0, .aload_n 0, 1), (1, .iconst 5, 1), (2, .aload_n 1, 1), (3, .getfield 93, 3), (6, .aload_n 1, 1), (7, .getfield 100, 3), (10, .iconst 1, 1), (11, .iconst 0, 1), (12, .aload_n 1, 1), (13, .invokestatic 96, 3), (16, .invokevirtual 86, 3), (19, .return_, 1)]
theorem vt_o110 : vt_chk (prog_2_method_15_code, vt_i110) = true := by sorry
-- 111: VitalTwin$Program.hideFrom (I)V
def vt_i111 : List (Nat × Instr × Nat) := [(0, .iconst 0, 1), (1, .iload_n 1, 1), (2, .invokestatic 104, 3), (5, .istore_n 2, 1), (6, .iload_n 2, 1), (7, .aload_n 0, 1), (8, .getfield 31, 3), (11, .if_icmp .ge 24, 3), (14, .aload_n 0, 1), (15, .iload_n 2, 1), (16, .invokevirtual 50, 3), (19, .astore_n 3, 1), (20, .aload_n 3, 1), (21, .ifnull 8, 3), (24, .aload_n 3, 1), (25, .iconst 0, 1), (26, .putfield 60, 3), (29, .iinc 2 1, 3), (32, .goto (-26), 3), (35, .return_, 1)]
theorem vt_o111 : vt_chk (prog_8_method_8_code, vt_i111) = true := by sorry
-- 112: VitalTwin$Code.endUnit ()V
def vt_i112 : List (Nat × Instr × Nat) := [(0, .aload_n 0, 1), (1, .getfield 46, 3), (4, .sipush 401, 3), (7, .if_icmp .ge 29, 3), (10, .aload_n 0, 1), (11, .getfield 30, 3), (14, .aload_n 0, 1), (15, .getfield 46, 3), (18, .aload_n 0, 1), (19, .getfield 55, 3), (22, .iastore, 1), (23, .aload_n 0, 1), (24, .getfield 33, 3), (27, .aload_n 0, 1), (28, .getfield 46, 3), (31, .aload_n 0, 1), (32, .getfield 61, 3), (35, .iastore, 1), (36, .aload_n 0, 1), (37, .dup, 1), (38, .getfield 46, 3), (41, .iconst 1, 1), (42, .iadd, 1), (43, .putfield 46, 3), (46, .aload_n 0, 1), (47, .invokevirtual 49, 3), (50, .return_, 1)]
theorem vt_o112 : vt_chk (prog_2_method_4_code, vt_i112) = true := by sorry
-- 113: VitalTwin$Declarations.readCycle ()V
def vt_i113_0 : List (Nat × Instr × Nat) := [(0, .aload_n 0, 1), (1, .getfield 17, 3), (4, .sipush 214, 3), (7, .invokevirtual 80, 3), (10, .aload_n 0, 1), (11, .getfield 27, 3), (14, .aload_n 0, 1), (15, .getfield 27, 3), (18, .getfield 83, 3), (21, .getfield 87, 3), (24, .putfield 92, 3), (27, .aload_n 0, 1), (28, .getfield 40, 3), (31, .aload_n 0, 1), (32, .getfield 27, 3), (35, .getfield 95, 3), (38, .aconst_null, 1), (39, .invokevirtual 98, 3), (42, .aload_n 0, 1), (43, .getfield 27, 3), (46, .getfield 83, 3), (49, .bipush 29, 2), (51, .iconst 0, 1), (52, .invokevirtual 102, 3), (55, .pop, 1), (56, .aload_n 0, 1), (57, .getfield 27, 3), (60, .aload_n 0, 1), (61, .getfield 27, 3), (64, .getfield 83, 3), (67, .getfield 106, 3), (70, .putfield 109, 3), (73, .aload_n 0, 1), (74, .getfield 27, 3), (77, .getfield 83, 3), (80, .invokevirtual 110, 3), (83, .aload_n 0, 1), (84, .getfield 17, 3), (87, .getfield 54, 3), (90, .ifCond .eq 18, 3), (93, .aload_n 0, 1), (94, .getfield 17, 3), (97, .iconst 1, 1), (98, .aload_n 0, 1), (99, .getfield 17, 3), (102, .getfield 70, 3), (105, .invokevirtual 73, 3), (108, .aload_n 0, 1), (109, .getfield 27, 3), (112, .invokevirtual 113, 3), (115, .aload_n 0, 1), (116, .getfield 27, 3), (119, .getfield 83, 3), (122, .getfield 87, 3), (125, .sipush 8192, 3), (128, .if_icmp .gt 29, 3), (131, .aload_n 0, 1), (132, .getfield 27, 3), (135, .getfield 116, 3), (138, .aload_n 0, 1)]
def vt_i113_1 : List (Nat × Instr × Nat) := [(139, .getfield 23, 3), (142, .if_icmp .gt 15, 3), (145, .aload_n 0, 1), (146, .getfield 27, 3), (149, .getfield 109, 3), (152, .ldc 119, 2), (154, .if_icmp .le 19, 3), (157, .aload_n 0, 1), (158, .getfield 17, 3), (161, .bipush 11, 2), (163, .aload_n 0, 1), (164, .getfield 17, 3), (167, .getfield 70, 3), (170, .invokevirtual 73, 3), (173, .return_, 1)]
def vt_i113 : List (Nat × Instr × Nat) := vt_i113_0 ++ (vt_i113_1)
theorem vt_o113_0 : vt_chk (prog_5_method_3_code, vt_i113_0) = true := by sorry
theorem vt_o113_1 : vt_chk (prog_5_method_3_code, vt_i113_1) = true := by sorry
theorem vt_o113 : vt_chk (prog_5_method_3_code, vt_i113) = true := (vt_app vt_o113_0 vt_o113_1)
-- 114: VitalTwin$Program.placeLocals ()V
def vt_i114 : List (Nat × Instr × Nat) := [(0, .aload_n 0, 1), (1, .aload_n 0, 1), (2, .getfield 12, 3), (5, .aload_n 0, 1), (6, .getfield 35, 3), (9, .invokevirtual 107, 3), (12, .putfield 35, 3), (15, .iconst 0, 1), (16, .istore_n 1, 1), (17, .iload_n 1, 1), (18, .aload_n 0, 1), (19, .getfield 31, 3), (22, .if_icmp .ge 57, 3), (25, .aload_n 0, 1), (26, .iload_n 1, 1), (27, .invokevirtual 50, 3), (30, .astore_n 2, 1), (31, .aload_n 2, 1), (32, .ifnull 41, 3), (35, .aload_n 2, 1), (36, .getfield 111, 3), (39, .ifCond .lt 34, 3), (42, .aload_n 2, 1), (43, .getfield 111, 3), (46, .sipush 401, 3), (49, .if_icmp .ge 24, 3), (52, .aload_n 2, 1), (53, .dup, 1), (54, .getfield 114, 3), (57, .aload_n 0, 1), (58, .getfield 12, 3), (61, .getfield 117, 3), (64, .aload_n 2, 1), (65, .getfield 111, 3), (68, .iaload, 1), (69, .iadd, 1), (70, .putfield 114, 3), (73, .iinc 1 1, 3), (76, .goto (-59), 3), (79, .return_, 1)]
theorem vt_o114 : vt_chk (prog_8_method_9_code, vt_i114) = true := by sorry
-- 115: VitalTwin$Code.settle (I)I
def vt_i115_0 : List (Nat × Instr × Nat) := [(0, .iload_n 1, 1), (1, .istore_n 2, 1), (2, .iconst 0, 1), (3, .istore_n 3, 1), (4, .iload_n 3, 1), (5, .aload_n 0, 1), (6, .getfield 46, 3), (9, .if_icmp .ge 56, 3), (12, .iload_n 3, 1), (13, .sipush 401, 3), (16, .if_icmp .ge 49, 3), (19, .aload_n 0, 1), (20, .getfield 30, 3), (23, .iload_n 3, 1), (24, .iaload, 1), (25, .istore 4, 2), (27, .aload_n 0, 1), (28, .getfield 30, 3), (31, .iload_n 3, 1), (32, .iload_n 2, 1), (33, .iastore, 1), (34, .iload_n 2, 1), (35, .iload 4, 2), (37, .iadd, 1), (38, .istore_n 2, 1), (39, .aload_n 0, 1), (40, .getfield 33, 3), (43, .iload_n 3, 1), (44, .iaload, 1), (45, .istore 5, 2), (47, .aload_n 0, 1), (48, .getfield 33, 3), (51, .iload_n 3, 1), (52, .iload_n 2, 1), (53, .iastore, 1), (54, .iload_n 2, 1), (55, .iload 5, 2), (57, .iadd, 1), (58, .istore_n 2, 1), (59, .iinc 3 1, 3), (62, .goto (-58), 3), (65, .iconst 0, 1), (66, .istore_n 3, 1), (67, .iload_n 3, 1), (68, .aload_n 0, 1), (69, .getfield 42, 3), (72, .if_icmp .ge 85, 3), (75, .iload_n 3, 1), (76, .aload_n 0, 1), (77, .getfield 9, 3), (80, .arraylength, 1), (81, .if_icmp .ge 76, 3), (84, .aload_n 0, 1), (85, .getfield 27, 3), (88, .iload_n 3, 1), (89, .iaload, 1), (90, .iconst 1, 1), (91, .isub, 1), (92, .iconst 2, 1), (93, .idiv, 1)]
def vt_i115_1 : List (Nat × Instr × Nat) := [(94, .istore 4, 2), (96, .aload_n 0, 1), (97, .getfield 27, 3), (100, .iload_n 3, 1), (101, .iaload, 1), (102, .ifCond .le 49, 3), (105, .iload 4, 2), (107, .sipush 401, 3), (110, .if_icmp .ge 41, 3), (113, .aload_n 0, 1), (114, .getfield 15, 3), (117, .iload_n 3, 1), (118, .dup2, 1), (119, .iaload, 1), (120, .aload_n 0, 1), (121, .getfield 27, 3), (124, .iload_n 3, 1), (125, .iaload, 1), (126, .iconst 2, 1), (127, .irem, 1), (128, .iconst 1, 1), (129, .if_icmp .ne 13, 3), (132, .aload_n 0, 1), (133, .getfield 30, 3), (136, .iload 4, 2), (138, .iaload, 1), (139, .goto 10, 3), (142, .aload_n 0, 1), (143, .getfield 33, 3), (146, .iload 4, 2), (148, .iaload, 1), (149, .iadd, 1), (150, .iastore, 1), (151, .iinc 3 1, 3), (154, .goto (-87), 3), (157, .iload_n 2, 1), (158, .ireturn, 1)]
def vt_i115 : List (Nat × Instr × Nat) := vt_i115_0 ++ (vt_i115_1)
theorem vt_o115_0 : vt_chk (prog_2_method_24_code, vt_i115_0) = true := by sorry
theorem vt_o115_1 : vt_chk (prog_2_method_24_code, vt_i115_1) = true := by sorry
theorem vt_o115 : vt_chk (prog_2_method_24_code, vt_i115) = true := (vt_app vt_o115_0 vt_o115_1)
-- 116: VitalTwin$Reader.clear ()V
def vt_i116 : List (Nat × Instr × Nat) := [(0, .aload_n 0, 1), (1, .iconst 0, 1), (2, .putfield 29, 3), (5, .return_, 1)]
theorem vt_o116 : vt_chk (prog_9_method_6_code, vt_i116) = true := by sorry
-- 117: VitalTwin$Machine.load (LVitalTwin$Program;)V
def vt_i117_0 : List (Nat × Instr × Nat) := [(0, .aload_n 0, 1), (1, .aload_n 1, 1), (2, .putfield 39, 3), (5, .aload_n 0, 1), (6, .iconst 1, 1), (7, .putfield 43, 3), (10, .aload_n 0, 1), (11, .getfield 9, 3), (14, .arraylength, 1), (15, .bipush 16, 2), (17, .aload_n 0, 1), (18, .getfield 39, 3), (21, .getfield 47, 3), (24, .imul, 1), (25, .if_icmp .ge 19, 3), (28, .aload_n 0, 1), (29, .bipush 16, 2), (31, .aload_n 0, 1), (32, .getfield 39, 3), (35, .getfield 47, 3), (38, .imul, 1), (39, .newarray .int, 2), (41, .putfield 9, 3), (44, .iconst 0, 1), (45, .istore_n 2, 1), (46, .iload_n 2, 1), (47, .aload_n 0, 1), (48, .getfield 39, 3), (51, .getfield 53, 3), (54, .if_icmp .ge 99, 3), (57, .aload_n 0, 1), (58, .getfield 39, 3), (61, .iload_n 2, 1), (62, .invokevirtual 56, 3), (65, .astore_n 3, 1), (66, .aload_n 3, 1), (67, .ifnull 80, 3), (70, .aload_n 3, 1), (71, .getfield 60, 3), (74, .iconst 1, 1), (75, .if_icmp .ne 72, 3), (78, .aload_n 3, 1), (79, .getfield 65, 3), (82, .ifCond .gt 14, 3), (85, .aload_n 3, 1), (86, .getfield 68, 3), (89, .ifCond .lt 7, 3), (92, .iconst 0, 1), (93, .goto 7, 3), (96, .aload_n 3, 1), (97, .getfield 65, 3), (100, .istore 4, 2), (102, .aload_n 3, 1), (103, .getfield 71, 3), (106, .istore 5, 2), (108, .iload 5, 2), (110, .aload_n 3, 1), (111, .getfield 71, 3), (114, .aload_n 3, 1), (115, .getfield 74, 3)]
def vt_i117_1 : List (Nat × Instr × Nat) := [(118, .iadd, 1), (119, .if_icmp .ge 28, 3), (122, .iload 5, 2), (124, .aload_n 0, 1), (125, .getfield 33, 3), (128, .arraylength, 1), (129, .if_icmp .ge 18, 3), (132, .aload_n 0, 1), (133, .getfield 33, 3), (136, .iload 5, 2), (138, .iload 4, 2), (140, .iastore, 1), (141, .iinc 5 1, 3), (144, .goto (-36), 3), (147, .iinc 2 1, 3), (150, .goto (-104), 3), (153, .aload_n 0, 1), (154, .invokevirtual 77, 3), (157, .return_, 1)]
def vt_i117 : List (Nat × Instr × Nat) := vt_i117_0 ++ (vt_i117_1)
theorem vt_o117_0 : vt_chk (prog_7_method_2_code, vt_i117_0) = true := by sorry
theorem vt_o117_1 : vt_chk (prog_7_method_2_code, vt_i117_1) = true := by sorry
theorem vt_o117 : vt_chk (prog_7_method_2_code, vt_i117) = true := (vt_app vt_o117_0 vt_o117_1)
-- 118: VitalTwin$Machine.restart ()V
def vt_i118_0 : List (Nat × Instr × Nat) := [(0, .aload_n 0, 1), (1, .getfield 23, 3), (4, .aload_n 0, 1), (5, .getfield 39, 3), (8, .getfield 80, 3), (11, .invokevirtual 83, 3), (14, .iconst 0, 1), (15, .istore_n 1, 1), (16, .iload_n 1, 1), (17, .aload_n 0, 1), (18, .getfield 39, 3), (21, .getfield 53, 3), (24, .if_icmp .ge 74, 3), (27, .aload_n 0, 1), (28, .getfield 39, 3), (31, .iload_n 1, 1), (32, .invokevirtual 56, 3), (35, .astore_n 2, 1), (36, .aload_n 2, 1), (37, .ifnull 55, 3), (40, .aload_n 2, 1), (41, .getfield 60, 3), (44, .iconst 2, 1), (45, .if_icmp .eq 11, 3), (48, .aload_n 2, 1), (49, .getfield 60, 3), (52, .iconst 3, 1), (53, .if_icmp .ne 39, 3), (56, .aload_n 2, 1), (57, .getfield 71, 3), (60, .istore_n 3, 1), (61, .iload_n 3, 1), (62, .aload_n 2, 1), (63, .getfield 71, 3), (66, .aload_n 2, 1), (67, .getfield 74, 3), (70, .iadd, 1), (71, .if_icmp .ge 21, 3), (74, .aload_n 0, 1), (75, .getfield 23, 3), (78, .iload_n 3, 1), (79, .aload_n 2, 1), (80, .getfield 86, 3), (83, .invokevirtual 89, 3), (86, .iinc 3 1, 3), (89, .goto (-28), 3), (92, .iinc 1 1, 3), (95, .goto (-79), 3), (98, .aload_n 0, 1), (99, .iconst 0, 1), (100, .putfield 93, 3), (103, .aload_n 0, 1), (104, .iconst 0, 1), (105, .putfield 96, 3), (108, .aload_n 0, 1), (109, .iconst 0, 1), (110, .putfield 99, 3), (113, .aload_n 0, 1), (114, .iconst 0, 1), (115, .putfield 102, 3)]
def vt_i118_1 : List (Nat × Instr × Nat) := [(118, .return_, 1)]
def vt_i118 : List (Nat × Instr × Nat) := vt_i118_0 ++ (vt_i118_1)
theorem vt_o118_0 : vt_chk (prog_7_method_3_code, vt_i118_0) = true := by sorry
theorem vt_o118_1 : vt_chk (prog_7_method_3_code, vt_i118_1) = true := by sorry
theorem vt_o118 : vt_chk (prog_7_method_3_code, vt_i118) = true := (vt_app vt_o118_0 vt_o118_1)
-- 119: VitalTwin$Run.clear (I)V
def vt_i119 : List (Nat × Instr × Nat) := [(0, .aload_n 0, 1), (1, .iconst 0, 1), (2, .putfield 25, 3), (5, .aload_n 0, 1), (6, .iconst 0, 1), (7, .putfield 29, 3), (10, .aload_n 0, 1), (11, .iconst 0, 1), (12, .putfield 32, 3), (15, .aload_n 0, 1), (16, .iconst 0, 1), (17, .putfield 35, 3), (20, .aload_n 0, 1), (21, .getfield 14, 3), (24, .iload_n 1, 1), (25, .invokevirtual 38, 3), (28, .aload_n 0, 1), (29, .getfield 22, 3), (32, .iload_n 1, 1), (33, .invokevirtual 38, 3), (36, .return_, 1)]
theorem vt_o119 : vt_chk (prog_10_method_3_code, vt_i119) = true := by sorry
-- 120: VitalTwin$Copy.clear (I)V
def vt_i120 : List (Nat × Instr × Nat) := [(0, .aload_n 0, 1), (1, .lconst 0, 1), (2, .putfield 23, 3), (5, .aload_n 0, 1), (6, .lconst 0, 1), (7, .putfield 26, 3), (10, .iconst 0, 1), (11, .istore_n 2, 1), (12, .iload_n 2, 1), (13, .iload_n 1, 1), (14, .if_icmp .ge 25, 3), (17, .iload_n 2, 1), (18, .aload_n 0, 1), (19, .getfield 15, 3), (22, .arraylength, 1), (23, .if_icmp .ge 16, 3), (26, .aload_n 0, 1), (27, .getfield 15, 3), (30, .iload_n 2, 1), (31, .lconst 0, 1), (32, .lastore, 1), (33, .iinc 2 1, 3), (36, .goto (-24), 3), (39, .return_, 1)]
theorem vt_o120 : vt_chk (prog_4_method_2_code, vt_i120) = true := by sorry
-- 121: VitalTwin$Run.hold (II)V
def vt_i121 : List (Nat × Instr × Nat) := [(0, .aload_n 0, 1), (1, .getfield 14, 3), (4, .iload_n 1, 1), (5, .iload_n 2, 1), (6, .i2l, 1), (7, .invokevirtual 46, 3), (10, .aload_n 0, 1), (11, .getfield 22, 3), (14, .iload_n 1, 1), (15, .iload_n 2, 1), (16, .i2l, 1), (17, .invokevirtual 46, 3), (20, .return_, 1)]
theorem vt_o121 : vt_chk (prog_10_method_5_code, vt_i121) = true := by sorry
-- 122: VitalTwin$Copy.hold (IJ)V
def vt_i122 : List (Nat × Instr × Nat) := [(0, .aload_n 0, 1), (1, .iload_n 1, 1), (2, .lload_n 2, 1), (3, .aload_n 0, 1), (4, .getfield 19, 3), (7, .lmul, 1), (8, .invokevirtual 51, 3), (11, .return_, 1)]
theorem vt_o122 : vt_chk (prog_4_method_7_code, vt_i122) = true := by sorry
-- 123: VitalTwin$Copy.write (IJ)V
def vt_i123 : List (Nat × Instr × Nat) := [(0, .iload_n 1, 1), (1, .ifCond .lt 19, 3), (4, .iload_n 1, 1), (5, .aload_n 0, 1), (6, .getfield 15, 3), (9, .arraylength, 1), (10, .if_icmp .ge 10, 3), (13, .aload_n 0, 1), (14, .getfield 15, 3), (17, .iload_n 1, 1), (18, .lload_n 2, 1), (19, .lastore, 1), (20, .return_, 1)]
theorem vt_o123 : vt_chk (prog_4_method_6_code, vt_i123) = true := by sorry
-- 124: VitalTwin.symbol (II)I
def vt_i124 : List (Nat × Instr × Nat) := [(0, .aload_n 0, 1), (1, .getfield 30, 3), (4, .getfield 39, 3), (7, .iload_n 1, 1), (8, .invokevirtual 74, 3), (11, .astore_n 3, 1), (12, .aload_n 3, 1), (13, .ifnonnull 7, 3), (16, .iconst (-1), 1), (17, .goto 8, 3), (20, .aload_n 3, 1), (21, .iload_n 2, 1), (22, .invokevirtual 80, 3), (25, .ireturn, 1)]
theorem vt_o124 : vt_chk (prog_1_method_4_code, vt_i124) = true := by sorry
-- 125: VitalTwin$Symbol.answer (I)I
def vt_i125 : List (Nat × Instr × Nat) := [(0, .iload_n 1, 1), (1, .tableswitch 96 0 8 #[51, 56, 61, 66, 71, 76, 81, 86, 91], 51), (52, .aload_n 0, 1), (53, .getfield 15, 3), (56, .ireturn, 1), (57, .aload_n 0, 1), (58, .getfield 18, 3), (61, .ireturn, 1), (62, .aload_n 0, 1), (63, .getfield 21, 3), (66, .ireturn, 1), (67, .aload_n 0, 1), (68, .getfield 24, 3), (71, .ireturn, 1), (72, .aload_n 0, 1), (73, .getfield 27, 3), (76, .ireturn, 1), (77, .aload_n 0, 1), (78, .getfield 30, 3), (81, .ireturn, 1), (82, .aload_n 0, 1), (83, .getfield 33, 3), (86, .ireturn, 1), (87, .aload_n 0, 1), (88, .getfield 36, 3), (91, .ireturn, 1), (92, .aload_n 0, 1), (93, .getfield 39, 3), (96, .ireturn, 1), (97, .iconst (-1), 1), (98, .ireturn, 1)]
theorem vt_o125 : vt_chk (prog_12_method_4_code, vt_i125) = true := by sorry
-- 126: VitalTwin.name (II)I
def vt_i126 : List (Nat × Instr × Nat) := [(0, .aload_n 0, 1), (1, .getfield 30, 3), (4, .getfield 39, 3), (7, .iload_n 1, 1), (8, .iload_n 2, 1), (9, .invokevirtual 86, 3), (12, .ireturn, 1)]
theorem vt_o126 : vt_chk (prog_1_method_5_code, vt_i126) = true := by sorry
-- 127: VitalTwin$Program.signOfName (II)I
def vt_i127 : List (Nat × Instr × Nat) := [(0, .aload_n 0, 1), (1, .iload_n 1, 1), (2, .invokevirtual 50, 3), (5, .astore_n 3, 1), (6, .aload_n 3, 1), (7, .ifnull 15, 3), (10, .iload_n 2, 1), (11, .ifCond .lt 11, 3), (14, .iload_n 2, 1), (15, .aload_n 3, 1), (16, .getfield 54, 3), (19, .if_icmp .lt 7, 3), (22, .iconst (-1), 1), (23, .goto 17, 3), (26, .aload_n 0, 1), (27, .getfield 24, 3), (30, .aload_n 3, 1), (31, .getfield 57, 3), (34, .bipush 20, 2), (36, .imul, 1), (37, .iload_n 2, 1), (38, .iadd, 1), (39, .baload, 1), (40, .ireturn, 1)]
theorem vt_o127 : vt_chk (prog_8_method_4_code, vt_i127) = true := by sorry
-- 128: VitalTwin.code (II)I
def vt_i128 : List (Nat × Instr × Nat) := [(0, .aload_n 0, 1), (1, .getfield 30, 3), (4, .getfield 39, 3), (7, .getfield 89, 3), (10, .astore_n 3, 1), (11, .aload_n 3, 1), (12, .iload_n 1, 1), (13, .invokevirtual 93, 3), (16, .ifCond .ne 5, 3), (19, .iconst (-1), 1), (20, .ireturn, 1), (21, .iload_n 2, 1), (22, .tableswitch 47 0 2 #[26, 33, 40], 26), (48, .aload_n 3, 1), (49, .getfield 99, 3), (52, .iload_n 1, 1), (53, .iaload, 1), (54, .ireturn, 1), (55, .aload_n 3, 1), (56, .getfield 103, 3), (59, .iload_n 1, 1), (60, .iaload, 1), (61, .ireturn, 1), (62, .aload_n 3, 1), (63, .getfield 106, 3), (66, .iload_n 1, 1), (67, .iaload, 1), (68, .ireturn, 1), (69, .iconst (-1), 1), (70, .ireturn, 1)]
theorem vt_o128 : vt_chk (prog_1_method_6_code, vt_i128) = true := by sorry
-- 129: VitalTwin.text (III)I
def vt_i129 : List (Nat × Instr × Nat) := [(0, .aload_n 0, 1), (1, .getfield 30, 3), (4, .getfield 39, 3), (7, .getfield 89, 3), (10, .astore 4, 2), (12, .iload_n 1, 1), (13, .ifCond .lt 17, 3), (16, .iload_n 1, 1), (17, .iconst 1, 1), (18, .if_icmp .gt 12, 3), (21, .aload 4, 2), (23, .iload_n 2, 1), (24, .invokevirtual 93, 3), (27, .ifCond .ne 5, 3), (30, .iconst (-1), 1), (31, .ireturn, 1), (32, .aload_n 0, 1), (33, .aload 4, 2), (35, .getfield 99, 3), (38, .iload_n 2, 1), (39, .iaload, 1), (40, .aload 4, 2), (42, .getfield 103, 3), (45, .iload_n 2, 1), (46, .iaload, 1), (47, .aload 4, 2), (49, .getfield 106, 3), (52, .iload_n 2, 1), (53, .iaload, 1), (54, .iload_n 1, 1), (55, .ifCond .ne 7, 3), (58, .lconst 1, 1), (59, .goto 6, 3), (62, .ldc2_w 122, 3), (65, .invokevirtual 124, 3), (68, .iload_n 3, 1), (69, .ifCond .lt 11, 3), (72, .iload_n 3, 1), (73, .aload_n 0, 1), (74, .getfield 128, 3), (77, .if_icmp .lt 7, 3), (80, .iconst (-1), 1), (81, .goto 9, 3), (84, .aload_n 0, 1), (85, .getfield 50, 3), (88, .iload_n 3, 1), (89, .baload, 1), (90, .ireturn, 1)]
theorem vt_o129 : vt_chk (prog_1_method_8_code, vt_i129) = true := by sorry
-- 130: VitalTwin.spell (IIIJ)V
def vt_i130_0 : List (Nat × Instr × Nat) := [(0, .aload_n 0, 1), (1, .iconst 0, 1), (2, .putfield 128, 3), (5, .iload_n 1, 1), (6, .bipush 6, 2), (8, .imul, 1), (9, .istore 6, 2), (11, .iload 6, 2), (13, .istore 7, 2), (15, .iload 7, 2), (17, .iload 6, 2), (19, .bipush 6, 2), (21, .iadd, 1), (22, .if_icmp .ge 42, 3), (25, .iload 7, 2), (27, .ldc 233, 2), (29, .invokevirtual 235, 3), (32, .if_icmp .ge 32, 3), (35, .ldc 233, 2), (37, .iload 7, 2), (39, .invokevirtual 240, 3), (42, .bipush 32, 2), (44, .if_icmp .eq 14, 3), (47, .aload_n 0, 1), (48, .ldc 233, 2), (50, .iload 7, 2), (52, .invokevirtual 240, 3), (55, .invokevirtual 244, 3), (58, .iinc 7 1, 3), (61, .goto (-46), 3), (64, .iload_n 1, 1), (65, .ifCond .eq 15, 3), (68, .iload_n 1, 1), (69, .bipush 22, 2), (71, .if_icmp .eq 9, 3), (74, .iload_n 1, 1), (75, .bipush 23, 2), (77, .if_icmp .ne 15, 3), (80, .aload_n 0, 1), (81, .iload_n 2, 1), (82, .i2l, 1), (83, .lload 4, 2), (85, .lmul, 1), (86, .invokevirtual 248, 3), (89, .goto 41, 3), (92, .iload_n 1, 1), (93, .iconst 1, 1), (94, .if_icmp .eq 30, 3), (97, .iload_n 1, 1), (98, .iconst 2, 1), (99, .if_icmp .eq 25, 3), (102, .iload_n 1, 1), (103, .iconst 4, 1), (104, .if_icmp .eq 20, 3), (107, .iload_n 1, 1), (108, .iconst 5, 1), (109, .if_icmp .eq 15, 3), (112, .iload_n 1, 1), (113, .bipush 24, 2), (115, .if_icmp .lt 15, 3)]
def vt_i130_1 : List (Nat × Instr × Nat) := [(118, .iload_n 1, 1), (119, .bipush 27, 2), (121, .if_icmp .gt 9, 3), (124, .aload_n 0, 1), (125, .iload_n 2, 1), (126, .i2l, 1), (127, .invokevirtual 248, 3), (130, .iload_n 1, 1), (131, .iconst 4, 1), (132, .if_icmp .eq 8, 3), (135, .iload_n 1, 1), (136, .iconst 5, 1), (137, .if_icmp .ne 9, 3), (140, .aload_n 0, 1), (141, .iload_n 3, 1), (142, .i2l, 1), (143, .invokevirtual 248, 3), (146, .return_, 1)]
def vt_i130 : List (Nat × Instr × Nat) := vt_i130_0 ++ (vt_i130_1)
theorem vt_o130_0 : vt_chk (prog_1_method_20_code, vt_i130_0) = true := by sorry
theorem vt_o130_1 : vt_chk (prog_1_method_20_code, vt_i130_1) = true := by sorry
theorem vt_o130 : vt_chk (prog_1_method_20_code, vt_i130) = true := (vt_app vt_o130_0 vt_o130_1)
-- 131: VitalTwin.spellSign (C)V
def vt_i131 : List (Nat × Instr × Nat) := [(0, .aload_n 0, 1), (1, .getfield 128, 3), (4, .aload_n 0, 1), (5, .getfield 50, 3), (8, .arraylength, 1), (9, .if_icmp .ge 24, 3), (12, .aload_n 0, 1), (13, .getfield 50, 3), (16, .aload_n 0, 1), (17, .getfield 128, 3), (20, .iload_n 1, 1), (21, .i2b, 1), (22, .bastore, 1), (23, .aload_n 0, 1), (24, .dup, 1), (25, .getfield 128, 3), (28, .iconst 1, 1), (29, .iadd, 1), (30, .putfield 128, 3), (33, .return_, 1)]
theorem vt_o131 : vt_chk (prog_1_method_22_code, vt_i131) = true := by sorry
-- 132: VitalTwin.spellOperand (J)V
def vt_i132 : List (Nat × Instr × Nat) := [(0, .aload_n 0, 1), (1, .bipush 32, 2), (3, .invokevirtual 244, 3), (6, .lload_n 1, 1), (7, .lconst 0, 1), (8, .lcmp, 1), (9, .ifCond .ge 9, 3), (12, .aload_n 0, 1), (13, .bipush 45, 2), (15, .invokevirtual 244, 3), (18, .lload_n 1, 1), (19, .invokestatic 252, 3), (22, .lstore_n 3, 1), (23, .lconst 1, 1), (24, .lstore 5, 2), (26, .iconst 0, 1), (27, .istore 7, 2), (29, .iload 7, 2), (31, .bipush 16, 2), (33, .if_icmp .ge 28, 3), (36, .lload_n 3, 1), (37, .lload 5, 2), (39, .ldiv, 1), (40, .ldc2_w 256, 3), (43, .lcmp, 1), (44, .ifCond .lt 17, 3), (47, .lload 5, 2), (49, .ldc2_w 256, 3), (52, .lmul, 1), (53, .lstore 5, 2), (55, .iinc 7 1, 3), (58, .goto (-29), 3), (61, .iconst 0, 1), (62, .istore 7, 2), (64, .iload 7, 2), (66, .bipush 17, 2), (68, .if_icmp .ge 42, 3), (71, .lload 5, 2), (73, .lconst 0, 1), (74, .lcmp, 1), (75, .ifCond .le 35, 3), (78, .aload_n 0, 1), (79, .ldc2_w 258, 3), (82, .lload_n 3, 1), (83, .lload 5, 2), (85, .ldiv, 1), (86, .ldc2_w 256, 3), (89, .lrem, 1), (90, .ladd, 1), (91, .l2i, 1), (92, .i2c, 1), (93, .invokevirtual 244, 3), (96, .lload 5, 2), (98, .ldc2_w 256, 3), (101, .ldiv, 1), (102, .lstore 5, 2), (104, .iinc 7 1, 3), (107, .goto (-43), 3), (110, .return_, 1)]
theorem vt_o132 : vt_chk (prog_1_method_21_code, vt_i132) = true := by sorry
-- 133: VitalTwin.input (II)Z
def vt_i133 : List (Nat × Instr × Nat) := [(0, .aload_n 0, 1), (1, .getfield 46, 3), (4, .iload_n 1, 1), (5, .iload_n 2, 1), (6, .invokevirtual 131, 3), (9, .ireturn, 1)]
theorem vt_o133 : vt_chk (prog_1_method_9_code, vt_i133) = true := by sorry
-- 134: VitalTwin$Machine.give (II)Z
def vt_i134 : List (Nat × Instr × Nat) := [(0, .aload_n 0, 1), (1, .getfield 39, 3), (4, .iconst 1, 1), (5, .iload_n 1, 1), (6, .invokevirtual 105, 3), (9, .astore_n 3, 1), (10, .aload_n 0, 1), (11, .getfield 39, 3), (14, .iconst 1, 1), (15, .iload_n 1, 1), (16, .invokevirtual 109, 3), (19, .istore 4, 2), (21, .aload_n 3, 1), (22, .ifnull 44, 3), (25, .iload 4, 2), (27, .ifCond .lt 39, 3), (30, .iload 4, 2), (32, .aload_n 0, 1), (33, .getfield 33, 3), (36, .arraylength, 1), (37, .if_icmp .ge 29, 3), (40, .iload_n 2, 1), (41, .aload_n 3, 1), (42, .getfield 65, 3), (45, .if_icmp .lt 21, 3), (48, .iload_n 2, 1), (49, .aload_n 3, 1), (50, .getfield 68, 3), (53, .if_icmp .gt 13, 3), (56, .aload_n 0, 1), (57, .getfield 23, 3), (60, .getfield 113, 3), (63, .ifCond .eq 5, 3), (66, .iconst 0, 1), (67, .ireturn, 1), (68, .aload_n 0, 1), (69, .getfield 33, 3), (72, .iload 4, 2), (74, .iload_n 2, 1), (75, .iastore, 1), (76, .iconst 1, 1), (77, .ireturn, 1)]
theorem vt_o134 : vt_chk (prog_7_method_4_code, vt_i134) = true := by sorry
-- 135: VitalTwin$Program.portOf (II)LVitalTwin$Symbol;
def vt_i135 : List (Nat × Instr × Nat) := [(0, .aload_n 0, 1), (1, .iload_n 1, 1), (2, .iload_n 2, 1), (3, .invokevirtual 127, 3), (6, .istore_n 3, 1), (7, .iconst 0, 1), (8, .istore 4, 2), (10, .iload 4, 2), (12, .aload_n 0, 1), (13, .getfield 31, 3), (16, .if_icmp .ge 62, 3), (19, .iload_n 3, 1), (20, .ifCond .lt 58, 3), (23, .aload_n 0, 1), (24, .iload 4, 2), (26, .invokevirtual 50, 3), (29, .astore 5, 2), (31, .aload 5, 2), (33, .ifnull 39, 3), (36, .aload 5, 2), (38, .getfield 121, 3), (41, .iload_n 1, 1), (42, .if_icmp .ne 30, 3), (45, .iload_n 3, 1), (46, .aload 5, 2), (48, .getfield 114, 3), (51, .if_icmp .lt 21, 3), (54, .iload_n 3, 1), (55, .aload 5, 2), (57, .getfield 114, 3), (60, .aload 5, 2), (62, .getfield 124, 3), (65, .iadd, 1), (66, .if_icmp .ge 6, 3), (69, .aload 5, 2), (71, .areturn, 1), (72, .iinc 4 1, 3), (75, .goto (-65), 3), (78, .aconst_null, 1), (79, .areturn, 1)]
theorem vt_o135 : vt_chk (prog_8_method_11_code, vt_i135) = true := by sorry
-- 136: VitalTwin$Program.cellOf (II)I
def vt_i136 : List (Nat × Instr × Nat) := [(0, .iload_n 2, 1), (1, .istore_n 3, 1), (2, .iconst 0, 1), (3, .istore 4, 2), (5, .iload 4, 2), (7, .aload_n 0, 1), (8, .getfield 31, 3), (11, .if_icmp .ge 60, 3), (14, .iload_n 3, 1), (15, .ifCond .lt 56, 3), (18, .aload_n 0, 1), (19, .iload 4, 2), (21, .invokevirtual 50, 3), (24, .astore 5, 2), (26, .aload 5, 2), (28, .ifnull 37, 3), (31, .aload 5, 2), (33, .getfield 121, 3), (36, .iload_n 1, 1), (37, .if_icmp .ne 28, 3), (40, .iload_n 3, 1), (41, .aload 5, 2), (43, .getfield 124, 3), (46, .if_icmp .ge 11, 3), (49, .aload 5, 2), (51, .getfield 114, 3), (54, .iload_n 3, 1), (55, .iadd, 1), (56, .ireturn, 1), (57, .iload_n 3, 1), (58, .aload 5, 2), (60, .getfield 124, 3), (63, .isub, 1), (64, .istore_n 3, 1), (65, .iinc 4 1, 3), (68, .goto (-63), 3), (71, .iconst (-1), 1), (72, .ireturn, 1)]
theorem vt_o136 : vt_chk (prog_8_method_10_code, vt_i136) = true := by sorry
-- 137: VitalTwin.probe (IIII)I
def vt_i137 : List (Nat × Instr × Nat) := [(0, .iload 4, 2), (2, .ifCond .lt 35, 3), (5, .iload 4, 2), (7, .iconst 4, 1), (8, .if_icmp .gt 29, 3), (11, .iload_n 3, 1), (12, .ifCond .lt 25, 3), (15, .aload_n 0, 1), (16, .getfield 46, 3), (19, .iload_n 1, 1), (20, .iload_n 2, 1), (21, .invokevirtual 172, 3), (24, .ifCond .eq 13, 3), (27, .aload_n 0, 1), (28, .getfield 46, 3), (31, .invokevirtual 175, 3), (34, .ifCond .ne 5, 3), (37, .iconst (-1), 1), (38, .ireturn, 1), (39, .aload_n 0, 1), (40, .getfield 46, 3), (43, .iload_n 1, 1), (44, .iload_n 2, 1), (45, .iload_n 3, 1), (46, .iload 4, 2), (48, .invokevirtual 179, 3), (51, .ireturn, 1)]
theorem vt_o137 : vt_chk (prog_1_method_14_code, vt_i137) = true := by sorry
-- 138: VitalTwin$Machine.hasPlace (II)Z
def vt_i138 : List (Nat × Instr × Nat) := [(0, .aload_n 0, 1), (1, .getfield 43, 3), (4, .ifCond .eq 33, 3), (7, .iload_n 1, 1), (8, .ifCond .lt 29, 3), (11, .iload_n 1, 1), (12, .iconst 1, 1), (13, .if_icmp .gt 24, 3), (16, .iload_n 2, 1), (17, .bipush (-2), 2), (19, .if_icmp .lt 18, 3), (22, .iload_n 2, 1), (23, .aload_n 0, 1), (24, .getfield 39, 3), (27, .getfield 80, 3), (30, .if_icmp .ge 7, 3), (33, .iconst 1, 1), (34, .goto 4, 3), (37, .iconst 0, 1), (38, .ireturn, 1)]
theorem vt_o138 : vt_chk (prog_7_method_5_code, vt_i138) = true := by sorry
-- 139: VitalTwin$Machine.canProbe ()Z
def vt_i139 : List (Nat × Instr × Nat) := [(0, .aload_n 0, 1), (1, .getfield 43, 3), (4, .ifCond .eq 31, 3), (7, .aload_n 0, 1), (8, .getfield 23, 3), (11, .getfield 113, 3), (14, .ifCond .ne 21, 3), (17, .aload_n 0, 1), (18, .getfield 93, 3), (21, .ifCond .ne 14, 3), (24, .aload_n 0, 1), (25, .getfield 99, 3), (28, .ifCond .ne 7, 3), (31, .iconst 1, 1), (32, .goto 4, 3), (35, .iconst 0, 1), (36, .ireturn, 1)]
theorem vt_o139 : vt_chk (prog_7_method_15_code, vt_i139) = true := by sorry
end
section
/-! instructions of the methods 140 to 188, printed by wip/whole/tools/gen14.py out of the claim: each list is what decode gives -/
-- 140: VitalTwin$Machine.tryBits (IIII)I
def vt_i140_0 : List (Nat × Instr × Nat) := [(0, .aload_n 0, 1), (1, .getfield 27, 3), (4, .aload_n 0, 1), (5, .getfield 23, 3), (8, .aload_n 0, 1), (9, .getfield 39, 3), (12, .getfield 80, 3), (15, .invokevirtual 166, 3), (18, .aload_n 0, 1), (19, .aload_n 0, 1), (20, .getfield 27, 3), (23, .invokevirtual 119, 3), (26, .iconst 0, 1), (27, .istore 5, 2), (29, .iload 5, 2), (31, .ldc 170, 2), (33, .if_icmp .ge 36, 3), (36, .iload 5, 2), (38, .iload_n 3, 1), (39, .if_icmp .ge 30, 3), (42, .aload_n 0, 1), (43, .getfield 27, 3), (46, .getfield 113, 3), (49, .ifCond .eq 20, 3), (52, .aload_n 0, 1), (53, .getfield 27, 3), (56, .aload_n 0, 1), (57, .getfield 39, 3), (60, .invokevirtual 126, 3), (63, .iinc 5 1, 3), (66, .goto (-37), 3), (69, .aload_n 0, 1), (70, .getfield 27, 3), (73, .getfield 113, 3), (76, .ifCond .eq 7, 3), (79, .iconst 1, 1), (80, .goto 4, 3), (83, .iconst 0, 1), (84, .istore 5, 2), (86, .iload 5, 2), (88, .ifCond .eq 21, 3), (91, .aload_n 0, 1), (92, .getfield 30, 3), (95, .aload_n 0, 1), (96, .getfield 27, 3), (99, .aload_n 0, 1), (100, .getfield 39, 3), (103, .getfield 80, 3), (106, .invokevirtual 166, 3), (109, .aload_n 0, 1), (110, .getfield 27, 3), (113, .aload_n 0, 1), (114, .getfield 39, 3), (117, .invokevirtual 171, 3), (120, .aload_n 0, 1), (121, .getfield 27, 3), (124, .getfield 147, 3), (127, .iconst 4, 1), (128, .if_icmp .eq 5, 3), (131, .iconst (-1), 1)]
def vt_i140_1 : List (Nat × Instr × Nat) := [(132, .ireturn, 1), (133, .iload 5, 2), (135, .ifCond .ne 15, 3), (138, .iload 4, 2), (140, .ifCond .ne 8, 3), (143, .bipush 64, 2), (145, .goto 4, 3), (148, .iconst 0, 1), (149, .ireturn, 1), (150, .aload_n 0, 1), (151, .aload_n 0, 1), (152, .getfield 27, 3), (155, .aload_n 0, 1), (156, .getfield 36, 3), (159, .iconst 0, 1), (160, .invokevirtual 150, 3), (163, .iconst 0, 1), (164, .istore 6, 2), (166, .iconst 0, 1), (167, .istore 7, 2), (169, .iload 7, 2), (171, .bipush 64, 2), (173, .if_icmp .ge 64, 3), (176, .aload_n 0, 1), (177, .getfield 27, 3), (180, .aload_n 0, 1), (181, .getfield 30, 3), (184, .aload_n 0, 1), (185, .getfield 39, 3), (188, .getfield 80, 3), (191, .invokevirtual 166, 3), (194, .aload_n 0, 1), (195, .getfield 27, 3), (198, .iload_n 1, 1), (199, .invokevirtual 138, 3), (202, .iload_n 2, 1), (203, .iload 7, 2), (205, .invokevirtual 142, 3), (208, .aload_n 0, 1), (209, .getfield 27, 3), (212, .aload_n 0, 1), (213, .getfield 39, 3), (216, .invokevirtual 171, 3), (219, .aload_n 0, 1), (220, .invokevirtual 174, 3), (223, .iload 4, 2), (225, .if_icmp .ne 6, 3), (228, .iinc 6 1, 3), (231, .iinc 7 1, 3), (234, .goto (-65), 3), (237, .iload 6, 2), (239, .ireturn, 1)]
def vt_i140 : List (Nat × Instr × Nat) := vt_i140_0 ++ (vt_i140_1)
theorem vt_o140_0 : vt_chk (prog_7_method_16_code, vt_i140_0) = true := by sorry
theorem vt_o140_1 : vt_chk (prog_7_method_16_code, vt_i140_1) = true := by sorry
theorem vt_o140 : vt_chk (prog_7_method_16_code, vt_i140) = true := (vt_app vt_o140_0 vt_o140_1)
-- 141: VitalTwin$Run.takeFrom (LVitalTwin$Run;I)V
def vt_i141 : List (Nat × Instr × Nat) := [(0, .aload_n 0, 1), (1, .aload_n 1, 1), (2, .getfield 25, 3), (5, .putfield 25, 3), (8, .aload_n 0, 1), (9, .aload_n 1, 1), (10, .getfield 29, 3), (13, .putfield 29, 3), (16, .aload_n 0, 1), (17, .aload_n 1, 1), (18, .getfield 32, 3), (21, .putfield 32, 3), (24, .aload_n 0, 1), (25, .aload_n 1, 1), (26, .getfield 35, 3), (29, .putfield 35, 3), (32, .aload_n 0, 1), (33, .getfield 14, 3), (36, .aload_n 1, 1), (37, .getfield 14, 3), (40, .iload_n 2, 1), (41, .invokevirtual 42, 3), (44, .aload_n 0, 1), (45, .getfield 22, 3), (48, .aload_n 1, 1), (49, .getfield 22, 3), (52, .iload_n 2, 1), (53, .invokevirtual 42, 3), (56, .return_, 1)]
theorem vt_o141 : vt_chk (prog_10_method_4_code, vt_i141) = true := by sorry
-- 142: VitalTwin$Copy.takeFrom (LVitalTwin$Copy;I)V
def vt_i142 : List (Nat × Instr × Nat) := [(0, .aload_n 0, 1), (1, .aload_n 1, 1), (2, .getfield 23, 3), (5, .putfield 23, 3), (8, .aload_n 0, 1), (9, .aload_n 1, 1), (10, .getfield 26, 3), (13, .putfield 26, 3), (16, .aload_n 0, 1), (17, .aload_n 1, 1), (18, .getfield 29, 3), (21, .putfield 29, 3), (24, .aload_n 0, 1), (25, .aload_n 1, 1), (26, .getfield 33, 3), (29, .putfield 33, 3), (32, .aload_n 1, 1), (33, .getfield 9, 3), (36, .iconst 0, 1), (37, .aload_n 0, 1), (38, .getfield 9, 3), (41, .iconst 0, 1), (42, .aload_n 0, 1), (43, .getfield 9, 3), (46, .arraylength, 1), (47, .invokestatic 36, 3), (50, .aload_n 1, 1), (51, .getfield 15, 3), (54, .iconst 0, 1), (55, .aload_n 0, 1), (56, .getfield 15, 3), (59, .iconst 0, 1), (60, .iconst 0, 1), (61, .iload_n 2, 1), (62, .aload_n 0, 1), (63, .getfield 15, 3), (66, .arraylength, 1), (67, .invokestatic 42, 3), (70, .invokestatic 48, 3), (73, .invokestatic 36, 3), (76, .return_, 1)]
theorem vt_o142 : vt_chk (prog_4_method_4_code, vt_i142) = true := by sorry
-- 143: VitalTwin$Machine.begin (LVitalTwin$Run;)V
def vt_i143 : List (Nat × Instr × Nat) := [(0, .iconst 0, 1), (1, .istore_n 2, 1), (2, .iload_n 2, 1), (3, .aload_n 0, 1), (4, .getfield 39, 3), (7, .getfield 53, 3), (10, .if_icmp .ge 79, 3), (13, .aload_n 0, 1), (14, .getfield 39, 3), (17, .iload_n 2, 1), (18, .invokevirtual 56, 3), (21, .astore_n 3, 1), (22, .aload_n 3, 1), (23, .ifnull 60, 3), (26, .aload_n 3, 1), (27, .getfield 60, 3), (30, .iconst 1, 1), (31, .if_icmp .ne 52, 3), (34, .aload_n 3, 1), (35, .getfield 71, 3), (38, .istore 4, 2), (40, .iload 4, 2), (42, .aload_n 3, 1), (43, .getfield 71, 3), (46, .aload_n 3, 1), (47, .getfield 74, 3), (50, .iadd, 1), (51, .if_icmp .ge 32, 3), (54, .iload 4, 2), (56, .aload_n 0, 1), (57, .getfield 33, 3), (60, .arraylength, 1), (61, .if_icmp .ge 22, 3), (64, .aload_n 1, 1), (65, .iload 4, 2), (67, .aload_n 0, 1), (68, .getfield 33, 3), (71, .iload 4, 2), (73, .iaload, 1), (74, .invokevirtual 89, 3), (77, .iinc 4 1, 3), (80, .goto (-40), 3), (83, .iinc 2 1, 3), (86, .goto (-84), 3), (89, .aload_n 1, 1), (90, .aload_n 0, 1), (91, .getfield 39, 3), (94, .getfield 133, 3), (97, .invokevirtual 136, 3), (100, .return_, 1)]
theorem vt_o143 : vt_chk (prog_7_method_8_code, vt_i143) = true := by sorry
-- 144: VitalTwin$Run.begin (I)V
def vt_i144 : List (Nat × Instr × Nat) := [(0, .aload_n 0, 1), (1, .iconst 1, 1), (2, .putfield 25, 3), (5, .aload_n 0, 1), (6, .iconst 0, 1), (7, .putfield 29, 3), (10, .aload_n 0, 1), (11, .iconst 0, 1), (12, .putfield 32, 3), (15, .aload_n 0, 1), (16, .iconst 0, 1), (17, .putfield 35, 3), (20, .aload_n 0, 1), (21, .getfield 14, 3), (24, .iload_n 1, 1), (25, .invokevirtual 49, 3), (28, .return_, 1)]
theorem vt_o144 : vt_chk (prog_10_method_6_code, vt_i144) = true := by sorry
-- 145: VitalTwin$Copy.begin (I)V
def vt_i145 : List (Nat × Instr × Nat) := [(0, .aload_n 0, 1), (1, .lconst 0, 1), (2, .putfield 23, 3), (5, .aload_n 0, 1), (6, .lconst 0, 1), (7, .putfield 26, 3), (10, .aload_n 0, 1), (11, .iload_n 1, 1), (12, .putfield 29, 3), (15, .aload_n 0, 1), (16, .iconst 0, 1), (17, .putfield 33, 3), (20, .return_, 1)]
theorem vt_o145 : vt_chk (prog_4_method_3_code, vt_i145) = true := by sorry
-- 146: VitalTwin$Run.step (LVitalTwin$Program;)V
def vt_i146_0 : List (Nat × Instr × Nat) := [(0, .aload_n 0, 1), (1, .aload_n 0, 1), (2, .getfield 25, 3), (5, .iconst 1, 1), (6, .isub, 1), (7, .invokevirtual 52, 3), (10, .aload_n 1, 1), (11, .getfield 56, 3), (14, .invokevirtual 62, 3), (17, .istore_n 2, 1), (18, .aload_n 0, 1), (19, .dup, 1), (20, .getfield 29, 3), (23, .iconst 1, 1), (24, .iadd, 1), (25, .putfield 29, 3), (28, .iload_n 2, 1), (29, .iconst 2, 1), (30, .if_icmp .ne 11, 3), (33, .aload_n 0, 1), (34, .iconst 1, 1), (35, .invokevirtual 66, 3), (38, .goto 83, 3), (41, .iload_n 2, 1), (42, .ifCond .ne 27, 3), (45, .aload_n 0, 1), (46, .getfield 29, 3), (49, .aload_n 0, 1), (50, .getfield 32, 3), (53, .isub, 1), (54, .aload_n 1, 1), (55, .getfield 69, 3), (58, .if_icmp .lt 63, 3), (61, .aload_n 0, 1), (62, .iconst 2, 1), (63, .invokevirtual 66, 3), (66, .goto 55, 3), (69, .aload_n 0, 1), (70, .getfield 25, 3), (73, .iconst 1, 1), (74, .if_icmp .ne 30, 3), (77, .aload_n 0, 1), (78, .iconst 2, 1), (79, .putfield 25, 3), (82, .aload_n 0, 1), (83, .aload_n 0, 1), (84, .getfield 29, 3), (87, .putfield 32, 3), (90, .aload_n 0, 1), (91, .getfield 22, 3), (94, .aload_n 1, 1), (95, .getfield 72, 3), (98, .invokevirtual 49, 3), (101, .goto 20, 3), (104, .aload_n 0, 1), (105, .aload_n 0, 1), (106, .aload_n 1, 1), (107, .invokevirtual 75, 3), (110, .ifCond .eq 7, 3), (113, .iconst 4, 1)]
def vt_i146_1 : List (Nat × Instr × Nat) := [(114, .goto 4, 3), (117, .iconst 3, 1), (118, .invokevirtual 66, 3), (121, .return_, 1)]
def vt_i146 : List (Nat × Instr × Nat) := vt_i146_0 ++ (vt_i146_1)
theorem vt_o146_0 : vt_chk (prog_10_method_7_code, vt_i146_0) = true := by sorry
theorem vt_o146_1 : vt_chk (prog_10_method_7_code, vt_i146_1) = true := by sorry
theorem vt_o146 : vt_chk (prog_10_method_7_code, vt_i146) = true := (vt_app vt_o146_0 vt_o146_1)
-- 147: VitalTwin$Run.of (I)LVitalTwin$Copy;
def vt_i147 : List (Nat × Instr × Nat) := [(0, .iload_n 1, 1), (1, .ifCond .ne 10, 3), (4, .aload_n 0, 1), (5, .getfield 14, 3), (8, .goto 7, 3), (11, .aload_n 0, 1), (12, .getfield 22, 3), (15, .areturn, 1)]
theorem vt_o147 : vt_chk (prog_10_method_2_code, vt_i147) = true := by sorry
-- 148: VitalTwin$Copy.step (LVitalTwin$Code;)I
def vt_i148_0 : List (Nat × Instr × Nat) := [(0, .aload_n 0, 1), (1, .getfield 29, 3), (4, .istore_n 2, 1), (5, .aload_n 1, 1), (6, .iload_n 2, 1), (7, .invokevirtual 59, 3), (10, .ifCond .ne 5, 3), (13, .iconst 2, 1), (14, .ireturn, 1), (15, .aload_n 0, 1), (16, .iload_n 2, 1), (17, .iconst 1, 1), (18, .iadd, 1), (19, .putfield 29, 3), (22, .aload_n 1, 1), (23, .getfield 65, 3), (26, .iload_n 2, 1), (27, .iaload, 1), (28, .istore_n 3, 1), (29, .aload_n 1, 1), (30, .getfield 68, 3), (33, .iload_n 2, 1), (34, .iaload, 1), (35, .istore 4, 2), (37, .iload 4, 2), (39, .tableswitch 218 0 23 #[109, 122, 133, 144, 154, 166, 218, 218, 218, 218, 218, 218, 218, 218, 218, 218, 218, 218, 218, 218, 218, 218, 178, 198], 109), (148, .aload_n 0, 1), (149, .iload_n 3, 1), (150, .i2l, 1), (151, .aload_n 0, 1), (152, .getfield 19, 3), (155, .lmul, 1), (156, .putfield 23, 3), (159, .iconst 0, 1), (160, .ireturn, 1), (161, .aload_n 0, 1), (162, .aload_n 0, 1), (163, .iload_n 3, 1), (164, .invokevirtual 55, 3), (167, .putfield 23, 3), (170, .iconst 0, 1), (171, .ireturn, 1), (172, .aload_n 0, 1), (173, .iload_n 3, 1), (174, .aload_n 0, 1), (175, .getfield 23, 3), (178, .invokevirtual 51, 3), (181, .iconst 0, 1), (182, .ireturn, 1), (183, .aload_n 0, 1), (184, .aload_n 0, 1), (185, .getfield 23, 3), (188, .putfield 26, 3), (191, .iconst 0, 1), (192, .ireturn, 1), (193, .aload_n 0, 1), (194, .iload_n 3, 1), (195, .aload_n 1, 1), (196, .getfield 71, 3), (199, .iload_n 2, 1)]
def vt_i148_1 : List (Nat × Instr × Nat) := [(200, .iaload, 1), (201, .invokevirtual 74, 3), (204, .ireturn, 1), (205, .aload_n 0, 1), (206, .iload_n 3, 1), (207, .aload_n 1, 1), (208, .getfield 71, 3), (211, .iload_n 2, 1), (212, .iaload, 1), (213, .invokevirtual 77, 3), (216, .ireturn, 1), (217, .aload_n 0, 1), (218, .aload_n 0, 1), (219, .getfield 23, 3), (222, .iload_n 3, 1), (223, .i2l, 1), (224, .aload_n 0, 1), (225, .getfield 19, 3), (228, .lmul, 1), (229, .invokestatic 80, 3), (232, .putfield 23, 3), (235, .iconst 0, 1), (236, .ireturn, 1), (237, .aload_n 0, 1), (238, .aload_n 0, 1), (239, .getfield 23, 3), (242, .iload_n 3, 1), (243, .i2l, 1), (244, .aload_n 0, 1), (245, .getfield 19, 3), (248, .lmul, 1), (249, .invokestatic 83, 3), (252, .putfield 23, 3), (255, .iconst 0, 1), (256, .ireturn, 1), (257, .iload 4, 2), (259, .bipush 24, 2), (261, .if_icmp .lt 13, 3), (264, .aload_n 0, 1), (265, .iload 4, 2), (267, .iload_n 3, 1), (268, .invokevirtual 85, 3), (271, .goto 9, 3), (274, .aload_n 0, 1), (275, .iload 4, 2), (277, .invokevirtual 88, 3), (280, .ireturn, 1)]
def vt_i148 : List (Nat × Instr × Nat) := vt_i148_0 ++ (vt_i148_1)
theorem vt_o148_0 : vt_chk (prog_4_method_9_code, vt_i148_0) = true := by sorry
theorem vt_o148_1 : vt_chk (prog_4_method_9_code, vt_i148_1) = true := by sorry
theorem vt_o148 : vt_chk (prog_4_method_9_code, vt_i148) = true := (vt_app vt_o148_0 vt_o148_1)
-- 149: VitalTwin$Copy.read (I)J
def vt_i149 : List (Nat × Instr × Nat) := [(0, .iload_n 1, 1), (1, .ifCond .lt 21, 3), (4, .iload_n 1, 1), (5, .aload_n 0, 1), (6, .getfield 15, 3), (9, .arraylength, 1), (10, .if_icmp .ge 12, 3), (13, .aload_n 0, 1), (14, .getfield 15, 3), (17, .iload_n 1, 1), (18, .laload, 1), (19, .goto 4, 3), (22, .lconst 0, 1), (23, .lreturn, 1)]
theorem vt_o149 : vt_chk (prog_4_method_5_code, vt_i149) = true := by sorry
-- 150: VitalTwin$Copy.loadElement (II)I
def vt_i150 : List (Nat × Instr × Nat) := [(0, .aload_n 0, 1), (1, .aload_n 0, 1), (2, .getfield 23, 3), (5, .iload_n 2, 1), (6, .invokevirtual 92, 3), (9, .istore_n 3, 1), (10, .iload_n 3, 1), (11, .ifCond .ge 5, 3), (14, .iconst 2, 1), (15, .ireturn, 1), (16, .aload_n 0, 1), (17, .aload_n 0, 1), (18, .iload_n 1, 1), (19, .iload_n 3, 1), (20, .iadd, 1), (21, .invokevirtual 55, 3), (24, .putfield 23, 3), (27, .iconst 0, 1), (28, .ireturn, 1)]
theorem vt_o150 : vt_chk (prog_4_method_11_code, vt_i150) = true := by sorry
-- 151: VitalTwin$Copy.indexOf (JI)I
def vt_i151 : List (Nat × Instr × Nat) := [(0, .aload_n 0, 1), (1, .getfield 19, 3), (4, .lconst 0, 1), (5, .lcmp, 1), (6, .ifCond .eq 14, 3), (9, .lload_n 1, 1), (10, .aload_n 0, 1), (11, .getfield 19, 3), (14, .lrem, 1), (15, .lconst 0, 1), (16, .lcmp, 1), (17, .ifCond .eq 5, 3), (20, .iconst (-1), 1), (21, .ireturn, 1), (22, .lload_n 1, 1), (23, .aload_n 0, 1), (24, .getfield 19, 3), (27, .ldiv, 1), (28, .lstore 4, 2), (30, .lload 4, 2), (32, .lconst 0, 1), (33, .lcmp, 1), (34, .ifCond .lt 11, 3), (37, .lload 4, 2), (39, .iload_n 3, 1), (40, .i2l, 1), (41, .lcmp, 1), (42, .ifCond .lt 7, 3), (45, .iconst (-1), 1), (46, .goto 6, 3), (49, .lload 4, 2), (51, .l2i, 1), (52, .ireturn, 1)]
theorem vt_o151 : vt_chk (prog_4_method_10_code, vt_i151) = true := by sorry
-- 152: VitalTwin$Copy.storeElement (II)I
def vt_i152 : List (Nat × Instr × Nat) := [(0, .aload_n 0, 1), (1, .aload_n 0, 1), (2, .getfield 26, 3), (5, .iload_n 2, 1), (6, .invokevirtual 92, 3), (9, .istore_n 3, 1), (10, .iload_n 3, 1), (11, .ifCond .ge 5, 3), (14, .iconst 2, 1), (15, .ireturn, 1), (16, .aload_n 0, 1), (17, .iload_n 1, 1), (18, .iload_n 3, 1), (19, .iadd, 1), (20, .aload_n 0, 1), (21, .getfield 23, 3), (24, .invokevirtual 51, 3), (27, .iconst 0, 1), (28, .ireturn, 1)]
theorem vt_o152 : vt_chk (prog_4_method_12_code, vt_i152) = true := by sorry
-- 153: VitalTwin$Copy.go (II)I
def vt_i153 : List (Nat × Instr × Nat) := [(0, .iload_n 1, 1), (1, .tableswitch 105 24 29 #[39, 46, 69, 92, 98, 103], 39), (40, .aload_n 0, 1), (41, .iload_n 2, 1), (42, .putfield 29, 3), (45, .iconst 0, 1), (46, .ireturn, 1), (47, .aload_n 0, 1), (48, .aload_n 0, 1), (49, .getfield 23, 3), (52, .lconst 0, 1), (53, .lcmp, 1), (54, .ifCond .ne 7, 3), (57, .iload_n 2, 1), (58, .goto 7, 3), (61, .aload_n 0, 1), (62, .getfield 29, 3), (65, .putfield 29, 3), (68, .iconst 0, 1), (69, .ireturn, 1), (70, .aload_n 0, 1), (71, .aload_n 0, 1), (72, .getfield 23, 3), (75, .lconst 0, 1), (76, .lcmp, 1), (77, .ifCond .eq 7, 3), (80, .iload_n 2, 1), (81, .goto 7, 3), (84, .aload_n 0, 1), (85, .getfield 29, 3), (88, .putfield 29, 3), (91, .iconst 0, 1), (92, .ireturn, 1), (93, .aload_n 0, 1), (94, .iload_n 2, 1), (95, .invokevirtual 96, 3), (98, .ireturn, 1), (99, .aload_n 0, 1), (100, .invokevirtual 99, 3), (103, .ireturn, 1), (104, .iconst 1, 1), (105, .ireturn, 1), (106, .aload_n 0, 1), (107, .getfield 23, 3), (110, .lconst 0, 1), (111, .lcmp, 1), (112, .ifCond .ne 7, 3), (115, .iconst 2, 1), (116, .goto 4, 3), (119, .iconst 0, 1), (120, .ireturn, 1)]
theorem vt_o153 : vt_chk (prog_4_method_13_code, vt_i153) = true := by sorry
-- 154: VitalTwin$Copy.callTo (I)I
def vt_i154 : List (Nat × Instr × Nat) := [(0, .aload_n 0, 1), (1, .getfield 33, 3), (4, .ifCond .lt 15, 3), (7, .aload_n 0, 1), (8, .getfield 33, 3), (11, .aload_n 0, 1), (12, .getfield 9, 3), (15, .arraylength, 1), (16, .if_icmp .lt 5, 3), (19, .iconst 2, 1), (20, .ireturn, 1), (21, .aload_n 0, 1), (22, .getfield 9, 3), (25, .aload_n 0, 1), (26, .getfield 33, 3), (29, .aload_n 0, 1), (30, .getfield 29, 3), (33, .iastore, 1), (34, .aload_n 0, 1), (35, .dup, 1), (36, .getfield 33, 3), (39, .iconst 1, 1), (40, .iadd, 1), (41, .putfield 33, 3), (44, .aload_n 0, 1), (45, .iload_n 1, 1), (46, .putfield 29, 3), (49, .iconst 0, 1), (50, .ireturn, 1)]
theorem vt_o154 : vt_chk (prog_4_method_14_code, vt_i154) = true := by sorry
-- 155: VitalTwin$Copy.comeBack ()I
def vt_i155 : List (Nat × Instr × Nat) := [(0, .aload_n 0, 1), (1, .getfield 33, 3), (4, .iconst 1, 1), (5, .if_icmp .lt 15, 3), (8, .aload_n 0, 1), (9, .getfield 33, 3), (12, .aload_n 0, 1), (13, .getfield 9, 3), (16, .arraylength, 1), (17, .if_icmp .le 5, 3), (20, .iconst 2, 1), (21, .ireturn, 1), (22, .aload_n 0, 1), (23, .dup, 1), (24, .getfield 33, 3), (27, .iconst 1, 1), (28, .isub, 1), (29, .putfield 33, 3), (32, .aload_n 0, 1), (33, .aload_n 0, 1), (34, .getfield 9, 3), (37, .aload_n 0, 1), (38, .getfield 33, 3), (41, .iaload, 1), (42, .putfield 29, 3), (45, .iconst 0, 1), (46, .ireturn, 1)]
theorem vt_o155 : vt_chk (prog_4_method_15_code, vt_i155) = true := by sorry
-- 156: VitalTwin$Copy.work (I)I
def vt_i156_0 : List (Nat × Instr × Nat) := [(0, .iload_n 1, 1), (1, .tableswitch 198 6 20 #[75, 90, 105, 110, 110, 126, 143, 198, 198, 198, 198, 198, 198, 160, 171], 75), (76, .aload_n 0, 1), (77, .aload_n 0, 1), (78, .getfield 23, 3), (81, .aload_n 0, 1), (82, .getfield 26, 3), (85, .ladd, 1), (86, .putfield 23, 3), (89, .iconst 0, 1), (90, .ireturn, 1), (91, .aload_n 0, 1), (92, .aload_n 0, 1), (93, .getfield 23, 3), (96, .aload_n 0, 1), (97, .getfield 26, 3), (100, .lsub, 1), (101, .putfield 23, 3), (104, .iconst 0, 1), (105, .ireturn, 1), (106, .aload_n 0, 1), (107, .invokevirtual 103, 3), (110, .ireturn, 1), (111, .aload_n 0, 1), (112, .iload_n 1, 1), (113, .bipush 9, 2), (115, .if_icmp .ne 7, 3), (118, .iconst 1, 1), (119, .goto 4, 3), (122, .iconst 0, 1), (123, .invokevirtual 106, 3), (126, .ireturn, 1), (127, .aload_n 0, 1), (128, .aload_n 0, 1), (129, .getfield 23, 3), (132, .aload_n 0, 1), (133, .getfield 26, 3), (136, .invokestatic 83, 3), (139, .putfield 23, 3), (142, .iconst 0, 1), (143, .ireturn, 1), (144, .aload_n 0, 1), (145, .aload_n 0, 1), (146, .getfield 23, 3), (149, .aload_n 0, 1), (150, .getfield 26, 3), (153, .invokestatic 80, 3), (156, .putfield 23, 3), (159, .iconst 0, 1), (160, .ireturn, 1), (161, .aload_n 0, 1), (162, .aload_n 0, 1), (163, .getfield 23, 3), (166, .lneg, 1), (167, .putfield 23, 3), (170, .iconst 0, 1), (171, .ireturn, 1), (172, .aload_n 0, 1), (173, .aload_n 0, 1), (174, .getfield 23, 3)]
def vt_i156_1 : List (Nat × Instr × Nat) := [(177, .lconst 0, 1), (178, .lcmp, 1), (179, .ifCond .ge 11, 3), (182, .aload_n 0, 1), (183, .getfield 23, 3), (186, .lneg, 1), (187, .goto 7, 3), (190, .aload_n 0, 1), (191, .getfield 23, 3), (194, .putfield 23, 3), (197, .iconst 0, 1), (198, .ireturn, 1), (199, .aload_n 0, 1), (200, .aload_n 0, 1), (201, .iload_n 1, 1), (202, .invokevirtual 110, 3), (205, .ifCond .eq 10, 3), (208, .aload_n 0, 1), (209, .getfield 19, 3), (212, .goto 4, 3), (215, .lconst 0, 1), (216, .putfield 23, 3), (219, .iconst 0, 1), (220, .ireturn, 1)]
def vt_i156 : List (Nat × Instr × Nat) := vt_i156_0 ++ (vt_i156_1)
theorem vt_o156_0 : vt_chk (prog_4_method_16_code, vt_i156_0) = true := by sorry
theorem vt_o156_1 : vt_chk (prog_4_method_16_code, vt_i156_1) = true := by sorry
theorem vt_o156 : vt_chk (prog_4_method_16_code, vt_i156) = true := (vt_app vt_o156_0 vt_o156_1)
-- 157: VitalTwin$Copy.multiply ()I
def vt_i157 : List (Nat × Instr × Nat) := [(0, .aload_n 0, 1), (1, .getfield 23, 3), (4, .aload_n 0, 1), (5, .getfield 26, 3), (8, .lmul, 1), (9, .lstore_n 1, 1), (10, .aload_n 0, 1), (11, .getfield 19, 3), (14, .lconst 0, 1), (15, .lcmp, 1), (16, .ifCond .eq 14, 3), (19, .lload_n 1, 1), (20, .aload_n 0, 1), (21, .getfield 19, 3), (24, .lrem, 1), (25, .lconst 0, 1), (26, .lcmp, 1), (27, .ifCond .eq 5, 3), (30, .iconst 2, 1), (31, .ireturn, 1), (32, .aload_n 0, 1), (33, .lload_n 1, 1), (34, .aload_n 0, 1), (35, .getfield 19, 3), (38, .ldiv, 1), (39, .putfield 23, 3), (42, .iconst 0, 1), (43, .ireturn, 1)]
theorem vt_o157 : vt_chk (prog_4_method_17_code, vt_i157) = true := by sorry
-- 158: VitalTwin$Copy.divide (Z)I
def vt_i158 : List (Nat × Instr × Nat) := [(0, .aload_n 0, 1), (1, .getfield 26, 3), (4, .lconst 0, 1), (5, .lcmp, 1), (6, .ifCond .ne 5, 3), (9, .iconst 2, 1), (10, .ireturn, 1), (11, .aload_n 0, 1), (12, .iload_n 1, 1), (13, .ifCond .eq 20, 3), (16, .aload_n 0, 1), (17, .getfield 19, 3), (20, .aload_n 0, 1), (21, .getfield 23, 3), (24, .aload_n 0, 1), (25, .getfield 26, 3), (28, .ldiv, 1), (29, .lmul, 1), (30, .goto 12, 3), (33, .aload_n 0, 1), (34, .getfield 23, 3), (37, .aload_n 0, 1), (38, .getfield 26, 3), (41, .lrem, 1), (42, .putfield 23, 3), (45, .iconst 0, 1), (46, .ireturn, 1)]
theorem vt_o158 : vt_chk (prog_4_method_18_code, vt_i158) = true := by sorry
-- 159: VitalTwin$Copy.isTrue (I)Z
def vt_i159_0 : List (Nat × Instr × Nat) := [(0, .iload_n 1, 1), (1, .tableswitch 147 13 18 #[39, 57, 75, 93, 111, 129], 39), (40, .aload_n 0, 1), (41, .getfield 23, 3), (44, .aload_n 0, 1), (45, .getfield 26, 3), (48, .lcmp, 1), (49, .ifCond .ge 7, 3), (52, .iconst 1, 1), (53, .goto 4, 3), (56, .iconst 0, 1), (57, .ireturn, 1), (58, .aload_n 0, 1), (59, .getfield 23, 3), (62, .aload_n 0, 1), (63, .getfield 26, 3), (66, .lcmp, 1), (67, .ifCond .gt 7, 3), (70, .iconst 1, 1), (71, .goto 4, 3), (74, .iconst 0, 1), (75, .ireturn, 1), (76, .aload_n 0, 1), (77, .getfield 23, 3), (80, .aload_n 0, 1), (81, .getfield 26, 3), (84, .lcmp, 1), (85, .ifCond .le 7, 3), (88, .iconst 1, 1), (89, .goto 4, 3), (92, .iconst 0, 1), (93, .ireturn, 1), (94, .aload_n 0, 1), (95, .getfield 23, 3), (98, .aload_n 0, 1), (99, .getfield 26, 3), (102, .lcmp, 1), (103, .ifCond .lt 7, 3), (106, .iconst 1, 1), (107, .goto 4, 3), (110, .iconst 0, 1), (111, .ireturn, 1), (112, .aload_n 0, 1), (113, .getfield 23, 3), (116, .aload_n 0, 1), (117, .getfield 26, 3), (120, .lcmp, 1), (121, .ifCond .ne 7, 3), (124, .iconst 1, 1), (125, .goto 4, 3), (128, .iconst 0, 1), (129, .ireturn, 1), (130, .aload_n 0, 1), (131, .getfield 23, 3), (134, .aload_n 0, 1), (135, .getfield 26, 3), (138, .lcmp, 1), (139, .ifCond .eq 7, 3), (142, .iconst 1, 1), (143, .goto 4, 3)]
def vt_i159_1 : List (Nat × Instr × Nat) := [(146, .iconst 0, 1), (147, .ireturn, 1), (148, .aload_n 0, 1), (149, .getfield 23, 3), (152, .lconst 0, 1), (153, .lcmp, 1), (154, .ifCond .ne 7, 3), (157, .iconst 1, 1), (158, .goto 4, 3), (161, .iconst 0, 1), (162, .ireturn, 1)]
def vt_i159 : List (Nat × Instr × Nat) := vt_i159_0 ++ (vt_i159_1)
theorem vt_o159_0 : vt_chk (prog_4_method_19_code, vt_i159_0) = true := by sorry
theorem vt_o159_1 : vt_chk (prog_4_method_19_code, vt_i159_1) = true := by sorry
theorem vt_o159 : vt_chk (prog_4_method_19_code, vt_i159) = true := (vt_app vt_o159_0 vt_o159_1)
-- 160: VitalTwin$Run.end (I)V
def vt_i160 : List (Nat × Instr × Nat) := [(0, .aload_n 0, 1), (1, .iload_n 1, 1), (2, .putfield 35, 3), (5, .aload_n 0, 1), (6, .iconst 0, 1), (7, .putfield 25, 3), (10, .aload_n 0, 1), (11, .iconst 0, 1), (12, .putfield 29, 3), (15, .return_, 1)]
theorem vt_o160 : vt_chk (prog_10_method_8_code, vt_i160) = true := by sorry
-- 161: VitalTwin$Run.agrees (LVitalTwin$Program;)Z
def vt_i161 : List (Nat × Instr × Nat) := [(0, .iconst 0, 1), (1, .istore_n 2, 1), (2, .iload_n 2, 1), (3, .aload_n 1, 1), (4, .getfield 79, 3), (7, .if_icmp .ge 37, 3), (10, .aload_n 1, 1), (11, .iload_n 2, 1), (12, .invokevirtual 82, 3), (15, .astore_n 3, 1), (16, .aload_n 3, 1), (17, .ifnull 21, 3), (20, .aload_n 3, 1), (21, .getfield 86, 3), (24, .iconst 2, 1), (25, .if_icmp .ne 13, 3), (28, .aload_n 0, 1), (29, .aload_n 3, 1), (30, .invokevirtual 91, 3), (33, .ifCond .ne 5, 3), (36, .iconst 0, 1), (37, .ireturn, 1), (38, .iinc 2 1, 3), (41, .goto (-39), 3), (44, .iconst 1, 1), (45, .ireturn, 1)]
theorem vt_o161 : vt_chk (prog_10_method_9_code, vt_i161) = true := by sorry
-- 162: VitalTwin$Run.agreesAbout (LVitalTwin$Symbol;)Z
def vt_i162 : List (Nat × Instr × Nat) := [(0, .aload_n 1, 1), (1, .getfield 95, 3), (4, .istore_n 2, 1), (5, .iload_n 2, 1), (6, .aload_n 1, 1), (7, .getfield 95, 3), (10, .aload_n 1, 1), (11, .getfield 98, 3), (14, .iadd, 1), (15, .if_icmp .ge 57, 3), (18, .aload_n 0, 1), (19, .getfield 14, 3), (22, .iload_n 2, 1), (23, .invokevirtual 101, 3), (26, .lstore_n 3, 1), (27, .lload_n 3, 1), (28, .aload_n 1, 1), (29, .getfield 105, 3), (32, .i2l, 1), (33, .lcmp, 1), (34, .ifCond .lt 30, 3), (37, .lload_n 3, 1), (38, .aload_n 1, 1), (39, .getfield 108, 3), (42, .i2l, 1), (43, .lcmp, 1), (44, .ifCond .gt 20, 3), (47, .aload_n 0, 1), (48, .getfield 22, 3), (51, .iload_n 2, 1), (52, .invokevirtual 101, 3), (55, .ldc2_w 20, 3), (58, .lload_n 3, 1), (59, .lmul, 1), (60, .lcmp, 1), (61, .ifCond .eq 5, 3), (64, .iconst 0, 1), (65, .ireturn, 1), (66, .iinc 2 1, 3), (69, .goto (-64), 3), (72, .iconst 1, 1), (73, .ireturn, 1)]
theorem vt_o162 : vt_chk (prog_10_method_10_code, vt_i162) = true := by sorry
-- 163: VitalTwin$Run.finish (LVitalTwin$Program;)V
def vt_i163 : List (Nat × Instr × Nat) := [(0, .iconst 0, 1), (1, .istore_n 2, 1), (2, .iload_n 2, 1), (3, .ldc 111, 2), (5, .if_icmp .ge 21, 3), (8, .aload_n 0, 1), (9, .getfield 25, 3), (12, .ifCond .eq 14, 3), (15, .aload_n 0, 1), (16, .aload_n 1, 1), (17, .invokevirtual 112, 3), (20, .iinc 2 1, 3), (23, .goto (-21), 3), (26, .return_, 1)]
theorem vt_o163 : vt_chk (prog_10_method_11_code, vt_i163) = true := by sorry
-- 164: VitalTwin$Machine.copyOuts (LVitalTwin$Run;[II)V
def vt_i164 : List (Nat × Instr × Nat) := [(0, .iload_n 3, 1), (1, .istore 4, 2), (3, .iconst 0, 1), (4, .istore 5, 2), (6, .iload 5, 2), (8, .aload_n 0, 1), (9, .getfield 39, 3), (12, .getfield 53, 3), (15, .if_icmp .ge 88, 3), (18, .aload_n 0, 1), (19, .getfield 39, 3), (22, .iload 5, 2), (24, .invokevirtual 56, 3), (27, .astore 6, 2), (29, .aload 6, 2), (31, .ifnull 66, 3), (34, .aload 6, 2), (36, .getfield 60, 3), (39, .iconst 2, 1), (40, .if_icmp .ne 57, 3), (43, .aload 6, 2), (45, .getfield 71, 3), (48, .istore 7, 2), (50, .iload 7, 2), (52, .aload 6, 2), (54, .getfield 71, 3), (57, .aload 6, 2), (59, .getfield 74, 3), (62, .iadd, 1), (63, .if_icmp .ge 34, 3), (66, .iload 4, 2), (68, .aload_n 2, 1), (69, .arraylength, 1), (70, .if_icmp .ge 27, 3), (73, .aload_n 2, 1), (74, .iload 4, 2), (76, .aload_n 1, 1), (77, .iconst 0, 1), (78, .invokevirtual 138, 3), (81, .iload 7, 2), (83, .invokevirtual 154, 3), (86, .l2i, 1), (87, .iastore, 1), (88, .iinc 4 1, 3), (91, .iinc 7 1, 3), (94, .goto (-44), 3), (97, .iinc 5 1, 3), (100, .goto (-94), 3), (103, .return_, 1)]
theorem vt_o164 : vt_chk (prog_7_method_11_code, vt_i164) = true := by sorry
-- 165: VitalTwin$Copy.turn (II)V
def vt_i165 : List (Nat × Instr × Nat) := [(0, .lconst 1, 1), (1, .iload_n 2, 1), (2, .lshl, 1), (3, .lstore_n 3, 1), (4, .iload_n 1, 1), (5, .iconst (-1), 1), (6, .if_icmp .ne 16, 3), (9, .aload_n 0, 1), (10, .dup, 1), (11, .getfield 23, 3), (14, .lload_n 3, 1), (15, .lxor, 1), (16, .putfield 23, 3), (19, .goto 34, 3), (22, .iload_n 1, 1), (23, .bipush (-2), 2), (25, .if_icmp .ne 16, 3), (28, .aload_n 0, 1), (29, .dup, 1), (30, .getfield 26, 3), (33, .lload_n 3, 1), (34, .lxor, 1), (35, .putfield 26, 3), (38, .goto 15, 3), (41, .aload_n 0, 1), (42, .iload_n 1, 1), (43, .aload_n 0, 1), (44, .iload_n 1, 1), (45, .invokevirtual 55, 3), (48, .lload_n 3, 1), (49, .lxor, 1), (50, .invokevirtual 51, 3), (53, .return_, 1)]
theorem vt_o165 : vt_chk (prog_4_method_8_code, vt_i165) = true := by sorry
-- 166: VitalTwin$Machine.outcomeOfTrial ()I
def vt_i166_0 : List (Nat × Instr × Nat) := [(0, .aload_n 0, 1), (1, .getfield 27, 3), (4, .getfield 147, 3), (7, .iconst 4, 1), (8, .if_icmp .eq 11, 3), (11, .aload_n 0, 1), (12, .getfield 27, 3), (15, .getfield 147, 3), (18, .ireturn, 1), (19, .iconst 0, 1), (20, .istore_n 1, 1), (21, .iconst 0, 1), (22, .istore_n 2, 1), (23, .iload_n 2, 1), (24, .aload_n 0, 1), (25, .getfield 39, 3), (28, .getfield 53, 3), (31, .if_icmp .ge 94, 3), (34, .aload_n 0, 1), (35, .getfield 39, 3), (38, .iload_n 2, 1), (39, .invokevirtual 56, 3), (42, .astore_n 3, 1), (43, .aload_n 3, 1), (44, .ifnull 75, 3), (47, .aload_n 3, 1), (48, .getfield 60, 3), (51, .iconst 2, 1), (52, .if_icmp .ne 67, 3), (55, .aload_n 3, 1), (56, .getfield 71, 3), (59, .istore 4, 2), (61, .iload 4, 2), (63, .aload_n 3, 1), (64, .getfield 71, 3), (67, .aload_n 3, 1), (68, .getfield 74, 3), (71, .iadd, 1), (72, .if_icmp .ge 47, 3), (75, .iload_n 1, 1), (76, .aload_n 0, 1), (77, .getfield 36, 3), (80, .arraylength, 1), (81, .if_icmp .ge 38, 3), (84, .aload_n 0, 1), (85, .getfield 27, 3), (88, .iconst 0, 1), (89, .invokevirtual 138, 3), (92, .iload 4, 2), (94, .invokevirtual 154, 3), (97, .aload_n 0, 1), (98, .getfield 36, 3), (101, .iload_n 1, 1), (102, .iaload, 1), (103, .i2l, 1), (104, .lcmp, 1), (105, .ifCond .eq 5, 3), (108, .iconst 4, 1), (109, .ireturn, 1), (110, .iinc 1 1, 3)]
def vt_i166_1 : List (Nat × Instr × Nat) := [(113, .iinc 4 1, 3), (116, .goto (-55), 3), (119, .iinc 2 1, 3), (122, .goto (-99), 3), (125, .iconst 0, 1), (126, .ireturn, 1)]
def vt_i166 : List (Nat × Instr × Nat) := vt_i166_0 ++ (vt_i166_1)
theorem vt_o166_0 : vt_chk (prog_7_method_17_code, vt_i166_0) = true := by sorry
theorem vt_o166_1 : vt_chk (prog_7_method_17_code, vt_i166_1) = true := by sorry
theorem vt_o166 : vt_chk (prog_7_method_17_code, vt_i166) = true := (vt_app vt_o166_0 vt_o166_1)
-- 167: VitalTwin.flip (IIII)Z
def vt_i167 : List (Nat × Instr × Nat) := [(0, .aload_n 0, 1), (1, .getfield 46, 3), (4, .iload_n 1, 1), (5, .iload_n 2, 1), (6, .invokevirtual 172, 3), (9, .ifCond .eq 22, 3), (12, .aload_n 0, 1), (13, .getfield 46, 3), (16, .iload_n 1, 1), (17, .iload_n 2, 1), (18, .iload_n 3, 1), (19, .iload 4, 2), (21, .invokevirtual 221, 3), (24, .ifCond .eq 7, 3), (27, .iconst 1, 1), (28, .goto 4, 3), (31, .iconst 0, 1), (32, .ireturn, 1)]
theorem vt_o167 : vt_chk (prog_1_method_17_code, vt_i167) = true := by sorry
-- 168: VitalTwin$Machine.plan (IIII)Z
def vt_i168_0 : List (Nat × Instr × Nat) := [(0, .iload_n 3, 1), (1, .ifCond .lt 37, 3), (4, .iload_n 3, 1), (5, .bipush 64, 2), (7, .if_icmp .ge 31, 3), (10, .iload 4, 2), (12, .aload_n 0, 1), (13, .getfield 23, 3), (16, .getfield 116, 3), (19, .if_icmp .lt 19, 3), (22, .aload_n 0, 1), (23, .getfield 93, 3), (26, .ifCond .ne 12, 3), (29, .aload_n 0, 1), (30, .getfield 99, 3), (33, .bipush 8, 2), (35, .if_icmp .lt 5, 3), (38, .iconst 0, 1), (39, .ireturn, 1), (40, .aload_n 0, 1), (41, .getfield 15, 3), (44, .iconst 4, 1), (45, .aload_n 0, 1), (46, .getfield 99, 3), (49, .imul, 1), (50, .iload_n 1, 1), (51, .iastore, 1), (52, .aload_n 0, 1), (53, .getfield 15, 3), (56, .iconst 4, 1), (57, .aload_n 0, 1), (58, .getfield 99, 3), (61, .imul, 1), (62, .iconst 1, 1), (63, .iadd, 1), (64, .iload_n 2, 1), (65, .iastore, 1), (66, .aload_n 0, 1), (67, .getfield 15, 3), (70, .iconst 4, 1), (71, .aload_n 0, 1), (72, .getfield 99, 3), (75, .imul, 1), (76, .iconst 2, 1), (77, .iadd, 1), (78, .iload_n 3, 1), (79, .iastore, 1), (80, .aload_n 0, 1), (81, .getfield 15, 3), (84, .iconst 4, 1), (85, .aload_n 0, 1), (86, .getfield 99, 3), (89, .imul, 1), (90, .iconst 3, 1), (91, .iadd, 1), (92, .iload 4, 2), (94, .iastore, 1), (95, .aload_n 0, 1), (96, .dup, 1), (97, .getfield 99, 3)]
def vt_i168_1 : List (Nat × Instr × Nat) := [(100, .iconst 1, 1), (101, .iadd, 1), (102, .putfield 99, 3), (105, .iconst 1, 1), (106, .ireturn, 1)]
def vt_i168 : List (Nat × Instr × Nat) := vt_i168_0 ++ (vt_i168_1)
theorem vt_o168_0 : vt_chk (prog_7_method_6_code, vt_i168_0) = true := by sorry
theorem vt_o168_1 : vt_chk (prog_7_method_6_code, vt_i168_1) = true := by sorry
theorem vt_o168 : vt_chk (prog_7_method_6_code, vt_i168) = true := (vt_app vt_o168_0 vt_o168_1)
-- 169: VitalTwin.power ()Z
def vt_i169 : List (Nat × Instr × Nat) := [(0, .aload_n 0, 1), (1, .getfield 46, 3), (4, .getfield 141, 3), (7, .ifCond .ne 5, 3), (10, .iconst 0, 1), (11, .ireturn, 1), (12, .aload_n 0, 1), (13, .getfield 46, 3), (16, .invokevirtual 225, 3), (19, .iconst 1, 1), (20, .ireturn, 1)]
theorem vt_o169 : vt_chk (prog_1_method_18_code, vt_i169) = true := by sorry
-- 170: VitalTwin.count (I)I
def vt_i170 : List (Nat × Instr × Nat) := [(0, .iload_n 1, 1), (1, .ifCond .ne 11, 3), (4, .aload_n 0, 1), (5, .getfield 24, 3), (8, .getfield 228, 3), (11, .ireturn, 1), (12, .aload_n 0, 1), (13, .getfield 46, 3), (16, .getfield 141, 3), (19, .ifCond .ne 5, 3), (22, .iconst (-1), 1), (23, .ireturn, 1), (24, .iload_n 1, 1), (25, .bipush 8, 2), (27, .if_icmp .ge 17, 3), (30, .aload_n 0, 1), (31, .getfield 46, 3), (34, .getfield 155, 3), (37, .iload_n 1, 1), (38, .invokevirtual 231, 3), (41, .goto 11, 3), (44, .aload_n 0, 1), (45, .getfield 46, 3), (48, .iload_n 1, 1), (49, .invokevirtual 232, 3), (52, .ireturn, 1)]
theorem vt_o170 : vt_chk (prog_1_method_19_code, vt_i170) = true := by sorry
-- 171: VitalTwin$Program.answer (I)I
def vt_i171 : List (Nat × Instr × Nat) := [(0, .iload_n 1, 1), (1, .tableswitch 81 1 7 #[43, 48, 56, 61, 66, 71, 76], 43), (44, .aload_n 0, 1), (45, .getfield 31, 3), (48, .ireturn, 1), (49, .aload_n 0, 1), (50, .getfield 12, 3), (53, .getfield 130, 3), (56, .ireturn, 1), (57, .aload_n 0, 1), (58, .getfield 35, 3), (61, .ireturn, 1), (62, .aload_n 0, 1), (63, .getfield 38, 3), (66, .ireturn, 1), (67, .aload_n 0, 1), (68, .getfield 41, 3), (71, .ireturn, 1), (72, .aload_n 0, 1), (73, .getfield 44, 3), (76, .ireturn, 1), (77, .aload_n 0, 1), (78, .getfield 47, 3), (81, .ireturn, 1), (82, .iconst (-1), 1), (83, .ireturn, 1)]
theorem vt_o171 : vt_chk (prog_8_method_12_code, vt_i171) = true := by sorry
-- 172: VitalTwin$Machine.answer (I)I
def vt_i172 : List (Nat × Instr × Nat) := [(0, .iload_n 1, 1), (1, .tableswitch 75 8 13 #[39, 44, 52, 60, 65, 70], 39), (40, .aload_n 0, 1), (41, .getfield 96, 3), (44, .ireturn, 1), (45, .aload_n 0, 1), (46, .getfield 23, 3), (49, .getfield 116, 3), (52, .ireturn, 1), (53, .aload_n 0, 1), (54, .getfield 23, 3), (57, .getfield 113, 3), (60, .ireturn, 1), (61, .aload_n 0, 1), (62, .getfield 93, 3), (65, .ireturn, 1), (66, .aload_n 0, 1), (67, .getfield 99, 3), (70, .ireturn, 1), (71, .aload_n 0, 1), (72, .getfield 102, 3), (75, .ireturn, 1), (76, .iconst (-1), 1), (77, .ireturn, 1)]
theorem vt_o172 : vt_chk (prog_7_method_18_code, vt_i172) = true := by sorry
-- 173: VitalTwin.range (II)J
def vt_i173 : List (Nat × Instr × Nat) := [(0, .aload_n 0, 1), (1, .getfield 30, 3), (4, .getfield 39, 3), (7, .getfield 89, 3), (10, .astore_n 3, 1), (11, .aload_n 3, 1), (12, .iload_n 1, 1), (13, .invokevirtual 93, 3), (16, .ifCond .eq 12, 3), (19, .iload_n 2, 1), (20, .ifCond .lt 8, 3), (23, .iload_n 2, 1), (24, .iconst 1, 1), (25, .if_icmp .le 13, 3), (28, .new 109, 3), (31, .dup, 1), (32, .ldc 111, 2), (34, .invokespecial 113, 3), (37, .athrow, 1), (38, .iload_n 2, 1), (39, .ifCond .ne 13, 3), (42, .aload_n 3, 1), (43, .getfield 116, 3), (46, .iload_n 1, 1), (47, .iaload, 1), (48, .i2l, 1), (49, .goto 10, 3), (52, .aload_n 3, 1), (53, .getfield 119, 3), (56, .iload_n 1, 1), (57, .iaload, 1), (58, .i2l, 1), (59, .lreturn, 1)]
theorem vt_o173 : vt_chk (prog_1_method_7_code, vt_i173) = true := by sorry
-- 174: VitalTwin.steps (I)I
def vt_i174 : List (Nat × Instr × Nat) := [(0, .iload_n 1, 1), (1, .iconst 1, 1), (2, .if_icmp .lt 9, 3), (5, .iload_n 1, 1), (6, .ldc 135, 2), (8, .if_icmp .le 13, 3), (11, .new 136, 3), (14, .dup, 1), (15, .ldc 138, 2), (17, .invokespecial 140, 3), (20, .athrow, 1), (21, .aload_n 0, 1), (22, .getfield 46, 3), (25, .getfield 141, 3), (28, .ifCond .ne 13, 3), (31, .new 61, 3), (34, .dup, 1), (35, .ldc 145, 2), (37, .invokespecial 147, 3), (40, .athrow, 1), (41, .aload_n 0, 1), (42, .getfield 46, 3), (45, .iload_n 1, 1), (46, .invokevirtual 148, 3), (49, .ireturn, 1)]
theorem vt_o174 : vt_chk (prog_1_method_10_code, vt_i174) = true := by sorry
-- 175: VitalTwin$Machine.go (I)I
def vt_i175 : List (Nat × Instr × Nat) := [(0, .aload_n 0, 1), (1, .getfield 93, 3), (4, .ifCond .eq 5, 3), (7, .iconst 0, 1), (8, .ireturn, 1), (9, .aload_n 0, 1), (10, .getfield 23, 3), (13, .getfield 113, 3), (16, .ifCond .ne 11, 3), (19, .aload_n 0, 1), (20, .aload_n 0, 1), (21, .getfield 23, 3), (24, .invokevirtual 119, 3), (27, .iconst 0, 1), (28, .istore_n 2, 1), (29, .iload_n 2, 1), (30, .iload_n 1, 1), (31, .if_icmp .ge 34, 3), (34, .aload_n 0, 1), (35, .getfield 23, 3), (38, .getfield 113, 3), (41, .ifCond .eq 24, 3), (44, .aload_n 0, 1), (45, .invokevirtual 123, 3), (48, .aload_n 0, 1), (49, .getfield 23, 3), (52, .aload_n 0, 1), (53, .getfield 39, 3), (56, .invokevirtual 126, 3), (59, .iinc 2 1, 3), (62, .goto (-33), 3), (65, .aload_n 0, 1), (66, .getfield 23, 3), (69, .getfield 113, 3), (72, .ifCond .ne 7, 3), (75, .aload_n 0, 1), (76, .invokevirtual 130, 3), (79, .iload_n 2, 1), (80, .ireturn, 1)]
theorem vt_o175 : vt_chk (prog_7_method_7_code, vt_i175) = true := by sorry
-- 176: VitalTwin$Machine.turnPlanned ()V
def vt_i176 : List (Nat × Instr × Nat) := [(0, .iconst 0, 1), (1, .istore_n 1, 1), (2, .iload_n 1, 1), (3, .aload_n 0, 1), (4, .getfield 99, 3), (7, .if_icmp .ge 83, 3), (10, .iload_n 1, 1), (11, .bipush 8, 2), (13, .if_icmp .ge 77, 3), (16, .aload_n 0, 1), (17, .getfield 15, 3), (20, .iconst 4, 1), (21, .iload_n 1, 1), (22, .imul, 1), (23, .iconst 3, 1), (24, .iadd, 1), (25, .iaload, 1), (26, .aload_n 0, 1), (27, .getfield 23, 3), (30, .getfield 116, 3), (33, .if_icmp .ne 51, 3), (36, .aload_n 0, 1), (37, .getfield 23, 3), (40, .aload_n 0, 1), (41, .getfield 15, 3), (44, .iconst 4, 1), (45, .iload_n 1, 1), (46, .imul, 1), (47, .iaload, 1), (48, .invokevirtual 138, 3), (51, .aload_n 0, 1), (52, .getfield 15, 3), (55, .iconst 4, 1), (56, .iload_n 1, 1), (57, .imul, 1), (58, .iconst 1, 1), (59, .iadd, 1), (60, .iaload, 1), (61, .aload_n 0, 1), (62, .getfield 15, 3), (65, .iconst 4, 1), (66, .iload_n 1, 1), (67, .imul, 1), (68, .iconst 2, 1), (69, .iadd, 1), (70, .iaload, 1), (71, .invokevirtual 142, 3), (74, .aload_n 0, 1), (75, .dup, 1), (76, .getfield 102, 3), (79, .iconst 1, 1), (80, .iadd, 1), (81, .putfield 102, 3), (84, .iinc 1 1, 3), (87, .goto (-85), 3), (90, .return_, 1)]
theorem vt_o176 : vt_chk (prog_7_method_9_code, vt_i176) = true := by sorry
-- 177: VitalTwin$Machine.endCycle ()V
def vt_i177 : List (Nat × Instr × Nat) := [(0, .aload_n 0, 1), (1, .iconst 0, 1), (2, .putfield 99, 3), (5, .aload_n 0, 1), (6, .getfield 23, 3), (9, .getfield 147, 3), (12, .iconst 4, 1), (13, .if_icmp .eq 15, 3), (16, .aload_n 0, 1), (17, .aload_n 0, 1), (18, .getfield 23, 3), (21, .getfield 147, 3), (24, .putfield 93, 3), (27, .return_, 1), (28, .aload_n 0, 1), (29, .dup, 1), (30, .getfield 96, 3), (33, .iconst 1, 1), (34, .iadd, 1), (35, .putfield 96, 3), (38, .aload_n 0, 1), (39, .aload_n 0, 1), (40, .getfield 23, 3), (43, .aload_n 0, 1), (44, .getfield 9, 3), (47, .aload_n 0, 1), (48, .getfield 96, 3), (51, .bipush 16, 2), (53, .irem, 1), (54, .aload_n 0, 1), (55, .getfield 39, 3), (58, .getfield 47, 3), (61, .imul, 1), (62, .invokevirtual 150, 3), (65, .return_, 1)]
theorem vt_o177 : vt_chk (prog_7_method_10_code, vt_i177) = true := by sorry
-- 178: VitalTwin.cycle ()I
def vt_i178 : List (Nat × Instr × Nat) := [(0, .aload_n 0, 1), (1, .getfield 46, 3), (4, .getfield 141, 3), (7, .ifCond .ne 13, 3), (10, .new 61, 3), (13, .dup, 1), (14, .ldc 145, 2), (16, .invokespecial 147, 3), (19, .athrow, 1), (20, .aload_n 0, 1), (21, .getfield 46, 3), (24, .ldc 151, 2), (26, .invokevirtual 148, 3), (29, .pop, 1), (30, .aload_n 0, 1), (31, .getfield 46, 3), (34, .getfield 152, 3), (37, .ifCond .ne 7, 3), (40, .iconst 1, 1), (41, .goto 4, 3), (44, .iconst 0, 1), (45, .ireturn, 1)]
theorem vt_o178 : vt_chk (prog_1_method_11_code, vt_i178) = true := by sorry
-- 179: VitalTwin.output (I)I
def vt_i179 : List (Nat × Instr × Nat) := [(0, .iload_n 1, 1), (1, .ifCond .lt 17, 3), (4, .iload_n 1, 1), (5, .aload_n 0, 1), (6, .getfield 46, 3), (9, .getfield 155, 3), (12, .getfield 156, 3), (15, .if_icmp .lt 13, 3), (18, .new 109, 3), (21, .dup, 1), (22, .ldc 159, 2), (24, .invokespecial 113, 3), (27, .athrow, 1), (28, .aload_n 0, 1), (29, .getfield 46, 3), (32, .iload_n 1, 1), (33, .invokevirtual 161, 3), (36, .ireturn, 1)]
theorem vt_o179 : vt_chk (prog_1_method_12_code, vt_i179) = true := by sorry
-- 180: VitalTwin$Machine.isPutOut (I)I
def vt_i180 : List (Nat × Instr × Nat) := [(0, .aload_n 0, 1), (1, .getfield 93, 3), (4, .ifCond .ne 17, 3), (7, .aload_n 0, 1), (8, .getfield 96, 3), (11, .ifCond .le 10, 3), (14, .aload_n 0, 1), (15, .iconst 0, 1), (16, .iload_n 1, 1), (17, .invokevirtual 158, 3), (20, .ireturn, 1), (21, .aload_n 0, 1), (22, .getfield 39, 3), (25, .iconst 2, 1), (26, .iload_n 1, 1), (27, .invokevirtual 105, 3), (30, .astore_n 2, 1), (31, .aload_n 2, 1), (32, .ifnonnull 7, 3), (35, .iconst 0, 1), (36, .goto 7, 3), (39, .aload_n 2, 1), (40, .getfield 86, 3), (43, .ireturn, 1)]
theorem vt_o180 : vt_chk (prog_7_method_12_code, vt_i180) = true := by sorry
-- 181: VitalTwin$Machine.wasPutOut (II)I
def vt_i181 : List (Nat × Instr × Nat) := [(0, .aload_n 0, 1), (1, .getfield 96, 3), (4, .iload_n 1, 1), (5, .isub, 1), (6, .bipush 16, 2), (8, .invokestatic 161, 3), (11, .aload_n 0, 1), (12, .getfield 39, 3), (15, .getfield 47, 3), (18, .imul, 1), (19, .iload_n 2, 1), (20, .iadd, 1), (21, .istore_n 3, 1), (22, .iload_n 3, 1), (23, .ifCond .lt 21, 3), (26, .iload_n 3, 1), (27, .aload_n 0, 1), (28, .getfield 9, 3), (31, .arraylength, 1), (32, .if_icmp .ge 12, 3), (35, .aload_n 0, 1), (36, .getfield 9, 3), (39, .iload_n 3, 1), (40, .iaload, 1), (41, .goto 4, 3), (44, .iconst 0, 1), (45, .ireturn, 1)]
theorem vt_o181 : vt_chk (prog_7_method_14_code, vt_i181) = true := by sorry
-- 182: VitalTwin.past (II)I
def vt_i182 : List (Nat × Instr × Nat) := [(0, .iload_n 2, 1), (1, .ifCond .lt 28, 3), (4, .iload_n 2, 1), (5, .aload_n 0, 1), (6, .getfield 46, 3), (9, .getfield 155, 3), (12, .getfield 156, 3), (15, .if_icmp .ge 14, 3), (18, .aload_n 0, 1), (19, .getfield 46, 3), (22, .iload_n 1, 1), (23, .invokevirtual 164, 3), (26, .ifCond .ne 13, 3), (29, .new 109, 3), (32, .dup, 1), (33, .ldc 167, 2), (35, .invokespecial 113, 3), (38, .athrow, 1), (39, .aload_n 0, 1), (40, .getfield 46, 3), (43, .iload_n 1, 1), (44, .iload_n 2, 1), (45, .invokevirtual 169, 3), (48, .ireturn, 1)]
theorem vt_o182 : vt_chk (prog_1_method_13_code, vt_i182) = true := by sorry
-- 183: VitalTwin$Machine.keeps (I)Z
def vt_i183 : List (Nat × Instr × Nat) := [(0, .iload_n 1, 1), (1, .ifCond .lt 21, 3), (4, .iload_n 1, 1), (5, .bipush 16, 2), (7, .if_icmp .ge 15, 3), (10, .iload_n 1, 1), (11, .aload_n 0, 1), (12, .getfield 96, 3), (15, .if_icmp .ge 7, 3), (18, .iconst 1, 1), (19, .goto 4, 3), (22, .iconst 0, 1), (23, .ireturn, 1)]
theorem vt_o183 : vt_chk (prog_7_method_13_code, vt_i183) = true := by sorry
-- 184: VitalTwin.cell (II)J
def vt_i184 : List (Nat × Instr × Nat) := [(0, .iload_n 2, 1), (1, .ifCond .lt 15, 3), (4, .aload_n 0, 1), (5, .getfield 46, 3), (8, .iload_n 1, 1), (9, .iload_n 2, 1), (10, .invokevirtual 172, 3), (13, .ifCond .ne 13, 3), (16, .new 109, 3), (19, .dup, 1), (20, .ldc 183, 2), (22, .invokespecial 113, 3), (25, .athrow, 1), (26, .aload_n 0, 1), (27, .getfield 46, 3), (30, .getfield 185, 3), (33, .iload_n 1, 1), (34, .invokevirtual 189, 3), (37, .iload_n 2, 1), (38, .invokevirtual 195, 3), (41, .lreturn, 1)]
theorem vt_o184 : vt_chk (prog_1_method_15_code, vt_i184) = true := by sorry
-- 185: VitalTwin.register (II)J
def vt_i185_0 : List (Nat × Instr × Nat) := [(0, .iload_n 1, 1), (1, .ifCond .lt 17, 3), (4, .iload_n 1, 1), (5, .iconst 1, 1), (6, .if_icmp .gt 12, 3), (9, .iload_n 2, 1), (10, .ifCond .lt 8, 3), (13, .iload_n 2, 1), (14, .iconst 3, 1), (15, .if_icmp .le 13, 3), (18, .new 109, 3), (21, .dup, 1), (22, .ldc 201, 2), (24, .invokespecial 113, 3), (27, .athrow, 1), (28, .aload_n 0, 1), (29, .getfield 46, 3), (32, .getfield 185, 3), (35, .iload_n 1, 1), (36, .invokevirtual 189, 3), (39, .astore_n 3, 1), (40, .iload_n 2, 1), (41, .iconst 2, 1), (42, .if_icmp .ge 19, 3), (45, .iload_n 2, 1), (46, .ifCond .ne 10, 3), (49, .aload_n 3, 1), (50, .getfield 203, 3), (53, .goto 7, 3), (56, .aload_n 3, 1), (57, .getfield 207, 3), (60, .lreturn, 1), (61, .aload_n 0, 1), (62, .getfield 46, 3), (65, .getfield 185, 3), (68, .getfield 210, 3), (71, .iload_n 1, 1), (72, .iconst 1, 1), (73, .iadd, 1), (74, .if_icmp .ne 7, 3), (77, .iconst 1, 1), (78, .goto 4, 3), (81, .iconst 0, 1), (82, .istore 4, 2), (84, .iload_n 2, 1), (85, .iconst 2, 1), (86, .if_icmp .ne 20, 3), (89, .iload 4, 2), (91, .ifCond .eq 11, 3), (94, .aload_n 3, 1), (95, .getfield 213, 3), (98, .i2l, 1), (99, .goto 6, 3), (102, .ldc2_w 216, 3), (105, .lreturn, 1), (106, .iload 4, 2), (108, .ifCond .eq 11, 3), (111, .aload_n 3, 1), (112, .getfield 218, 3), (115, .i2l, 1)]
def vt_i185_1 : List (Nat × Instr × Nat) := [(116, .goto 4, 3), (119, .lconst 0, 1), (120, .lreturn, 1)]
def vt_i185 : List (Nat × Instr × Nat) := vt_i185_0 ++ (vt_i185_1)
theorem vt_o185_0 : vt_chk (prog_1_method_16_code, vt_i185_0) = true := by sorry
theorem vt_o185_1 : vt_chk (prog_1_method_16_code, vt_i185_1) = true := by sorry
theorem vt_o185 : vt_chk (prog_1_method_16_code, vt_i185) = true := (vt_app vt_o185_0 vt_o185_1)
-- 186: VitalTwinModel.thrown ()I
def vt_i186 : List (Nat × Instr × Nat) := [(0, .aload_n 0, 1), (1, .getfield 3, 3), (4, .ireturn, 1)]
theorem vt_o186 : vt_chk (prog_14_method_1_code, vt_i186) = true := by sorry
-- 187: VitalTwinModel.feed (JJ)I
def vt_i187_0 : List (Nat × Instr × Nat) := [(0, .aload_n 0, 1), (1, .iconst 0, 1), (2, .putfield 3, 3), (5, .iconst 0, 1), (6, .istore 5, 2), (8, .iconst 0, 1), (9, .istore 6, 2), (11, .iload 6, 2), (13, .bipush 16, 2), (15, .if_icmp .ge 61, 3), (18, .lload_n 1, 1), (19, .lload_n 3, 1), (20, .iload 6, 2), (22, .invokestatic 7, 3), (25, .istore 7, 2), (27, .iload 7, 2), (29, .ifCond .eq 26, 3), (32, .iload 7, 2), (34, .bipush 10, 2), (36, .if_icmp .eq 19, 3), (39, .iload 7, 2), (41, .bipush 32, 2), (43, .if_icmp .lt 10, 3), (46, .iload 7, 2), (48, .bipush 126, 2), (50, .if_icmp .le 5, 3), (53, .iconst (-1), 1), (54, .ireturn, 1), (55, .iload 5, 2), (57, .iload 7, 2), (59, .ifCond .ne 7, 3), (62, .iconst 0, 1), (63, .goto 4, 3), (66, .iconst 1, 1), (67, .iadd, 1), (68, .istore 5, 2), (70, .iinc 6 1, 3), (73, .goto (-62), 3), (76, .aload_n 0, 1), (77, .getfield 11, 3), (80, .iload 5, 2), (82, .iadd, 1), (83, .ldc 14, 2), (85, .if_icmp .le 5, 3), (88, .iconst (-1), 1), (89, .ireturn, 1), (90, .iconst 0, 1), (91, .istore 6, 2), (93, .iload 6, 2), (95, .bipush 16, 2), (97, .if_icmp .ge 48, 3), (100, .lload_n 1, 1), (101, .lload_n 3, 1), (102, .iload 6, 2), (104, .invokestatic 7, 3), (107, .istore 7, 2), (109, .iload 7, 2), (111, .ifCond .ne 6, 3), (114, .goto 25, 3), (117, .aload_n 0, 1)]
def vt_i187_1 : List (Nat × Instr × Nat) := [(118, .getfield 15, 3), (121, .aload_n 0, 1), (122, .getfield 11, 3), (125, .iload 7, 2), (127, .i2b, 1), (128, .bastore, 1), (129, .aload_n 0, 1), (130, .dup, 1), (131, .getfield 11, 3), (134, .iconst 1, 1), (135, .iadd, 1), (136, .putfield 11, 3), (139, .iinc 6 1, 3), (142, .goto (-49), 3), (145, .aload_n 0, 1), (146, .getfield 11, 3), (149, .ireturn, 1)]
def vt_i187 : List (Nat × Instr × Nat) := vt_i187_0 ++ (vt_i187_1)
theorem vt_o187_0 : vt_chk (prog_14_method_3_code, vt_i187_0) = true := by sorry
theorem vt_o187_1 : vt_chk (prog_14_method_3_code, vt_i187_1) = true := by sorry
theorem vt_o187 : vt_chk (prog_14_method_3_code, vt_i187) = true := (vt_app vt_o187_0 vt_o187_1)
-- 188: VitalTwinModel.signAt (JJI)I
def vt_i188 : List (Nat × Instr × Nat) := [(0, .iload 4, 2), (2, .bipush 8, 2), (4, .if_icmp .ge 7, 3), (7, .lload_n 0, 1), (8, .goto 4, 3), (11, .lload_n 2, 1), (12, .bipush 56, 2), (14, .bipush 8, 2), (16, .iload 4, 2), (18, .bipush 7, 2), (20, .iand, 1), (21, .imul, 1), (22, .isub, 1), (23, .lshr, 1), (24, .l2i, 1), (25, .sipush 255, 3), (28, .iand, 1), (29, .ireturn, 1)]
theorem vt_o188 : vt_chk (prog_14_method_2_code, vt_i188) = true := by sorry
end
section
/-! instructions of the methods 189 to 189, printed by wip/whole/tools/gen14.py out of the claim: each list is what decode gives -/
-- 189: VitalTwinModel.<init> (I)V
def vt_i189_0 : List (Nat × Instr × Nat) := [(0, .aload_n 0, 1), (1, .invokespecial 332, 3), (4, .aload_n 0, 1), (5, .ldc 14, 2), (7, .newarray .byte, 2), (9, .putfield 15, 3), (12, .aload_n 0, 1), (13, .bipush 106, 2), (15, .newarray .byte, 2), (17, .dup, 1), (18, .iconst 0, 1), (19, .bipush 99, 2), (21, .bastore, 1), (22, .dup, 1), (23, .iconst 1, 1), (24, .bipush 111, 2), (26, .bastore, 1), (27, .dup, 1), (28, .iconst 2, 1), (29, .bipush 110, 2), (31, .bastore, 1), (32, .dup, 1), (33, .iconst 3, 1), (34, .bipush 115, 2), (36, .bastore, 1), (37, .dup, 1), (38, .iconst 4, 1), (39, .bipush 116, 2), (41, .bastore, 1), (42, .dup, 1), (43, .iconst 5, 1), (44, .bipush 32, 2), (46, .bastore, 1), (47, .dup, 1), (48, .bipush 6, 2), (50, .bipush 116, 2), (52, .bastore, 1), (53, .dup, 1), (54, .bipush 7, 2), (56, .bipush 121, 2)]
def vt_i189_1 : List (Nat × Instr × Nat) := [(58, .bastore, 1), (59, .dup, 1), (60, .bipush 8, 2), (62, .bipush 112, 2), (64, .bastore, 1), (65, .dup, 1), (66, .bipush 9, 2), (68, .bipush 101, 2), (70, .bastore, 1), (71, .dup, 1), (72, .bipush 10, 2), (74, .bipush 32, 2), (76, .bastore, 1), (77, .dup, 1), (78, .bipush 11, 2), (80, .bipush 105, 2), (82, .bastore, 1), (83, .dup, 1), (84, .bipush 12, 2), (86, .bipush 110, 2), (88, .bastore, 1), (89, .dup, 1), (90, .bipush 13, 2), (92, .bipush 32, 2), (94, .bastore, 1), (95, .dup, 1), (96, .bipush 14, 2), (98, .bipush 111, 2), (100, .bastore, 1), (101, .dup, 1), (102, .bipush 15, 2), (104, .bipush 117, 2), (106, .bastore, 1), (107, .dup, 1), (108, .bipush 16, 2), (110, .bipush 116, 2), (112, .bastore, 1), (113, .dup, 1), (114, .bipush 17, 2), (116, .bipush 32, 2)]
def vt_i189_2 : List (Nat × Instr × Nat) := [(118, .bastore, 1), (119, .dup, 1), (120, .bipush 18, 2), (122, .bipush 115, 2), (124, .bastore, 1), (125, .dup, 1), (126, .bipush 19, 2), (128, .bipush 116, 2), (130, .bastore, 1), (131, .dup, 1), (132, .bipush 20, 2), (134, .bipush 97, 2), (136, .bastore, 1), (137, .dup, 1), (138, .bipush 21, 2), (140, .bipush 116, 2), (142, .bastore, 1), (143, .dup, 1), (144, .bipush 22, 2), (146, .bipush 101, 2), (148, .bastore, 1), (149, .dup, 1), (150, .bipush 23, 2), (152, .bipush 32, 2), (154, .bastore, 1), (155, .dup, 1), (156, .bipush 24, 2), (158, .bipush 118, 2), (160, .bastore, 1), (161, .dup, 1), (162, .bipush 25, 2), (164, .bipush 97, 2), (166, .bastore, 1), (167, .dup, 1), (168, .bipush 26, 2), (170, .bipush 114, 2), (172, .bastore, 1), (173, .dup, 1), (174, .bipush 27, 2), (176, .bipush 32, 2)]
def vt_i189_3 : List (Nat × Instr × Nat) := [(178, .bastore, 1), (179, .dup, 1), (180, .bipush 28, 2), (182, .bipush 102, 2), (184, .bastore, 1), (185, .dup, 1), (186, .bipush 29, 2), (188, .bipush 117, 2), (190, .bastore, 1), (191, .dup, 1), (192, .bipush 30, 2), (194, .bipush 110, 2), (196, .bastore, 1), (197, .dup, 1), (198, .bipush 31, 2), (200, .bipush 32, 2), (202, .bastore, 1), (203, .dup, 1), (204, .bipush 32, 2), (206, .bipush 105, 2), (208, .bastore, 1), (209, .dup, 1), (210, .bipush 33, 2), (212, .bipush 102, 2), (214, .bastore, 1), (215, .dup, 1), (216, .bipush 34, 2), (218, .bipush 32, 2), (220, .bastore, 1), (221, .dup, 1), (222, .bipush 35, 2), (224, .bipush 101, 2), (226, .bastore, 1), (227, .dup, 1), (228, .bipush 36, 2), (230, .bipush 108, 2), (232, .bastore, 1), (233, .dup, 1), (234, .bipush 37, 2), (236, .bipush 115, 2)]
def vt_i189_4 : List (Nat × Instr × Nat) := [(238, .bastore, 1), (239, .dup, 1), (240, .bipush 38, 2), (242, .bipush 101, 2), (244, .bastore, 1), (245, .dup, 1), (246, .bipush 39, 2), (248, .bipush 32, 2), (250, .bastore, 1), (251, .dup, 1), (252, .bipush 40, 2), (254, .bipush 99, 2), (256, .bastore, 1), (257, .dup, 1), (258, .bipush 41, 2), (260, .bipush 97, 2), (262, .bastore, 1), (263, .dup, 1), (264, .bipush 42, 2), (266, .bipush 115, 2), (268, .bastore, 1), (269, .dup, 1), (270, .bipush 43, 2), (272, .bipush 101, 2), (274, .bastore, 1), (275, .dup, 1), (276, .bipush 44, 2), (278, .bipush 32, 2), (280, .bastore, 1), (281, .dup, 1), (282, .bipush 45, 2), (284, .bipush 102, 2), (286, .bastore, 1), (287, .dup, 1), (288, .bipush 46, 2), (290, .bipush 111, 2), (292, .bastore, 1), (293, .dup, 1), (294, .bipush 47, 2), (296, .bipush 114, 2)]
def vt_i189_5 : List (Nat × Instr × Nat) := [(298, .bastore, 1), (299, .dup, 1), (300, .bipush 48, 2), (302, .bipush 32, 2), (304, .bastore, 1), (305, .dup, 1), (306, .bipush 49, 2), (308, .bipush 116, 2), (310, .bastore, 1), (311, .dup, 1), (312, .bipush 50, 2), (314, .bipush 111, 2), (316, .bastore, 1), (317, .dup, 1), (318, .bipush 51, 2), (320, .bipush 32, 2), (322, .bastore, 1), (323, .dup, 1), (324, .bipush 52, 2), (326, .bipush 97, 2), (328, .bastore, 1), (329, .dup, 1), (330, .bipush 53, 2), (332, .bipush 115, 2), (334, .bastore, 1), (335, .dup, 1), (336, .bipush 54, 2), (338, .bipush 115, 2), (340, .bastore, 1), (341, .dup, 1), (342, .bipush 55, 2), (344, .bipush 101, 2), (346, .bastore, 1), (347, .dup, 1), (348, .bipush 56, 2), (350, .bipush 114, 2), (352, .bastore, 1), (353, .dup, 1), (354, .bipush 57, 2), (356, .bipush 116, 2)]
def vt_i189_6 : List (Nat × Instr × Nat) := [(358, .bastore, 1), (359, .dup, 1), (360, .bipush 58, 2), (362, .bipush 32, 2), (364, .bastore, 1), (365, .dup, 1), (366, .bipush 59, 2), (368, .bipush 114, 2), (370, .bastore, 1), (371, .dup, 1), (372, .bipush 60, 2), (374, .bipush 101, 2), (376, .bastore, 1), (377, .dup, 1), (378, .bipush 61, 2), (380, .bipush 116, 2), (382, .bastore, 1), (383, .dup, 1), (384, .bipush 62, 2), (386, .bipush 117, 2), (388, .bastore, 1), (389, .dup, 1), (390, .bipush 63, 2), (392, .bipush 114, 2), (394, .bastore, 1), (395, .dup, 1), (396, .bipush 64, 2), (398, .bipush 110, 2), (400, .bastore, 1), (401, .dup, 1), (402, .bipush 65, 2), (404, .bipush 32, 2), (406, .bastore, 1), (407, .dup, 1), (408, .bipush 66, 2), (410, .bipush 99, 2), (412, .bastore, 1), (413, .dup, 1), (414, .bipush 67, 2), (416, .bipush 121, 2)]
def vt_i189_7 : List (Nat × Instr × Nat) := [(418, .bastore, 1), (419, .dup, 1), (420, .bipush 68, 2), (422, .bipush 99, 2), (424, .bastore, 1), (425, .dup, 1), (426, .bipush 69, 2), (428, .bipush 108, 2), (430, .bastore, 1), (431, .dup, 1), (432, .bipush 70, 2), (434, .bipush 101, 2), (436, .bastore, 1), (437, .dup, 1), (438, .bipush 71, 2), (440, .bipush 32, 2), (442, .bastore, 1), (443, .dup, 1), (444, .bipush 72, 2), (446, .bipush 98, 2), (448, .bastore, 1), (449, .dup, 1), (450, .bipush 73, 2), (452, .bipush 111, 2), (454, .bastore, 1), (455, .dup, 1), (456, .bipush 74, 2), (458, .bipush 111, 2), (460, .bastore, 1), (461, .dup, 1), (462, .bipush 75, 2), (464, .bipush 108, 2), (466, .bastore, 1), (467, .dup, 1), (468, .bipush 76, 2), (470, .bipush 32, 2), (472, .bastore, 1), (473, .dup, 1), (474, .bipush 77, 2), (476, .bipush 116, 2)]
def vt_i189_8 : List (Nat × Instr × Nat) := [(478, .bastore, 1), (479, .dup, 1), (480, .bipush 78, 2), (482, .bipush 114, 2), (484, .bastore, 1), (485, .dup, 1), (486, .bipush 79, 2), (488, .bipush 117, 2), (490, .bastore, 1), (491, .dup, 1), (492, .bipush 80, 2), (494, .bipush 101, 2), (496, .bastore, 1), (497, .dup, 1), (498, .bipush 81, 2), (500, .bipush 32, 2), (502, .bastore, 1), (503, .dup, 1), (504, .bipush 82, 2), (506, .bipush 102, 2), (508, .bastore, 1), (509, .dup, 1), (510, .bipush 83, 2), (512, .bipush 97, 2), (514, .bastore, 1), (515, .dup, 1), (516, .bipush 84, 2), (518, .bipush 108, 2), (520, .bastore, 1), (521, .dup, 1), (522, .bipush 85, 2), (524, .bipush 115, 2), (526, .bastore, 1), (527, .dup, 1), (528, .bipush 86, 2), (530, .bipush 101, 2), (532, .bastore, 1), (533, .dup, 1), (534, .bipush 87, 2), (536, .bipush 32, 2)]
def vt_i189_9 : List (Nat × Instr × Nat) := [(538, .bastore, 1), (539, .dup, 1), (540, .bipush 88, 2), (542, .bipush 109, 2), (544, .bastore, 1), (545, .dup, 1), (546, .bipush 89, 2), (548, .bipush 105, 2), (550, .bastore, 1), (551, .dup, 1), (552, .bipush 90, 2), (554, .bipush 110, 2), (556, .bastore, 1), (557, .dup, 1), (558, .bipush 91, 2), (560, .bipush 32, 2), (562, .bastore, 1), (563, .dup, 1), (564, .bipush 92, 2), (566, .bipush 109, 2), (568, .bastore, 1), (569, .dup, 1), (570, .bipush 93, 2), (572, .bipush 97, 2), (574, .bastore, 1), (575, .dup, 1), (576, .bipush 94, 2), (578, .bipush 120, 2), (580, .bastore, 1), (581, .dup, 1), (582, .bipush 95, 2), (584, .bipush 32, 2), (586, .bastore, 1), (587, .dup, 1), (588, .bipush 96, 2), (590, .bipush 97, 2), (592, .bastore, 1), (593, .dup, 1), (594, .bipush 97, 2), (596, .bipush 98, 2)]
def vt_i189_10 : List (Nat × Instr × Nat) := [(598, .bastore, 1), (599, .dup, 1), (600, .bipush 98, 2), (602, .bipush 115, 2), (604, .bastore, 1), (605, .dup, 1), (606, .bipush 99, 2), (608, .bipush 32, 2), (610, .bastore, 1), (611, .dup, 1), (612, .bipush 100, 2), (614, .bipush 99, 2), (616, .bastore, 1), (617, .dup, 1), (618, .bipush 101, 2), (620, .bipush 108, 2), (622, .bastore, 1), (623, .dup, 1), (624, .bipush 102, 2), (626, .bipush 97, 2), (628, .bastore, 1), (629, .dup, 1), (630, .bipush 103, 2), (632, .bipush 109, 2), (634, .bastore, 1), (635, .dup, 1), (636, .bipush 104, 2), (638, .bipush 112, 2), (640, .bastore, 1), (641, .dup, 1), (642, .bipush 105, 2), (644, .bipush 32, 2), (646, .bastore, 1), (647, .putfield 62, 3), (650, .aload_n 0, 1), (651, .sipush 400, 3), (654, .newarray .int, 2), (656, .putfield 99, 3), (659, .aload_n 0, 1), (660, .sipush 400, 3)]
def vt_i189_11 : List (Nat × Instr × Nat) := [(663, .newarray .int, 2), (665, .putfield 102, 3), (668, .aload_n 0, 1), (669, .sipush 400, 3), (672, .newarray .int, 2), (674, .putfield 105, 3), (677, .aload_n 0, 1), (678, .sipush 400, 3), (681, .newarray .int, 2), (683, .putfield 108, 3), (686, .aload_n 0, 1), (687, .sipush 400, 3), (690, .newarray .int, 2), (692, .putfield 111, 3), (695, .aload_n 0, 1), (696, .sipush 400, 3), (699, .newarray .int, 2), (701, .putfield 114, 3), (704, .aload_n 0, 1), (705, .sipush 400, 3), (708, .newarray .boolean, 2), (710, .putfield 117, 3), (713, .aload_n 0, 1), (714, .sipush 400, 3), (717, .newarray .int, 2), (719, .putfield 120, 3), (722, .aload_n 0, 1), (723, .sipush 400, 3), (726, .newarray .int, 2), (728, .putfield 126, 3), (731, .aload_n 0, 1), (732, .sipush 400, 3), (735, .newarray .int, 2), (737, .putfield 129, 3), (740, .aload_n 0, 1), (741, .sipush 400, 3), (744, .newarray .int, 2), (746, .putfield 132, 3), (749, .aload_n 0, 1), (750, .sipush 400, 3)]
def vt_i189_12 : List (Nat × Instr × Nat) := [(753, .newarray .int, 2), (755, .putfield 79, 3), (758, .aload_n 0, 1), (759, .sipush 8000, 3), (762, .newarray .byte, 2), (764, .putfield 83, 3), (767, .aload_n 0, 1), (768, .sipush 400, 3), (771, .newarray .boolean, 2), (773, .putfield 89, 3), (776, .aload_n 0, 1), (777, .ldc 168, 2), (779, .newarray .byte, 2), (781, .putfield 169, 3), (784, .aload_n 0, 1), (785, .ldc 168, 2), (787, .newarray .int, 2), (789, .putfield 172, 3), (792, .aload_n 0, 1), (793, .ldc 168, 2), (795, .newarray .int, 2), (797, .putfield 181, 3), (800, .aload_n 0, 1), (801, .ldc 168, 2), (803, .newarray .int, 2), (805, .putfield 184, 3), (808, .aload_n 0, 1), (809, .ldc 168, 2), (811, .newarray .int, 2), (813, .putfield 187, 3), (816, .aload_n 0, 1), (817, .ldc 168, 2), (819, .newarray .int, 2), (821, .putfield 175, 3), (824, .aload_n 0, 1), (825, .ldc 168, 2), (827, .newarray .int, 2), (829, .putfield 178, 3), (832, .aload_n 0, 1), (833, .ldc 168, 2)]
def vt_i189_13 : List (Nat × Instr × Nat) := [(835, .newarray .int, 2), (837, .putfield 190, 3), (840, .aload_n 0, 1), (841, .sipush 400, 3), (844, .newarray .int, 2), (846, .putfield 337, 3), (849, .aload_n 0, 1), (850, .sipush 400, 3), (853, .newarray .int, 2), (855, .putfield 340, 3), (858, .aload_n 0, 1), (859, .ldc 168, 2), (861, .newarray .int, 2), (863, .putfield 343, 3), (866, .aload_n 0, 1), (867, .sipush 8192, 3), (870, .newarray .int, 2), (872, .putfield 346, 3), (875, .aload_n 0, 1), (876, .sipush 8192, 3), (879, .newarray .int, 2), (881, .putfield 349, 3), (884, .aload_n 0, 1), (885, .sipush 8192, 3), (888, .newarray .int, 2), (890, .putfield 352, 3), (893, .aload_n 0, 1), (894, .sipush 8192, 3), (897, .newarray .long, 2), (899, .putfield 355, 3), (902, .aload_n 0, 1), (903, .sipush 8192, 3), (906, .newarray .long, 2), (908, .putfield 359, 3), (911, .aload_n 0, 1), (912, .sipush 4800, 3), (915, .newarray .int, 2), (917, .putfield 362, 3), (920, .aload_n 0, 1), (921, .sipush 8000, 3)]
def vt_i189_14 : List (Nat × Instr × Nat) := [(924, .newarray .byte, 2), (926, .putfield 365, 3), (929, .aload_n 0, 1), (930, .sipush 24576, 3), (933, .newarray .int, 2), (935, .putfield 368, 3), (938, .aload_n 0, 1), (939, .sipush 16384, 3), (942, .newarray .long, 2), (944, .putfield 371, 3), (947, .aload_n 0, 1), (948, .sipush 8192, 3), (951, .newarray .long, 2), (953, .putfield 374, 3), (956, .aload_n 0, 1), (957, .iconst 2, 1), (958, .newarray .long, 2), (960, .putfield 377, 3), (963, .aload_n 0, 1), (964, .iconst 2, 1), (965, .newarray .long, 2), (967, .putfield 380, 3), (970, .aload_n 0, 1), (971, .bipush 64, 2), (973, .newarray .int, 2), (975, .putfield 383, 3), (978, .aload_n 0, 1), (979, .iconst 2, 1), (980, .newarray .int, 2), (982, .putfield 386, 3), (985, .aload_n 0, 1), (986, .sipush 4096, 3), (989, .newarray .int, 2), (991, .putfield 389, 3), (994, .aload_n 0, 1), (995, .ldc 14, 2), (997, .newarray .int, 2), (999, .putfield 392, 3), (1002, .aload_n 0, 1), (1003, .bipush 8, 2)]
def vt_i189_15 : List (Nat × Instr × Nat) := [(1005, .newarray .int, 2), (1007, .putfield 395, 3), (1010, .aload_n 0, 1), (1011, .bipush 8, 2), (1013, .newarray .int, 2), (1015, .putfield 398, 3), (1018, .aload_n 0, 1), (1019, .bipush 8, 2), (1021, .newarray .int, 2), (1023, .putfield 401, 3), (1026, .aload_n 0, 1), (1027, .bipush 8, 2), (1029, .newarray .int, 2), (1031, .putfield 404, 3), (1034, .aload_n 0, 1), (1035, .sipush 8196, 3), (1038, .newarray .long, 2), (1040, .putfield 407, 3), (1043, .aload_n 0, 1), (1044, .sipush 4096, 3), (1047, .newarray .int, 2), (1049, .putfield 410, 3), (1052, .aload_n 0, 1), (1053, .sipush 4096, 3), (1056, .newarray .int, 2), (1058, .putfield 413, 3), (1061, .aload_n 0, 1), (1062, .sipush 134, 3), (1065, .newarray .byte, 2), (1067, .dup, 1), (1068, .iconst 0, 1), (1069, .bipush 67, 2), (1071, .bastore, 1), (1072, .dup, 1), (1073, .iconst 1, 1), (1074, .bipush 79, 2), (1076, .bastore, 1), (1077, .dup, 1), (1078, .iconst 2, 1), (1079, .bipush 78, 2)]
def vt_i189_16 : List (Nat × Instr × Nat) := [(1081, .bastore, 1), (1082, .dup, 1), (1083, .iconst 3, 1), (1084, .bipush 83, 2), (1086, .bastore, 1), (1087, .dup, 1), (1088, .iconst 4, 1), (1089, .bipush 84, 2), (1091, .bastore, 1), (1092, .dup, 1), (1093, .iconst 5, 1), (1094, .bipush 32, 2), (1096, .bastore, 1), (1097, .dup, 1), (1098, .bipush 6, 2), (1100, .bipush 76, 2), (1102, .bastore, 1), (1103, .dup, 1), (1104, .bipush 7, 2), (1106, .bipush 79, 2), (1108, .bastore, 1), (1109, .dup, 1), (1110, .bipush 8, 2), (1112, .bipush 65, 2), (1114, .bastore, 1), (1115, .dup, 1), (1116, .bipush 9, 2), (1118, .bipush 68, 2), (1120, .bastore, 1), (1121, .dup, 1), (1122, .bipush 10, 2), (1124, .bipush 32, 2), (1126, .bastore, 1), (1127, .dup, 1), (1128, .bipush 11, 2), (1130, .bipush 83, 2), (1132, .bastore, 1), (1133, .dup, 1), (1134, .bipush 12, 2), (1136, .bipush 84, 2)]
def vt_i189_17 : List (Nat × Instr × Nat) := [(1138, .bastore, 1), (1139, .dup, 1), (1140, .bipush 13, 2), (1142, .bipush 79, 2), (1144, .bastore, 1), (1145, .dup, 1), (1146, .bipush 14, 2), (1148, .bipush 82, 2), (1150, .bastore, 1), (1151, .dup, 1), (1152, .bipush 15, 2), (1154, .bipush 69, 2), (1156, .bastore, 1), (1157, .dup, 1), (1158, .bipush 16, 2), (1160, .bipush 32, 2), (1162, .bastore, 1), (1163, .dup, 1), (1164, .bipush 17, 2), (1166, .bipush 77, 2), (1168, .bastore, 1), (1169, .dup, 1), (1170, .bipush 18, 2), (1172, .bipush 79, 2), (1174, .bastore, 1), (1175, .dup, 1), (1176, .bipush 19, 2), (1178, .bipush 86, 2), (1180, .bastore, 1), (1181, .dup, 1), (1182, .bipush 20, 2), (1184, .bipush 69, 2), (1186, .bastore, 1), (1187, .dup, 1), (1188, .bipush 21, 2), (1190, .bipush 32, 2), (1192, .bastore, 1), (1193, .dup, 1), (1194, .bipush 22, 2), (1196, .bipush 76, 2)]
def vt_i189_18 : List (Nat × Instr × Nat) := [(1198, .bastore, 1), (1199, .dup, 1), (1200, .bipush 23, 2), (1202, .bipush 79, 2), (1204, .bastore, 1), (1205, .dup, 1), (1206, .bipush 24, 2), (1208, .bipush 65, 2), (1210, .bastore, 1), (1211, .dup, 1), (1212, .bipush 25, 2), (1214, .bipush 68, 2), (1216, .bastore, 1), (1217, .dup, 1), (1218, .bipush 26, 2), (1220, .bipush 88, 2), (1222, .bastore, 1), (1223, .dup, 1), (1224, .bipush 27, 2), (1226, .bipush 32, 2), (1228, .bastore, 1), (1229, .dup, 1), (1230, .bipush 28, 2), (1232, .bipush 83, 2), (1234, .bastore, 1), (1235, .dup, 1), (1236, .bipush 29, 2), (1238, .bipush 84, 2), (1240, .bastore, 1), (1241, .dup, 1), (1242, .bipush 30, 2), (1244, .bipush 79, 2), (1246, .bastore, 1), (1247, .dup, 1), (1248, .bipush 31, 2), (1250, .bipush 82, 2), (1252, .bastore, 1), (1253, .dup, 1), (1254, .bipush 32, 2), (1256, .bipush 69, 2)]
def vt_i189_19 : List (Nat × Instr × Nat) := [(1258, .bastore, 1), (1259, .dup, 1), (1260, .bipush 33, 2), (1262, .bipush 88, 2), (1264, .bastore, 1), (1265, .dup, 1), (1266, .bipush 34, 2), (1268, .bipush 32, 2), (1270, .bastore, 1), (1271, .dup, 1), (1272, .bipush 35, 2), (1274, .bipush 65, 2), (1276, .bastore, 1), (1277, .dup, 1), (1278, .bipush 36, 2), (1280, .bipush 68, 2), (1282, .bastore, 1), (1283, .dup, 1), (1284, .bipush 37, 2), (1286, .bipush 68, 2), (1288, .bastore, 1), (1289, .dup, 1), (1290, .bipush 38, 2), (1292, .bipush 32, 2), (1294, .bastore, 1), (1295, .dup, 1), (1296, .bipush 39, 2), (1298, .bipush 83, 2), (1300, .bastore, 1), (1301, .dup, 1), (1302, .bipush 40, 2), (1304, .bipush 85, 2), (1306, .bastore, 1), (1307, .dup, 1), (1308, .bipush 41, 2), (1310, .bipush 66, 2), (1312, .bastore, 1), (1313, .dup, 1), (1314, .bipush 42, 2), (1316, .bipush 32, 2)]
def vt_i189_20 : List (Nat × Instr × Nat) := [(1318, .bastore, 1), (1319, .dup, 1), (1320, .bipush 43, 2), (1322, .bipush 77, 2), (1324, .bastore, 1), (1325, .dup, 1), (1326, .bipush 44, 2), (1328, .bipush 85, 2), (1330, .bastore, 1), (1331, .dup, 1), (1332, .bipush 45, 2), (1334, .bipush 76, 2), (1336, .bastore, 1), (1337, .dup, 1), (1338, .bipush 46, 2), (1340, .bipush 32, 2), (1342, .bastore, 1), (1343, .dup, 1), (1344, .bipush 47, 2), (1346, .bipush 68, 2), (1348, .bastore, 1), (1349, .dup, 1), (1350, .bipush 48, 2), (1352, .bipush 73, 2), (1354, .bastore, 1), (1355, .dup, 1), (1356, .bipush 49, 2), (1358, .bipush 86, 2), (1360, .bastore, 1), (1361, .dup, 1), (1362, .bipush 50, 2), (1364, .bipush 32, 2), (1366, .bastore, 1), (1367, .dup, 1), (1368, .bipush 51, 2), (1370, .bipush 82, 2), (1372, .bastore, 1), (1373, .dup, 1), (1374, .bipush 52, 2), (1376, .bipush 69, 2)]
def vt_i189_21 : List (Nat × Instr × Nat) := [(1378, .bastore, 1), (1379, .dup, 1), (1380, .bipush 53, 2), (1382, .bipush 77, 2), (1384, .bastore, 1), (1385, .dup, 1), (1386, .bipush 54, 2), (1388, .bipush 32, 2), (1390, .bastore, 1), (1391, .dup, 1), (1392, .bipush 55, 2), (1394, .bipush 77, 2), (1396, .bastore, 1), (1397, .dup, 1), (1398, .bipush 56, 2), (1400, .bipush 73, 2), (1402, .bastore, 1), (1403, .dup, 1), (1404, .bipush 57, 2), (1406, .bipush 78, 2), (1408, .bastore, 1), (1409, .dup, 1), (1410, .bipush 58, 2), (1412, .bipush 32, 2), (1414, .bastore, 1), (1415, .dup, 1), (1416, .bipush 59, 2), (1418, .bipush 77, 2), (1420, .bastore, 1), (1421, .dup, 1), (1422, .bipush 60, 2), (1424, .bipush 65, 2), (1426, .bastore, 1), (1427, .dup, 1), (1428, .bipush 61, 2), (1430, .bipush 88, 2), (1432, .bastore, 1), (1433, .dup, 1), (1434, .bipush 62, 2), (1436, .bipush 32, 2)]
def vt_i189_22 : List (Nat × Instr × Nat) := [(1438, .bastore, 1), (1439, .dup, 1), (1440, .bipush 63, 2), (1442, .bipush 76, 2), (1444, .bastore, 1), (1445, .dup, 1), (1446, .bipush 64, 2), (1448, .bipush 84, 2), (1450, .bastore, 1), (1451, .dup, 1), (1452, .bipush 65, 2), (1454, .bipush 32, 2), (1456, .bastore, 1), (1457, .dup, 1), (1458, .bipush 66, 2), (1460, .bipush 76, 2), (1462, .bastore, 1), (1463, .dup, 1), (1464, .bipush 67, 2), (1466, .bipush 69, 2), (1468, .bastore, 1), (1469, .dup, 1), (1470, .bipush 68, 2), (1472, .bipush 32, 2), (1474, .bastore, 1), (1475, .dup, 1), (1476, .bipush 69, 2), (1478, .bipush 71, 2), (1480, .bastore, 1), (1481, .dup, 1), (1482, .bipush 70, 2), (1484, .bipush 84, 2), (1486, .bastore, 1), (1487, .dup, 1), (1488, .bipush 71, 2), (1490, .bipush 32, 2), (1492, .bastore, 1), (1493, .dup, 1), (1494, .bipush 72, 2), (1496, .bipush 71, 2)]
def vt_i189_23 : List (Nat × Instr × Nat) := [(1498, .bastore, 1), (1499, .dup, 1), (1500, .bipush 73, 2), (1502, .bipush 69, 2), (1504, .bastore, 1), (1505, .dup, 1), (1506, .bipush 74, 2), (1508, .bipush 32, 2), (1510, .bastore, 1), (1511, .dup, 1), (1512, .bipush 75, 2), (1514, .bipush 69, 2), (1516, .bastore, 1), (1517, .dup, 1), (1518, .bipush 76, 2), (1520, .bipush 81, 2), (1522, .bastore, 1), (1523, .dup, 1), (1524, .bipush 77, 2), (1526, .bipush 32, 2), (1528, .bastore, 1), (1529, .dup, 1), (1530, .bipush 78, 2), (1532, .bipush 78, 2), (1534, .bastore, 1), (1535, .dup, 1), (1536, .bipush 79, 2), (1538, .bipush 69, 2), (1540, .bastore, 1), (1541, .dup, 1), (1542, .bipush 80, 2), (1544, .bipush 32, 2), (1546, .bastore, 1), (1547, .dup, 1), (1548, .bipush 81, 2), (1550, .bipush 78, 2), (1552, .bastore, 1), (1553, .dup, 1), (1554, .bipush 82, 2), (1556, .bipush 69, 2)]
def vt_i189_24 : List (Nat × Instr × Nat) := [(1558, .bastore, 1), (1559, .dup, 1), (1560, .bipush 83, 2), (1562, .bipush 71, 2), (1564, .bastore, 1), (1565, .dup, 1), (1566, .bipush 84, 2), (1568, .bipush 32, 2), (1570, .bastore, 1), (1571, .dup, 1), (1572, .bipush 85, 2), (1574, .bipush 65, 2), (1576, .bastore, 1), (1577, .dup, 1), (1578, .bipush 86, 2), (1580, .bipush 66, 2), (1582, .bastore, 1), (1583, .dup, 1), (1584, .bipush 87, 2), (1586, .bipush 83, 2), (1588, .bastore, 1), (1589, .dup, 1), (1590, .bipush 88, 2), (1592, .bipush 32, 2), (1594, .bastore, 1), (1595, .dup, 1), (1596, .bipush 89, 2), (1598, .bipush 78, 2), (1600, .bastore, 1), (1601, .dup, 1), (1602, .bipush 90, 2), (1604, .bipush 79, 2), (1606, .bastore, 1), (1607, .dup, 1), (1608, .bipush 91, 2), (1610, .bipush 84, 2), (1612, .bastore, 1), (1613, .dup, 1), (1614, .bipush 92, 2), (1616, .bipush 32, 2)]
def vt_i189_25 : List (Nat × Instr × Nat) := [(1618, .bastore, 1), (1619, .dup, 1), (1620, .bipush 93, 2), (1622, .bipush 76, 2), (1624, .bastore, 1), (1625, .dup, 1), (1626, .bipush 94, 2), (1628, .bipush 79, 2), (1630, .bastore, 1), (1631, .dup, 1), (1632, .bipush 95, 2), (1634, .bipush 87, 2), (1636, .bastore, 1), (1637, .dup, 1), (1638, .bipush 96, 2), (1640, .bipush 32, 2), (1642, .bastore, 1), (1643, .dup, 1), (1644, .bipush 97, 2), (1646, .bipush 72, 2), (1648, .bastore, 1), (1649, .dup, 1), (1650, .bipush 98, 2), (1652, .bipush 73, 2), (1654, .bastore, 1), (1655, .dup, 1), (1656, .bipush 99, 2), (1658, .bipush 71, 2), (1660, .bastore, 1), (1661, .dup, 1), (1662, .bipush 100, 2), (1664, .bipush 72, 2), (1666, .bastore, 1), (1667, .dup, 1), (1668, .bipush 101, 2), (1670, .bipush 32, 2), (1672, .bastore, 1), (1673, .dup, 1), (1674, .bipush 102, 2), (1676, .bipush 74, 2)]
def vt_i189_26 : List (Nat × Instr × Nat) := [(1678, .bastore, 1), (1679, .dup, 1), (1680, .bipush 103, 2), (1682, .bipush 85, 2), (1684, .bastore, 1), (1685, .dup, 1), (1686, .bipush 104, 2), (1688, .bipush 77, 2), (1690, .bastore, 1), (1691, .dup, 1), (1692, .bipush 105, 2), (1694, .bipush 80, 2), (1696, .bastore, 1), (1697, .dup, 1), (1698, .bipush 106, 2), (1700, .bipush 32, 2), (1702, .bastore, 1), (1703, .dup, 1), (1704, .bipush 107, 2), (1706, .bipush 74, 2), (1708, .bastore, 1), (1709, .dup, 1), (1710, .bipush 108, 2), (1712, .bipush 90, 2), (1714, .bastore, 1), (1715, .dup, 1), (1716, .bipush 109, 2), (1718, .bipush 32, 2), (1720, .bastore, 1), (1721, .dup, 1), (1722, .bipush 110, 2), (1724, .bipush 74, 2), (1726, .bastore, 1), (1727, .dup, 1), (1728, .bipush 111, 2), (1730, .bipush 78, 2), (1732, .bastore, 1), (1733, .dup, 1), (1734, .bipush 112, 2), (1736, .bipush 90, 2)]
def vt_i189_27 : List (Nat × Instr × Nat) := [(1738, .bastore, 1), (1739, .dup, 1), (1740, .bipush 113, 2), (1742, .bipush 32, 2), (1744, .bastore, 1), (1745, .dup, 1), (1746, .bipush 114, 2), (1748, .bipush 67, 2), (1750, .bastore, 1), (1751, .dup, 1), (1752, .bipush 115, 2), (1754, .bipush 65, 2), (1756, .bastore, 1), (1757, .dup, 1), (1758, .bipush 116, 2), (1760, .bipush 76, 2), (1762, .bastore, 1), (1763, .dup, 1), (1764, .bipush 117, 2), (1766, .bipush 76, 2), (1768, .bastore, 1), (1769, .dup, 1), (1770, .bipush 118, 2), (1772, .bipush 32, 2), (1774, .bastore, 1), (1775, .dup, 1), (1776, .bipush 119, 2), (1778, .bipush 82, 2), (1780, .bastore, 1), (1781, .dup, 1), (1782, .bipush 120, 2), (1784, .bipush 69, 2), (1786, .bastore, 1), (1787, .dup, 1), (1788, .bipush 121, 2), (1790, .bipush 84, 2), (1792, .bastore, 1), (1793, .dup, 1), (1794, .bipush 122, 2), (1796, .bipush 32, 2)]
def vt_i189_28 : List (Nat × Instr × Nat) := [(1798, .bastore, 1), (1799, .dup, 1), (1800, .bipush 123, 2), (1802, .bipush 72, 2), (1804, .bastore, 1), (1805, .dup, 1), (1806, .bipush 124, 2), (1808, .bipush 65, 2), (1810, .bastore, 1), (1811, .dup, 1), (1812, .bipush 125, 2), (1814, .bipush 76, 2), (1816, .bastore, 1), (1817, .dup, 1), (1818, .bipush 126, 2), (1820, .bipush 84, 2), (1822, .bastore, 1), (1823, .dup, 1), (1824, .bipush 127, 2), (1826, .bipush 32, 2), (1828, .bastore, 1), (1829, .dup, 1), (1830, .sipush 128, 3), (1833, .bipush 67, 2), (1835, .bastore, 1), (1836, .dup, 1), (1837, .sipush 129, 3), (1840, .bipush 72, 2), (1842, .bastore, 1), (1843, .dup, 1), (1844, .sipush 130, 3), (1847, .bipush 69, 2), (1849, .bastore, 1), (1850, .dup, 1), (1851, .sipush 131, 3), (1854, .bipush 67, 2), (1856, .bastore, 1), (1857, .dup, 1), (1858, .sipush 132, 3), (1861, .bipush 75, 2)]
def vt_i189_29 : List (Nat × Instr × Nat) := [(1863, .bastore, 1), (1864, .dup, 1), (1865, .sipush 133, 3), (1868, .bipush 32, 2), (1870, .bastore, 1), (1871, .putfield 416, 3), (1874, .aload_n 0, 1), (1875, .bipush 80, 2), (1877, .newarray .byte, 2), (1879, .putfield 419, 3), (1882, .aload_n 0, 1), (1883, .sipush 4096, 3), (1886, .bipush 16, 2), (1888, .iload_n 1, 1), (1889, .invokestatic 205, 3), (1892, .invokestatic 199, 3), (1895, .putfield 422, 3), (1898, .return_, 1)]
def vt_i189 : List (Nat × Instr × Nat) := vt_i189_0 ++ (vt_i189_1 ++ (vt_i189_2 ++ (vt_i189_3 ++ (vt_i189_4 ++ (vt_i189_5 ++ (vt_i189_6 ++ (vt_i189_7 ++ (vt_i189_8 ++ (vt_i189_9 ++ (vt_i189_10 ++ (vt_i189_11 ++ (vt_i189_12 ++ (vt_i189_13 ++ (vt_i189_14 ++ (vt_i189_15 ++ (vt_i189_16 ++ (vt_i189_17 ++ (vt_i189_18 ++ (vt_i189_19 ++ (vt_i189_20 ++ (vt_i189_21 ++ (vt_i189_22 ++ (vt_i189_23 ++ (vt_i189_24 ++ (vt_i189_25 ++ (vt_i189_26 ++ (vt_i189_27 ++ (vt_i189_28 ++ (vt_i189_29)))))))))))))))))))))))))))))
theorem vt_o189_0 : vt_chk (prog_14_method_53_code, vt_i189_0) = true := by sorry
theorem vt_o189_1 : vt_chk (prog_14_method_53_code, vt_i189_1) = true := by sorry
theorem vt_o189_2 : vt_chk (prog_14_method_53_code, vt_i189_2) = true := by sorry
theorem vt_o189_3 : vt_chk (prog_14_method_53_code, vt_i189_3) = true := by sorry
theorem vt_o189_4 : vt_chk (prog_14_method_53_code, vt_i189_4) = true := by sorry
theorem vt_o189_5 : vt_chk (prog_14_method_53_code, vt_i189_5) = true := by sorry
theorem vt_o189_6 : vt_chk (prog_14_method_53_code, vt_i189_6) = true := by sorry
theorem vt_o189_7 : vt_chk (prog_14_method_53_code, vt_i189_7) = true := by sorry
theorem vt_o189_8 : vt_chk (prog_14_method_53_code, vt_i189_8) = true := by sorry
theorem vt_o189_9 : vt_chk (prog_14_method_53_code, vt_i189_9) = true := by sorry
theorem vt_o189_10 : vt_chk (prog_14_method_53_code, vt_i189_10) = true := by sorry
theorem vt_o189_11 : vt_chk (prog_14_method_53_code, vt_i189_11) = true := by sorry
theorem vt_o189_12 : vt_chk (prog_14_method_53_code, vt_i189_12) = true := by sorry
theorem vt_o189_13 : vt_chk (prog_14_method_53_code, vt_i189_13) = true := by sorry
theorem vt_o189_14 : vt_chk (prog_14_method_53_code, vt_i189_14) = true := by sorry
theorem vt_o189_15 : vt_chk (prog_14_method_53_code, vt_i189_15) = true := by sorry
theorem vt_o189_16 : vt_chk (prog_14_method_53_code, vt_i189_16) = true := by sorry
theorem vt_o189_17 : vt_chk (prog_14_method_53_code, vt_i189_17) = true := by sorry
theorem vt_o189_18 : vt_chk (prog_14_method_53_code, vt_i189_18) = true := by sorry
theorem vt_o189_19 : vt_chk (prog_14_method_53_code, vt_i189_19) = true := by sorry
theorem vt_o189_20 : vt_chk (prog_14_method_53_code, vt_i189_20) = true := by sorry
theorem vt_o189_21 : vt_chk (prog_14_method_53_code, vt_i189_21) = true := by sorry
theorem vt_o189_22 : vt_chk (prog_14_method_53_code, vt_i189_22) = true := by sorry
theorem vt_o189_23 : vt_chk (prog_14_method_53_code, vt_i189_23) = true := by sorry
theorem vt_o189_24 : vt_chk (prog_14_method_53_code, vt_i189_24) = true := by sorry
theorem vt_o189_25 : vt_chk (prog_14_method_53_code, vt_i189_25) = true := by sorry
theorem vt_o189_26 : vt_chk (prog_14_method_53_code, vt_i189_26) = true := by sorry
theorem vt_o189_27 : vt_chk (prog_14_method_53_code, vt_i189_27) = true := by sorry
theorem vt_o189_28 : vt_chk (prog_14_method_53_code, vt_i189_28) = true := by sorry
theorem vt_o189_29 : vt_chk (prog_14_method_53_code, vt_i189_29) = true := by sorry
theorem vt_o189 : vt_chk (prog_14_method_53_code, vt_i189) = true := (vt_app vt_o189_0 (vt_app vt_o189_1 (vt_app vt_o189_2 (vt_app vt_o189_3 (vt_app vt_o189_4 (vt_app vt_o189_5 (vt_app vt_o189_6 (vt_app vt_o189_7 (vt_app vt_o189_8 (vt_app vt_o189_9 (vt_app vt_o189_10 (vt_app vt_o189_11 (vt_app vt_o189_12 (vt_app vt_o189_13 (vt_app vt_o189_14 (vt_app vt_o189_15 (vt_app vt_o189_16 (vt_app vt_o189_17 (vt_app vt_o189_18 (vt_app vt_o189_19 (vt_app vt_o189_20 (vt_app vt_o189_21 (vt_app vt_o189_22 (vt_app vt_o189_23 (vt_app vt_o189_24 (vt_app vt_o189_25 (vt_app vt_o189_26 (vt_app vt_o189_27 (vt_app vt_o189_28 vt_o189_29)))))))))))))))))))))))))))))
end
section
/-! instructions of the methods 190 to 214, printed by wip/whole/tools/gen14.py out of the claim: each list is what decode gives -/
-- 190: VitalTwinModel.compile ()I
def vt_i190_0 : List (Nat × Instr × Nat) := [(0, .aload_n 0, 1), (1, .iconst 0, 1), (2, .putfield 3, 3), (5, .aload_n 0, 1), (6, .invokevirtual 434, 3), (9, .aload_n 0, 1), (10, .getfield 437, 3), (13, .istore_n 1, 1), (14, .aload_n 0, 1), (15, .getfield 440, 3), (18, .istore_n 2, 1), (19, .aload_n 0, 1), (20, .getfield 443, 3), (23, .istore_n 3, 1), (24, .aload_n 0, 1), (25, .getfield 446, 3), (28, .istore 4, 2), (30, .aload_n 0, 1), (31, .getfield 449, 3), (34, .istore 5, 2), (36, .aload_n 0, 1), (37, .aload_n 0, 1), (38, .getfield 11, 3), (41, .putfield 19, 3), (44, .aload_n 0, 1), (45, .iconst 0, 1), (46, .putfield 11, 3), (49, .aload_n 0, 1), (50, .iconst 0, 1), (51, .putfield 86, 3), (54, .aload_n 0, 1), (55, .iconst 0, 1), (56, .putfield 165, 3), (59, .aload_n 0, 1), (60, .iconst 0, 1), (61, .putfield 72, 3), (64, .aload_n 0, 1), (65, .iconst 0, 1), (66, .putfield 22, 3), (69, .aload_n 0, 1), (70, .iconst (-1), 1), (71, .putfield 123, 3), (74, .aload_n 0, 1), (75, .iconst 0, 1), (76, .putfield 28, 3), (79, .aload_n 0, 1), (80, .invokevirtual 68, 3), (83, .aload_n 0, 1), (84, .getfield 25, 3), (87, .sipush 300, 3), (90, .if_icmp .eq 53, 3), (93, .aload_n 0, 1), (94, .getfield 25, 3), (97, .sipush 301, 3), (100, .if_icmp .eq 43, 3), (103, .aload_n 0, 1), (104, .getfield 25, 3), (107, .sipush 302, 3), (110, .if_icmp .eq 33, 3), (113, .aload_n 0, 1)]
def vt_i190_1 : List (Nat × Instr × Nat) := [(114, .getfield 25, 3), (117, .sipush 303, 3), (120, .if_icmp .eq 23, 3), (123, .aload_n 0, 1), (124, .getfield 25, 3), (127, .sipush 304, 3), (130, .if_icmp .eq 13, 3), (133, .aload_n 0, 1), (134, .getfield 25, 3), (137, .sipush 306, 3), (140, .if_icmp .ne 10, 3), (143, .aload_n 0, 1), (144, .invokevirtual 452, 3), (147, .goto (-64), 3), (150, .aload_n 0, 1), (151, .sipush 314, 3), (154, .invokevirtual 75, 3), (157, .aload_n 0, 1), (158, .iconst 0, 1), (159, .putfield 284, 3), (162, .aload_n 0, 1), (163, .aload_n 0, 1), (164, .invokevirtual 329, 3), (167, .putfield 455, 3), (170, .aload_n 0, 1), (171, .getfield 25, 3), (174, .iconst 1, 1), (175, .if_icmp .eq 12, 3), (178, .aload_n 0, 1), (179, .iconst 1, 1), (180, .aload_n 0, 1), (181, .getfield 35, 3), (184, .invokevirtual 65, 3), (187, .aload_n 0, 1), (188, .getfield 22, 3), (191, .ifCond .ne 7, 3), (194, .aload_n 0, 1), (195, .invokevirtual 458, 3), (198, .aload_n 0, 1), (199, .getfield 22, 3), (202, .ifCond .le 48, 3), (205, .aload_n 0, 1), (206, .getfield 22, 3), (209, .istore 6, 2), (211, .aload_n 0, 1), (212, .iconst 0, 1), (213, .putfield 22, 3), (216, .aload_n 0, 1), (217, .invokevirtual 461, 3), (220, .aload_n 0, 1), (221, .iload_n 1, 1), (222, .putfield 437, 3), (225, .aload_n 0, 1), (226, .iload_n 2, 1), (227, .putfield 440, 3), (230, .aload_n 0, 1), (231, .iload_n 3, 1), (232, .putfield 443, 3), (235, .aload_n 0, 1), (236, .iload 4, 2)]
def vt_i190_2 : List (Nat × Instr × Nat) := [(238, .putfield 446, 3), (241, .aload_n 0, 1), (242, .iload 5, 2), (244, .putfield 449, 3), (247, .iload 6, 2), (249, .ireturn, 1), (250, .aload_n 0, 1), (251, .iconst 1, 1), (252, .putfield 464, 3), (255, .aload_n 0, 1), (256, .invokevirtual 468, 3), (259, .aload_n 0, 1), (260, .invokevirtual 471, 3), (263, .iconst 0, 1), (264, .ireturn, 1)]
def vt_i190 : List (Nat × Instr × Nat) := vt_i190_0 ++ (vt_i190_1 ++ (vt_i190_2))
theorem vt_o190_0 : vt_chk (prog_14_method_56_code, vt_i190_0) = true := by sorry
theorem vt_o190_1 : vt_chk (prog_14_method_56_code, vt_i190_1) = true := by sorry
theorem vt_o190_2 : vt_chk (prog_14_method_56_code, vt_i190_2) = true := by sorry
theorem vt_o190 : vt_chk (prog_14_method_56_code, vt_i190) = true := (vt_app vt_o190_0 (vt_app vt_o190_1 vt_o190_2))
-- 191: VitalTwinModel.keep ()V
def vt_i191_0 : List (Nat × Instr × Nat) := [(0, .aload_n 0, 1), (1, .aload_n 0, 1), (2, .getfield 86, 3), (5, .putfield 425, 3), (8, .aload_n 0, 1), (9, .aload_n 0, 1), (10, .getfield 428, 3), (13, .putfield 431, 3), (16, .iconst 0, 1), (17, .istore_n 1, 1), (18, .iload_n 1, 1), (19, .aload_n 0, 1), (20, .getfield 86, 3), (23, .if_icmp .ge 189, 3), (26, .aload_n 0, 1), (27, .getfield 362, 3), (30, .iload_n 1, 1), (31, .aload_n 0, 1), (32, .getfield 99, 3), (35, .iload_n 1, 1), (36, .iaload, 1), (37, .iastore, 1), (38, .aload_n 0, 1), (39, .getfield 362, 3), (42, .sipush 400, 3), (45, .iload_n 1, 1), (46, .iadd, 1), (47, .aload_n 0, 1), (48, .getfield 102, 3), (51, .iload_n 1, 1), (52, .iaload, 1), (53, .iastore, 1), (54, .aload_n 0, 1), (55, .getfield 362, 3), (58, .sipush 800, 3), (61, .iload_n 1, 1), (62, .iadd, 1), (63, .aload_n 0, 1), (64, .getfield 105, 3), (67, .iload_n 1, 1), (68, .iaload, 1), (69, .iastore, 1), (70, .aload_n 0, 1), (71, .getfield 362, 3), (74, .sipush 1200, 3), (77, .iload_n 1, 1), (78, .iadd, 1), (79, .aload_n 0, 1), (80, .getfield 108, 3), (83, .iload_n 1, 1), (84, .iaload, 1), (85, .iastore, 1), (86, .aload_n 0, 1), (87, .getfield 362, 3), (90, .sipush 1600, 3), (93, .iload_n 1, 1), (94, .iadd, 1), (95, .aload_n 0, 1), (96, .getfield 111, 3), (99, .iload_n 1, 1)]
def vt_i191_1 : List (Nat × Instr × Nat) := [(100, .iaload, 1), (101, .iastore, 1), (102, .aload_n 0, 1), (103, .getfield 362, 3), (106, .sipush 2000, 3), (109, .iload_n 1, 1), (110, .iadd, 1), (111, .aload_n 0, 1), (112, .getfield 114, 3), (115, .iload_n 1, 1), (116, .iaload, 1), (117, .iastore, 1), (118, .aload_n 0, 1), (119, .getfield 362, 3), (122, .sipush 2400, 3), (125, .iload_n 1, 1), (126, .iadd, 1), (127, .aload_n 0, 1), (128, .getfield 117, 3), (131, .iload_n 1, 1), (132, .baload, 1), (133, .ifCond .eq 7, 3), (136, .iconst 1, 1), (137, .goto 4, 3), (140, .iconst 0, 1), (141, .iastore, 1), (142, .aload_n 0, 1), (143, .getfield 362, 3), (146, .sipush 2800, 3), (149, .iload_n 1, 1), (150, .iadd, 1), (151, .aload_n 0, 1), (152, .getfield 120, 3), (155, .iload_n 1, 1), (156, .iaload, 1), (157, .iastore, 1), (158, .aload_n 0, 1), (159, .getfield 362, 3), (162, .sipush 3200, 3), (165, .iload_n 1, 1), (166, .iadd, 1), (167, .aload_n 0, 1), (168, .getfield 126, 3), (171, .iload_n 1, 1), (172, .iaload, 1), (173, .iastore, 1), (174, .aload_n 0, 1), (175, .getfield 362, 3), (178, .sipush 3600, 3), (181, .iload_n 1, 1), (182, .iadd, 1), (183, .aload_n 0, 1), (184, .getfield 129, 3), (187, .iload_n 1, 1), (188, .iaload, 1), (189, .iastore, 1), (190, .aload_n 0, 1), (191, .getfield 362, 3), (194, .sipush 4000, 3), (197, .iload_n 1, 1)]
def vt_i191_2 : List (Nat × Instr × Nat) := [(198, .iadd, 1), (199, .aload_n 0, 1), (200, .getfield 79, 3), (203, .iload_n 1, 1), (204, .iaload, 1), (205, .iastore, 1), (206, .iinc 1 1, 3), (209, .goto (-191), 3), (212, .iconst 0, 1), (213, .istore_n 1, 1), (214, .iload_n 1, 1), (215, .bipush 20, 2), (217, .aload_n 0, 1), (218, .getfield 86, 3), (221, .imul, 1), (222, .if_icmp .ge 21, 3), (225, .aload_n 0, 1), (226, .getfield 365, 3), (229, .iload_n 1, 1), (230, .aload_n 0, 1), (231, .getfield 83, 3), (234, .iload_n 1, 1), (235, .baload, 1), (236, .bastore, 1), (237, .iinc 1 1, 3), (240, .goto (-26), 3), (243, .iconst 0, 1), (244, .istore_n 1, 1), (245, .iload_n 1, 1), (246, .aload_n 0, 1), (247, .getfield 428, 3), (250, .if_icmp .ge 81, 3), (253, .aload_n 0, 1), (254, .getfield 368, 3), (257, .iload_n 1, 1), (258, .aload_n 0, 1), (259, .getfield 346, 3), (262, .iload_n 1, 1), (263, .iaload, 1), (264, .iastore, 1), (265, .aload_n 0, 1), (266, .getfield 368, 3), (269, .sipush 8192, 3), (272, .iload_n 1, 1), (273, .iadd, 1), (274, .aload_n 0, 1), (275, .getfield 349, 3), (278, .iload_n 1, 1), (279, .iaload, 1), (280, .iastore, 1), (281, .aload_n 0, 1), (282, .getfield 368, 3), (285, .sipush 16384, 3), (288, .iload_n 1, 1), (289, .iadd, 1), (290, .aload_n 0, 1), (291, .getfield 352, 3), (294, .iload_n 1, 1), (295, .iaload, 1), (296, .iastore, 1)]
def vt_i191_3 : List (Nat × Instr × Nat) := [(297, .aload_n 0, 1), (298, .getfield 371, 3), (301, .iload_n 1, 1), (302, .aload_n 0, 1), (303, .getfield 355, 3), (306, .iload_n 1, 1), (307, .laload, 1), (308, .lastore, 1), (309, .aload_n 0, 1), (310, .getfield 371, 3), (313, .sipush 8192, 3), (316, .iload_n 1, 1), (317, .iadd, 1), (318, .aload_n 0, 1), (319, .getfield 359, 3), (322, .iload_n 1, 1), (323, .laload, 1), (324, .lastore, 1), (325, .iinc 1 1, 3), (328, .goto (-83), 3), (331, .return_, 1)]
def vt_i191 : List (Nat × Instr × Nat) := vt_i191_0 ++ (vt_i191_1 ++ (vt_i191_2 ++ (vt_i191_3)))
theorem vt_o191_0 : vt_chk (prog_14_method_54_code, vt_i191_0) = true := by sorry
theorem vt_o191_1 : vt_chk (prog_14_method_54_code, vt_i191_1) = true := by sorry
theorem vt_o191_2 : vt_chk (prog_14_method_54_code, vt_i191_2) = true := by sorry
theorem vt_o191_3 : vt_chk (prog_14_method_54_code, vt_i191_3) = true := by sorry
theorem vt_o191 : vt_chk (prog_14_method_54_code, vt_i191) = true := (vt_app vt_o191_0 (vt_app vt_o191_1 (vt_app vt_o191_2 vt_o191_3)))
-- 192: VitalTwinModel.next ()V
def vt_i192_0 : List (Nat × Instr × Nat) := [(0, .aload_n 0, 1), (1, .getfield 22, 3), (4, .ifCond .le 4, 3), (7, .return_, 1), (8, .aload_n 0, 1), (9, .getfield 28, 3), (12, .istore_n 1, 1), (13, .iconst 1, 1), (14, .istore_n 2, 1), (15, .iload_n 2, 1), (16, .ifCond .eq 93, 3), (19, .iload_n 1, 1), (20, .aload_n 0, 1), (21, .getfield 19, 3), (24, .if_icmp .ge 29, 3), (27, .aload_n 0, 1), (28, .iload_n 1, 1), (29, .invokevirtual 31, 3), (32, .bipush 32, 2), (34, .if_icmp .eq 13, 3), (37, .aload_n 0, 1), (38, .iload_n 1, 1), (39, .invokevirtual 31, 3), (42, .bipush 10, 2), (44, .if_icmp .ne 9, 3), (47, .iinc 1 1, 3), (50, .goto (-31), 3), (53, .aload_n 0, 1), (54, .iload_n 1, 1), (55, .invokevirtual 31, 3), (58, .bipush 47, 2), (60, .if_icmp .ne 19, 3), (63, .aload_n 0, 1), (64, .iload_n 1, 1), (65, .iconst 1, 1), (66, .iadd, 1), (67, .invokevirtual 31, 3), (70, .bipush 47, 2), (72, .if_icmp .ne 7, 3), (75, .iconst 1, 1), (76, .goto 4, 3), (79, .iconst 0, 1), (80, .istore_n 2, 1), (81, .iload_n 2, 1), (82, .ifCond .eq (-67), 3), (85, .iload_n 1, 1), (86, .aload_n 0, 1), (87, .getfield 19, 3), (90, .if_icmp .ge (-75), 3), (93, .aload_n 0, 1), (94, .iload_n 1, 1), (95, .invokevirtual 31, 3), (98, .bipush 10, 2), (100, .if_icmp .eq (-85), 3), (103, .iinc 1 1, 3), (106, .goto (-25), 3), (109, .aload_n 0, 1), (110, .iload_n 1, 1), (111, .putfield 35, 3), (114, .aload_n 0, 1)]
def vt_i192_1 : List (Nat × Instr × Nat) := [(115, .iload_n 1, 1), (116, .invokevirtual 31, 3), (119, .istore_n 3, 1), (120, .iload_n 1, 1), (121, .aload_n 0, 1), (122, .getfield 19, 3), (125, .if_icmp .lt 16, 3), (128, .aload_n 0, 1), (129, .iconst 1, 1), (130, .putfield 25, 3), (133, .aload_n 0, 1), (134, .iload_n 1, 1), (135, .putfield 28, 3), (138, .goto 202, 3), (141, .iload_n 3, 1), (142, .invokestatic 38, 3), (145, .ifCond .eq 76, 3), (148, .aload_n 0, 1), (149, .iload_n 1, 1), (150, .invokevirtual 31, 3), (153, .invokestatic 38, 3), (156, .ifCond .ne 14, 3), (159, .aload_n 0, 1), (160, .iload_n 1, 1), (161, .invokevirtual 31, 3), (164, .invokestatic 42, 3), (167, .ifCond .eq 9, 3), (170, .iinc 1 1, 3), (173, .goto (-25), 3), (176, .aload_n 0, 1), (177, .iload_n 1, 1), (178, .putfield 28, 3), (181, .aload_n 0, 1), (182, .aload_n 0, 1), (183, .invokevirtual 45, 3), (186, .putfield 25, 3), (189, .aload_n 0, 1), (190, .getfield 25, 3), (193, .iconst 2, 1), (194, .if_icmp .ne 146, 3), (197, .aload_n 0, 1), (198, .getfield 28, 3), (201, .aload_n 0, 1), (202, .getfield 35, 3), (205, .isub, 1), (206, .bipush 20, 2), (208, .if_icmp .le 132, 3), (211, .aload_n 0, 1), (212, .sipush 2000, 3), (215, .putfield 25, 3), (218, .goto 122, 3), (221, .iload_n 3, 1), (222, .invokestatic 42, 3), (225, .ifCond .eq 103, 3), (228, .lconst 0, 1), (229, .lstore 4, 2), (231, .aload_n 0, 1), (232, .iload_n 1, 1), (233, .invokevirtual 31, 3), (236, .invokestatic 42, 3)]
def vt_i192_2 : List (Nat × Instr × Nat) := [(239, .ifCond .eq 39, 3), (242, .iload_n 1, 1), (243, .aload_n 0, 1), (244, .getfield 35, 3), (247, .isub, 1), (248, .bipush 11, 2), (250, .if_icmp .ge 22, 3), (253, .ldc2_w 49, 3), (256, .lload 4, 2), (258, .lmul, 1), (259, .aload_n 0, 1), (260, .iload_n 1, 1), (261, .invokevirtual 31, 3), (264, .i2l, 1), (265, .ladd, 1), (266, .ldc2_w 51, 3), (269, .lsub, 1), (270, .lstore 4, 2), (272, .iinc 1 1, 3), (275, .goto (-44), 3), (278, .aload_n 0, 1), (279, .iload_n 1, 1), (280, .putfield 28, 3), (283, .aload_n 0, 1), (284, .iconst 3, 1), (285, .putfield 25, 3), (288, .aload_n 0, 1), (289, .lload 4, 2), (291, .l2i, 1), (292, .putfield 53, 3), (295, .aload_n 0, 1), (296, .getfield 28, 3), (299, .aload_n 0, 1), (300, .getfield 35, 3), (303, .isub, 1), (304, .bipush 10, 2), (306, .if_icmp .gt 12, 3), (309, .lload 4, 2), (311, .ldc2_w 56, 3), (314, .lcmp, 1), (315, .ifCond .le 10, 3), (318, .aload_n 0, 1), (319, .sipush 2000, 3), (322, .putfield 25, 3), (325, .goto 15, 3), (328, .aload_n 0, 1), (329, .iload_n 3, 1), (330, .aload_n 0, 1), (331, .iload_n 1, 1), (332, .iconst 1, 1), (333, .iadd, 1), (334, .invokevirtual 31, 3), (337, .invokevirtual 58, 3), (340, .return_, 1)]
def vt_i192 : List (Nat × Instr × Nat) := vt_i192_0 ++ (vt_i192_1 ++ (vt_i192_2))
theorem vt_o192_0 : vt_chk (prog_14_method_8_code, vt_i192_0) = true := by sorry
theorem vt_o192_1 : vt_chk (prog_14_method_8_code, vt_i192_1) = true := by sorry
theorem vt_o192_2 : vt_chk (prog_14_method_8_code, vt_i192_2) = true := by sorry
theorem vt_o192 : vt_chk (prog_14_method_8_code, vt_i192) = true := (vt_app vt_o192_0 (vt_app vt_o192_1 vt_o192_2))
-- 193: VitalTwinModel.at (I)I
def vt_i193 : List (Nat × Instr × Nat) := [(0, .iload_n 1, 1), (1, .aload_n 0, 1), (2, .getfield 19, 3), (5, .if_icmp .ge 12, 3), (8, .aload_n 0, 1), (9, .getfield 15, 3), (12, .iload_n 1, 1), (13, .baload, 1), (14, .goto 4, 3), (17, .iconst 0, 1), (18, .ireturn, 1)]
theorem vt_o193 : vt_chk (prog_14_method_4_code, vt_i193) = true := by sorry
-- 194: VitalTwinModel.isLetter (I)Z
def vt_i194 : List (Nat × Instr × Nat) := [(0, .iload_n 0, 1), (1, .bipush 97, 2), (3, .if_icmp .lt 9, 3), (6, .iload_n 0, 1), (7, .bipush 122, 2), (9, .if_icmp .le 21, 3), (12, .iload_n 0, 1), (13, .bipush 65, 2), (15, .if_icmp .lt 9, 3), (18, .iload_n 0, 1), (19, .bipush 90, 2), (21, .if_icmp .le 9, 3), (24, .iload_n 0, 1), (25, .bipush 95, 2), (27, .if_icmp .ne 7, 3), (30, .iconst 1, 1), (31, .goto 4, 3), (34, .iconst 0, 1), (35, .ireturn, 1)]
theorem vt_o194 : vt_chk (prog_14_method_6_code, vt_i194) = true := by sorry
-- 195: VitalTwinModel.isDigit (I)Z
def vt_i195 : List (Nat × Instr × Nat) := [(0, .iload_n 0, 1), (1, .bipush 48, 2), (3, .if_icmp .lt 13, 3), (6, .iload_n 0, 1), (7, .bipush 57, 2), (9, .if_icmp .gt 7, 3), (12, .iconst 1, 1), (13, .goto 4, 3), (16, .iconst 0, 1), (17, .ireturn, 1)]
theorem vt_o195 : vt_chk (prog_14_method_7_code, vt_i195) = true := by sorry
-- 196: VitalTwinModel.word ()I
def vt_i196_0 : List (Nat × Instr × Nat) := [(0, .iconst 0, 1), (1, .istore_n 1, 1), (2, .iconst 0, 1), (3, .istore_n 2, 1), (4, .iload_n 2, 1), (5, .aload_n 0, 1), (6, .getfield 62, 3), (9, .arraylength, 1), (10, .if_icmp .ge 118, 3), (13, .iconst 0, 1), (14, .istore_n 3, 1), (15, .aload_n 0, 1), (16, .getfield 62, 3), (19, .iload_n 2, 1), (20, .iload_n 3, 1), (21, .iadd, 1), (22, .baload, 1), (23, .bipush 32, 2), (25, .if_icmp .eq 9, 3), (28, .iinc 3 1, 3), (31, .goto (-16), 3), (34, .iload_n 3, 1), (35, .aload_n 0, 1), (36, .getfield 28, 3), (39, .aload_n 0, 1), (40, .getfield 35, 3), (43, .isub, 1), (44, .if_icmp .ne 7, 3), (47, .iconst 1, 1), (48, .goto 4, 3), (51, .iconst 0, 1), (52, .istore 4, 2), (54, .iconst 0, 1), (55, .istore 5, 2), (57, .iload 5, 2), (59, .iload_n 3, 1), (60, .if_icmp .ge 45, 3), (63, .iload 4, 2), (65, .ifCond .eq 40, 3), (68, .aload_n 0, 1), (69, .getfield 62, 3), (72, .iload_n 2, 1), (73, .iload 5, 2), (75, .iadd, 1), (76, .baload, 1), (77, .aload_n 0, 1), (78, .getfield 15, 3), (81, .aload_n 0, 1), (82, .getfield 35, 3), (85, .iload 5, 2), (87, .iadd, 1), (88, .baload, 1), (89, .if_icmp .ne 7, 3), (92, .iconst 1, 1), (93, .goto 4, 3), (96, .iconst 0, 1), (97, .istore 4, 2), (99, .iinc 5 1, 3), (102, .goto (-45), 3), (105, .iload 4, 2)]
def vt_i196_1 : List (Nat × Instr × Nat) := [(107, .ifCond .eq 9, 3), (110, .sipush 300, 3), (113, .iload_n 1, 1), (114, .iadd, 1), (115, .ireturn, 1), (116, .iinc 1 1, 3), (119, .iload_n 2, 1), (120, .iload_n 3, 1), (121, .iconst 1, 1), (122, .iadd, 1), (123, .iadd, 1), (124, .istore_n 2, 1), (125, .goto (-121), 3), (128, .iconst 2, 1), (129, .ireturn, 1)]
def vt_i196 : List (Nat × Instr × Nat) := vt_i196_0 ++ (vt_i196_1)
theorem vt_o196_0 : vt_chk (prog_14_method_9_code, vt_i196_0) = true := by sorry
theorem vt_o196_1 : vt_chk (prog_14_method_9_code, vt_i196_1) = true := by sorry
theorem vt_o196 : vt_chk (prog_14_method_9_code, vt_i196) = true := (vt_app vt_o196_0 vt_o196_1)
-- 197: VitalTwinModel.sign (II)V
def vt_i197_0 : List (Nat × Instr × Nat) := [(0, .aload_n 0, 1), (1, .aload_n 0, 1), (2, .getfield 35, 3), (5, .iconst 2, 1), (6, .iadd, 1), (7, .putfield 28, 3), (10, .aload_n 0, 1), (11, .iload_n 1, 1), (12, .bipush 46, 2), (14, .if_icmp .ne 15, 3), (17, .iload_n 2, 1), (18, .bipush 46, 2), (20, .if_icmp .ne 9, 3), (23, .sipush 200, 3), (26, .goto 112, 3), (29, .iload_n 1, 1), (30, .bipush 60, 2), (32, .if_icmp .ne 15, 3), (35, .iload_n 2, 1), (36, .bipush 61, 2), (38, .if_icmp .ne 9, 3), (41, .sipush 201, 3), (44, .goto 94, 3), (47, .iload_n 1, 1), (48, .bipush 62, 2), (50, .if_icmp .ne 15, 3), (53, .iload_n 2, 1), (54, .bipush 61, 2), (56, .if_icmp .ne 9, 3), (59, .sipush 202, 3), (62, .goto 76, 3), (65, .iload_n 1, 1), (66, .bipush 61, 2), (68, .if_icmp .ne 15, 3), (71, .iload_n 2, 1), (72, .bipush 61, 2), (74, .if_icmp .ne 9, 3), (77, .sipush 203, 3), (80, .goto 58, 3), (83, .iload_n 1, 1), (84, .bipush 33, 2), (86, .if_icmp .ne 15, 3), (89, .iload_n 2, 1), (90, .bipush 61, 2), (92, .if_icmp .ne 9, 3), (95, .sipush 204, 3), (98, .goto 40, 3), (101, .iload_n 1, 1), (102, .bipush 38, 2), (104, .if_icmp .ne 15, 3), (107, .iload_n 2, 1), (108, .bipush 38, 2), (110, .if_icmp .ne 9, 3), (113, .sipush 205, 3), (116, .goto 22, 3), (119, .iload_n 1, 1), (120, .bipush 124, 2), (122, .if_icmp .ne 15, 3), (125, .iload_n 2, 1), (126, .bipush 124, 2)]
def vt_i197_1 : List (Nat × Instr × Nat) := [(128, .if_icmp .ne 9, 3), (131, .sipush 206, 3), (134, .goto 4, 3), (137, .iconst 0, 1), (138, .putfield 25, 3), (141, .aload_n 0, 1), (142, .getfield 25, 3), (145, .ifCond .eq 4, 3), (148, .return_, 1), (149, .aload_n 0, 1), (150, .aload_n 0, 1), (151, .getfield 35, 3), (154, .iconst 1, 1), (155, .iadd, 1), (156, .putfield 28, 3), (159, .iload_n 1, 1), (160, .bipush 40, 2), (162, .if_icmp .eq 111, 3), (165, .iload_n 1, 1), (166, .bipush 41, 2), (168, .if_icmp .eq 105, 3), (171, .iload_n 1, 1), (172, .bipush 123, 2), (174, .if_icmp .eq 99, 3), (177, .iload_n 1, 1), (178, .bipush 125, 2), (180, .if_icmp .eq 93, 3), (183, .iload_n 1, 1), (184, .bipush 91, 2), (186, .if_icmp .eq 87, 3), (189, .iload_n 1, 1), (190, .bipush 93, 2), (192, .if_icmp .eq 81, 3), (195, .iload_n 1, 1), (196, .bipush 44, 2), (198, .if_icmp .eq 75, 3), (201, .iload_n 1, 1), (202, .bipush 59, 2), (204, .if_icmp .eq 69, 3), (207, .iload_n 1, 1), (208, .bipush 58, 2), (210, .if_icmp .eq 63, 3), (213, .iload_n 1, 1), (214, .bipush 63, 2), (216, .if_icmp .eq 57, 3), (219, .iload_n 1, 1), (220, .bipush 61, 2), (222, .if_icmp .eq 51, 3), (225, .iload_n 1, 1), (226, .bipush 43, 2), (228, .if_icmp .eq 45, 3), (231, .iload_n 1, 1), (232, .bipush 45, 2), (234, .if_icmp .eq 39, 3), (237, .iload_n 1, 1), (238, .bipush 42, 2), (240, .if_icmp .eq 33, 3), (243, .iload_n 1, 1), (244, .bipush 47, 2), (246, .if_icmp .eq 27, 3)]
def vt_i197_2 : List (Nat × Instr × Nat) := [(249, .iload_n 1, 1), (250, .bipush 37, 2), (252, .if_icmp .eq 21, 3), (255, .iload_n 1, 1), (256, .bipush 60, 2), (258, .if_icmp .eq 15, 3), (261, .iload_n 1, 1), (262, .bipush 62, 2), (264, .if_icmp .eq 9, 3), (267, .iload_n 1, 1), (268, .bipush 33, 2), (270, .if_icmp .ne 7, 3), (273, .iconst 1, 1), (274, .goto 4, 3), (277, .iconst 0, 1), (278, .istore_n 3, 1), (279, .aload_n 0, 1), (280, .iload_n 3, 1), (281, .ifCond .eq 7, 3), (284, .iload_n 1, 1), (285, .goto 6, 3), (288, .sipush 2000, 3), (291, .putfield 25, 3), (294, .return_, 1)]
def vt_i197 : List (Nat × Instr × Nat) := vt_i197_0 ++ (vt_i197_1 ++ (vt_i197_2))
theorem vt_o197_0 : vt_chk (prog_14_method_10_code, vt_i197_0) = true := by sorry
theorem vt_o197_1 : vt_chk (prog_14_method_10_code, vt_i197_1) = true := by sorry
theorem vt_o197_2 : vt_chk (prog_14_method_10_code, vt_i197_2) = true := by sorry
theorem vt_o197 : vt_chk (prog_14_method_10_code, vt_i197) = true := (vt_app vt_o197_0 (vt_app vt_o197_1 vt_o197_2))
-- 198: VitalTwinModel.declaration ()V
def vt_i198_0 : List (Nat × Instr × Nat) := [(0, .aload_n 0, 1), (1, .getfield 25, 3), (4, .istore_n 1, 1), (5, .aload_n 0, 1), (6, .invokevirtual 68, 3), (9, .iload_n 1, 1), (10, .sipush 300, 3), (13, .if_icmp .ne 88, 3), (16, .aload_n 0, 1), (17, .iconst 0, 1), (18, .iconst (-1), 1), (19, .invokevirtual 314, 3), (22, .istore_n 2, 1), (23, .aload_n 0, 1), (24, .bipush 61, 2), (26, .invokevirtual 75, 3), (29, .aload_n 0, 1), (30, .invokevirtual 144, 3), (33, .aload_n 0, 1), (34, .invokevirtual 68, 3), (37, .aload_n 0, 1), (38, .bipush 59, 2), (40, .invokevirtual 75, 3), (43, .aload_n 0, 1), (44, .getfield 22, 3), (47, .ifCond .le 4, 3), (50, .return_, 1), (51, .aload_n 0, 1), (52, .getfield 102, 3), (55, .iload_n 2, 1), (56, .aload_n 0, 1), (57, .getfield 138, 3), (60, .iastore, 1), (61, .aload_n 0, 1), (62, .getfield 105, 3), (65, .iload_n 2, 1), (66, .aload_n 0, 1), (67, .getfield 141, 3), (70, .iastore, 1), (71, .aload_n 0, 1), (72, .getfield 108, 3), (75, .iload_n 2, 1), (76, .aload_n 0, 1), (77, .getfield 141, 3), (80, .iastore, 1), (81, .aload_n 0, 1), (82, .getfield 126, 3), (85, .iload_n 2, 1), (86, .aload_n 0, 1), (87, .getfield 141, 3), (90, .iastore, 1), (91, .aload_n 0, 1), (92, .getfield 89, 3), (95, .iload_n 2, 1), (96, .iconst 1, 1), (97, .bastore, 1), (98, .goto 133, 3), (101, .iload_n 1, 1), (102, .sipush 301, 3), (105, .if_icmp .ne 10, 3)]
def vt_i198_1 : List (Nat × Instr × Nat) := [(108, .aload_n 0, 1), (109, .invokevirtual 474, 3), (112, .goto 119, 3), (115, .iload_n 1, 1), (116, .sipush 306, 3), (119, .if_icmp .ne 10, 3), (122, .aload_n 0, 1), (123, .invokevirtual 477, 3), (126, .goto 105, 3), (129, .aload_n 0, 1), (130, .iload_n 1, 1), (131, .sipush 302, 3), (134, .if_icmp .ne 7, 3), (137, .iconst 1, 1), (138, .goto 15, 3), (141, .iload_n 1, 1), (142, .sipush 303, 3), (145, .if_icmp .ne 7, 3), (148, .iconst 2, 1), (149, .goto 4, 3), (152, .iconst 3, 1), (153, .iconst (-1), 1), (154, .invokevirtual 314, 3), (157, .istore_n 2, 1), (158, .aload_n 0, 1), (159, .iload_n 2, 1), (160, .invokevirtual 317, 3), (163, .aload_n 0, 1), (164, .bipush 58, 2), (166, .invokevirtual 75, 3), (169, .aload_n 0, 1), (170, .invokevirtual 320, 3), (173, .aload_n 0, 1), (174, .getfield 22, 3), (177, .ifCond .ne 8, 3), (180, .aload_n 0, 1), (181, .iload_n 2, 1), (182, .invokevirtual 323, 3), (185, .iload_n 1, 1), (186, .sipush 302, 3), (189, .if_icmp .eq 22, 3), (192, .aload_n 0, 1), (193, .bipush 61, 2), (195, .invokevirtual 75, 3), (198, .aload_n 0, 1), (199, .invokevirtual 144, 3), (202, .aload_n 0, 1), (203, .iload_n 2, 1), (204, .invokevirtual 326, 3), (207, .aload_n 0, 1), (208, .invokevirtual 68, 3), (211, .aload_n 0, 1), (212, .bipush 59, 2), (214, .invokevirtual 75, 3), (217, .aload_n 0, 1), (218, .getfield 22, 3), (221, .ifCond .ne 10, 3), (224, .aload_n 0, 1), (225, .getfield 89, 3), (228, .iload_n 2, 1)]
def vt_i198_2 : List (Nat × Instr × Nat) := [(229, .iconst 1, 1), (230, .bastore, 1), (231, .return_, 1)]
def vt_i198 : List (Nat × Instr × Nat) := vt_i198_0 ++ (vt_i198_1 ++ (vt_i198_2))
theorem vt_o198_0 : vt_chk (prog_14_method_57_code, vt_i198_0) = true := by sorry
theorem vt_o198_1 : vt_chk (prog_14_method_57_code, vt_i198_1) = true := by sorry
theorem vt_o198_2 : vt_chk (prog_14_method_57_code, vt_i198_2) = true := by sorry
theorem vt_o198 : vt_chk (prog_14_method_57_code, vt_i198) = true := (vt_app vt_o198_0 (vt_app vt_o198_1 vt_o198_2))
-- 199: VitalTwinModel.tell (II)I
def vt_i199_0 : List (Nat × Instr × Nat) := [(0, .aload_n 0, 1), (1, .getfield 25, 3), (4, .iconst 2, 1), (5, .if_icmp .eq 15, 3), (8, .aload_n 0, 1), (9, .iconst 1, 1), (10, .aload_n 0, 1), (11, .getfield 35, 3), (14, .invokevirtual 65, 3), (17, .goto 19, 3), (20, .aload_n 0, 1), (21, .invokevirtual 96, 3), (24, .ifCond .lt 12, 3), (27, .aload_n 0, 1), (28, .iconst 2, 1), (29, .aload_n 0, 1), (30, .getfield 35, 3), (33, .invokevirtual 65, 3), (36, .iload_n 2, 1), (37, .istore_n 3, 1), (38, .iload_n 3, 1), (39, .ifCond .lt 41, 3), (42, .iload_n 3, 1), (43, .aload_n 0, 1), (44, .getfield 86, 3), (47, .if_icmp .ge 33, 3), (50, .aload_n 0, 1), (51, .getfield 22, 3), (54, .ifCond .ne 26, 3), (57, .aload_n 0, 1), (58, .iload_n 3, 1), (59, .invokevirtual 93, 3), (62, .ifCond .eq 12, 3), (65, .aload_n 0, 1), (66, .iconst 2, 1), (67, .aload_n 0, 1), (68, .getfield 35, 3), (71, .invokevirtual 65, 3), (74, .iinc 3 1, 3), (77, .goto (-39), 3), (80, .aload_n 0, 1), (81, .getfield 22, 3), (84, .ifCond .ne 23, 3), (87, .aload_n 0, 1), (88, .getfield 86, 3), (91, .sipush 400, 3), (94, .if_icmp .ne 13, 3), (97, .aload_n 0, 1), (98, .bipush 10, 2), (100, .aload_n 0, 1), (101, .getfield 35, 3), (104, .invokevirtual 65, 3), (107, .aload_n 0, 1), (108, .getfield 22, 3), (111, .ifCond .le 5, 3), (114, .iconst 0, 1), (115, .ireturn, 1), (116, .aload_n 0, 1), (117, .getfield 86, 3), (120, .istore_n 3, 1)]
def vt_i199_1 : List (Nat × Instr × Nat) := [(121, .aload_n 0, 1), (122, .getfield 99, 3), (125, .iload_n 3, 1), (126, .iload_n 1, 1), (127, .iastore, 1), (128, .aload_n 0, 1), (129, .getfield 102, 3), (132, .iload_n 3, 1), (133, .iconst 0, 1), (134, .iastore, 1), (135, .aload_n 0, 1), (136, .getfield 105, 3), (139, .iload_n 3, 1), (140, .iconst 0, 1), (141, .iastore, 1), (142, .aload_n 0, 1), (143, .getfield 108, 3), (146, .iload_n 3, 1), (147, .iconst 0, 1), (148, .iastore, 1), (149, .aload_n 0, 1), (150, .getfield 111, 3), (153, .iload_n 3, 1), (154, .iconst (-1), 1), (155, .iastore, 1), (156, .aload_n 0, 1), (157, .getfield 114, 3), (160, .iload_n 3, 1), (161, .iconst 1, 1), (162, .iastore, 1), (163, .aload_n 0, 1), (164, .getfield 117, 3), (167, .iload_n 3, 1), (168, .iconst 0, 1), (169, .bastore, 1), (170, .aload_n 0, 1), (171, .getfield 120, 3), (174, .iload_n 3, 1), (175, .aload_n 0, 1), (176, .getfield 123, 3), (179, .iastore, 1), (180, .aload_n 0, 1), (181, .getfield 126, 3), (184, .iload_n 3, 1), (185, .iconst 0, 1), (186, .iastore, 1), (187, .aload_n 0, 1), (188, .getfield 129, 3), (191, .iload_n 3, 1), (192, .iconst 0, 1), (193, .iastore, 1), (194, .aload_n 0, 1), (195, .getfield 132, 3), (198, .iload_n 3, 1), (199, .iconst 0, 1), (200, .iastore, 1), (201, .aload_n 0, 1), (202, .getfield 89, 3), (205, .iload_n 3, 1), (206, .iconst 0, 1)]
def vt_i199_2 : List (Nat × Instr × Nat) := [(207, .bastore, 1), (208, .aload_n 0, 1), (209, .getfield 79, 3), (212, .iload_n 3, 1), (213, .aload_n 0, 1), (214, .getfield 28, 3), (217, .aload_n 0, 1), (218, .getfield 35, 3), (221, .isub, 1), (222, .iastore, 1), (223, .iconst 0, 1), (224, .istore 4, 2), (226, .iload 4, 2), (228, .aload_n 0, 1), (229, .getfield 79, 3), (232, .iload_n 3, 1), (233, .iaload, 1), (234, .if_icmp .ge 33, 3), (237, .aload_n 0, 1), (238, .getfield 83, 3), (241, .bipush 20, 2), (243, .iload_n 3, 1), (244, .imul, 1), (245, .iload 4, 2), (247, .iadd, 1), (248, .aload_n 0, 1), (249, .getfield 15, 3), (252, .aload_n 0, 1), (253, .getfield 35, 3), (256, .iload 4, 2), (258, .iadd, 1), (259, .baload, 1), (260, .bastore, 1), (261, .iinc 4 1, 3), (264, .goto (-38), 3), (267, .aload_n 0, 1), (268, .dup, 1), (269, .getfield 86, 3), (272, .iconst 1, 1), (273, .iadd, 1), (274, .putfield 86, 3), (277, .aload_n 0, 1), (278, .invokevirtual 68, 3), (281, .iload_n 3, 1), (282, .ireturn, 1)]
def vt_i199 : List (Nat × Instr × Nat) := vt_i199_0 ++ (vt_i199_1 ++ (vt_i199_2))
theorem vt_o199_0 : vt_chk (prog_14_method_16_code, vt_i199_0) = true := by sorry
theorem vt_o199_1 : vt_chk (prog_14_method_16_code, vt_i199_1) = true := by sorry
theorem vt_o199_2 : vt_chk (prog_14_method_16_code, vt_i199_2) = true := by sorry
theorem vt_o199 : vt_chk (prog_14_method_16_code, vt_i199) = true := (vt_app vt_o199_0 (vt_app vt_o199_1 vt_o199_2))
-- 200: VitalTwinModel.bad (II)V
def vt_i200 : List (Nat × Instr × Nat) := [(0, .aload_n 0, 1), (1, .getfield 22, 3), (4, .ifCond .ne 13, 3), (7, .aload_n 0, 1), (8, .iload_n 1, 1), (9, .bipush 16, 2), (11, .iload_n 2, 1), (12, .imul, 1), (13, .iadd, 1), (14, .putfield 22, 3), (17, .aload_n 0, 1), (18, .iconst 0, 1), (19, .putfield 25, 3), (22, .return_, 1)]
theorem vt_o200 : vt_chk (prog_14_method_5_code, vt_i200) = true := by sorry
-- 201: VitalTwinModel.find ()I
def vt_i201 : List (Nat × Instr × Nat) := [(0, .aload_n 0, 1), (1, .getfield 25, 3), (4, .iconst 2, 1), (5, .if_icmp .eq 5, 3), (8, .iconst (-1), 1), (9, .ireturn, 1), (10, .iconst 0, 1), (11, .istore_n 1, 1), (12, .iload_n 1, 1), (13, .aload_n 0, 1), (14, .getfield 86, 3), (17, .if_icmp .ge 28, 3), (20, .aload_n 0, 1), (21, .getfield 89, 3), (24, .iload_n 1, 1), (25, .baload, 1), (26, .ifCond .eq 13, 3), (29, .aload_n 0, 1), (30, .iload_n 1, 1), (31, .invokevirtual 93, 3), (34, .ifCond .eq 5, 3), (37, .iload_n 1, 1), (38, .ireturn, 1), (39, .iinc 1 1, 3), (42, .goto (-30), 3), (45, .iconst (-1), 1), (46, .ireturn, 1)]
theorem vt_o201 : vt_chk (prog_14_method_15_code, vt_i201) = true := by sorry
-- 202: VitalTwinModel.isNamed (I)Z
def vt_i202 : List (Nat × Instr × Nat) := [(0, .aload_n 0, 1), (1, .getfield 79, 3), (4, .iload_n 1, 1), (5, .iaload, 1), (6, .aload_n 0, 1), (7, .getfield 28, 3), (10, .aload_n 0, 1), (11, .getfield 35, 3), (14, .isub, 1), (15, .if_icmp .ne 7, 3), (18, .iconst 1, 1), (19, .goto 4, 3), (22, .iconst 0, 1), (23, .istore_n 2, 1), (24, .iconst 0, 1), (25, .istore_n 3, 1), (26, .iload_n 3, 1), (27, .aload_n 0, 1), (28, .getfield 79, 3), (31, .iload_n 1, 1), (32, .iaload, 1), (33, .if_icmp .ge 44, 3), (36, .iload_n 2, 1), (37, .ifCond .eq 40, 3), (40, .aload_n 0, 1), (41, .getfield 83, 3), (44, .bipush 20, 2), (46, .iload_n 1, 1), (47, .imul, 1), (48, .iload_n 3, 1), (49, .iadd, 1), (50, .baload, 1), (51, .aload_n 0, 1), (52, .getfield 15, 3), (55, .aload_n 0, 1), (56, .getfield 35, 3), (59, .iload_n 3, 1), (60, .iadd, 1), (61, .baload, 1), (62, .if_icmp .ne 7, 3), (65, .iconst 1, 1), (66, .goto 4, 3), (69, .iconst 0, 1), (70, .istore_n 2, 1), (71, .iinc 3 1, 3), (74, .goto (-48), 3), (77, .iload_n 2, 1), (78, .ireturn, 1)]
theorem vt_o202 : vt_chk (prog_14_method_14_code, vt_i202) = true := by sorry
-- 203: VitalTwinModel.take (I)V
def vt_i203 : List (Nat × Instr × Nat) := [(0, .aload_n 0, 1), (1, .getfield 25, 3), (4, .iload_n 1, 1), (5, .if_icmp .eq 12, 3), (8, .aload_n 0, 1), (9, .iconst 1, 1), (10, .aload_n 0, 1), (11, .getfield 35, 3), (14, .invokevirtual 65, 3), (17, .aload_n 0, 1), (18, .invokevirtual 68, 3), (21, .return_, 1)]
theorem vt_o203 : vt_chk (prog_14_method_11_code, vt_i203) = true := by sorry
-- 204: VitalTwinModel.constant ()V
def vt_i204_0 : List (Nat × Instr × Nat) := [(0, .aload_n 0, 1), (1, .aload_n 0, 1), (2, .getfield 35, 3), (5, .putfield 135, 3), (8, .aload_n 0, 1), (9, .getfield 25, 3), (12, .bipush 45, 2), (14, .if_icmp .ne 7, 3), (17, .iconst 1, 1), (18, .goto 4, 3), (21, .iconst 0, 1), (22, .istore_n 1, 1), (23, .iload_n 1, 1), (24, .ifCond .eq 7, 3), (27, .aload_n 0, 1), (28, .invokevirtual 68, 3), (31, .aload_n 0, 1), (32, .invokevirtual 96, 3), (35, .istore_n 2, 1), (36, .aload_n 0, 1), (37, .getfield 25, 3), (40, .iconst 3, 1), (41, .if_icmp .ne 19, 3), (44, .aload_n 0, 1), (45, .iconst 0, 1), (46, .putfield 138, 3), (49, .aload_n 0, 1), (50, .aload_n 0, 1), (51, .getfield 53, 3), (54, .putfield 141, 3), (57, .goto 129, 3), (60, .iload_n 1, 1), (61, .ifCond .ne 50, 3), (64, .aload_n 0, 1), (65, .getfield 25, 3), (68, .sipush 316, 3), (71, .if_icmp .eq 13, 3), (74, .aload_n 0, 1), (75, .getfield 25, 3), (78, .sipush 317, 3), (81, .if_icmp .ne 30, 3), (84, .aload_n 0, 1), (85, .iconst 1, 1), (86, .putfield 138, 3), (89, .aload_n 0, 1), (90, .aload_n 0, 1), (91, .getfield 25, 3), (94, .sipush 316, 3), (97, .if_icmp .ne 7, 3), (100, .iconst 1, 1), (101, .goto 4, 3), (104, .iconst 0, 1), (105, .putfield 141, 3), (108, .goto 78, 3), (111, .aload_n 0, 1), (112, .getfield 25, 3), (115, .iconst 2, 1), (116, .if_icmp .ne 60, 3), (119, .iload_n 2, 1), (120, .ifCond .lt 23, 3)]
def vt_i204_1 : List (Nat × Instr × Nat) := [(123, .aload_n 0, 1), (124, .getfield 99, 3), (127, .iload_n 2, 1), (128, .iaload, 1), (129, .ifCond .eq 24, 3), (132, .aload_n 0, 1), (133, .getfield 99, 3), (136, .iload_n 2, 1), (137, .iaload, 1), (138, .bipush 9, 2), (140, .if_icmp .eq 13, 3), (143, .aload_n 0, 1), (144, .iconst 3, 1), (145, .aload_n 0, 1), (146, .getfield 35, 3), (149, .invokevirtual 65, 3), (152, .return_, 1), (153, .aload_n 0, 1), (154, .aload_n 0, 1), (155, .getfield 102, 3), (158, .iload_n 2, 1), (159, .iaload, 1), (160, .putfield 138, 3), (163, .aload_n 0, 1), (164, .aload_n 0, 1), (165, .getfield 126, 3), (168, .iload_n 2, 1), (169, .iaload, 1), (170, .putfield 141, 3), (173, .goto 13, 3), (176, .aload_n 0, 1), (177, .iconst 1, 1), (178, .aload_n 0, 1), (179, .getfield 35, 3), (182, .invokevirtual 65, 3), (185, .return_, 1), (186, .iload_n 1, 1), (187, .ifCond .eq 19, 3), (190, .aload_n 0, 1), (191, .getfield 138, 3), (194, .ifCond .eq 12, 3), (197, .aload_n 0, 1), (198, .iconst 5, 1), (199, .aload_n 0, 1), (200, .getfield 135, 3), (203, .invokevirtual 65, 3), (206, .iload_n 1, 1), (207, .ifCond .eq 12, 3), (210, .aload_n 0, 1), (211, .aload_n 0, 1), (212, .getfield 141, 3), (215, .ineg, 1), (216, .putfield 141, 3), (219, .return_, 1)]
def vt_i204 : List (Nat × Instr × Nat) := vt_i204_0 ++ (vt_i204_1)
theorem vt_o204_0 : vt_chk (prog_14_method_17_code, vt_i204_0) = true := by sorry
theorem vt_o204_1 : vt_chk (prog_14_method_17_code, vt_i204_1) = true := by sorry
theorem vt_o204 : vt_chk (prog_14_method_17_code, vt_i204) = true := (vt_app vt_o204_0 vt_o204_1)
-- 205: VitalTwinModel.members ()V
def vt_i205_0 : List (Nat × Instr × Nat) := [(0, .aload_n 0, 1), (1, .bipush 8, 2), (3, .iconst (-1), 1), (4, .invokevirtual 314, 3), (7, .istore_n 1, 1), (8, .aload_n 0, 1), (9, .getfield 22, 3), (12, .ifCond .le 4, 3), (15, .return_, 1), (16, .aload_n 0, 1), (17, .getfield 89, 3), (20, .iload_n 1, 1), (21, .iconst 1, 1), (22, .bastore, 1), (23, .aload_n 0, 1), (24, .getfield 102, 3), (27, .iload_n 1, 1), (28, .iconst 3, 1), (29, .iload_n 1, 1), (30, .iadd, 1), (31, .iastore, 1), (32, .aload_n 0, 1), (33, .bipush 61, 2), (35, .invokevirtual 75, 3), (38, .iconst 0, 1), (39, .istore_n 2, 1), (40, .iconst 1, 1), (41, .istore_n 3, 1), (42, .iload_n 3, 1), (43, .ifCond .eq 125, 3), (46, .aload_n 0, 1), (47, .getfield 22, 3), (50, .ifCond .ne 118, 3), (53, .iload_n 2, 1), (54, .bipush 64, 2), (56, .if_icmp .ne 8, 3), (59, .aload_n 0, 1), (60, .iconst (-1), 1), (61, .invokevirtual 480, 3), (64, .aload_n 0, 1), (65, .bipush 9, 2), (67, .iconst (-1), 1), (68, .invokevirtual 314, 3), (71, .istore 4, 2), (73, .aload_n 0, 1), (74, .getfield 22, 3), (77, .ifCond .le 4, 3), (80, .return_, 1), (81, .aload_n 0, 1), (82, .getfield 102, 3), (85, .iload 4, 2), (87, .iconst 3, 1), (88, .iload_n 1, 1), (89, .iadd, 1), (90, .iastore, 1), (91, .aload_n 0, 1), (92, .getfield 105, 3), (95, .iload 4, 2), (97, .iload_n 2, 1), (98, .iastore, 1)]
def vt_i205_1 : List (Nat × Instr × Nat) := [(99, .aload_n 0, 1), (100, .getfield 108, 3), (103, .iload 4, 2), (105, .iload_n 2, 1), (106, .iastore, 1), (107, .aload_n 0, 1), (108, .getfield 126, 3), (111, .iload 4, 2), (113, .iload_n 2, 1), (114, .iastore, 1), (115, .aload_n 0, 1), (116, .getfield 89, 3), (119, .iload 4, 2), (121, .iconst 1, 1), (122, .bastore, 1), (123, .iinc 2 1, 3), (126, .aload_n 0, 1), (127, .getfield 114, 3), (130, .iload_n 1, 1), (131, .iload_n 2, 1), (132, .iastore, 1), (133, .aload_n 0, 1), (134, .getfield 108, 3), (137, .iload_n 1, 1), (138, .iload_n 2, 1), (139, .iconst 1, 1), (140, .isub, 1), (141, .iastore, 1), (142, .aload_n 0, 1), (143, .getfield 25, 3), (146, .bipush 44, 2), (148, .if_icmp .ne 7, 3), (151, .iconst 1, 1), (152, .goto 4, 3), (155, .iconst 0, 1), (156, .istore_n 3, 1), (157, .iload_n 3, 1), (158, .ifCond .eq 7, 3), (161, .aload_n 0, 1), (162, .invokevirtual 68, 3), (165, .goto (-123), 3), (168, .aload_n 0, 1), (169, .bipush 59, 2), (171, .invokevirtual 75, 3), (174, .return_, 1)]
def vt_i205 : List (Nat × Instr × Nat) := vt_i205_0 ++ (vt_i205_1)
theorem vt_o205_0 : vt_chk (prog_14_method_59_code, vt_i205_0) = true := by sorry
theorem vt_o205_1 : vt_chk (prog_14_method_59_code, vt_i205_1) = true := by sorry
theorem vt_o205 : vt_chk (prog_14_method_59_code, vt_i205) = true := (vt_app vt_o205_0 vt_o205_1)
-- 206: VitalTwinModel.tooMany (I)V
def vt_i206 : List (Nat × Instr × Nat) := [(0, .aload_n 0, 1), (1, .getfield 25, 3), (4, .iconst 2, 1), (5, .if_icmp .eq 13, 3), (8, .aload_n 0, 1), (9, .iconst 1, 1), (10, .aload_n 0, 1), (11, .getfield 35, 3), (14, .invokevirtual 65, 3), (17, .return_, 1), (18, .aload_n 0, 1), (19, .invokevirtual 96, 3), (22, .ifCond .lt 7, 3), (25, .iconst 1, 1), (26, .goto 4, 3), (29, .iconst 0, 1), (30, .istore_n 2, 1), (31, .iload_n 1, 1), (32, .istore_n 3, 1), (33, .iload_n 3, 1), (34, .ifCond .lt 35, 3), (37, .iload_n 3, 1), (38, .aload_n 0, 1), (39, .getfield 86, 3), (42, .if_icmp .ge 27, 3), (45, .iload_n 2, 1), (46, .ifCond .ne 11, 3), (49, .aload_n 0, 1), (50, .iload_n 3, 1), (51, .invokevirtual 93, 3), (54, .ifCond .eq 7, 3), (57, .iconst 1, 1), (58, .goto 4, 3), (61, .iconst 0, 1), (62, .istore_n 2, 1), (63, .iinc 3 1, 3), (66, .goto (-33), 3), (69, .aload_n 0, 1), (70, .iload_n 2, 1), (71, .ifCond .eq 7, 3), (74, .iconst 2, 1), (75, .goto 5, 3), (78, .bipush 10, 2), (80, .aload_n 0, 1), (81, .getfield 35, 3), (84, .invokevirtual 65, 3), (87, .return_, 1)]
theorem vt_o206 : vt_chk (prog_14_method_58_code, vt_i206) = true := by sorry
-- 207: VitalTwinModel.function ()V
def vt_i207_0 : List (Nat × Instr × Nat) := [(0, .aload_n 0, 1), (1, .iconst 4, 1), (2, .iconst (-1), 1), (3, .invokevirtual 314, 3), (6, .istore_n 1, 1), (7, .aload_n 0, 1), (8, .getfield 22, 3), (11, .ifCond .le 4, 3), (14, .return_, 1), (15, .aload_n 0, 1), (16, .iload_n 1, 1), (17, .putfield 123, 3), (20, .aload_n 0, 1), (21, .iconst 0, 1), (22, .putfield 284, 3), (25, .iconst 0, 1), (26, .istore_n 2, 1), (27, .aload_n 0, 1), (28, .bipush 40, 2), (30, .invokevirtual 159, 3), (33, .aload_n 0, 1), (34, .getfield 22, 3), (37, .ifCond .ne 99, 3), (40, .aload_n 0, 1), (41, .getfield 25, 3), (44, .bipush 41, 2), (46, .if_icmp .eq 90, 3), (49, .iload_n 2, 1), (50, .bipush 8, 2), (52, .if_icmp .ne 10, 3), (55, .aload_n 0, 1), (56, .iload_n 1, 1), (57, .iconst 1, 1), (58, .iadd, 1), (59, .invokevirtual 480, 3), (62, .aload_n 0, 1), (63, .iconst 5, 1), (64, .iload_n 1, 1), (65, .iconst 1, 1), (66, .iadd, 1), (67, .invokevirtual 314, 3), (70, .istore_n 3, 1), (71, .aload_n 0, 1), (72, .bipush 58, 2), (74, .invokevirtual 75, 3), (77, .aload_n 0, 1), (78, .invokevirtual 320, 3), (81, .aload_n 0, 1), (82, .getfield 22, 3), (85, .ifCond .le 4, 3), (88, .return_, 1), (89, .aload_n 0, 1), (90, .iload_n 3, 1), (91, .invokevirtual 323, 3), (94, .iinc 2 1, 3), (97, .aload_n 0, 1), (98, .getfield 25, 3), (101, .bipush 41, 2), (103, .if_icmp .ne 6, 3), (106, .goto (-73), 3)]
def vt_i207_1 : List (Nat × Instr × Nat) := [(109, .aload_n 0, 1), (110, .bipush 44, 2), (112, .invokevirtual 75, 3), (115, .aload_n 0, 1), (116, .getfield 25, 3), (119, .bipush 41, 2), (121, .if_icmp .ne 12, 3), (124, .aload_n 0, 1), (125, .iconst 1, 1), (126, .aload_n 0, 1), (127, .getfield 35, 3), (130, .invokevirtual 65, 3), (133, .goto (-100), 3), (136, .aload_n 0, 1), (137, .bipush 41, 2), (139, .invokevirtual 162, 3), (142, .aload_n 0, 1), (143, .getfield 114, 3), (146, .iload_n 1, 1), (147, .iload_n 2, 1), (148, .iastore, 1), (149, .aload_n 0, 1), (150, .getfield 102, 3), (153, .iload_n 1, 1), (154, .iconst 2, 1), (155, .iastore, 1), (156, .aload_n 0, 1), (157, .getfield 25, 3), (160, .bipush 58, 2), (162, .if_icmp .ne 7, 3), (165, .iconst 1, 1), (166, .goto 4, 3), (169, .iconst 0, 1), (170, .istore_n 3, 1), (171, .iload_n 3, 1), (172, .ifCond .eq 23, 3), (175, .aload_n 0, 1), (176, .invokevirtual 68, 3), (179, .aload_n 0, 1), (180, .invokevirtual 320, 3), (183, .aload_n 0, 1), (184, .getfield 22, 3), (187, .ifCond .ne 8, 3), (190, .aload_n 0, 1), (191, .iload_n 1, 1), (192, .invokevirtual 323, 3), (195, .aload_n 0, 1), (196, .bipush 123, 2), (198, .invokevirtual 159, 3), (201, .iload_n 1, 1), (202, .iconst 1, 1), (203, .iadd, 1), (204, .istore 4, 2), (206, .iload 4, 2), (208, .iload_n 1, 1), (209, .iload_n 2, 1), (210, .iadd, 1), (211, .if_icmp .gt 24, 3), (214, .aload_n 0, 1), (215, .getfield 22, 3)]
def vt_i207_2 : List (Nat × Instr × Nat) := [(218, .ifCond .ne 17, 3), (221, .aload_n 0, 1), (222, .getfield 89, 3), (225, .iload 4, 2), (227, .iconst 1, 1), (228, .bastore, 1), (229, .iinc 4 1, 3), (232, .goto (-26), 3), (235, .aload_n 0, 1), (236, .getfield 337, 3), (239, .iload_n 1, 1), (240, .aload_n 0, 1), (241, .invokevirtual 290, 3), (244, .iastore, 1), (245, .aload_n 0, 1), (246, .getfield 340, 3), (249, .iload_n 1, 1), (250, .iconst (-1), 1), (251, .iastore, 1), (252, .iload_n 3, 1), (253, .ifCond .eq 50, 3), (256, .aload_n 0, 1), (257, .sipush 313, 3), (260, .invokevirtual 75, 3), (263, .aload_n 0, 1), (264, .getfield 102, 3), (267, .iload_n 1, 1), (268, .iaload, 1), (269, .istore 4, 2), (271, .aload_n 0, 1), (272, .getfield 340, 3), (275, .iload_n 1, 1), (276, .aload_n 0, 1), (277, .iload 4, 2), (279, .aload_n 0, 1), (280, .getfield 105, 3), (283, .iload_n 1, 1), (284, .iaload, 1), (285, .i2l, 1), (286, .aload_n 0, 1), (287, .getfield 108, 3), (290, .iload_n 1, 1), (291, .iaload, 1), (292, .i2l, 1), (293, .invokevirtual 280, 3), (296, .iastore, 1), (297, .aload_n 0, 1), (298, .bipush 59, 2), (300, .invokevirtual 75, 3), (303, .aload_n 0, 1), (304, .bipush 125, 2), (306, .invokevirtual 162, 3), (309, .aload_n 0, 1), (310, .getfield 22, 3), (313, .ifCond .le 4, 3), (316, .return_, 1), (317, .aload_n 0, 1), (318, .iload_n 1, 1), (319, .iconst 1, 1), (320, .iadd, 1)]
def vt_i207_3 : List (Nat × Instr × Nat) := [(321, .invokevirtual 293, 3), (324, .aload_n 0, 1), (325, .getfield 89, 3), (328, .iload_n 1, 1), (329, .iconst 1, 1), (330, .bastore, 1), (331, .aload_n 0, 1), (332, .getfield 132, 3), (335, .iload_n 1, 1), (336, .iconst 1, 1), (337, .aload_n 0, 1), (338, .getfield 284, 3), (341, .iadd, 1), (342, .iastore, 1), (343, .aload_n 0, 1), (344, .iconst (-1), 1), (345, .putfield 123, 3), (348, .return_, 1)]
def vt_i207 : List (Nat × Instr × Nat) := vt_i207_0 ++ (vt_i207_1 ++ (vt_i207_2 ++ (vt_i207_3)))
theorem vt_o207_0 : vt_chk (prog_14_method_60_code, vt_i207_0) = true := by sorry
theorem vt_o207_1 : vt_chk (prog_14_method_60_code, vt_i207_1) = true := by sorry
theorem vt_o207_2 : vt_chk (prog_14_method_60_code, vt_i207_2) = true := by sorry
theorem vt_o207_3 : vt_chk (prog_14_method_60_code, vt_i207_3) = true := by sorry
theorem vt_o207 : vt_chk (prog_14_method_60_code, vt_i207) = true := (vt_app vt_o207_0 (vt_app vt_o207_1 (vt_app vt_o207_2 vt_o207_3)))
-- 208: VitalTwinModel.enter (I)V
def vt_i208 : List (Nat × Instr × Nat) := [(0, .aload_n 0, 1), (1, .getfield 25, 3), (4, .iload_n 1, 1), (5, .if_icmp .eq 15, 3), (8, .aload_n 0, 1), (9, .iconst 1, 1), (10, .aload_n 0, 1), (11, .getfield 35, 3), (14, .invokevirtual 65, 3), (17, .goto 22, 3), (20, .aload_n 0, 1), (21, .getfield 72, 3), (24, .bipush 64, 2), (26, .if_icmp .ne 13, 3), (29, .aload_n 0, 1), (30, .bipush 10, 2), (32, .aload_n 0, 1), (33, .getfield 35, 3), (36, .invokevirtual 65, 3), (39, .aload_n 0, 1), (40, .dup, 1), (41, .getfield 72, 3), (44, .iconst 1, 1), (45, .iadd, 1), (46, .putfield 72, 3), (49, .aload_n 0, 1), (50, .invokevirtual 68, 3), (53, .return_, 1)]
theorem vt_o208 : vt_chk (prog_14_method_12_code, vt_i208) = true := by sorry
-- 209: VitalTwinModel.type ()V
def vt_i209_0 : List (Nat × Instr × Nat) := [(0, .aload_n 0, 1), (1, .invokevirtual 96, 3), (4, .istore_n 1, 1), (5, .aload_n 0, 1), (6, .getfield 25, 3), (9, .sipush 315, 3), (12, .if_icmp .ne 25, 3), (15, .aload_n 0, 1), (16, .iconst 1, 1), (17, .putfield 147, 3), (20, .aload_n 0, 1), (21, .iconst 0, 1), (22, .putfield 150, 3), (25, .aload_n 0, 1), (26, .iconst 1, 1), (27, .putfield 153, 3), (30, .aload_n 0, 1), (31, .invokevirtual 68, 3), (34, .goto 122, 3), (37, .iload_n 1, 1), (38, .ifCond .lt 45, 3), (41, .aload_n 0, 1), (42, .getfield 99, 3), (45, .iload_n 1, 1), (46, .iaload, 1), (47, .bipush 8, 2), (49, .if_icmp .ne 34, 3), (52, .aload_n 0, 1), (53, .iconst 3, 1), (54, .iload_n 1, 1), (55, .iadd, 1), (56, .putfield 147, 3), (59, .aload_n 0, 1), (60, .iconst 0, 1), (61, .putfield 150, 3), (64, .aload_n 0, 1), (65, .aload_n 0, 1), (66, .getfield 114, 3), (69, .iload_n 1, 1), (70, .iaload, 1), (71, .iconst 1, 1), (72, .isub, 1), (73, .putfield 153, 3), (76, .aload_n 0, 1), (77, .invokevirtual 68, 3), (80, .goto 76, 3), (83, .aload_n 0, 1), (84, .iconst 0, 1), (85, .invokevirtual 156, 3), (88, .aload_n 0, 1), (89, .aload_n 0, 1), (90, .getfield 141, 3), (93, .putfield 150, 3), (96, .aload_n 0, 1), (97, .invokevirtual 68, 3), (100, .aload_n 0, 1), (101, .sipush 200, 3), (104, .invokevirtual 75, 3), (107, .aload_n 0, 1), (108, .iconst 0, 1)]
def vt_i209_1 : List (Nat × Instr × Nat) := [(109, .invokevirtual 156, 3), (112, .aload_n 0, 1), (113, .getfield 22, 3), (116, .ifCond .ne 23, 3), (119, .aload_n 0, 1), (120, .getfield 141, 3), (123, .aload_n 0, 1), (124, .getfield 150, 3), (127, .if_icmp .ge 12, 3), (130, .aload_n 0, 1), (131, .iconst 4, 1), (132, .aload_n 0, 1), (133, .getfield 135, 3), (136, .invokevirtual 65, 3), (139, .aload_n 0, 1), (140, .aload_n 0, 1), (141, .getfield 141, 3), (144, .putfield 153, 3), (147, .aload_n 0, 1), (148, .iconst 0, 1), (149, .putfield 147, 3), (152, .aload_n 0, 1), (153, .invokevirtual 68, 3), (156, .return_, 1)]
def vt_i209 : List (Nat × Instr × Nat) := vt_i209_0 ++ (vt_i209_1)
theorem vt_o209_0 : vt_chk (prog_14_method_19_code, vt_i209_0) = true := by sorry
theorem vt_o209_1 : vt_chk (prog_14_method_19_code, vt_i209_1) = true := by sorry
theorem vt_o209 : vt_chk (prog_14_method_19_code, vt_i209) = true := (vt_app vt_o209_0 vt_o209_1)
-- 210: VitalTwinModel.constantOf (I)V
def vt_i210 : List (Nat × Instr × Nat) := [(0, .aload_n 0, 1), (1, .invokevirtual 144, 3), (4, .aload_n 0, 1), (5, .getfield 22, 3), (8, .ifCond .ne 20, 3), (11, .aload_n 0, 1), (12, .getfield 138, 3), (15, .iload_n 1, 1), (16, .if_icmp .eq 12, 3), (19, .aload_n 0, 1), (20, .iconst 5, 1), (21, .aload_n 0, 1), (22, .getfield 135, 3), (25, .invokevirtual 65, 3), (28, .return_, 1)]
theorem vt_o210 : vt_chk (prog_14_method_18_code, vt_i210) = true := by sorry
-- 211: VitalTwinModel.setType (I)V
def vt_i211 : List (Nat × Instr × Nat) := [(0, .aload_n 0, 1), (1, .getfield 102, 3), (4, .iload_n 1, 1), (5, .aload_n 0, 1), (6, .getfield 147, 3), (9, .iastore, 1), (10, .aload_n 0, 1), (11, .getfield 105, 3), (14, .iload_n 1, 1), (15, .aload_n 0, 1), (16, .getfield 150, 3), (19, .iastore, 1), (20, .aload_n 0, 1), (21, .getfield 108, 3), (24, .iload_n 1, 1), (25, .aload_n 0, 1), (26, .getfield 153, 3), (29, .iastore, 1), (30, .return_, 1)]
theorem vt_o211 : vt_chk (prog_14_method_20_code, vt_i211) = true := by sorry
-- 212: VitalTwinModel.leave (I)V
def vt_i212 : List (Nat × Instr × Nat) := [(0, .aload_n 0, 1), (1, .iload_n 1, 1), (2, .invokevirtual 75, 3), (5, .aload_n 0, 1), (6, .dup, 1), (7, .getfield 72, 3), (10, .iconst 1, 1), (11, .isub, 1), (12, .putfield 72, 3), (15, .return_, 1)]
theorem vt_o212 : vt_chk (prog_14_method_13_code, vt_i212) = true := by sorry
-- 213: VitalTwinModel.list ()I
def vt_i213 : List (Nat × Instr × Nat) := [(0, .iconst (-1), 1), (1, .istore_n 1, 1), (2, .iconst (-1), 1), (3, .istore_n 2, 1), (4, .aload_n 0, 1), (5, .getfield 22, 3), (8, .ifCond .ne 64, 3), (11, .aload_n 0, 1), (12, .getfield 25, 3), (15, .bipush 125, 2), (17, .if_icmp .eq 55, 3), (20, .aload_n 0, 1), (21, .getfield 25, 3), (24, .sipush 313, 3), (27, .if_icmp .eq 45, 3), (30, .aload_n 0, 1), (31, .invokevirtual 287, 3), (34, .istore_n 3, 1), (35, .aload_n 0, 1), (36, .getfield 22, 3), (39, .ifCond .le 5, 3), (42, .iconst (-1), 1), (43, .ireturn, 1), (44, .iload_n 3, 1), (45, .ifCond .ge 6, 3), (48, .goto (-44), 3), (51, .iload_n 2, 1), (52, .ifCond .ge 8, 3), (55, .iload_n 3, 1), (56, .istore_n 1, 1), (57, .goto 10, 3), (60, .aload_n 0, 1), (61, .getfield 190, 3), (64, .iload_n 2, 1), (65, .iload_n 3, 1), (66, .iastore, 1), (67, .iload_n 3, 1), (68, .istore_n 2, 1), (69, .goto (-65), 3), (72, .iload_n 1, 1), (73, .ireturn, 1)]
theorem vt_o213 : vt_chk (prog_14_method_44_code, vt_i213) = true := by sorry
-- 214: VitalTwinModel.statement ()I
def vt_i214 : List (Nat × Instr × Nat) := [(0, .aload_n 0, 1), (1, .getfield 25, 3), (4, .lookupswitch 113 #[(2, 108), (305, 60), (307, 98), (309, 93), (310, 103), (312, 65)], 60), (64, .aload_n 0, 1), (65, .invokevirtual 296, 3), (68, .ireturn, 1), (69, .aload_n 0, 1), (70, .invokevirtual 68, 3), (73, .aload_n 0, 1), (74, .invokevirtual 299, 3), (77, .istore_n 1, 1), (78, .aload_n 0, 1), (79, .bipush 59, 2), (81, .invokevirtual 75, 3), (84, .aload_n 0, 1), (85, .bipush 23, 2), (87, .iconst 0, 1), (88, .lconst 0, 1), (89, .lconst 0, 1), (90, .iload_n 1, 1), (91, .iconst 0, 1), (92, .iconst 0, 1), (93, .invokevirtual 208, 3), (96, .ireturn, 1), (97, .aload_n 0, 1), (98, .invokevirtual 302, 3), (101, .ireturn, 1), (102, .aload_n 0, 1), (103, .invokevirtual 305, 3), (106, .ireturn, 1), (107, .aload_n 0, 1), (108, .invokevirtual 308, 3), (111, .ireturn, 1), (112, .aload_n 0, 1), (113, .invokevirtual 311, 3), (116, .ireturn, 1), (117, .aload_n 0, 1), (118, .iconst 1, 1), (119, .aload_n 0, 1), (120, .getfield 35, 3), (123, .invokevirtual 65, 3), (126, .iconst (-1), 1), (127, .ireturn, 1)]
theorem vt_o214 : vt_chk (prog_14_method_47_code, vt_i214) = true := by sorry
end
section
/-! instructions of the methods 215 to 239, printed by wip/whole/tools/gen14.py out of the claim: each list is what decode gives -/
-- 215: VitalTwinModel.variable ()I
def vt_i215_0 : List (Nat × Instr × Nat) := [(0, .aload_n 0, 1), (1, .invokevirtual 68, 3), (4, .aload_n 0, 1), (5, .bipush 6, 2), (7, .iconst (-1), 1), (8, .invokevirtual 314, 3), (11, .istore_n 1, 1), (12, .aload_n 0, 1), (13, .iload_n 1, 1), (14, .invokevirtual 317, 3), (17, .aload_n 0, 1), (18, .bipush 58, 2), (20, .invokevirtual 75, 3), (23, .aload_n 0, 1), (24, .invokevirtual 320, 3), (27, .aload_n 0, 1), (28, .bipush 61, 2), (30, .invokevirtual 75, 3), (33, .aload_n 0, 1), (34, .getfield 22, 3), (37, .ifCond .le 5, 3), (40, .iconst (-1), 1), (41, .ireturn, 1), (42, .aload_n 0, 1), (43, .iload_n 1, 1), (44, .invokevirtual 323, 3), (47, .aload_n 0, 1), (48, .getfield 117, 3), (51, .iload_n 1, 1), (52, .baload, 1), (53, .ifCond .eq 42, 3), (56, .aload_n 0, 1), (57, .invokevirtual 144, 3), (60, .aload_n 0, 1), (61, .iload_n 1, 1), (62, .invokevirtual 326, 3), (65, .aload_n 0, 1), (66, .invokevirtual 68, 3), (69, .aload_n 0, 1), (70, .getfield 126, 3), (73, .iload_n 1, 1), (74, .iconst 0, 1), (75, .iastore, 1), (76, .aload_n 0, 1), (77, .bipush 22, 2), (79, .iconst 0, 1), (80, .lconst 0, 1), (81, .lconst 0, 1), (82, .iload_n 1, 1), (83, .aload_n 0, 1), (84, .getfield 141, 3), (87, .iconst 0, 1), (88, .invokevirtual 208, 3), (91, .istore_n 2, 1), (92, .goto 33, 3), (95, .aload_n 0, 1), (96, .bipush 20, 2), (98, .iconst 0, 1), (99, .lconst 0, 1), (100, .lconst 0, 1)]
def vt_i215_1 : List (Nat × Instr × Nat) := [(101, .iload_n 1, 1), (102, .aload_n 0, 1), (103, .aload_n 0, 1), (104, .getfield 147, 3), (107, .aload_n 0, 1), (108, .getfield 150, 3), (111, .i2l, 1), (112, .aload_n 0, 1), (113, .getfield 153, 3), (116, .i2l, 1), (117, .invokevirtual 280, 3), (120, .iconst 0, 1), (121, .invokevirtual 208, 3), (124, .istore_n 2, 1), (125, .aload_n 0, 1), (126, .bipush 59, 2), (128, .invokevirtual 75, 3), (131, .aload_n 0, 1), (132, .getfield 22, 3), (135, .ifCond .ne 10, 3), (138, .aload_n 0, 1), (139, .getfield 89, 3), (142, .iload_n 1, 1), (143, .iconst 1, 1), (144, .bastore, 1), (145, .iload_n 2, 1), (146, .ireturn, 1)]
def vt_i215 : List (Nat × Instr × Nat) := vt_i215_0 ++ (vt_i215_1)
theorem vt_o215_0 : vt_chk (prog_14_method_48_code, vt_i215_0) = true := by sorry
theorem vt_o215_1 : vt_chk (prog_14_method_48_code, vt_i215_1) = true := by sorry
theorem vt_o215 : vt_chk (prog_14_method_48_code, vt_i215) = true := (vt_app vt_o215_0 vt_o215_1)
-- 216: VitalTwinModel.length (I)V
def vt_i216 : List (Nat × Instr × Nat) := [(0, .aload_n 0, 1), (1, .getfield 25, 3), (4, .bipush 91, 2), (6, .if_icmp .eq 4, 3), (9, .return_, 1), (10, .aload_n 0, 1), (11, .bipush 91, 2), (13, .invokevirtual 159, 3), (16, .aload_n 0, 1), (17, .iconst 0, 1), (18, .invokevirtual 156, 3), (21, .aload_n 0, 1), (22, .getfield 22, 3), (25, .ifCond .ne 30, 3), (28, .aload_n 0, 1), (29, .getfield 141, 3), (32, .iconst 1, 1), (33, .if_icmp .lt 13, 3), (36, .aload_n 0, 1), (37, .getfield 141, 3), (40, .sipush 4096, 3), (43, .if_icmp .le 12, 3), (46, .aload_n 0, 1), (47, .iconst 4, 1), (48, .aload_n 0, 1), (49, .getfield 135, 3), (52, .invokevirtual 65, 3), (55, .aload_n 0, 1), (56, .invokevirtual 68, 3), (59, .aload_n 0, 1), (60, .bipush 93, 2), (62, .invokevirtual 162, 3), (65, .aload_n 0, 1), (66, .getfield 117, 3), (69, .iload_n 1, 1), (70, .iconst 1, 1), (71, .bastore, 1), (72, .aload_n 0, 1), (73, .getfield 114, 3), (76, .iload_n 1, 1), (77, .aload_n 0, 1), (78, .getfield 141, 3), (81, .iastore, 1), (82, .return_, 1)]
theorem vt_o216 : vt_chk (prog_14_method_22_code, vt_i216) = true := by sorry
-- 217: VitalTwinModel.fits (I)V
def vt_i217 : List (Nat × Instr × Nat) := [(0, .aload_n 0, 1), (1, .getfield 22, 3), (4, .ifCond .ne 25, 3), (7, .aload_n 0, 1), (8, .getfield 138, 3), (11, .aload_n 0, 1), (12, .getfield 102, 3), (15, .iload_n 1, 1), (16, .iaload, 1), (17, .if_icmp .eq 12, 3), (20, .aload_n 0, 1), (21, .iconst 5, 1), (22, .aload_n 0, 1), (23, .getfield 135, 3), (26, .invokevirtual 65, 3), (29, .aload_n 0, 1), (30, .getfield 22, 3), (33, .ifCond .ne 39, 3), (36, .aload_n 0, 1), (37, .getfield 141, 3), (40, .aload_n 0, 1), (41, .getfield 105, 3), (44, .iload_n 1, 1), (45, .iaload, 1), (46, .if_icmp .lt 16, 3), (49, .aload_n 0, 1), (50, .getfield 141, 3), (53, .aload_n 0, 1), (54, .getfield 108, 3), (57, .iload_n 1, 1), (58, .iaload, 1), (59, .if_icmp .le 13, 3), (62, .aload_n 0, 1), (63, .bipush 6, 2), (65, .aload_n 0, 1), (66, .getfield 135, 3), (69, .invokevirtual 65, 3), (72, .aload_n 0, 1), (73, .getfield 126, 3), (76, .iload_n 1, 1), (77, .aload_n 0, 1), (78, .getfield 141, 3), (81, .iastore, 1), (82, .return_, 1)]
theorem vt_o217 : vt_chk (prog_14_method_21_code, vt_i217) = true := by sorry
-- 218: VitalTwinModel.node (IIJJIII)I
def vt_i218_0 : List (Nat × Instr × Nat) := [(0, .aload_n 0, 1), (1, .getfield 22, 3), (4, .ifCond .gt 12, 3), (7, .aload_n 0, 1), (8, .getfield 165, 3), (11, .ldc 168, 2), (13, .if_icmp .ne 5, 3), (16, .iconst 0, 1), (17, .ireturn, 1), (18, .aload_n 0, 1), (19, .getfield 165, 3), (22, .istore 10, 2), (24, .aload_n 0, 1), (25, .getfield 169, 3), (28, .iload 10, 2), (30, .iload_n 1, 1), (31, .i2b, 1), (32, .bastore, 1), (33, .aload_n 0, 1), (34, .getfield 172, 3), (37, .iload 10, 2), (39, .iload_n 2, 1), (40, .iastore, 1), (41, .aload_n 0, 1), (42, .getfield 175, 3), (45, .iload 10, 2), (47, .lload_n 3, 1), (48, .l2i, 1), (49, .iastore, 1), (50, .aload_n 0, 1), (51, .getfield 178, 3), (54, .iload 10, 2), (56, .lload 5, 2), (58, .l2i, 1), (59, .iastore, 1), (60, .aload_n 0, 1), (61, .getfield 181, 3), (64, .iload 10, 2), (66, .iload 7, 2), (68, .iastore, 1), (69, .aload_n 0, 1), (70, .getfield 184, 3), (73, .iload 10, 2), (75, .iload 8, 2), (77, .iastore, 1), (78, .aload_n 0, 1), (79, .getfield 187, 3), (82, .iload 10, 2), (84, .iload 9, 2), (86, .iastore, 1), (87, .aload_n 0, 1), (88, .getfield 190, 3), (91, .iload 10, 2), (93, .iconst (-1), 1), (94, .iastore, 1), (95, .aload_n 0, 1), (96, .dup, 1), (97, .getfield 165, 3), (100, .iconst 1, 1), (101, .iadd, 1)]
def vt_i218_1 : List (Nat × Instr × Nat) := [(102, .putfield 165, 3), (105, .iload 10, 2), (107, .ireturn, 1)]
def vt_i218 : List (Nat × Instr × Nat) := vt_i218_0 ++ (vt_i218_1)
theorem vt_o218_0 : vt_chk (prog_14_method_23_code, vt_i218_0) = true := by sorry
theorem vt_o218_1 : vt_chk (prog_14_method_23_code, vt_i218_1) = true := by sorry
theorem vt_o218 : vt_chk (prog_14_method_23_code, vt_i218) = true := (vt_app vt_o218_0 vt_o218_1)
-- 219: VitalTwinModel.termFor (IJJ)I
def vt_i219 : List (Nat × Instr × Nat) := [(0, .aload_n 0, 1), (1, .getfield 35, 3), (4, .istore 6, 2), (6, .aload_n 0, 1), (7, .invokevirtual 193, 3), (10, .istore 7, 2), (12, .aload_n 0, 1), (13, .getfield 22, 3), (16, .ifCond .le 5, 3), (19, .iconst 0, 1), (20, .ireturn, 1), (21, .aload_n 0, 1), (22, .getfield 172, 3), (25, .iload 7, 2), (27, .iaload, 1), (28, .iload_n 1, 1), (29, .if_icmp .eq 13, 3), (32, .aload_n 0, 1), (33, .iconst 5, 1), (34, .iload 6, 2), (36, .invokevirtual 65, 3), (39, .goto 38, 3), (42, .aload_n 0, 1), (43, .getfield 175, 3), (46, .iload 7, 2), (48, .iaload, 1), (49, .i2l, 1), (50, .lload_n 2, 1), (51, .lcmp, 1), (52, .ifCond .lt 17, 3), (55, .aload_n 0, 1), (56, .getfield 178, 3), (59, .iload 7, 2), (61, .iaload, 1), (62, .i2l, 1), (63, .lload 4, 2), (65, .lcmp, 1), (66, .ifCond .le 11, 3), (69, .aload_n 0, 1), (70, .bipush 6, 2), (72, .iload 6, 2), (74, .invokevirtual 65, 3), (77, .iload 7, 2), (79, .ireturn, 1)]
theorem vt_o219 : vt_chk (prog_14_method_25_code, vt_i219) = true := by sorry
-- 220: VitalTwinModel.term ()I
def vt_i220_0 : List (Nat × Instr × Nat) := [(0, .aload_n 0, 1), (1, .invokevirtual 196, 3), (4, .istore_n 1, 1), (5, .aload_n 0, 1), (6, .getfield 25, 3), (9, .bipush 63, 2), (11, .if_icmp .eq 5, 3), (14, .iload_n 1, 1), (15, .ireturn, 1), (16, .aload_n 0, 1), (17, .getfield 35, 3), (20, .istore_n 2, 1), (21, .aload_n 0, 1), (22, .bipush 63, 2), (24, .invokevirtual 159, 3), (27, .aload_n 0, 1), (28, .invokevirtual 193, 3), (31, .istore_n 3, 1), (32, .aload_n 0, 1), (33, .bipush 58, 2), (35, .invokevirtual 75, 3), (38, .aload_n 0, 1), (39, .invokevirtual 193, 3), (42, .istore 4, 2), (44, .aload_n 0, 1), (45, .dup, 1), (46, .getfield 72, 3), (49, .iconst 1, 1), (50, .isub, 1), (51, .putfield 72, 3), (54, .aload_n 0, 1), (55, .getfield 22, 3), (58, .ifCond .le 5, 3), (61, .iconst 0, 1), (62, .ireturn, 1), (63, .aload_n 0, 1), (64, .getfield 172, 3), (67, .iload_n 1, 1), (68, .iaload, 1), (69, .iconst 1, 1), (70, .if_icmp .ne 19, 3), (73, .aload_n 0, 1), (74, .getfield 172, 3), (77, .iload_n 3, 1), (78, .iaload, 1), (79, .aload_n 0, 1), (80, .getfield 172, 3), (83, .iload 4, 2), (85, .iaload, 1), (86, .if_icmp .eq 11, 3), (89, .aload_n 0, 1), (90, .iconst 5, 1), (91, .iload_n 2, 1), (92, .invokevirtual 65, 3), (95, .iconst 0, 1), (96, .ireturn, 1), (97, .aload_n 0, 1), (98, .bipush 8, 2), (100, .aload_n 0, 1), (101, .getfield 172, 3)]
def vt_i220_1 : List (Nat × Instr × Nat) := [(104, .iload_n 3, 1), (105, .iaload, 1), (106, .aload_n 0, 1), (107, .getfield 175, 3), (110, .iload_n 3, 1), (111, .iaload, 1), (112, .aload_n 0, 1), (113, .getfield 175, 3), (116, .iload 4, 2), (118, .iaload, 1), (119, .invokestatic 199, 3), (122, .i2l, 1), (123, .aload_n 0, 1), (124, .getfield 178, 3), (127, .iload_n 3, 1), (128, .iaload, 1), (129, .aload_n 0, 1), (130, .getfield 178, 3), (133, .iload 4, 2), (135, .iaload, 1), (136, .invokestatic 205, 3), (139, .i2l, 1), (140, .iload_n 1, 1), (141, .iload_n 3, 1), (142, .iload 4, 2), (144, .invokevirtual 208, 3), (147, .ireturn, 1)]
def vt_i220 : List (Nat × Instr × Nat) := vt_i220_0 ++ (vt_i220_1)
theorem vt_o220_0 : vt_chk (prog_14_method_27_code, vt_i220_0) = true := by sorry
theorem vt_o220_1 : vt_chk (prog_14_method_27_code, vt_i220_1) = true := by sorry
theorem vt_o220 : vt_chk (prog_14_method_27_code, vt_i220) = true := (vt_app vt_o220_0 vt_o220_1)
-- 221: VitalTwinModel.either ()I
def vt_i221 : List (Nat × Instr × Nat) := [(0, .aload_n 0, 1), (1, .invokevirtual 212, 3), (4, .istore_n 1, 1), (5, .aload_n 0, 1), (6, .getfield 25, 3), (9, .sipush 206, 3), (12, .if_icmp .ne 28, 3), (15, .aload_n 0, 1), (16, .getfield 35, 3), (19, .istore_n 2, 1), (20, .aload_n 0, 1), (21, .invokevirtual 68, 3), (24, .aload_n 0, 1), (25, .bipush 7, 2), (27, .iload_n 1, 1), (28, .aload_n 0, 1), (29, .invokevirtual 212, 3), (32, .iload_n 2, 1), (33, .invokevirtual 215, 3), (36, .istore_n 1, 1), (37, .goto (-32), 3), (40, .iload_n 1, 1), (41, .ireturn, 1)]
theorem vt_o221 : vt_chk (prog_14_method_28_code, vt_i221) = true := by sorry
-- 222: VitalTwinModel.both ()I
def vt_i222 : List (Nat × Instr × Nat) := [(0, .aload_n 0, 1), (1, .invokevirtual 219, 3), (4, .istore_n 1, 1), (5, .aload_n 0, 1), (6, .getfield 25, 3), (9, .sipush 205, 3), (12, .if_icmp .ne 28, 3), (15, .aload_n 0, 1), (16, .getfield 35, 3), (19, .istore_n 2, 1), (20, .aload_n 0, 1), (21, .invokevirtual 68, 3), (24, .aload_n 0, 1), (25, .bipush 6, 2), (27, .iload_n 1, 1), (28, .aload_n 0, 1), (29, .invokevirtual 219, 3), (32, .iload_n 2, 1), (33, .invokevirtual 215, 3), (36, .istore_n 1, 1), (37, .goto (-32), 3), (40, .iload_n 1, 1), (41, .ireturn, 1)]
theorem vt_o222 : vt_chk (prog_14_method_29_code, vt_i222) = true := by sorry
-- 223: VitalTwinModel.is ()I
def vt_i223_0 : List (Nat × Instr × Nat) := [(0, .aload_n 0, 1), (1, .invokevirtual 222, 3), (4, .istore_n 1, 1), (5, .aload_n 0, 1), (6, .getfield 25, 3), (9, .bipush 60, 2), (11, .if_icmp .ne 8, 3), (14, .bipush 13, 2), (16, .goto 78, 3), (19, .aload_n 0, 1), (20, .getfield 25, 3), (23, .sipush 201, 3), (26, .if_icmp .ne 8, 3), (29, .bipush 14, 2), (31, .goto 63, 3), (34, .aload_n 0, 1), (35, .getfield 25, 3), (38, .bipush 62, 2), (40, .if_icmp .ne 8, 3), (43, .bipush 15, 2), (45, .goto 49, 3), (48, .aload_n 0, 1), (49, .getfield 25, 3), (52, .sipush 202, 3), (55, .if_icmp .ne 8, 3), (58, .bipush 16, 2), (60, .goto 34, 3), (63, .aload_n 0, 1), (64, .getfield 25, 3), (67, .sipush 203, 3), (70, .if_icmp .ne 8, 3), (73, .bipush 17, 2), (75, .goto 19, 3), (78, .aload_n 0, 1), (79, .getfield 25, 3), (82, .sipush 204, 3), (85, .if_icmp .ne 8, 3), (88, .bipush 18, 2), (90, .goto 4, 3), (93, .iconst (-1), 1), (94, .istore_n 2, 1), (95, .iload_n 2, 1), (96, .ifCond .ge 5, 3), (99, .iload_n 1, 1), (100, .ireturn, 1), (101, .aload_n 0, 1), (102, .getfield 35, 3), (105, .istore_n 3, 1), (106, .aload_n 0, 1), (107, .invokevirtual 68, 3), (110, .aload_n 0, 1), (111, .invokevirtual 222, 3), (114, .istore 4, 2), (116, .aload_n 0, 1), (117, .getfield 22, 3), (120, .ifCond .le 5, 3), (123, .iconst 0, 1), (124, .ireturn, 1), (125, .aload_n 0, 1), (126, .getfield 172, 3)]
def vt_i223_1 : List (Nat × Instr × Nat) := [(129, .iload_n 1, 1), (130, .iaload, 1), (131, .aload_n 0, 1), (132, .getfield 172, 3), (135, .iload 4, 2), (137, .iaload, 1), (138, .if_icmp .ne 28, 3), (141, .iload_n 2, 1), (142, .bipush 17, 2), (144, .if_icmp .ge 12, 3), (147, .aload_n 0, 1), (148, .getfield 172, 3), (151, .iload_n 1, 1), (152, .iaload, 1), (153, .ifCond .ne 13, 3), (156, .aload_n 0, 1), (157, .getfield 172, 3), (160, .iload_n 1, 1), (161, .iaload, 1), (162, .iconst 2, 1), (163, .if_icmp .ne 9, 3), (166, .aload_n 0, 1), (167, .iconst 5, 1), (168, .iload_n 3, 1), (169, .invokevirtual 65, 3), (172, .aload_n 0, 1), (173, .iconst 4, 1), (174, .iconst 1, 1), (175, .lconst 0, 1), (176, .lconst 1, 1), (177, .iload_n 1, 1), (178, .iload 4, 2), (180, .iload_n 2, 1), (181, .invokevirtual 208, 3), (184, .ireturn, 1)]
def vt_i223 : List (Nat × Instr × Nat) := vt_i223_0 ++ (vt_i223_1)
theorem vt_o223_0 : vt_chk (prog_14_method_31_code, vt_i223_0) = true := by sorry
theorem vt_o223_1 : vt_chk (prog_14_method_31_code, vt_i223_1) = true := by sorry
theorem vt_o223 : vt_chk (prog_14_method_31_code, vt_i223) = true := (vt_app vt_o223_0 vt_o223_1)
-- 224: VitalTwinModel.sum ()I
def vt_i224 : List (Nat × Instr × Nat) := [(0, .aload_n 0, 1), (1, .invokevirtual 225, 3), (4, .istore_n 1, 1), (5, .aload_n 0, 1), (6, .getfield 25, 3), (9, .bipush 43, 2), (11, .if_icmp .eq 12, 3), (14, .aload_n 0, 1), (15, .getfield 25, 3), (18, .bipush 45, 2), (20, .if_icmp .ne 44, 3), (23, .aload_n 0, 1), (24, .getfield 35, 3), (27, .istore_n 2, 1), (28, .aload_n 0, 1), (29, .getfield 25, 3), (32, .bipush 43, 2), (34, .if_icmp .ne 8, 3), (37, .bipush 6, 2), (39, .goto 5, 3), (42, .bipush 7, 2), (44, .istore_n 3, 1), (45, .aload_n 0, 1), (46, .invokevirtual 68, 3), (49, .aload_n 0, 1), (50, .iload_n 3, 1), (51, .iload_n 1, 1), (52, .aload_n 0, 1), (53, .invokevirtual 225, 3), (56, .iload_n 2, 1), (57, .invokevirtual 228, 3), (60, .istore_n 1, 1), (61, .goto (-56), 3), (64, .iload_n 1, 1), (65, .ireturn, 1)]
theorem vt_o224 : vt_chk (prog_14_method_32_code, vt_i224) = true := by sorry
-- 225: VitalTwinModel.product ()I
def vt_i225 : List (Nat × Instr × Nat) := [(0, .aload_n 0, 1), (1, .invokevirtual 231, 3), (4, .istore_n 1, 1), (5, .aload_n 0, 1), (6, .getfield 25, 3), (9, .bipush 42, 2), (11, .if_icmp .eq 21, 3), (14, .aload_n 0, 1), (15, .getfield 25, 3), (18, .bipush 47, 2), (20, .if_icmp .eq 12, 3), (23, .aload_n 0, 1), (24, .getfield 25, 3), (27, .bipush 37, 2), (29, .if_icmp .ne 58, 3), (32, .aload_n 0, 1), (33, .getfield 35, 3), (36, .istore_n 2, 1), (37, .aload_n 0, 1), (38, .getfield 25, 3), (41, .bipush 42, 2), (43, .if_icmp .ne 8, 3), (46, .bipush 8, 2), (48, .goto 19, 3), (51, .aload_n 0, 1), (52, .getfield 25, 3), (55, .bipush 47, 2), (57, .if_icmp .ne 8, 3), (60, .bipush 9, 2), (62, .goto 5, 3), (65, .bipush 10, 2), (67, .istore_n 3, 1), (68, .aload_n 0, 1), (69, .invokevirtual 68, 3), (72, .aload_n 0, 1), (73, .iload_n 3, 1), (74, .iload_n 1, 1), (75, .aload_n 0, 1), (76, .invokevirtual 231, 3), (79, .iload_n 2, 1), (80, .invokevirtual 228, 3), (83, .istore_n 1, 1), (84, .goto (-79), 3), (87, .iload_n 1, 1), (88, .ireturn, 1)]
theorem vt_o225 : vt_chk (prog_14_method_33_code, vt_i225) = true := by sorry
-- 226: VitalTwinModel.front ()I
def vt_i226_0 : List (Nat × Instr × Nat) := [(0, .aload_n 0, 1), (1, .getfield 25, 3), (4, .bipush 45, 2), (6, .if_icmp .eq 17, 3), (9, .aload_n 0, 1), (10, .getfield 25, 3), (13, .bipush 33, 2), (15, .if_icmp .eq 8, 3), (18, .aload_n 0, 1), (19, .invokevirtual 256, 3), (22, .ireturn, 1), (23, .aload_n 0, 1), (24, .getfield 25, 3), (27, .bipush 45, 2), (29, .if_icmp .ne 7, 3), (32, .iconst 1, 1), (33, .goto 4, 3), (36, .iconst 0, 1), (37, .istore_n 1, 1), (38, .aload_n 0, 1), (39, .getfield 35, 3), (42, .istore_n 2, 1), (43, .aload_n 0, 1), (44, .aload_n 0, 1), (45, .getfield 25, 3), (48, .invokevirtual 159, 3), (51, .aload_n 0, 1), (52, .invokevirtual 231, 3), (55, .istore_n 3, 1), (56, .aload_n 0, 1), (57, .dup, 1), (58, .getfield 72, 3), (61, .iconst 1, 1), (62, .isub, 1), (63, .putfield 72, 3), (66, .aload_n 0, 1), (67, .getfield 22, 3), (70, .ifCond .le 5, 3), (73, .iconst 0, 1), (74, .ireturn, 1), (75, .aload_n 0, 1), (76, .getfield 172, 3), (79, .iload_n 3, 1), (80, .iaload, 1), (81, .iload_n 1, 1), (82, .ifCond .eq 7, 3), (85, .iconst 0, 1), (86, .goto 4, 3), (89, .iconst 1, 1), (90, .if_icmp .eq 9, 3), (93, .aload_n 0, 1), (94, .iconst 5, 1), (95, .iload_n 2, 1), (96, .invokevirtual 65, 3), (99, .iload_n 1, 1), (100, .ifCond .eq 32, 3), (103, .aload_n 0, 1), (104, .iconst 5, 1), (105, .iconst 0, 1), (106, .aload_n 0, 1)]
def vt_i226_1 : List (Nat × Instr × Nat) := [(107, .getfield 178, 3), (110, .iload_n 3, 1), (111, .iaload, 1), (112, .i2l, 1), (113, .lneg, 1), (114, .aload_n 0, 1), (115, .getfield 175, 3), (118, .iload_n 3, 1), (119, .iaload, 1), (120, .i2l, 1), (121, .lneg, 1), (122, .iload_n 3, 1), (123, .iconst 0, 1), (124, .bipush 19, 2), (126, .invokevirtual 208, 3), (129, .goto 15, 3), (132, .aload_n 0, 1), (133, .iconst 5, 1), (134, .iconst 1, 1), (135, .lconst 0, 1), (136, .lconst 1, 1), (137, .iload_n 3, 1), (138, .iconst 0, 1), (139, .bipush 21, 2), (141, .invokevirtual 208, 3), (144, .ireturn, 1)]
def vt_i226 : List (Nat × Instr × Nat) := vt_i226_0 ++ (vt_i226_1)
theorem vt_o226_0 : vt_chk (prog_14_method_36_code, vt_i226_0) = true := by sorry
theorem vt_o226_1 : vt_chk (prog_14_method_36_code, vt_i226_1) = true := by sorry
theorem vt_o226 : vt_chk (prog_14_method_36_code, vt_i226) = true := (vt_app vt_o226_0 vt_o226_1)
-- 227: VitalTwinModel.first ()I
def vt_i227_0 : List (Nat × Instr × Nat) := [(0, .aload_n 0, 1), (1, .getfield 25, 3), (4, .lookupswitch 184 #[(2, 179), (3, 84), (40, 145), (316, 113), (317, 113), (318, 164), (319, 164), (320, 169), (321, 174)], 84), (88, .aload_n 0, 1), (89, .iconst 1, 1), (90, .iconst 0, 1), (91, .aload_n 0, 1), (92, .getfield 53, 3), (95, .i2l, 1), (96, .aload_n 0, 1), (97, .getfield 53, 3), (100, .i2l, 1), (101, .aload_n 0, 1), (102, .getfield 53, 3), (105, .iconst 0, 1), (106, .iconst 0, 1), (107, .invokevirtual 208, 3), (110, .istore_n 1, 1), (111, .aload_n 0, 1), (112, .invokevirtual 68, 3), (115, .iload_n 1, 1), (116, .ireturn, 1), (117, .aload_n 0, 1), (118, .iconst 1, 1), (119, .iconst 1, 1), (120, .lconst 0, 1), (121, .lconst 1, 1), (122, .aload_n 0, 1), (123, .getfield 25, 3), (126, .sipush 316, 3), (129, .if_icmp .ne 7, 3), (132, .iconst 1, 1), (133, .goto 4, 3), (136, .iconst 0, 1), (137, .iconst 0, 1), (138, .iconst 0, 1), (139, .invokevirtual 208, 3), (142, .istore_n 1, 1), (143, .aload_n 0, 1), (144, .invokevirtual 68, 3), (147, .iload_n 1, 1), (148, .ireturn, 1), (149, .aload_n 0, 1), (150, .bipush 40, 2), (152, .invokevirtual 159, 3), (155, .aload_n 0, 1), (156, .invokevirtual 193, 3), (159, .istore_n 1, 1), (160, .aload_n 0, 1), (161, .bipush 41, 2), (163, .invokevirtual 162, 3), (166, .iload_n 1, 1), (167, .ireturn, 1), (168, .aload_n 0, 1), (169, .invokevirtual 259, 3), (172, .ireturn, 1), (173, .aload_n 0, 1), (174, .invokevirtual 262, 3), (177, .ireturn, 1), (178, .aload_n 0, 1)]
def vt_i227_1 : List (Nat × Instr × Nat) := [(179, .invokevirtual 265, 3), (182, .ireturn, 1), (183, .aload_n 0, 1), (184, .invokevirtual 268, 3), (187, .ireturn, 1), (188, .aload_n 0, 1), (189, .iconst 1, 1), (190, .aload_n 0, 1), (191, .getfield 35, 3), (194, .invokevirtual 65, 3), (197, .iconst 0, 1), (198, .ireturn, 1)]
def vt_i227 : List (Nat × Instr × Nat) := vt_i227_0 ++ (vt_i227_1)
theorem vt_o227_0 : vt_chk (prog_14_method_37_code, vt_i227_0) = true := by sorry
theorem vt_o227_1 : vt_chk (prog_14_method_37_code, vt_i227_1) = true := by sorry
theorem vt_o227 : vt_chk (prog_14_method_37_code, vt_i227) = true := (vt_app vt_o227_0 vt_o227_1)
-- 228: VitalTwinModel.leastOf ()I
def vt_i228_0 : List (Nat × Instr × Nat) := [(0, .aload_n 0, 1), (1, .getfield 35, 3), (4, .istore_n 1, 1), (5, .aload_n 0, 1), (6, .getfield 25, 3), (9, .sipush 318, 3), (12, .if_icmp .ne 7, 3), (15, .iconst 1, 1), (16, .goto 4, 3), (19, .iconst 0, 1), (20, .istore_n 2, 1), (21, .aload_n 0, 1), (22, .invokevirtual 68, 3), (25, .aload_n 0, 1), (26, .bipush 40, 2), (28, .invokevirtual 159, 3), (31, .aload_n 0, 1), (32, .invokevirtual 193, 3), (35, .istore_n 3, 1), (36, .aload_n 0, 1), (37, .bipush 44, 2), (39, .invokevirtual 75, 3), (42, .aload_n 0, 1), (43, .invokevirtual 193, 3), (46, .istore 4, 2), (48, .aload_n 0, 1), (49, .getfield 22, 3), (52, .ifCond .ne 28, 3), (55, .aload_n 0, 1), (56, .getfield 172, 3), (59, .iload_n 3, 1), (60, .iaload, 1), (61, .ifCond .ne 13, 3), (64, .aload_n 0, 1), (65, .getfield 172, 3), (68, .iload 4, 2), (70, .iaload, 1), (71, .ifCond .eq 9, 3), (74, .aload_n 0, 1), (75, .iconst 5, 1), (76, .iload_n 1, 1), (77, .invokevirtual 65, 3), (80, .aload_n 0, 1), (81, .bipush 41, 2), (83, .invokevirtual 162, 3), (86, .aload_n 0, 1), (87, .getfield 22, 3), (90, .ifCond .le 5, 3), (93, .iconst 0, 1), (94, .ireturn, 1), (95, .iload_n 2, 1), (96, .ifCond .eq 23, 3), (99, .aload_n 0, 1), (100, .getfield 175, 3), (103, .iload_n 3, 1), (104, .iaload, 1), (105, .aload_n 0, 1), (106, .getfield 175, 3), (109, .iload 4, 2), (111, .iaload, 1)]
def vt_i228_1 : List (Nat × Instr × Nat) := [(112, .invokestatic 199, 3), (115, .i2l, 1), (116, .goto 20, 3), (119, .aload_n 0, 1), (120, .getfield 175, 3), (123, .iload_n 3, 1), (124, .iaload, 1), (125, .aload_n 0, 1), (126, .getfield 175, 3), (129, .iload 4, 2), (131, .iaload, 1), (132, .invokestatic 205, 3), (135, .i2l, 1), (136, .lstore 5, 2), (138, .iload_n 2, 1), (139, .ifCond .eq 23, 3), (142, .aload_n 0, 1), (143, .getfield 178, 3), (146, .iload_n 3, 1), (147, .iaload, 1), (148, .aload_n 0, 1), (149, .getfield 178, 3), (152, .iload 4, 2), (154, .iaload, 1), (155, .invokestatic 199, 3), (158, .i2l, 1), (159, .goto 20, 3), (162, .aload_n 0, 1), (163, .getfield 178, 3), (166, .iload_n 3, 1), (167, .iaload, 1), (168, .aload_n 0, 1), (169, .getfield 178, 3), (172, .iload 4, 2), (174, .iaload, 1), (175, .invokestatic 205, 3), (178, .i2l, 1), (179, .lstore 7, 2), (181, .aload_n 0, 1), (182, .iconst 4, 1), (183, .iconst 0, 1), (184, .lload 5, 2), (186, .lload 7, 2), (188, .iload_n 3, 1), (189, .iload 4, 2), (191, .iload_n 2, 1), (192, .ifCond .eq 8, 3), (195, .bipush 11, 2), (197, .goto 5, 3), (200, .bipush 12, 2), (202, .invokevirtual 208, 3), (205, .ireturn, 1)]
def vt_i228 : List (Nat × Instr × Nat) := vt_i228_0 ++ (vt_i228_1)
theorem vt_o228_0 : vt_chk (prog_14_method_38_code, vt_i228_0) = true := by sorry
theorem vt_o228_1 : vt_chk (prog_14_method_38_code, vt_i228_1) = true := by sorry
theorem vt_o228 : vt_chk (prog_14_method_38_code, vt_i228) = true := (vt_app vt_o228_0 vt_o228_1)
-- 229: VitalTwinModel.absolute ()I
def vt_i229_0 : List (Nat × Instr × Nat) := [(0, .aload_n 0, 1), (1, .getfield 35, 3), (4, .istore_n 1, 1), (5, .aload_n 0, 1), (6, .invokevirtual 68, 3), (9, .aload_n 0, 1), (10, .bipush 40, 2), (12, .invokevirtual 159, 3), (15, .aload_n 0, 1), (16, .invokevirtual 193, 3), (19, .istore_n 2, 1), (20, .aload_n 0, 1), (21, .getfield 22, 3), (24, .ifCond .ne 18, 3), (27, .aload_n 0, 1), (28, .getfield 172, 3), (31, .iload_n 2, 1), (32, .iaload, 1), (33, .ifCond .eq 9, 3), (36, .aload_n 0, 1), (37, .iconst 5, 1), (38, .iload_n 1, 1), (39, .invokevirtual 65, 3), (42, .aload_n 0, 1), (43, .bipush 41, 2), (45, .invokevirtual 162, 3), (48, .aload_n 0, 1), (49, .getfield 22, 3), (52, .ifCond .le 5, 3), (55, .iconst 0, 1), (56, .ireturn, 1), (57, .aload_n 0, 1), (58, .getfield 175, 3), (61, .iload_n 2, 1), (62, .iaload, 1), (63, .i2l, 1), (64, .lstore_n 3, 1), (65, .aload_n 0, 1), (66, .getfield 178, 3), (69, .iload_n 2, 1), (70, .iaload, 1), (71, .i2l, 1), (72, .lstore 5, 2), (74, .lload_n 3, 1), (75, .lconst 0, 1), (76, .lcmp, 1), (77, .ifCond .le 7, 3), (80, .lload_n 3, 1), (81, .goto 17, 3), (84, .lload 5, 2), (86, .lconst 0, 1), (87, .lcmp, 1), (88, .ifCond .ge 9, 3), (91, .lload 5, 2), (93, .lneg, 1), (94, .goto 4, 3), (97, .lconst 0, 1), (98, .lstore 7, 2), (100, .aload_n 0, 1), (101, .iconst 5, 1)]
def vt_i229_1 : List (Nat × Instr × Nat) := [(102, .iconst 0, 1), (103, .lload 7, 2), (105, .lload_n 3, 1), (106, .invokestatic 250, 3), (109, .lload 5, 2), (111, .invokestatic 250, 3), (114, .invokestatic 241, 3), (117, .iload_n 2, 1), (118, .iconst 0, 1), (119, .bipush 20, 2), (121, .invokevirtual 208, 3), (124, .ireturn, 1)]
def vt_i229 : List (Nat × Instr × Nat) := vt_i229_0 ++ (vt_i229_1)
theorem vt_o229_0 : vt_chk (prog_14_method_39_code, vt_i229_0) = true := by sorry
theorem vt_o229_1 : vt_chk (prog_14_method_39_code, vt_i229_1) = true := by sorry
theorem vt_o229 : vt_chk (prog_14_method_39_code, vt_i229) = true := (vt_app vt_o229_0 vt_o229_1)
-- 230: VitalTwinModel.clamped ()I
def vt_i230_0 : List (Nat × Instr × Nat) := [(0, .aload_n 0, 1), (1, .getfield 35, 3), (4, .istore_n 1, 1), (5, .aload_n 0, 1), (6, .invokevirtual 68, 3), (9, .aload_n 0, 1), (10, .bipush 40, 2), (12, .invokevirtual 159, 3), (15, .aload_n 0, 1), (16, .invokevirtual 193, 3), (19, .istore_n 2, 1), (20, .aload_n 0, 1), (21, .getfield 22, 3), (24, .ifCond .ne 18, 3), (27, .aload_n 0, 1), (28, .getfield 172, 3), (31, .iload_n 2, 1), (32, .iaload, 1), (33, .ifCond .eq 9, 3), (36, .aload_n 0, 1), (37, .iconst 5, 1), (38, .iload_n 1, 1), (39, .invokevirtual 65, 3), (42, .aload_n 0, 1), (43, .bipush 44, 2), (45, .invokevirtual 75, 3), (48, .aload_n 0, 1), (49, .iconst 0, 1), (50, .invokevirtual 156, 3), (53, .aload_n 0, 1), (54, .getfield 141, 3), (57, .istore_n 3, 1), (58, .aload_n 0, 1), (59, .invokevirtual 68, 3), (62, .aload_n 0, 1), (63, .bipush 44, 2), (65, .invokevirtual 75, 3), (68, .aload_n 0, 1), (69, .iconst 0, 1), (70, .invokevirtual 156, 3), (73, .aload_n 0, 1), (74, .getfield 141, 3), (77, .istore 4, 2), (79, .aload_n 0, 1), (80, .getfield 22, 3), (83, .ifCond .ne 18, 3), (86, .iload 4, 2), (88, .iload_n 3, 1), (89, .if_icmp .ge 12, 3), (92, .aload_n 0, 1), (93, .iconst 4, 1), (94, .aload_n 0, 1), (95, .getfield 135, 3), (98, .invokevirtual 65, 3), (101, .aload_n 0, 1), (102, .invokevirtual 68, 3), (105, .aload_n 0, 1), (106, .bipush 41, 2), (108, .invokevirtual 162, 3), (111, .aload_n 0, 1)]
def vt_i230_1 : List (Nat × Instr × Nat) := [(112, .getfield 22, 3), (115, .ifCond .le 5, 3), (118, .iconst 0, 1), (119, .ireturn, 1), (120, .iload 4, 2), (122, .iload_n 3, 1), (123, .aload_n 0, 1), (124, .getfield 175, 3), (127, .iload_n 2, 1), (128, .iaload, 1), (129, .invokestatic 205, 3), (132, .invokestatic 199, 3), (135, .i2l, 1), (136, .lstore 5, 2), (138, .iload 4, 2), (140, .iload_n 3, 1), (141, .aload_n 0, 1), (142, .getfield 178, 3), (145, .iload_n 2, 1), (146, .iaload, 1), (147, .invokestatic 205, 3), (150, .invokestatic 199, 3), (153, .i2l, 1), (154, .lstore 7, 2), (156, .aload_n 0, 1), (157, .bipush 9, 2), (159, .iconst 0, 1), (160, .lload 5, 2), (162, .lload 7, 2), (164, .iload_n 2, 1), (165, .iload_n 3, 1), (166, .iload 4, 2), (168, .invokevirtual 208, 3), (171, .ireturn, 1)]
def vt_i230 : List (Nat × Instr × Nat) := vt_i230_0 ++ (vt_i230_1)
theorem vt_o230_0 : vt_chk (prog_14_method_40_code, vt_i230_0) = true := by sorry
theorem vt_o230_1 : vt_chk (prog_14_method_40_code, vt_i230_1) = true := by sorry
theorem vt_o230 : vt_chk (prog_14_method_40_code, vt_i230) = true := (vt_app vt_o230_0 vt_o230_1)
-- 231: VitalTwinModel.named ()I
def vt_i231_0 : List (Nat × Instr × Nat) := [(0, .aload_n 0, 1), (1, .invokevirtual 96, 3), (4, .istore_n 1, 1), (5, .aload_n 0, 1), (6, .invokevirtual 271, 3), (9, .istore_n 2, 1), (10, .iload_n 1, 1), (11, .ifCond .lt 63, 3), (14, .aload_n 0, 1), (15, .getfield 99, 3), (18, .iload_n 1, 1), (19, .iaload, 1), (20, .bipush 8, 2), (22, .if_icmp .eq 52, 3), (25, .aload_n 0, 1), (26, .getfield 99, 3), (29, .iload_n 1, 1), (30, .iaload, 1), (31, .iconst 4, 1), (32, .if_icmp .ne 7, 3), (35, .iconst 1, 1), (36, .goto 4, 3), (39, .iconst 0, 1), (40, .iload_n 2, 1), (41, .bipush 40, 2), (43, .if_icmp .ne 7, 3), (46, .iconst 1, 1), (47, .goto 4, 3), (50, .iconst 0, 1), (51, .if_icmp .ne 23, 3), (54, .aload_n 0, 1), (55, .getfield 117, 3), (58, .iload_n 1, 1), (59, .baload, 1), (60, .iload_n 2, 1), (61, .bipush 91, 2), (63, .if_icmp .ne 7, 3), (66, .iconst 1, 1), (67, .goto 4, 3), (70, .iconst 0, 1), (71, .if_icmp .eq 14, 3), (74, .aload_n 0, 1), (75, .iconst 3, 1), (76, .aload_n 0, 1), (77, .getfield 35, 3), (80, .invokevirtual 65, 3), (83, .iconst 0, 1), (84, .ireturn, 1), (85, .aload_n 0, 1), (86, .getfield 99, 3), (89, .iload_n 1, 1), (90, .iaload, 1), (91, .iconst 4, 1), (92, .if_icmp .ne 30, 3), (95, .aload_n 0, 1), (96, .getfield 102, 3), (99, .iload_n 1, 1), (100, .iaload, 1), (101, .iconst 2, 1), (102, .if_icmp .ne 14, 3)]
def vt_i231_1 : List (Nat × Instr × Nat) := [(105, .aload_n 0, 1), (106, .iconst 5, 1), (107, .aload_n 0, 1), (108, .getfield 35, 3), (111, .invokevirtual 65, 3), (114, .iconst 0, 1), (115, .ireturn, 1), (116, .aload_n 0, 1), (117, .iload_n 1, 1), (118, .invokevirtual 274, 3), (121, .ireturn, 1), (122, .aload_n 0, 1), (123, .invokevirtual 68, 3), (126, .aload_n 0, 1), (127, .getfield 99, 3), (130, .iload_n 1, 1), (131, .iaload, 1), (132, .ifCond .eq 14, 3), (135, .aload_n 0, 1), (136, .getfield 99, 3), (139, .iload_n 1, 1), (140, .iaload, 1), (141, .bipush 9, 2), (143, .if_icmp .ne 97, 3), (146, .aload_n 0, 1), (147, .getfield 102, 3), (150, .iload_n 1, 1), (151, .iaload, 1), (152, .ifCond .ne 7, 3), (155, .iconst 1, 1), (156, .goto 4, 3), (159, .iconst 0, 1), (160, .istore_n 3, 1), (161, .aload_n 0, 1), (162, .iconst 1, 1), (163, .aload_n 0, 1), (164, .getfield 102, 3), (167, .iload_n 1, 1), (168, .iaload, 1), (169, .iload_n 3, 1), (170, .ifCond .eq 13, 3), (173, .aload_n 0, 1), (174, .getfield 126, 3), (177, .iload_n 1, 1), (178, .iaload, 1), (179, .i2l, 1), (180, .goto 4, 3), (183, .lconst 0, 1), (184, .iload_n 3, 1), (185, .ifCond .eq 13, 3), (188, .aload_n 0, 1), (189, .getfield 126, 3), (192, .iload_n 1, 1), (193, .iaload, 1), (194, .i2l, 1), (195, .goto 33, 3), (198, .aload_n 0, 1), (199, .getfield 102, 3), (202, .iload_n 1, 1), (203, .iaload, 1)]
def vt_i231_2 : List (Nat × Instr × Nat) := [(204, .iconst 1, 1), (205, .if_icmp .ne 7, 3), (208, .lconst 1, 1), (209, .goto 19, 3), (212, .aload_n 0, 1), (213, .getfield 114, 3), (216, .aload_n 0, 1), (217, .getfield 102, 3), (220, .iload_n 1, 1), (221, .iaload, 1), (222, .iconst 3, 1), (223, .isub, 1), (224, .iaload, 1), (225, .iconst 1, 1), (226, .isub, 1), (227, .i2l, 1), (228, .aload_n 0, 1), (229, .getfield 126, 3), (232, .iload_n 1, 1), (233, .iaload, 1), (234, .iconst 0, 1), (235, .iconst 0, 1), (236, .invokevirtual 208, 3), (239, .ireturn, 1), (240, .aload_n 0, 1), (241, .getfield 117, 3), (244, .iload_n 1, 1), (245, .baload, 1), (246, .ifCond .ne 32, 3), (249, .aload_n 0, 1), (250, .iconst 2, 1), (251, .aload_n 0, 1), (252, .getfield 102, 3), (255, .iload_n 1, 1), (256, .iaload, 1), (257, .aload_n 0, 1), (258, .getfield 105, 3), (261, .iload_n 1, 1), (262, .iaload, 1), (263, .i2l, 1), (264, .aload_n 0, 1), (265, .getfield 108, 3), (268, .iload_n 1, 1), (269, .iaload, 1), (270, .i2l, 1), (271, .iload_n 1, 1), (272, .iconst 0, 1), (273, .iconst 0, 1), (274, .invokevirtual 208, 3), (277, .ireturn, 1), (278, .aload_n 0, 1), (279, .iconst 3, 1), (280, .aload_n 0, 1), (281, .getfield 102, 3), (284, .iload_n 1, 1), (285, .iaload, 1), (286, .aload_n 0, 1), (287, .getfield 105, 3), (290, .iload_n 1, 1), (291, .iaload, 1)]
def vt_i231_3 : List (Nat × Instr × Nat) := [(292, .i2l, 1), (293, .aload_n 0, 1), (294, .getfield 108, 3), (297, .iload_n 1, 1), (298, .iaload, 1), (299, .i2l, 1), (300, .iload_n 1, 1), (301, .aload_n 0, 1), (302, .iload_n 1, 1), (303, .invokevirtual 277, 3), (306, .iconst 0, 1), (307, .invokevirtual 208, 3), (310, .ireturn, 1)]
def vt_i231 : List (Nat × Instr × Nat) := vt_i231_0 ++ (vt_i231_1 ++ (vt_i231_2 ++ (vt_i231_3)))
theorem vt_o231_0 : vt_chk (prog_14_method_41_code, vt_i231_0) = true := by sorry
theorem vt_o231_1 : vt_chk (prog_14_method_41_code, vt_i231_1) = true := by sorry
theorem vt_o231_2 : vt_chk (prog_14_method_41_code, vt_i231_2) = true := by sorry
theorem vt_o231_3 : vt_chk (prog_14_method_41_code, vt_i231_3) = true := by sorry
theorem vt_o231 : vt_chk (prog_14_method_41_code, vt_i231) = true := (vt_app vt_o231_0 (vt_app vt_o231_1 (vt_app vt_o231_2 vt_o231_3)))
-- 232: VitalTwinModel.behind ()I
def vt_i232 : List (Nat × Instr × Nat) := [(0, .aload_n 0, 1), (1, .getfield 28, 3), (4, .istore_n 1, 1), (5, .iconst 1, 1), (6, .istore_n 2, 1), (7, .iload_n 2, 1), (8, .ifCond .eq 93, 3), (11, .iload_n 1, 1), (12, .aload_n 0, 1), (13, .getfield 19, 3), (16, .if_icmp .ge 29, 3), (19, .aload_n 0, 1), (20, .iload_n 1, 1), (21, .invokevirtual 31, 3), (24, .bipush 32, 2), (26, .if_icmp .eq 13, 3), (29, .aload_n 0, 1), (30, .iload_n 1, 1), (31, .invokevirtual 31, 3), (34, .bipush 10, 2), (36, .if_icmp .ne 9, 3), (39, .iinc 1 1, 3), (42, .goto (-31), 3), (45, .aload_n 0, 1), (46, .iload_n 1, 1), (47, .invokevirtual 31, 3), (50, .bipush 47, 2), (52, .if_icmp .ne 19, 3), (55, .aload_n 0, 1), (56, .iload_n 1, 1), (57, .iconst 1, 1), (58, .iadd, 1), (59, .invokevirtual 31, 3), (62, .bipush 47, 2), (64, .if_icmp .ne 7, 3), (67, .iconst 1, 1), (68, .goto 4, 3), (71, .iconst 0, 1), (72, .istore_n 2, 1), (73, .iload_n 2, 1), (74, .ifCond .eq (-67), 3), (77, .iload_n 1, 1), (78, .aload_n 0, 1), (79, .getfield 19, 3), (82, .if_icmp .ge (-75), 3), (85, .aload_n 0, 1), (86, .iload_n 1, 1), (87, .invokevirtual 31, 3), (90, .bipush 10, 2), (92, .if_icmp .eq (-85), 3), (95, .iinc 1 1, 3), (98, .goto (-25), 3), (101, .aload_n 0, 1), (102, .iload_n 1, 1), (103, .invokevirtual 31, 3), (106, .ireturn, 1)]
theorem vt_o232 : vt_chk (prog_14_method_24_code, vt_i232) = true := by sorry
-- 233: VitalTwinModel.call (I)I
def vt_i233_0 : List (Nat × Instr × Nat) := [(0, .aload_n 0, 1), (1, .getfield 123, 3), (4, .ifCond .ge 8, 3), (7, .bipush 16, 2), (9, .goto 5, 3), (12, .bipush 15, 2), (14, .istore_n 2, 1), (15, .aload_n 0, 1), (16, .getfield 132, 3), (19, .iload_n 1, 1), (20, .iaload, 1), (21, .iload_n 2, 1), (22, .if_icmp .le 15, 3), (25, .aload_n 0, 1), (26, .bipush 10, 2), (28, .aload_n 0, 1), (29, .getfield 35, 3), (32, .invokevirtual 65, 3), (35, .iconst 0, 1), (36, .ireturn, 1), (37, .aload_n 0, 1), (38, .getfield 132, 3), (41, .iload_n 1, 1), (42, .iaload, 1), (43, .aload_n 0, 1), (44, .getfield 284, 3), (47, .if_icmp .le 13, 3), (50, .aload_n 0, 1), (51, .aload_n 0, 1), (52, .getfield 132, 3), (55, .iload_n 1, 1), (56, .iaload, 1), (57, .putfield 284, 3), (60, .aload_n 0, 1), (61, .invokevirtual 68, 3), (64, .aload_n 0, 1), (65, .bipush 40, 2), (67, .invokevirtual 159, 3), (70, .iconst 0, 1), (71, .istore_n 3, 1), (72, .iconst (-1), 1), (73, .istore 4, 2), (75, .iconst (-1), 1), (76, .istore 5, 2), (78, .aload_n 0, 1), (79, .getfield 22, 3), (82, .ifCond .ne 141, 3), (85, .aload_n 0, 1), (86, .getfield 25, 3), (89, .bipush 41, 2), (91, .if_icmp .eq 132, 3), (94, .iload_n 1, 1), (95, .iconst 1, 1), (96, .iadd, 1), (97, .iload_n 3, 1), (98, .iadd, 1), (99, .istore 6, 2), (101, .iload_n 3, 1), (102, .aload_n 0, 1), (103, .getfield 114, 3)]
def vt_i233_1 : List (Nat × Instr × Nat) := [(106, .iload_n 1, 1), (107, .iaload, 1), (108, .if_icmp .ge 33, 3), (111, .aload_n 0, 1), (112, .aload_n 0, 1), (113, .getfield 102, 3), (116, .iload 6, 2), (118, .iaload, 1), (119, .aload_n 0, 1), (120, .getfield 105, 3), (123, .iload 6, 2), (125, .iaload, 1), (126, .i2l, 1), (127, .aload_n 0, 1), (128, .getfield 108, 3), (131, .iload 6, 2), (133, .iaload, 1), (134, .i2l, 1), (135, .invokevirtual 280, 3), (138, .goto 7, 3), (141, .aload_n 0, 1), (142, .invokevirtual 193, 3), (145, .istore 7, 2), (147, .iinc 3 1, 3), (150, .aload_n 0, 1), (151, .getfield 22, 3), (154, .ifCond .le 5, 3), (157, .iconst 0, 1), (158, .ireturn, 1), (159, .iload 5, 2), (161, .ifCond .ge 10, 3), (164, .iload 7, 2), (166, .istore 4, 2), (168, .goto 12, 3), (171, .aload_n 0, 1), (172, .getfield 190, 3), (175, .iload 5, 2), (177, .iload 7, 2), (179, .iastore, 1), (180, .iload 7, 2), (182, .istore 5, 2), (184, .aload_n 0, 1), (185, .getfield 25, 3), (188, .bipush 41, 2), (190, .if_icmp .ne 6, 3), (193, .goto (-115), 3), (196, .aload_n 0, 1), (197, .bipush 44, 2), (199, .invokevirtual 75, 3), (202, .aload_n 0, 1), (203, .getfield 25, 3), (206, .bipush 41, 2), (208, .if_icmp .ne 12, 3), (211, .aload_n 0, 1), (212, .iconst 1, 1), (213, .aload_n 0, 1), (214, .getfield 35, 3), (217, .invokevirtual 65, 3), (220, .goto (-142), 3), (223, .aload_n 0, 1)]
def vt_i233_2 : List (Nat × Instr × Nat) := [(224, .getfield 22, 3), (227, .ifCond .ne 23, 3), (230, .iload_n 3, 1), (231, .aload_n 0, 1), (232, .getfield 114, 3), (235, .iload_n 1, 1), (236, .iaload, 1), (237, .if_icmp .eq 13, 3), (240, .aload_n 0, 1), (241, .bipush 9, 2), (243, .aload_n 0, 1), (244, .getfield 35, 3), (247, .invokevirtual 65, 3), (250, .aload_n 0, 1), (251, .bipush 41, 2), (253, .invokevirtual 162, 3), (256, .aload_n 0, 1), (257, .bipush 10, 2), (259, .aload_n 0, 1), (260, .getfield 102, 3), (263, .iload_n 1, 1), (264, .iaload, 1), (265, .aload_n 0, 1), (266, .getfield 105, 3), (269, .iload_n 1, 1), (270, .iaload, 1), (271, .i2l, 1), (272, .aload_n 0, 1), (273, .getfield 108, 3), (276, .iload_n 1, 1), (277, .iaload, 1), (278, .i2l, 1), (279, .iload_n 1, 1), (280, .iload 4, 2), (282, .iconst 0, 1), (283, .invokevirtual 208, 3), (286, .ireturn, 1)]
def vt_i233 : List (Nat × Instr × Nat) := vt_i233_0 ++ (vt_i233_1 ++ (vt_i233_2))
theorem vt_o233_0 : vt_chk (prog_14_method_43_code, vt_i233_0) = true := by sorry
theorem vt_o233_1 : vt_chk (prog_14_method_43_code, vt_i233_1) = true := by sorry
theorem vt_o233_2 : vt_chk (prog_14_method_43_code, vt_i233_2) = true := by sorry
theorem vt_o233 : vt_chk (prog_14_method_43_code, vt_i233) = true := (vt_app vt_o233_0 (vt_app vt_o233_1 vt_o233_2))
-- 234: VitalTwinModel.index (I)I
def vt_i234 : List (Nat × Instr × Nat) := [(0, .aload_n 0, 1), (1, .bipush 91, 2), (3, .invokevirtual 159, 3), (6, .aload_n 0, 1), (7, .iconst 0, 1), (8, .lconst 0, 1), (9, .aload_n 0, 1), (10, .getfield 114, 3), (13, .iload_n 1, 1), (14, .iaload, 1), (15, .iconst 1, 1), (16, .isub, 1), (17, .i2l, 1), (18, .invokevirtual 280, 3), (21, .istore_n 2, 1), (22, .aload_n 0, 1), (23, .bipush 93, 2), (25, .invokevirtual 162, 3), (28, .iload_n 2, 1), (29, .ireturn, 1)]
theorem vt_o234 : vt_chk (prog_14_method_42_code, vt_i234) = true := by sorry
-- 235: VitalTwinModel.reckoned (IIII)I
def vt_i235_0 : List (Nat × Instr × Nat) := [(0, .aload_n 0, 1), (1, .getfield 22, 3), (4, .ifCond .le 5, 3), (7, .iconst 0, 1), (8, .ireturn, 1), (9, .aload_n 0, 1), (10, .getfield 172, 3), (13, .iload_n 2, 1), (14, .iaload, 1), (15, .ifCond .ne 12, 3), (18, .aload_n 0, 1), (19, .getfield 172, 3), (22, .iload_n 3, 1), (23, .iaload, 1), (24, .ifCond .eq 12, 3), (27, .aload_n 0, 1), (28, .iconst 5, 1), (29, .iload 4, 2), (31, .invokevirtual 65, 3), (34, .iconst 0, 1), (35, .ireturn, 1), (36, .aload_n 0, 1), (37, .getfield 175, 3), (40, .iload_n 2, 1), (41, .iaload, 1), (42, .i2l, 1), (43, .lstore 5, 2), (45, .aload_n 0, 1), (46, .getfield 178, 3), (49, .iload_n 2, 1), (50, .iaload, 1), (51, .i2l, 1), (52, .lstore 7, 2), (54, .aload_n 0, 1), (55, .getfield 175, 3), (58, .iload_n 3, 1), (59, .iaload, 1), (60, .i2l, 1), (61, .lstore 9, 2), (63, .aload_n 0, 1), (64, .getfield 178, 3), (67, .iload_n 3, 1), (68, .iaload, 1), (69, .i2l, 1), (70, .lstore 11, 2), (72, .iload_n 1, 1), (73, .bipush 8, 2), (75, .if_icmp .le 27, 3), (78, .lload 9, 2), (80, .lconst 0, 1), (81, .lcmp, 1), (82, .ifCond .gt 20, 3), (85, .lload 11, 2), (87, .lconst 0, 1), (88, .lcmp, 1), (89, .ifCond .lt 13, 3), (92, .aload_n 0, 1), (93, .bipush 7, 2), (95, .iload 4, 2), (97, .invokevirtual 65, 3)]
def vt_i235_1 : List (Nat × Instr × Nat) := [(100, .iconst 0, 1), (101, .ireturn, 1), (102, .iload_n 1, 1), (103, .bipush 6, 2), (105, .if_icmp .ne 30, 3), (108, .aload_n 0, 1), (109, .lload 5, 2), (111, .lload 9, 2), (113, .ladd, 1), (114, .lload 7, 2), (116, .lload 11, 2), (118, .ladd, 1), (119, .lload 5, 2), (121, .lload 11, 2), (123, .ladd, 1), (124, .lload 7, 2), (126, .lload 9, 2), (128, .ladd, 1), (129, .invokevirtual 246, 3), (132, .goto 165, 3), (135, .iload_n 1, 1), (136, .bipush 7, 2), (138, .if_icmp .ne 30, 3), (141, .aload_n 0, 1), (142, .lload 5, 2), (144, .lload 9, 2), (146, .lsub, 1), (147, .lload 7, 2), (149, .lload 11, 2), (151, .lsub, 1), (152, .lload 5, 2), (154, .lload 11, 2), (156, .lsub, 1), (157, .lload 7, 2), (159, .lload 9, 2), (161, .lsub, 1), (162, .invokevirtual 246, 3), (165, .goto 132, 3), (168, .iload_n 1, 1), (169, .bipush 8, 2), (171, .if_icmp .ne 30, 3), (174, .aload_n 0, 1), (175, .lload 5, 2), (177, .lload 9, 2), (179, .lmul, 1), (180, .lload 5, 2), (182, .lload 11, 2), (184, .lmul, 1), (185, .lload 7, 2), (187, .lload 9, 2), (189, .lmul, 1), (190, .lload 7, 2), (192, .lload 11, 2), (194, .lmul, 1), (195, .invokevirtual 246, 3), (198, .goto 99, 3), (201, .iload_n 1, 1), (202, .bipush 9, 2), (204, .if_icmp .ne 30, 3), (207, .aload_n 0, 1)]
def vt_i235_2 : List (Nat × Instr × Nat) := [(208, .lload 5, 2), (210, .lload 9, 2), (212, .ldiv, 1), (213, .lload 5, 2), (215, .lload 11, 2), (217, .ldiv, 1), (218, .lload 7, 2), (220, .lload 9, 2), (222, .ldiv, 1), (223, .lload 7, 2), (225, .lload 11, 2), (227, .ldiv, 1), (228, .invokevirtual 246, 3), (231, .goto 66, 3), (234, .lload 9, 2), (236, .invokestatic 250, 3), (239, .lload 11, 2), (241, .invokestatic 250, 3), (244, .invokestatic 241, 3), (247, .lconst 1, 1), (248, .lsub, 1), (249, .lstore 13, 2), (251, .aload_n 0, 1), (252, .lload 5, 2), (254, .lconst 0, 1), (255, .lcmp, 1), (256, .ifCond .ge 15, 3), (259, .lload 13, 2), (261, .lload 5, 2), (263, .lneg, 1), (264, .invokestatic 234, 3), (267, .lneg, 1), (268, .goto 4, 3), (271, .lconst 0, 1), (272, .putfield 237, 3), (275, .aload_n 0, 1), (276, .lload 7, 2), (278, .lconst 0, 1), (279, .lcmp, 1), (280, .ifCond .le 13, 3), (283, .lload 13, 2), (285, .lload 7, 2), (287, .invokestatic 234, 3), (290, .goto 4, 3), (293, .lconst 0, 1), (294, .putfield 243, 3), (297, .aload_n 0, 1), (298, .getfield 237, 3), (301, .ldc2_w 254, 3), (304, .lcmp, 1), (305, .ifCond .lt 14, 3), (308, .aload_n 0, 1), (309, .getfield 243, 3), (312, .ldc2_w 56, 3), (315, .lcmp, 1), (316, .ifCond .le 11, 3), (319, .aload_n 0, 1), (320, .bipush 8, 2), (322, .iload 4, 2), (324, .invokevirtual 65, 3)]
def vt_i235_3 : List (Nat × Instr × Nat) := [(327, .aload_n 0, 1), (328, .iconst 4, 1), (329, .iconst 0, 1), (330, .aload_n 0, 1), (331, .getfield 237, 3), (334, .aload_n 0, 1), (335, .getfield 243, 3), (338, .iload_n 2, 1), (339, .iload_n 3, 1), (340, .iload_n 1, 1), (341, .invokevirtual 208, 3), (344, .ireturn, 1)]
def vt_i235 : List (Nat × Instr × Nat) := vt_i235_0 ++ (vt_i235_1 ++ (vt_i235_2 ++ (vt_i235_3)))
theorem vt_o235_0 : vt_chk (prog_14_method_35_code, vt_i235_0) = true := by sorry
theorem vt_o235_1 : vt_chk (prog_14_method_35_code, vt_i235_1) = true := by sorry
theorem vt_o235_2 : vt_chk (prog_14_method_35_code, vt_i235_2) = true := by sorry
theorem vt_o235_3 : vt_chk (prog_14_method_35_code, vt_i235_3) = true := by sorry
theorem vt_o235 : vt_chk (prog_14_method_35_code, vt_i235) = true := (vt_app vt_o235_0 (vt_app vt_o235_1 (vt_app vt_o235_2 vt_o235_3)))
-- 236: VitalTwinModel.ends (JJJJ)V
def vt_i236 : List (Nat × Instr × Nat) := [(0, .aload_n 0, 1), (1, .lload_n 1, 1), (2, .lload_n 3, 1), (3, .invokestatic 234, 3), (6, .lload 5, 2), (8, .lload 7, 2), (10, .invokestatic 234, 3), (13, .invokestatic 234, 3), (16, .putfield 237, 3), (19, .aload_n 0, 1), (20, .lload_n 1, 1), (21, .lload_n 3, 1), (22, .invokestatic 241, 3), (25, .lload 5, 2), (27, .lload 7, 2), (29, .invokestatic 241, 3), (32, .invokestatic 241, 3), (35, .putfield 243, 3), (38, .return_, 1)]
theorem vt_o236 : vt_chk (prog_14_method_34_code, vt_i236) = true := by sorry
-- 237: VitalTwinModel.logic (IIII)I
def vt_i237 : List (Nat × Instr × Nat) := [(0, .aload_n 0, 1), (1, .getfield 22, 3), (4, .ifCond .le 5, 3), (7, .iconst 0, 1), (8, .ireturn, 1), (9, .aload_n 0, 1), (10, .getfield 172, 3), (13, .iload_n 2, 1), (14, .iaload, 1), (15, .iconst 1, 1), (16, .if_icmp .ne 13, 3), (19, .aload_n 0, 1), (20, .getfield 172, 3), (23, .iload_n 3, 1), (24, .iaload, 1), (25, .iconst 1, 1), (26, .if_icmp .eq 10, 3), (29, .aload_n 0, 1), (30, .iconst 5, 1), (31, .iload 4, 2), (33, .invokevirtual 65, 3), (36, .aload_n 0, 1), (37, .iload_n 1, 1), (38, .iconst 1, 1), (39, .lconst 0, 1), (40, .lconst 1, 1), (41, .iload_n 2, 1), (42, .iload_n 3, 1), (43, .iconst 0, 1), (44, .invokevirtual 208, 3), (47, .ireturn, 1)]
theorem vt_o237 : vt_chk (prog_14_method_30_code, vt_i237) = true := by sorry
-- 238: VitalTwinModel.truth ()I
def vt_i238 : List (Nat × Instr × Nat) := [(0, .aload_n 0, 1), (1, .getfield 35, 3), (4, .istore_n 1, 1), (5, .aload_n 0, 1), (6, .invokevirtual 193, 3), (9, .istore_n 2, 1), (10, .aload_n 0, 1), (11, .getfield 22, 3), (14, .ifCond .ne 19, 3), (17, .aload_n 0, 1), (18, .getfield 172, 3), (21, .iload_n 2, 1), (22, .iaload, 1), (23, .iconst 1, 1), (24, .if_icmp .eq 9, 3), (27, .aload_n 0, 1), (28, .iconst 5, 1), (29, .iload_n 1, 1), (30, .invokevirtual 65, 3), (33, .iload_n 2, 1), (34, .ireturn, 1)]
theorem vt_o238 : vt_chk (prog_14_method_26_code, vt_i238) = true := by sorry
-- 239: VitalTwinModel.choices ()I
def vt_i239_0 : List (Nat × Instr × Nat) := [(0, .aload_n 0, 1), (1, .invokevirtual 68, 3), (4, .aload_n 0, 1), (5, .bipush 40, 2), (7, .invokevirtual 159, 3), (10, .aload_n 0, 1), (11, .getfield 35, 3), (14, .istore_n 1, 1), (15, .aload_n 0, 1), (16, .invokevirtual 193, 3), (19, .istore_n 2, 1), (20, .aload_n 0, 1), (21, .getfield 22, 3), (24, .ifCond .ne 29, 3), (27, .aload_n 0, 1), (28, .getfield 172, 3), (31, .iload_n 2, 1), (32, .iaload, 1), (33, .iconst 1, 1), (34, .if_icmp .eq 13, 3), (37, .aload_n 0, 1), (38, .getfield 172, 3), (41, .iload_n 2, 1), (42, .iaload, 1), (43, .iconst 2, 1), (44, .if_icmp .ne 9, 3), (47, .aload_n 0, 1), (48, .iconst 5, 1), (49, .iload_n 1, 1), (50, .invokevirtual 65, 3), (53, .aload_n 0, 1), (54, .bipush 41, 2), (56, .invokevirtual 162, 3), (59, .aload_n 0, 1), (60, .bipush 123, 2), (62, .invokevirtual 159, 3), (65, .iconst (-1), 1), (66, .istore_n 3, 1), (67, .iconst (-1), 1), (68, .istore 4, 2), (70, .aload_n 0, 1), (71, .getfield 22, 3), (74, .ifCond .ne 200, 3), (77, .aload_n 0, 1), (78, .getfield 25, 3), (81, .bipush 125, 2), (83, .if_icmp .eq 191, 3), (86, .aload_n 0, 1), (87, .getfield 25, 3), (90, .sipush 308, 3), (93, .if_icmp .eq 181, 3), (96, .aload_n 0, 1), (97, .aload_n 0, 1), (98, .getfield 172, 3), (101, .iload_n 2, 1), (102, .iaload, 1), (103, .invokevirtual 156, 3), (106, .aload_n 0, 1), (107, .getfield 141, 3), (110, .istore 5, 2)]
def vt_i239_1 : List (Nat × Instr × Nat) := [(112, .aload_n 0, 1), (113, .invokevirtual 68, 3), (116, .iload 5, 2), (118, .istore 6, 2), (120, .aload_n 0, 1), (121, .getfield 25, 3), (124, .sipush 200, 3), (127, .if_icmp .ne 7, 3), (130, .iconst 1, 1), (131, .goto 4, 3), (134, .iconst 0, 1), (135, .istore 7, 2), (137, .iload 7, 2), (139, .ifCond .eq 63, 3), (142, .aload_n 0, 1), (143, .getfield 172, 3), (146, .iload_n 2, 1), (147, .iaload, 1), (148, .ifCond .eq 12, 3), (151, .aload_n 0, 1), (152, .iconst 4, 1), (153, .aload_n 0, 1), (154, .getfield 35, 3), (157, .invokevirtual 65, 3), (160, .aload_n 0, 1), (161, .invokevirtual 68, 3), (164, .aload_n 0, 1), (165, .iconst 0, 1), (166, .invokevirtual 156, 3), (169, .aload_n 0, 1), (170, .getfield 141, 3), (173, .istore 6, 2), (175, .aload_n 0, 1), (176, .getfield 22, 3), (179, .ifCond .ne 19, 3), (182, .iload 6, 2), (184, .iload 5, 2), (186, .if_icmp .ge 12, 3), (189, .aload_n 0, 1), (190, .iconst 4, 1), (191, .aload_n 0, 1), (192, .getfield 135, 3), (195, .invokevirtual 65, 3), (198, .aload_n 0, 1), (199, .invokevirtual 68, 3), (202, .aload_n 0, 1), (203, .bipush 58, 2), (205, .invokevirtual 75, 3), (208, .aload_n 0, 1), (209, .bipush 25, 2), (211, .iload 7, 2), (213, .ifCond .eq 7, 3), (216, .iconst 1, 1), (217, .goto 4, 3), (220, .iconst 0, 1), (221, .iload 5, 2), (223, .i2l, 1), (224, .iload 6, 2), (226, .i2l, 1), (227, .aload_n 0, 1)]
def vt_i239_2 : List (Nat × Instr × Nat) := [(228, .invokevirtual 329, 3), (231, .iconst 0, 1), (232, .iconst 0, 1), (233, .invokevirtual 208, 3), (236, .istore 8, 2), (238, .aload_n 0, 1), (239, .getfield 22, 3), (242, .ifCond .le 5, 3), (245, .iconst (-1), 1), (246, .ireturn, 1), (247, .iload 4, 2), (249, .ifCond .ge 9, 3), (252, .iload 8, 2), (254, .istore_n 3, 1), (255, .goto 12, 3), (258, .aload_n 0, 1), (259, .getfield 190, 3), (262, .iload 4, 2), (264, .iload 8, 2), (266, .iastore, 1), (267, .iload 8, 2), (269, .istore 4, 2), (271, .goto (-201), 3), (274, .iconst (-1), 1), (275, .istore 5, 2), (277, .aload_n 0, 1), (278, .getfield 25, 3), (281, .sipush 308, 3), (284, .if_icmp .ne 7, 3), (287, .iconst 1, 1), (288, .goto 4, 3), (291, .iconst 0, 1), (292, .istore 6, 2), (294, .iload 6, 2), (296, .ifCond .eq 13, 3), (299, .aload_n 0, 1), (300, .invokevirtual 68, 3), (303, .aload_n 0, 1), (304, .invokevirtual 329, 3), (307, .istore 5, 2), (309, .aload_n 0, 1), (310, .bipush 125, 2), (312, .invokevirtual 162, 3), (315, .aload_n 0, 1), (316, .bipush 24, 2), (318, .iload 6, 2), (320, .ifCond .eq 7, 3), (323, .iconst 1, 1), (324, .goto 4, 3), (327, .iconst 0, 1), (328, .lconst 0, 1), (329, .lconst 0, 1), (330, .iload_n 2, 1), (331, .iload_n 3, 1), (332, .iload 5, 2), (334, .invokevirtual 208, 3), (337, .ireturn, 1)]
def vt_i239 : List (Nat × Instr × Nat) := vt_i239_0 ++ (vt_i239_1 ++ (vt_i239_2))
theorem vt_o239_0 : vt_chk (prog_14_method_52_code, vt_i239_0) = true := by sorry
theorem vt_o239_1 : vt_chk (prog_14_method_52_code, vt_i239_1) = true := by sorry
theorem vt_o239_2 : vt_chk (prog_14_method_52_code, vt_i239_2) = true := by sorry
theorem vt_o239 : vt_chk (prog_14_method_52_code, vt_i239) = true := (vt_app vt_o239_0 (vt_app vt_o239_1 vt_o239_2))
end
section
/-! instructions of the methods 240 to 269, printed by wip/whole/tools/gen14.py out of the claim: each list is what decode gives -/
-- 240: VitalTwinModel.block ()I
def vt_i240 : List (Nat × Instr × Nat) := [(0, .aload_n 0, 1), (1, .getfield 86, 3), (4, .istore_n 1, 1), (5, .aload_n 0, 1), (6, .bipush 123, 2), (8, .invokevirtual 159, 3), (11, .aload_n 0, 1), (12, .invokevirtual 290, 3), (15, .istore_n 2, 1), (16, .aload_n 0, 1), (17, .bipush 125, 2), (19, .invokevirtual 162, 3), (22, .aload_n 0, 1), (23, .iload_n 1, 1), (24, .invokevirtual 293, 3), (27, .iload_n 2, 1), (28, .ireturn, 1)]
theorem vt_o240 : vt_chk (prog_14_method_46_code, vt_i240) = true := by sorry
-- 241: VitalTwinModel.hide (I)V
def vt_i241 : List (Nat × Instr × Nat) := [(0, .iload_n 1, 1), (1, .istore_n 2, 1), (2, .iload_n 2, 1), (3, .aload_n 0, 1), (4, .getfield 86, 3), (7, .if_icmp .ge 16, 3), (10, .aload_n 0, 1), (11, .getfield 89, 3), (14, .iload_n 2, 1), (15, .iconst 0, 1), (16, .bastore, 1), (17, .iinc 2 1, 3), (20, .goto (-18), 3), (23, .return_, 1)]
theorem vt_o241 : vt_chk (prog_14_method_45_code, vt_i241) = true := by sorry
-- 242: VitalTwinModel.choice ()I
def vt_i242_0 : List (Nat × Instr × Nat) := [(0, .iconst (-1), 1), (1, .istore_n 1, 1), (2, .iconst (-1), 1), (3, .istore_n 2, 1), (4, .iconst 1, 1), (5, .istore_n 3, 1), (6, .iload_n 3, 1), (7, .ifCond .eq 149, 3), (10, .aload_n 0, 1), (11, .getfield 22, 3), (14, .ifCond .ne 142, 3), (17, .aload_n 0, 1), (18, .invokevirtual 68, 3), (21, .aload_n 0, 1), (22, .bipush 40, 2), (24, .invokevirtual 159, 3), (27, .aload_n 0, 1), (28, .invokevirtual 299, 3), (31, .istore 4, 2), (33, .aload_n 0, 1), (34, .bipush 41, 2), (36, .invokevirtual 162, 3), (39, .aload_n 0, 1), (40, .bipush 26, 2), (42, .iconst 0, 1), (43, .lconst 0, 1), (44, .lconst 0, 1), (45, .iload 4, 2), (47, .aload_n 0, 1), (48, .invokevirtual 329, 3), (51, .iconst (-1), 1), (52, .invokevirtual 208, 3), (55, .istore 5, 2), (57, .aload_n 0, 1), (58, .getfield 22, 3), (61, .ifCond .le 5, 3), (64, .iconst (-1), 1), (65, .ireturn, 1), (66, .iload_n 2, 1), (67, .ifCond .ge 9, 3), (70, .iload 5, 2), (72, .istore_n 1, 1), (73, .goto 11, 3), (76, .aload_n 0, 1), (77, .getfield 187, 3), (80, .iload_n 2, 1), (81, .iload 5, 2), (83, .iastore, 1), (84, .iload 5, 2), (86, .istore_n 2, 1), (87, .iconst 0, 1), (88, .istore_n 3, 1), (89, .aload_n 0, 1), (90, .getfield 25, 3), (93, .sipush 308, 3), (96, .if_icmp .eq 6, 3), (99, .goto (-93), 3), (102, .aload_n 0, 1), (103, .invokevirtual 68, 3), (106, .aload_n 0, 1)]
def vt_i242_1 : List (Nat × Instr × Nat) := [(107, .getfield 25, 3), (110, .sipush 307, 3), (113, .if_icmp .ne 7, 3), (116, .iconst 1, 1), (117, .goto 4, 3), (120, .iconst 0, 1), (121, .istore_n 3, 1), (122, .aload_n 0, 1), (123, .getfield 178, 3), (126, .iload 5, 2), (128, .iload_n 3, 1), (129, .ifCond .eq 7, 3), (132, .iconst 2, 1), (133, .goto 4, 3), (136, .iconst 1, 1), (137, .iastore, 1), (138, .iload_n 3, 1), (139, .ifCond .ne 14, 3), (142, .aload_n 0, 1), (143, .getfield 187, 3), (146, .iload 5, 2), (148, .aload_n 0, 1), (149, .invokevirtual 329, 3), (152, .iastore, 1), (153, .goto (-147), 3), (156, .iload_n 1, 1), (157, .ireturn, 1)]
def vt_i242 : List (Nat × Instr × Nat) := vt_i242_0 ++ (vt_i242_1)
theorem vt_o242_0 : vt_chk (prog_14_method_50_code, vt_i242_0) = true := by sorry
theorem vt_o242_1 : vt_chk (prog_14_method_50_code, vt_i242_1) = true := by sorry
theorem vt_o242 : vt_chk (prog_14_method_50_code, vt_i242) = true := (vt_app vt_o242_0 vt_o242_1)
-- 243: VitalTwinModel.loop ()I
def vt_i243_0 : List (Nat × Instr × Nat) := [(0, .aload_n 0, 1), (1, .invokevirtual 68, 3), (4, .aload_n 0, 1), (5, .bipush 7, 2), (7, .iconst (-1), 1), (8, .invokevirtual 314, 3), (11, .istore_n 1, 1), (12, .aload_n 0, 1), (13, .bipush 61, 2), (15, .invokevirtual 75, 3), (18, .aload_n 0, 1), (19, .iconst 0, 1), (20, .invokevirtual 156, 3), (23, .aload_n 0, 1), (24, .getfield 141, 3), (27, .istore_n 2, 1), (28, .aload_n 0, 1), (29, .invokevirtual 68, 3), (32, .aload_n 0, 1), (33, .sipush 311, 3), (36, .invokevirtual 75, 3), (39, .aload_n 0, 1), (40, .iconst 0, 1), (41, .invokevirtual 156, 3), (44, .aload_n 0, 1), (45, .getfield 141, 3), (48, .istore_n 3, 1), (49, .aload_n 0, 1), (50, .getfield 22, 3), (53, .ifCond .ne 17, 3), (56, .iload_n 3, 1), (57, .iload_n 2, 1), (58, .if_icmp .ge 12, 3), (61, .aload_n 0, 1), (62, .iconst 4, 1), (63, .aload_n 0, 1), (64, .getfield 135, 3), (67, .invokevirtual 65, 3), (70, .aload_n 0, 1), (71, .invokevirtual 68, 3), (74, .aload_n 0, 1), (75, .getfield 22, 3), (78, .ifCond .le 5, 3), (81, .iconst (-1), 1), (82, .ireturn, 1), (83, .aload_n 0, 1), (84, .getfield 105, 3), (87, .iload_n 1, 1), (88, .iload_n 2, 1), (89, .iastore, 1), (90, .aload_n 0, 1), (91, .getfield 108, 3), (94, .iload_n 1, 1), (95, .iload_n 3, 1), (96, .iastore, 1), (97, .aload_n 0, 1), (98, .bipush 123, 2), (100, .invokevirtual 159, 3), (103, .aload_n 0, 1), (104, .getfield 89, 3)]
def vt_i243_1 : List (Nat × Instr × Nat) := [(107, .iload_n 1, 1), (108, .iconst 1, 1), (109, .bastore, 1), (110, .aload_n 0, 1), (111, .invokevirtual 290, 3), (114, .istore 4, 2), (116, .aload_n 0, 1), (117, .bipush 125, 2), (119, .invokevirtual 162, 3), (122, .aload_n 0, 1), (123, .iload_n 1, 1), (124, .invokevirtual 293, 3), (127, .aload_n 0, 1), (128, .bipush 27, 2), (130, .iconst 0, 1), (131, .lconst 0, 1), (132, .lconst 0, 1), (133, .iload_n 1, 1), (134, .iload 4, 2), (136, .iconst 0, 1), (137, .invokevirtual 208, 3), (140, .ireturn, 1)]
def vt_i243 : List (Nat × Instr × Nat) := vt_i243_0 ++ (vt_i243_1)
theorem vt_o243_0 : vt_chk (prog_14_method_51_code, vt_i243_0) = true := by sorry
theorem vt_o243_1 : vt_chk (prog_14_method_51_code, vt_i243_1) = true := by sorry
theorem vt_o243 : vt_chk (prog_14_method_51_code, vt_i243) = true := (vt_app vt_o243_0 vt_o243_1)
-- 244: VitalTwinModel.plain ()I
def vt_i244_0 : List (Nat × Instr × Nat) := [(0, .aload_n 0, 1), (1, .invokevirtual 96, 3), (4, .istore_n 1, 1), (5, .aload_n 0, 1), (6, .invokevirtual 271, 3), (9, .istore_n 2, 1), (10, .iload_n 1, 1), (11, .ifCond .lt 48, 3), (14, .aload_n 0, 1), (15, .getfield 99, 3), (18, .iload_n 1, 1), (19, .iaload, 1), (20, .iconst 2, 1), (21, .if_icmp .eq 34, 3), (24, .aload_n 0, 1), (25, .getfield 99, 3), (28, .iload_n 1, 1), (29, .iaload, 1), (30, .iconst 3, 1), (31, .if_icmp .eq 24, 3), (34, .aload_n 0, 1), (35, .getfield 99, 3), (38, .iload_n 1, 1), (39, .iaload, 1), (40, .iconst 5, 1), (41, .if_icmp .eq 14, 3), (44, .aload_n 0, 1), (45, .getfield 99, 3), (48, .iload_n 1, 1), (49, .iaload, 1), (50, .bipush 6, 2), (52, .if_icmp .ne 7, 3), (55, .iconst 1, 1), (56, .goto 4, 3), (59, .iconst 0, 1), (60, .istore_n 3, 1), (61, .iload_n 1, 1), (62, .ifCond .lt 56, 3), (65, .aload_n 0, 1), (66, .getfield 99, 3), (69, .iload_n 1, 1), (70, .iaload, 1), (71, .iconst 4, 1), (72, .if_icmp .ne 12, 3), (75, .iload_n 2, 1), (76, .bipush 40, 2), (78, .if_icmp .ne 40, 3), (81, .goto 33, 3), (84, .iload_n 3, 1), (85, .ifCond .eq 33, 3), (88, .aload_n 0, 1), (89, .getfield 117, 3), (92, .iload_n 1, 1), (93, .baload, 1), (94, .iload_n 2, 1), (95, .bipush 91, 2), (97, .if_icmp .ne 7, 3), (100, .iconst 1, 1), (101, .goto 4, 3), (104, .iconst 0, 1)]
def vt_i244_1 : List (Nat × Instr × Nat) := [(105, .if_icmp .ne 13, 3), (108, .iload_n 2, 1), (109, .bipush 40, 2), (111, .if_icmp .eq 7, 3), (114, .iconst 1, 1), (115, .goto 4, 3), (118, .iconst 0, 1), (119, .istore 4, 2), (121, .iload 4, 2), (123, .ifCond .ne 14, 3), (126, .aload_n 0, 1), (127, .iconst 3, 1), (128, .aload_n 0, 1), (129, .getfield 35, 3), (132, .invokevirtual 65, 3), (135, .iconst (-1), 1), (136, .ireturn, 1), (137, .aload_n 0, 1), (138, .getfield 99, 3), (141, .iload_n 1, 1), (142, .iaload, 1), (143, .iconst 4, 1), (144, .if_icmp .ne 30, 3), (147, .aload_n 0, 1), (148, .iload_n 1, 1), (149, .invokevirtual 274, 3), (152, .istore 5, 2), (154, .aload_n 0, 1), (155, .bipush 59, 2), (157, .invokevirtual 75, 3), (160, .aload_n 0, 1), (161, .bipush 28, 2), (163, .iconst 0, 1), (164, .lconst 0, 1), (165, .lconst 0, 1), (166, .iload 5, 2), (168, .iconst 0, 1), (169, .iconst 0, 1), (170, .invokevirtual 208, 3), (173, .ireturn, 1), (174, .aload_n 0, 1), (175, .invokevirtual 68, 3), (178, .aload_n 0, 1), (179, .getfield 117, 3), (182, .iload_n 1, 1), (183, .baload, 1), (184, .ifCond .eq 11, 3), (187, .aload_n 0, 1), (188, .iload_n 1, 1), (189, .invokevirtual 277, 3), (192, .goto 4, 3), (195, .iconst (-1), 1), (196, .istore 5, 2), (198, .aload_n 0, 1), (199, .bipush 61, 2), (201, .invokevirtual 75, 3), (204, .aload_n 0, 1), (205, .aload_n 0, 1), (206, .getfield 102, 3), (209, .iload_n 1, 1)]
def vt_i244_2 : List (Nat × Instr × Nat) := [(210, .iaload, 1), (211, .aload_n 0, 1), (212, .getfield 105, 3), (215, .iload_n 1, 1), (216, .iaload, 1), (217, .i2l, 1), (218, .aload_n 0, 1), (219, .getfield 108, 3), (222, .iload_n 1, 1), (223, .iaload, 1), (224, .i2l, 1), (225, .invokevirtual 280, 3), (228, .istore 6, 2), (230, .aload_n 0, 1), (231, .bipush 59, 2), (233, .invokevirtual 75, 3), (236, .aload_n 0, 1), (237, .iload 5, 2), (239, .ifCond .ge 8, 3), (242, .bipush 20, 2), (244, .goto 5, 3), (247, .bipush 21, 2), (249, .iconst 0, 1), (250, .lconst 0, 1), (251, .lconst 0, 1), (252, .iload_n 1, 1), (253, .iload 6, 2), (255, .iload 5, 2), (257, .invokevirtual 208, 3), (260, .ireturn, 1)]
def vt_i244 : List (Nat × Instr × Nat) := vt_i244_0 ++ (vt_i244_1 ++ (vt_i244_2))
theorem vt_o244_0 : vt_chk (prog_14_method_49_code, vt_i244_0) = true := by sorry
theorem vt_o244_1 : vt_chk (prog_14_method_49_code, vt_i244_1) = true := by sorry
theorem vt_o244_2 : vt_chk (prog_14_method_49_code, vt_i244_2) = true := by sorry
theorem vt_o244 : vt_chk (prog_14_method_49_code, vt_i244) = true := (vt_app vt_o244_0 (vt_app vt_o244_1 vt_o244_2))
-- 245: VitalTwinModel.make ()V
def vt_i245_0 : List (Nat × Instr × Nat) := [(0, .aload_n 0, 1), (1, .iconst 0, 1), (2, .putfield 437, 3), (5, .aload_n 0, 1), (6, .iconst 0, 1), (7, .putfield 428, 3), (10, .aload_n 0, 1), (11, .iconst 0, 1), (12, .putfield 498, 3), (15, .aload_n 0, 1), (16, .iconst 0, 1), (17, .putfield 440, 3), (20, .aload_n 0, 1), (21, .iconst 0, 1), (22, .putfield 443, 3), (25, .iconst 0, 1), (26, .istore_n 1, 1), (27, .iload_n 1, 1), (28, .aload_n 0, 1), (29, .getfield 86, 3), (32, .if_icmp .ge 107, 3), (35, .aload_n 0, 1), (36, .getfield 99, 3), (39, .iload_n 1, 1), (40, .iaload, 1), (41, .iconst 1, 1), (42, .if_icmp .lt 91, 3), (45, .aload_n 0, 1), (46, .getfield 99, 3), (49, .iload_n 1, 1), (50, .iaload, 1), (51, .iconst 3, 1), (52, .if_icmp .le 6, 3), (55, .goto 78, 3), (58, .aload_n 0, 1), (59, .getfield 111, 3), (62, .iload_n 1, 1), (63, .aload_n 0, 1), (64, .getfield 437, 3), (67, .iastore, 1), (68, .aload_n 0, 1), (69, .dup, 1), (70, .getfield 437, 3), (73, .aload_n 0, 1), (74, .getfield 114, 3), (77, .iload_n 1, 1), (78, .iaload, 1), (79, .iadd, 1), (80, .putfield 437, 3), (83, .aload_n 0, 1), (84, .getfield 99, 3), (87, .iload_n 1, 1), (88, .iaload, 1), (89, .iconst 1, 1), (90, .if_icmp .ne 18, 3), (93, .aload_n 0, 1), (94, .dup, 1), (95, .getfield 440, 3), (98, .aload_n 0, 1), (99, .getfield 114, 3)]
def vt_i245_1 : List (Nat × Instr × Nat) := [(102, .iload_n 1, 1), (103, .iaload, 1), (104, .iadd, 1), (105, .putfield 440, 3), (108, .aload_n 0, 1), (109, .getfield 99, 3), (112, .iload_n 1, 1), (113, .iaload, 1), (114, .iconst 2, 1), (115, .if_icmp .ne 18, 3), (118, .aload_n 0, 1), (119, .dup, 1), (120, .getfield 443, 3), (123, .aload_n 0, 1), (124, .getfield 114, 3), (127, .iload_n 1, 1), (128, .iaload, 1), (129, .iadd, 1), (130, .putfield 443, 3), (133, .iinc 1 1, 3), (136, .goto (-109), 3), (139, .iconst 0, 1), (140, .istore_n 1, 1), (141, .iconst 0, 1), (142, .istore_n 2, 1), (143, .iload_n 2, 1), (144, .aload_n 0, 1), (145, .getfield 86, 3), (148, .if_icmp .ge 110, 3), (151, .aload_n 0, 1), (152, .getfield 99, 3), (155, .iload_n 2, 1), (156, .iaload, 1), (157, .iconst 4, 1), (158, .if_icmp .eq 6, 3), (161, .goto 91, 3), (164, .aload_n 0, 1), (165, .iload_n 2, 1), (166, .invokevirtual 560, 3), (169, .aload_n 0, 1), (170, .getfield 111, 3), (173, .iload_n 2, 1), (174, .aload_n 0, 1), (175, .getfield 428, 3), (178, .iastore, 1), (179, .aload_n 0, 1), (180, .aload_n 0, 1), (181, .getfield 337, 3), (184, .iload_n 2, 1), (185, .iaload, 1), (186, .iconst 0, 1), (187, .invokevirtual 550, 3), (190, .lstore_n 3, 1), (191, .aload_n 0, 1), (192, .getfield 340, 3), (195, .iload_n 2, 1), (196, .iaload, 1), (197, .ifCond .lt 17, 3), (200, .lload_n 3, 1), (201, .aload_n 0, 1)]
def vt_i245_2 : List (Nat × Instr × Nat) := [(202, .aload_n 0, 1), (203, .getfield 340, 3), (206, .iload_n 2, 1), (207, .iaload, 1), (208, .iconst 0, 1), (209, .invokevirtual 511, 3), (212, .ladd, 1), (213, .lstore_n 3, 1), (214, .aload_n 0, 1), (215, .bipush 28, 2), (217, .iconst 0, 1), (218, .iconst 0, 1), (219, .invokevirtual 505, 3), (222, .pop, 1), (223, .aload_n 0, 1), (224, .dup, 1), (225, .getfield 437, 3), (228, .aload_n 0, 1), (229, .getfield 487, 3), (232, .iadd, 1), (233, .putfield 437, 3), (236, .aload_n 0, 1), (237, .getfield 129, 3), (240, .iload_n 2, 1), (241, .lload_n 3, 1), (242, .lconst 1, 1), (243, .ladd, 1), (244, .ldc2_w 563, 3), (247, .invokestatic 234, 3), (250, .l2i, 1), (251, .iastore, 1), (252, .iinc 2 1, 3), (255, .goto (-112), 3), (258, .aload_n 0, 1), (259, .iconst (-1), 1), (260, .invokevirtual 560, 3), (263, .aload_n 0, 1), (264, .aload_n 0, 1), (265, .getfield 428, 3), (268, .putfield 446, 3), (271, .aload_n 0, 1), (272, .aload_n 0, 1), (273, .getfield 455, 3), (276, .iconst 0, 1), (277, .invokevirtual 550, 3), (280, .lconst 1, 1), (281, .ladd, 1), (282, .lstore_n 2, 1), (283, .aload_n 0, 1), (284, .bipush 29, 2), (286, .iconst 0, 1), (287, .iconst 0, 1), (288, .invokevirtual 505, 3), (291, .pop, 1), (292, .aload_n 0, 1), (293, .dup, 1), (294, .getfield 437, 3), (297, .aload_n 0, 1), (298, .getfield 487, 3), (301, .iadd, 1)]
def vt_i245_3 : List (Nat × Instr × Nat) := [(302, .putfield 437, 3), (305, .aload_n 0, 1), (306, .getfield 428, 3), (309, .sipush 8192, 3), (312, .if_icmp .gt 22, 3), (315, .aload_n 0, 1), (316, .getfield 437, 3), (319, .aload_n 0, 1), (320, .getfield 422, 3), (323, .if_icmp .gt 11, 3), (326, .lload_n 2, 1), (327, .ldc2_w 565, 3), (330, .lcmp, 1), (331, .ifCond .le 13, 3), (334, .aload_n 0, 1), (335, .bipush 11, 2), (337, .aload_n 0, 1), (338, .getfield 19, 3), (341, .invokevirtual 65, 3), (344, .aload_n 0, 1), (345, .lload_n 2, 1), (346, .ldc2_w 569, 3), (349, .invokestatic 234, 3), (352, .l2i, 1), (353, .putfield 449, 3), (356, .return_, 1)]
def vt_i245 : List (Nat × Instr × Nat) := vt_i245_0 ++ (vt_i245_1 ++ (vt_i245_2 ++ (vt_i245_3)))
theorem vt_o245_0 : vt_chk (prog_14_method_78_code, vt_i245_0) = true := by sorry
theorem vt_o245_1 : vt_chk (prog_14_method_78_code, vt_i245_1) = true := by sorry
theorem vt_o245_2 : vt_chk (prog_14_method_78_code, vt_i245_2) = true := by sorry
theorem vt_o245_3 : vt_chk (prog_14_method_78_code, vt_i245_3) = true := by sorry
theorem vt_o245 : vt_chk (prog_14_method_78_code, vt_i245) = true := (vt_app vt_o245_0 (vt_app vt_o245_1 (vt_app vt_o245_2 vt_o245_3)))
-- 246: VitalTwinModel.placeAll (I)V
def vt_i246 : List (Nat × Instr × Nat) := [(0, .iconst 0, 1), (1, .istore_n 2, 1), (2, .iload_n 2, 1), (3, .aload_n 0, 1), (4, .getfield 86, 3), (7, .if_icmp .ge 68, 3), (10, .aload_n 0, 1), (11, .getfield 99, 3), (14, .iload_n 2, 1), (15, .iaload, 1), (16, .iconst 5, 1), (17, .if_icmp .lt 52, 3), (20, .aload_n 0, 1), (21, .getfield 99, 3), (24, .iload_n 2, 1), (25, .iaload, 1), (26, .bipush 7, 2), (28, .if_icmp .gt 41, 3), (31, .aload_n 0, 1), (32, .getfield 120, 3), (35, .iload_n 2, 1), (36, .iaload, 1), (37, .iload_n 1, 1), (38, .if_icmp .eq 6, 3), (41, .goto 28, 3), (44, .aload_n 0, 1), (45, .getfield 111, 3), (48, .iload_n 2, 1), (49, .aload_n 0, 1), (50, .getfield 437, 3), (53, .iastore, 1), (54, .aload_n 0, 1), (55, .dup, 1), (56, .getfield 437, 3), (59, .aload_n 0, 1), (60, .getfield 114, 3), (63, .iload_n 2, 1), (64, .iaload, 1), (65, .iadd, 1), (66, .putfield 437, 3), (69, .iinc 2 1, 3), (72, .goto (-70), 3), (75, .aload_n 0, 1), (76, .aload_n 0, 1), (77, .getfield 437, 3), (80, .putfield 490, 3), (83, .aload_n 0, 1), (84, .iconst 0, 1), (85, .putfield 487, 3), (88, .return_, 1)]
theorem vt_o246 : vt_chk (prog_14_method_77_code, vt_i246) = true := by sorry
-- 247: VitalTwinModel.genList (II)J
def vt_i247 : List (Nat × Instr × Nat) := [(0, .lconst 0, 1), (1, .lstore_n 3, 1), (2, .iload_n 1, 1), (3, .istore 5, 2), (5, .iload 5, 2), (7, .ifCond .lt 28, 3), (10, .lload_n 3, 1), (11, .aload_n 0, 1), (12, .iload 5, 2), (14, .iload_n 2, 1), (15, .invokevirtual 530, 3), (18, .ladd, 1), (19, .invokestatic 520, 3), (22, .lstore_n 3, 1), (23, .aload_n 0, 1), (24, .getfield 190, 3), (27, .iload 5, 2), (29, .iaload, 1), (30, .istore 5, 2), (32, .goto (-27), 3), (35, .lload_n 3, 1), (36, .lreturn, 1)]
theorem vt_o247 : vt_chk (prog_14_method_70_code, vt_i247) = true := by sorry
-- 248: VitalTwinModel.genStatement (II)J
def vt_i248_0 : List (Nat × Instr × Nat) := [(0, .aload_n 0, 1), (1, .getfield 181, 3), (4, .iload_n 1, 1), (5, .iaload, 1), (6, .istore_n 3, 1), (7, .aload_n 0, 1), (8, .getfield 169, 3), (11, .iload_n 1, 1), (12, .baload, 1), (13, .tableswitch 346 20 27 #[47, 78, 192, 303, 325, 346, 332, 339], 47), (60, .aload_n 0, 1), (61, .aload_n 0, 1), (62, .getfield 184, 3), (65, .iload_n 1, 1), (66, .iaload, 1), (67, .iload_n 2, 1), (68, .invokevirtual 511, 3), (71, .lstore 4, 2), (73, .aload_n 0, 1), (74, .iconst 2, 1), (75, .aload_n 0, 1), (76, .getfield 111, 3), (79, .iload_n 3, 1), (80, .iaload, 1), (81, .iconst 0, 1), (82, .invokevirtual 505, 3), (85, .pop, 1), (86, .lload 4, 2), (88, .lconst 1, 1), (89, .ladd, 1), (90, .lreturn, 1), (91, .aload_n 0, 1), (92, .aload_n 0, 1), (93, .getfield 187, 3), (96, .iload_n 1, 1), (97, .iaload, 1), (98, .iload_n 2, 1), (99, .invokevirtual 511, 3), (102, .lstore 4, 2), (104, .aload_n 0, 1), (105, .iconst 2, 1), (106, .aload_n 0, 1), (107, .iload_n 2, 1), (108, .invokevirtual 493, 3), (111, .iconst 0, 1), (112, .invokevirtual 505, 3), (115, .pop, 1), (116, .lload 4, 2), (118, .aload_n 0, 1), (119, .aload_n 0, 1), (120, .getfield 184, 3), (123, .iload_n 1, 1), (124, .iaload, 1), (125, .iload_n 2, 1), (126, .iconst 1, 1), (127, .iadd, 1), (128, .invokevirtual 511, 3), (131, .ladd, 1), (132, .lstore 4, 2), (134, .aload_n 0, 1)]
def vt_i248_1 : List (Nat × Instr × Nat) := [(135, .iconst 2, 1), (136, .aload_n 0, 1), (137, .iload_n 2, 1), (138, .iconst 1, 1), (139, .iadd, 1), (140, .invokevirtual 493, 3), (143, .iconst 0, 1), (144, .invokevirtual 505, 3), (147, .pop, 1), (148, .aload_n 0, 1), (149, .iload_n 2, 1), (150, .aload_n 0, 1), (151, .getfield 187, 3), (154, .iload_n 1, 1), (155, .iaload, 1), (156, .invokevirtual 514, 3), (159, .aload_n 0, 1), (160, .iconst 3, 1), (161, .iconst 0, 1), (162, .iconst 0, 1), (163, .invokevirtual 505, 3), (166, .pop, 1), (167, .aload_n 0, 1), (168, .iload_n 2, 1), (169, .iconst 1, 1), (170, .iadd, 1), (171, .aload_n 0, 1), (172, .getfield 184, 3), (175, .iload_n 1, 1), (176, .iaload, 1), (177, .invokevirtual 514, 3), (180, .aload_n 0, 1), (181, .iconst 5, 1), (182, .aload_n 0, 1), (183, .getfield 111, 3), (186, .iload_n 3, 1), (187, .iaload, 1), (188, .aload_n 0, 1), (189, .getfield 114, 3), (192, .iload_n 3, 1), (193, .iaload, 1), (194, .invokevirtual 505, 3), (197, .pop, 1), (198, .lload 4, 2), (200, .ldc2_w 533, 3), (203, .ladd, 1), (204, .lreturn, 1), (205, .aload_n 0, 1), (206, .iconst 0, 1), (207, .aload_n 0, 1), (208, .getfield 184, 3), (211, .iload_n 1, 1), (212, .iaload, 1), (213, .iconst 0, 1), (214, .aload_n 0, 1), (215, .getfield 102, 3), (218, .iload_n 3, 1), (219, .iaload, 1), (220, .ifCond .ne 13, 3), (223, .aload_n 0, 1)]
def vt_i248_2 : List (Nat × Instr × Nat) := [(224, .getfield 184, 3), (227, .iload_n 1, 1), (228, .iaload, 1), (229, .i2l, 1), (230, .goto 10, 3), (233, .aload_n 0, 1), (234, .getfield 105, 3), (237, .iload_n 3, 1), (238, .iaload, 1), (239, .i2l, 1), (240, .aload_n 0, 1), (241, .getfield 102, 3), (244, .iload_n 3, 1), (245, .iaload, 1), (246, .ifCond .ne 13, 3), (249, .aload_n 0, 1), (250, .getfield 184, 3), (253, .iload_n 1, 1), (254, .iaload, 1), (255, .i2l, 1), (256, .goto 10, 3), (259, .aload_n 0, 1), (260, .getfield 108, 3), (263, .iload_n 3, 1), (264, .iaload, 1), (265, .i2l, 1), (266, .invokevirtual 483, 3), (269, .pop, 1), (270, .iconst 0, 1), (271, .istore 6, 2), (273, .iload 6, 2), (275, .aload_n 0, 1), (276, .getfield 114, 3), (279, .iload_n 3, 1), (280, .iaload, 1), (281, .if_icmp .ge 25, 3), (284, .aload_n 0, 1), (285, .iconst 2, 1), (286, .aload_n 0, 1), (287, .getfield 111, 3), (290, .iload_n 3, 1), (291, .iaload, 1), (292, .iload 6, 2), (294, .iadd, 1), (295, .iconst 0, 1), (296, .invokevirtual 505, 3), (299, .pop, 1), (300, .iinc 6 1, 3), (303, .goto (-30), 3), (306, .lconst 1, 1), (307, .aload_n 0, 1), (308, .getfield 114, 3), (311, .iload_n 3, 1), (312, .iaload, 1), (313, .i2l, 1), (314, .ladd, 1), (315, .lreturn, 1), (316, .aload_n 0, 1), (317, .iload_n 3, 1), (318, .iload_n 2, 1)]
def vt_i248_3 : List (Nat × Instr × Nat) := [(319, .invokevirtual 511, 3), (322, .lstore 4, 2), (324, .aload_n 0, 1), (325, .bipush 30, 2), (327, .iconst 0, 1), (328, .iconst 0, 1), (329, .invokevirtual 505, 3), (332, .pop, 1), (333, .lload 4, 2), (335, .lconst 1, 1), (336, .ladd, 1), (337, .lreturn, 1), (338, .aload_n 0, 1), (339, .iload_n 1, 1), (340, .iload_n 2, 1), (341, .invokevirtual 535, 3), (344, .lreturn, 1), (345, .aload_n 0, 1), (346, .iload_n 1, 1), (347, .iload_n 2, 1), (348, .invokevirtual 538, 3), (351, .lreturn, 1), (352, .aload_n 0, 1), (353, .iload_n 1, 1), (354, .iload_n 2, 1), (355, .invokevirtual 541, 3), (358, .lreturn, 1), (359, .aload_n 0, 1), (360, .iload_n 3, 1), (361, .iload_n 2, 1), (362, .invokevirtual 511, 3), (365, .lreturn, 1)]
def vt_i248 : List (Nat × Instr × Nat) := vt_i248_0 ++ (vt_i248_1 ++ (vt_i248_2 ++ (vt_i248_3)))
theorem vt_o248_0 : vt_chk (prog_14_method_71_code, vt_i248_0) = true := by sorry
theorem vt_o248_1 : vt_chk (prog_14_method_71_code, vt_i248_1) = true := by sorry
theorem vt_o248_2 : vt_chk (prog_14_method_71_code, vt_i248_2) = true := by sorry
theorem vt_o248_3 : vt_chk (prog_14_method_71_code, vt_i248_3) = true := by sorry
theorem vt_o248 : vt_chk (prog_14_method_71_code, vt_i248) = true := (vt_app vt_o248_0 (vt_app vt_o248_1 (vt_app vt_o248_2 vt_o248_3)))
-- 249: VitalTwinModel.gen (II)J
def vt_i249_0 : List (Nat × Instr × Nat) := [(0, .aload_n 0, 1), (1, .getfield 498, 3), (4, .istore_n 3, 1), (5, .iload_n 1, 1), (6, .istore 4, 2), (8, .aload_n 0, 1), (9, .getfield 169, 3), (12, .iload 4, 2), (14, .baload, 1), (15, .iconst 4, 1), (16, .if_icmp .eq 27, 3), (19, .aload_n 0, 1), (20, .getfield 169, 3), (23, .iload 4, 2), (25, .baload, 1), (26, .bipush 6, 2), (28, .if_icmp .eq 15, 3), (31, .aload_n 0, 1), (32, .getfield 169, 3), (35, .iload 4, 2), (37, .baload, 1), (38, .bipush 7, 2), (40, .if_icmp .ne 36, 3), (43, .aload_n 0, 1), (44, .getfield 343, 3), (47, .aload_n 0, 1), (48, .getfield 498, 3), (51, .iload 4, 2), (53, .iastore, 1), (54, .aload_n 0, 1), (55, .dup, 1), (56, .getfield 498, 3), (59, .iconst 1, 1), (60, .iadd, 1), (61, .putfield 498, 3), (64, .aload_n 0, 1), (65, .getfield 181, 3), (68, .iload 4, 2), (70, .iaload, 1), (71, .istore 4, 2), (73, .goto (-65), 3), (76, .aload_n 0, 1), (77, .iload 4, 2), (79, .iload_n 2, 1), (80, .invokevirtual 501, 3), (83, .lstore 5, 2), (85, .aload_n 0, 1), (86, .getfield 498, 3), (89, .iload_n 3, 1), (90, .if_icmp .le 185, 3), (93, .aload_n 0, 1), (94, .dup, 1), (95, .getfield 498, 3), (98, .iconst 1, 1), (99, .isub, 1), (100, .putfield 498, 3), (103, .aload_n 0, 1), (104, .getfield 343, 3), (107, .aload_n 0, 1), (108, .getfield 498, 3)]
def vt_i249_1 : List (Nat × Instr × Nat) := [(111, .iaload, 1), (112, .istore 4, 2), (114, .aload_n 0, 1), (115, .getfield 169, 3), (118, .iload 4, 2), (120, .baload, 1), (121, .iconst 4, 1), (122, .if_icmp .ne 91, 3), (125, .aload_n 0, 1), (126, .iconst 2, 1), (127, .aload_n 0, 1), (128, .iload_n 2, 1), (129, .invokevirtual 493, 3), (132, .iconst 0, 1), (133, .invokevirtual 505, 3), (136, .pop, 1), (137, .lload 5, 2), (139, .ldc2_w 509, 3), (142, .aload_n 0, 1), (143, .aload_n 0, 1), (144, .getfield 184, 3), (147, .iload 4, 2), (149, .iaload, 1), (150, .iload_n 2, 1), (151, .iconst 1, 1), (152, .iadd, 1), (153, .invokevirtual 511, 3), (156, .ladd, 1), (157, .ladd, 1), (158, .lstore 5, 2), (160, .aload_n 0, 1), (161, .iconst 3, 1), (162, .iconst 0, 1), (163, .iconst 0, 1), (164, .invokevirtual 505, 3), (167, .pop, 1), (168, .aload_n 0, 1), (169, .iload_n 2, 1), (170, .aload_n 0, 1), (171, .getfield 181, 3), (174, .iload 4, 2), (176, .iaload, 1), (177, .invokevirtual 514, 3), (180, .aload_n 0, 1), (181, .aload_n 0, 1), (182, .getfield 187, 3), (185, .iload 4, 2), (187, .iaload, 1), (188, .iconst 0, 1), (189, .iconst 0, 1), (190, .aload_n 0, 1), (191, .getfield 175, 3), (194, .iload 4, 2), (196, .iaload, 1), (197, .i2l, 1), (198, .aload_n 0, 1), (199, .getfield 178, 3), (202, .iload 4, 2), (204, .iaload, 1), (205, .i2l, 1)]
def vt_i249_2 : List (Nat × Instr × Nat) := [(206, .invokevirtual 483, 3), (209, .pop, 1), (210, .goto 55, 3), (213, .aload_n 0, 1), (214, .aload_n 0, 1), (215, .getfield 169, 3), (218, .iload 4, 2), (220, .baload, 1), (221, .bipush 6, 2), (223, .if_icmp .ne 8, 3), (226, .bipush 25, 2), (228, .goto 5, 3), (231, .bipush 26, 2), (233, .iconst 0, 1), (234, .iconst 0, 1), (235, .invokevirtual 505, 3), (238, .istore 7, 2), (240, .lload 5, 2), (242, .lconst 1, 1), (243, .aload_n 0, 1), (244, .aload_n 0, 1), (245, .getfield 184, 3), (248, .iload 4, 2), (250, .iaload, 1), (251, .iload_n 2, 1), (252, .invokevirtual 511, 3), (255, .ladd, 1), (256, .ladd, 1), (257, .lstore 5, 2), (259, .aload_n 0, 1), (260, .iload 7, 2), (262, .invokevirtual 517, 3), (265, .lload 5, 2), (267, .invokestatic 520, 3), (270, .lstore 5, 2), (272, .goto (-187), 3), (275, .lload 5, 2), (277, .lreturn, 1)]
def vt_i249 : List (Nat × Instr × Nat) := vt_i249_0 ++ (vt_i249_1 ++ (vt_i249_2))
theorem vt_o249_0 : vt_chk (prog_14_method_67_code, vt_i249_0) = true := by sorry
theorem vt_o249_1 : vt_chk (prog_14_method_67_code, vt_i249_1) = true := by sorry
theorem vt_o249_2 : vt_chk (prog_14_method_67_code, vt_i249_2) = true := by sorry
theorem vt_o249 : vt_chk (prog_14_method_67_code, vt_i249) = true := (vt_app vt_o249_0 (vt_app vt_o249_1 vt_o249_2))
-- 250: VitalTwinModel.atom (II)J
def vt_i250_0 : List (Nat × Instr × Nat) := [(0, .aload_n 0, 1), (1, .getfield 181, 3), (4, .iload_n 1, 1), (5, .iaload, 1), (6, .istore_n 3, 1), (7, .aload_n 0, 1), (8, .getfield 169, 3), (11, .iload_n 1, 1), (12, .baload, 1), (13, .tableswitch 367 1 9 #[51, 75, 104, 367, 154, 367, 367, 194, 278], 51), (64, .aload_n 0, 1), (65, .iconst 0, 1), (66, .iload_n 3, 1), (67, .iconst 0, 1), (68, .aload_n 0, 1), (69, .getfield 175, 3), (72, .iload_n 1, 1), (73, .iaload, 1), (74, .i2l, 1), (75, .aload_n 0, 1), (76, .getfield 178, 3), (79, .iload_n 1, 1), (80, .iaload, 1), (81, .i2l, 1), (82, .invokevirtual 483, 3), (85, .pop, 1), (86, .lconst 1, 1), (87, .lreturn, 1), (88, .aload_n 0, 1), (89, .iconst 1, 1), (90, .aload_n 0, 1), (91, .getfield 111, 3), (94, .iload_n 3, 1), (95, .iaload, 1), (96, .iconst 0, 1), (97, .aload_n 0, 1), (98, .getfield 175, 3), (101, .iload_n 1, 1), (102, .iaload, 1), (103, .i2l, 1), (104, .aload_n 0, 1), (105, .getfield 178, 3), (108, .iload_n 1, 1), (109, .iaload, 1), (110, .i2l, 1), (111, .invokevirtual 483, 3), (114, .pop, 1), (115, .lconst 1, 1), (116, .lreturn, 1), (117, .aload_n 0, 1), (118, .aload_n 0, 1), (119, .getfield 184, 3), (122, .iload_n 1, 1), (123, .iaload, 1), (124, .iload_n 2, 1), (125, .invokevirtual 511, 3), (128, .lstore 4, 2), (130, .aload_n 0, 1), (131, .iconst 4, 1), (132, .aload_n 0, 1)]
def vt_i250_1 : List (Nat × Instr × Nat) := [(133, .getfield 111, 3), (136, .iload_n 3, 1), (137, .iaload, 1), (138, .aload_n 0, 1), (139, .getfield 114, 3), (142, .iload_n 3, 1), (143, .iaload, 1), (144, .aload_n 0, 1), (145, .getfield 175, 3), (148, .iload_n 1, 1), (149, .iaload, 1), (150, .i2l, 1), (151, .aload_n 0, 1), (152, .getfield 178, 3), (155, .iload_n 1, 1), (156, .iaload, 1), (157, .i2l, 1), (158, .invokevirtual 483, 3), (161, .pop, 1), (162, .lload 4, 2), (164, .lconst 1, 1), (165, .ladd, 1), (166, .lreturn, 1), (167, .aload_n 0, 1), (168, .iload_n 3, 1), (169, .iload_n 2, 1), (170, .invokevirtual 511, 3), (173, .lstore 6, 2), (175, .aload_n 0, 1), (176, .aload_n 0, 1), (177, .getfield 187, 3), (180, .iload_n 1, 1), (181, .iaload, 1), (182, .iconst 0, 1), (183, .iconst 0, 1), (184, .aload_n 0, 1), (185, .getfield 175, 3), (188, .iload_n 1, 1), (189, .iaload, 1), (190, .i2l, 1), (191, .aload_n 0, 1), (192, .getfield 178, 3), (195, .iload_n 1, 1), (196, .iaload, 1), (197, .i2l, 1), (198, .invokevirtual 483, 3), (201, .pop, 1), (202, .lload 6, 2), (204, .lconst 1, 1), (205, .ladd, 1), (206, .lreturn, 1), (207, .aload_n 0, 1), (208, .iload_n 3, 1), (209, .iload_n 2, 1), (210, .invokevirtual 511, 3), (213, .lstore 8, 2), (215, .aload_n 0, 1), (216, .bipush 25, 2), (218, .iconst 0, 1), (219, .iconst 0, 1)]
def vt_i250_2 : List (Nat × Instr × Nat) := [(220, .invokevirtual 505, 3), (223, .istore 10, 2), (225, .aload_n 0, 1), (226, .aload_n 0, 1), (227, .getfield 184, 3), (230, .iload_n 1, 1), (231, .iaload, 1), (232, .iload_n 2, 1), (233, .invokevirtual 511, 3), (236, .lstore 11, 2), (238, .aload_n 0, 1), (239, .bipush 24, 2), (241, .iconst 0, 1), (242, .iconst 0, 1), (243, .invokevirtual 505, 3), (246, .istore 13, 2), (248, .aload_n 0, 1), (249, .iload 10, 2), (251, .invokevirtual 517, 3), (254, .aload_n 0, 1), (255, .aload_n 0, 1), (256, .getfield 187, 3), (259, .iload_n 1, 1), (260, .iaload, 1), (261, .iload_n 2, 1), (262, .invokevirtual 511, 3), (265, .lstore 14, 2), (267, .aload_n 0, 1), (268, .iload 13, 2), (270, .invokevirtual 517, 3), (273, .lload 8, 2), (275, .lconst 1, 1), (276, .ladd, 1), (277, .lload 11, 2), (279, .lconst 1, 1), (280, .ladd, 1), (281, .lload 14, 2), (283, .invokestatic 241, 3), (286, .ladd, 1), (287, .invokestatic 520, 3), (290, .lreturn, 1), (291, .aload_n 0, 1), (292, .iload_n 3, 1), (293, .iload_n 2, 1), (294, .invokevirtual 511, 3), (297, .lstore 16, 2), (299, .aload_n 0, 1), (300, .bipush 22, 2), (302, .aload_n 0, 1), (303, .getfield 184, 3), (306, .iload_n 1, 1), (307, .iaload, 1), (308, .iconst 0, 1), (309, .aload_n 0, 1), (310, .getfield 184, 3), (313, .iload_n 1, 1), (314, .iaload, 1), (315, .aload_n 0, 1), (316, .getfield 175, 3), (319, .iload_n 3, 1)]
def vt_i250_3 : List (Nat × Instr × Nat) := [(320, .iaload, 1), (321, .invokestatic 205, 3), (324, .i2l, 1), (325, .aload_n 0, 1), (326, .getfield 184, 3), (329, .iload_n 1, 1), (330, .iaload, 1), (331, .aload_n 0, 1), (332, .getfield 178, 3), (335, .iload_n 3, 1), (336, .iaload, 1), (337, .invokestatic 205, 3), (340, .i2l, 1), (341, .invokevirtual 483, 3), (344, .pop, 1), (345, .aload_n 0, 1), (346, .bipush 23, 2), (348, .aload_n 0, 1), (349, .getfield 187, 3), (352, .iload_n 1, 1), (353, .iaload, 1), (354, .iconst 0, 1), (355, .aload_n 0, 1), (356, .getfield 175, 3), (359, .iload_n 1, 1), (360, .iaload, 1), (361, .i2l, 1), (362, .aload_n 0, 1), (363, .getfield 178, 3), (366, .iload_n 1, 1), (367, .iaload, 1), (368, .i2l, 1), (369, .invokevirtual 483, 3), (372, .pop, 1), (373, .lload 16, 2), (375, .ldc2_w 523, 3), (378, .ladd, 1), (379, .lreturn, 1), (380, .aload_n 0, 1), (381, .iload_n 1, 1), (382, .iload_n 2, 1), (383, .invokevirtual 525, 3), (386, .lreturn, 1)]
def vt_i250 : List (Nat × Instr × Nat) := vt_i250_0 ++ (vt_i250_1 ++ (vt_i250_2 ++ (vt_i250_3)))
theorem vt_o250_0 : vt_chk (prog_14_method_68_code, vt_i250_0) = true := by sorry
theorem vt_o250_1 : vt_chk (prog_14_method_68_code, vt_i250_1) = true := by sorry
theorem vt_o250_2 : vt_chk (prog_14_method_68_code, vt_i250_2) = true := by sorry
theorem vt_o250_3 : vt_chk (prog_14_method_68_code, vt_i250_3) = true := by sorry
theorem vt_o250 : vt_chk (prog_14_method_68_code, vt_i250) = true := (vt_app vt_o250_0 (vt_app vt_o250_1 (vt_app vt_o250_2 vt_o250_3)))
-- 251: VitalTwinModel.emit (IIIJJ)I
def vt_i251 : List (Nat × Instr × Nat) := [(0, .aload_n 0, 1), (1, .getfield 428, 3), (4, .sipush 8192, 3), (7, .if_icmp .ge 55, 3), (10, .aload_n 0, 1), (11, .getfield 346, 3), (14, .aload_n 0, 1), (15, .getfield 428, 3), (18, .iload_n 1, 1), (19, .iastore, 1), (20, .aload_n 0, 1), (21, .getfield 349, 3), (24, .aload_n 0, 1), (25, .getfield 428, 3), (28, .iload_n 2, 1), (29, .iastore, 1), (30, .aload_n 0, 1), (31, .getfield 352, 3), (34, .aload_n 0, 1), (35, .getfield 428, 3), (38, .iload_n 3, 1), (39, .iastore, 1), (40, .aload_n 0, 1), (41, .getfield 355, 3), (44, .aload_n 0, 1), (45, .getfield 428, 3), (48, .lload 4, 2), (50, .lastore, 1), (51, .aload_n 0, 1), (52, .getfield 359, 3), (55, .aload_n 0, 1), (56, .getfield 428, 3), (59, .lload 6, 2), (61, .lastore, 1), (62, .aload_n 0, 1), (63, .dup, 1), (64, .getfield 428, 3), (67, .iconst 1, 1), (68, .iadd, 1), (69, .putfield 428, 3), (72, .aload_n 0, 1), (73, .getfield 428, 3), (76, .iconst 1, 1), (77, .isub, 1), (78, .ireturn, 1)]
theorem vt_o251 : vt_chk (prog_14_method_61_code, vt_i251) = true := by sorry
-- 252: VitalTwinModel.plainly (III)I
def vt_i252 : List (Nat × Instr × Nat) := [(0, .aload_n 0, 1), (1, .iload_n 1, 1), (2, .iload_n 2, 1), (3, .iload_n 3, 1), (4, .lconst 1, 1), (5, .lconst 0, 1), (6, .invokevirtual 483, 3), (9, .ireturn, 1)]
theorem vt_o252 : vt_chk (prog_14_method_62_code, vt_i252) = true := by sorry
-- 253: VitalTwinModel.land (I)V
def vt_i253 : List (Nat × Instr × Nat) := [(0, .iload_n 1, 1), (1, .sipush 8192, 3), (4, .if_icmp .ge 13, 3), (7, .aload_n 0, 1), (8, .getfield 349, 3), (11, .iload_n 1, 1), (12, .aload_n 0, 1), (13, .getfield 428, 3), (16, .iastore, 1), (17, .return_, 1)]
theorem vt_o253 : vt_chk (prog_14_method_63_code, vt_i253) = true := by sorry
-- 254: VitalTwinModel.bounded (J)J
def vt_i254 : List (Nat × Instr × Nat) := [(0, .lload_n 0, 1), (1, .ldc2_w 496, 3), (4, .lcmp, 1), (5, .ifCond .le 9, 3), (8, .ldc2_w 496, 3), (11, .goto 4, 3), (14, .lload_n 0, 1), (15, .lreturn, 1)]
theorem vt_o254 : vt_chk (prog_14_method_66_code, vt_i254) = true := by sorry
-- 255: VitalTwinModel.genCall (II)J
def vt_i255_0 : List (Nat × Instr × Nat) := [(0, .aload_n 0, 1), (1, .getfield 181, 3), (4, .iload_n 1, 1), (5, .iaload, 1), (6, .istore_n 3, 1), (7, .lconst 0, 1), (8, .lstore 4, 2), (10, .iconst 0, 1), (11, .istore 6, 2), (13, .aload_n 0, 1), (14, .getfield 184, 3), (17, .iload_n 1, 1), (18, .iaload, 1), (19, .istore 7, 2), (21, .iload 7, 2), (23, .ifCond .lt 52, 3), (26, .lload 4, 2), (28, .ldc2_w 528, 3), (31, .aload_n 0, 1), (32, .iload 7, 2), (34, .iload_n 2, 1), (35, .iload 6, 2), (37, .iadd, 1), (38, .invokevirtual 511, 3), (41, .ladd, 1), (42, .ladd, 1), (43, .lstore 4, 2), (45, .aload_n 0, 1), (46, .iconst 2, 1), (47, .aload_n 0, 1), (48, .iload_n 2, 1), (49, .iload 6, 2), (51, .iadd, 1), (52, .invokevirtual 493, 3), (55, .iconst 0, 1), (56, .invokevirtual 505, 3), (59, .pop, 1), (60, .iinc 6 1, 3), (63, .aload_n 0, 1), (64, .getfield 190, 3), (67, .iload 7, 2), (69, .iaload, 1), (70, .istore 7, 2), (72, .goto (-51), 3), (75, .iconst 0, 1), (76, .istore 6, 2), (78, .aload_n 0, 1), (79, .getfield 184, 3), (82, .iload_n 1, 1), (83, .iaload, 1), (84, .istore 7, 2), (86, .iload 7, 2), (88, .ifCond .lt 46, 3), (91, .aload_n 0, 1), (92, .iload_n 2, 1), (93, .iload 6, 2), (95, .iadd, 1), (96, .iload 7, 2), (98, .invokevirtual 514, 3), (101, .aload_n 0, 1)]
def vt_i255_1 : List (Nat × Instr × Nat) := [(102, .iconst 2, 1), (103, .aload_n 0, 1), (104, .getfield 111, 3), (107, .iload_n 3, 1), (108, .iconst 1, 1), (109, .iadd, 1), (110, .iload 6, 2), (112, .iadd, 1), (113, .iaload, 1), (114, .iconst 0, 1), (115, .invokevirtual 505, 3), (118, .pop, 1), (119, .iinc 6 1, 3), (122, .aload_n 0, 1), (123, .getfield 190, 3), (126, .iload 7, 2), (128, .iaload, 1), (129, .istore 7, 2), (131, .goto (-45), 3), (134, .aload_n 0, 1), (135, .bipush 27, 2), (137, .aload_n 0, 1), (138, .getfield 111, 3), (141, .iload_n 3, 1), (142, .iaload, 1), (143, .iconst 0, 1), (144, .invokevirtual 505, 3), (147, .pop, 1), (148, .lload 4, 2), (150, .lconst 1, 1), (151, .ladd, 1), (152, .aload_n 0, 1), (153, .getfield 129, 3), (156, .iload_n 3, 1), (157, .iaload, 1), (158, .i2l, 1), (159, .ladd, 1), (160, .invokestatic 520, 3), (163, .lreturn, 1)]
def vt_i255 : List (Nat × Instr × Nat) := vt_i255_0 ++ (vt_i255_1)
theorem vt_o255_0 : vt_chk (prog_14_method_69_code, vt_i255_0) = true := by sorry
theorem vt_o255_1 : vt_chk (prog_14_method_69_code, vt_i255_1) = true := by sorry
theorem vt_o255 : vt_chk (prog_14_method_69_code, vt_i255) = true := (vt_app vt_o255_0 vt_o255_1)
-- 256: VitalTwinModel.temp (I)I
def vt_i256 : List (Nat × Instr × Nat) := [(0, .iload_n 1, 1), (1, .aload_n 0, 1), (2, .getfield 487, 3), (5, .if_icmp .lt 10, 3), (8, .aload_n 0, 1), (9, .iload_n 1, 1), (10, .iconst 1, 1), (11, .iadd, 1), (12, .putfield 487, 3), (15, .aload_n 0, 1), (16, .getfield 490, 3), (19, .iload_n 1, 1), (20, .iadd, 1), (21, .ireturn, 1)]
theorem vt_o256 : vt_chk (prog_14_method_64_code, vt_i256) = true := by sorry
-- 257: VitalTwinModel.load (II)V
def vt_i257 : List (Nat × Instr × Nat) := [(0, .aload_n 0, 1), (1, .iconst 1, 1), (2, .aload_n 0, 1), (3, .iload_n 1, 1), (4, .invokevirtual 493, 3), (7, .iconst 0, 1), (8, .aload_n 0, 1), (9, .getfield 175, 3), (12, .iload_n 2, 1), (13, .iaload, 1), (14, .i2l, 1), (15, .aload_n 0, 1), (16, .getfield 178, 3), (19, .iload_n 2, 1), (20, .iaload, 1), (21, .i2l, 1), (22, .invokevirtual 483, 3), (25, .pop, 1), (26, .return_, 1)]
theorem vt_o257 : vt_chk (prog_14_method_65_code, vt_i257) = true := by sorry
-- 258: VitalTwinModel.genCase (II)J
def vt_i258_0 : List (Nat × Instr × Nat) := [(0, .aload_n 0, 1), (1, .getfield 181, 3), (4, .iload_n 1, 1), (5, .iaload, 1), (6, .istore_n 3, 1), (7, .aload_n 0, 1), (8, .iload_n 3, 1), (9, .iload_n 2, 1), (10, .invokevirtual 511, 3), (13, .lconst 1, 1), (14, .ladd, 1), (15, .lstore 4, 2), (17, .aload_n 0, 1), (18, .iconst 2, 1), (19, .aload_n 0, 1), (20, .iload_n 2, 1), (21, .invokevirtual 493, 3), (24, .iconst 0, 1), (25, .invokevirtual 505, 3), (28, .pop, 1), (29, .lconst 0, 1), (30, .lstore 6, 2), (32, .iconst (-1), 1), (33, .istore 8, 2), (35, .aload_n 0, 1), (36, .getfield 184, 3), (39, .iload_n 1, 1), (40, .iaload, 1), (41, .istore 9, 2), (43, .iload 9, 2), (45, .ifCond .lt 167, 3), (48, .aload_n 0, 1), (49, .getfield 172, 3), (52, .iload 9, 2), (54, .iaload, 1), (55, .iconst 1, 1), (56, .if_icmp .ne 7, 3), (59, .iconst 1, 1), (60, .goto 4, 3), (63, .iconst 0, 1), (64, .istore 10, 2), (66, .lload 4, 2), (68, .aload_n 0, 1), (69, .aload_n 0, 1), (70, .getfield 175, 3), (73, .iload 9, 2), (75, .iaload, 1), (76, .iload 10, 2), (78, .ifCond .eq 8, 3), (81, .bipush 16, 2), (83, .goto 5, 3), (86, .bipush 17, 2), (88, .iload_n 3, 1), (89, .iload_n 2, 1), (90, .iconst 0, 1), (91, .invokevirtual 546, 3), (94, .ladd, 1), (95, .lstore 4, 2), (97, .aload_n 0, 1), (98, .getfield 428, 3)]
def vt_i258_1 : List (Nat × Instr × Nat) := [(101, .iconst 1, 1), (102, .isub, 1), (103, .istore 11, 2), (105, .iconst (-1), 1), (106, .istore 12, 2), (108, .iload 10, 2), (110, .ifCond .eq 32, 3), (113, .lload 4, 2), (115, .aload_n 0, 1), (116, .aload_n 0, 1), (117, .getfield 178, 3), (120, .iload 9, 2), (122, .iaload, 1), (123, .bipush 14, 2), (125, .iload_n 3, 1), (126, .iload_n 2, 1), (127, .iconst 0, 1), (128, .invokevirtual 546, 3), (131, .ladd, 1), (132, .lstore 4, 2), (134, .aload_n 0, 1), (135, .getfield 428, 3), (138, .iconst 1, 1), (139, .isub, 1), (140, .istore 12, 2), (142, .aload_n 0, 1), (143, .aload_n 0, 1), (144, .getfield 181, 3), (147, .iload 9, 2), (149, .iaload, 1), (150, .iload_n 2, 1), (151, .iconst 1, 1), (152, .iadd, 1), (153, .invokevirtual 550, 3), (156, .lstore 13, 2), (158, .lload 6, 2), (160, .lload 4, 2), (162, .lload 13, 2), (164, .ladd, 1), (165, .lconst 1, 1), (166, .ladd, 1), (167, .invokestatic 241, 3), (170, .lstore 6, 2), (172, .aload_n 0, 1), (173, .bipush 24, 2), (175, .iload 8, 2), (177, .iconst 0, 1), (178, .invokevirtual 505, 3), (181, .istore 8, 2), (183, .aload_n 0, 1), (184, .iload 11, 2), (186, .invokevirtual 517, 3), (189, .iload 12, 2), (191, .ifCond .lt 9, 3), (194, .aload_n 0, 1), (195, .iload 12, 2), (197, .invokevirtual 517, 3), (200, .aload_n 0, 1), (201, .getfield 190, 3), (204, .iload 9, 2)]
def vt_i258_2 : List (Nat × Instr × Nat) := [(206, .iaload, 1), (207, .istore 9, 2), (209, .goto (-166), 3), (212, .aload_n 0, 1), (213, .getfield 172, 3), (216, .iload_n 1, 1), (217, .iaload, 1), (218, .iconst 1, 1), (219, .if_icmp .ne 24, 3), (222, .lload 4, 2), (224, .aload_n 0, 1), (225, .aload_n 0, 1), (226, .getfield 187, 3), (229, .iload_n 1, 1), (230, .iaload, 1), (231, .iload_n 2, 1), (232, .iconst 1, 1), (233, .iadd, 1), (234, .invokevirtual 550, 3), (237, .ladd, 1), (238, .invokestatic 520, 3), (241, .lstore 4, 2), (243, .aload_n 0, 1), (244, .iload 8, 2), (246, .invokevirtual 553, 3), (249, .lload 6, 2), (251, .lload 4, 2), (253, .invokestatic 241, 3), (256, .invokestatic 520, 3), (259, .lreturn, 1)]
def vt_i258 : List (Nat × Instr × Nat) := vt_i258_0 ++ (vt_i258_1 ++ (vt_i258_2))
theorem vt_o258_0 : vt_chk (prog_14_method_73_code, vt_i258_0) = true := by sorry
theorem vt_o258_1 : vt_chk (prog_14_method_73_code, vt_i258_1) = true := by sorry
theorem vt_o258_2 : vt_chk (prog_14_method_73_code, vt_i258_2) = true := by sorry
theorem vt_o258 : vt_chk (prog_14_method_73_code, vt_i258) = true := (vt_app vt_o258_0 (vt_app vt_o258_1 vt_o258_2))
-- 259: VitalTwinModel.test (IIIII)J
def vt_i259 : List (Nat × Instr × Nat) := [(0, .aload_n 0, 1), (1, .iconst 0, 1), (2, .iload_n 1, 1), (3, .iconst 0, 1), (4, .iload_n 1, 1), (5, .i2l, 1), (6, .iload_n 1, 1), (7, .i2l, 1), (8, .invokevirtual 483, 3), (11, .pop, 1), (12, .aload_n 0, 1), (13, .iconst 3, 1), (14, .iconst 0, 1), (15, .iconst 0, 1), (16, .invokevirtual 505, 3), (19, .pop, 1), (20, .aload_n 0, 1), (21, .iload 4, 2), (23, .iload_n 3, 1), (24, .invokevirtual 514, 3), (27, .aload_n 0, 1), (28, .iload_n 2, 1), (29, .iconst 0, 1), (30, .iconst 0, 1), (31, .lconst 0, 1), (32, .lconst 1, 1), (33, .invokevirtual 483, 3), (36, .pop, 1), (37, .aload_n 0, 1), (38, .bipush 25, 2), (40, .iload 5, 2), (42, .iconst 0, 1), (43, .invokevirtual 505, 3), (46, .pop, 1), (47, .ldc2_w 544, 3), (50, .lreturn, 1)]
theorem vt_o259 : vt_chk (prog_14_method_72_code, vt_i259) = true := by sorry
-- 260: VitalTwinModel.landAll (I)V
def vt_i260 : List (Nat × Instr × Nat) := [(0, .iload_n 1, 1), (1, .istore_n 2, 1), (2, .iload_n 2, 1), (3, .ifCond .lt 32, 3), (6, .iload_n 2, 1), (7, .sipush 8192, 3), (10, .if_icmp .ge 25, 3), (13, .aload_n 0, 1), (14, .getfield 349, 3), (17, .iload_n 2, 1), (18, .iaload, 1), (19, .istore_n 3, 1), (20, .aload_n 0, 1), (21, .getfield 349, 3), (24, .iload_n 2, 1), (25, .aload_n 0, 1), (26, .getfield 428, 3), (29, .iastore, 1), (30, .iload_n 3, 1), (31, .istore_n 2, 1), (32, .goto (-30), 3), (35, .return_, 1)]
theorem vt_o260 : vt_chk (prog_14_method_74_code, vt_i260) = true := by sorry
-- 261: VitalTwinModel.genIf (II)J
def vt_i261_0 : List (Nat × Instr × Nat) := [(0, .lconst 0, 1), (1, .lstore_n 3, 1), (2, .lconst 0, 1), (3, .lstore 5, 2), (5, .iconst (-1), 1), (6, .istore 7, 2), (8, .iload_n 1, 1), (9, .istore 8, 2), (11, .iload 8, 2), (13, .ifCond .lt 158, 3), (16, .lload_n 3, 1), (17, .aload_n 0, 1), (18, .aload_n 0, 1), (19, .getfield 181, 3), (22, .iload 8, 2), (24, .iaload, 1), (25, .iload_n 2, 1), (26, .invokevirtual 511, 3), (29, .lconst 1, 1), (30, .ladd, 1), (31, .ladd, 1), (32, .lstore_n 3, 1), (33, .aload_n 0, 1), (34, .bipush 25, 2), (36, .iconst 0, 1), (37, .iconst 0, 1), (38, .invokevirtual 505, 3), (41, .istore 9, 2), (43, .aload_n 0, 1), (44, .aload_n 0, 1), (45, .getfield 184, 3), (48, .iload 8, 2), (50, .iaload, 1), (51, .iload_n 2, 1), (52, .invokevirtual 550, 3), (55, .lstore 10, 2), (57, .aload_n 0, 1), (58, .getfield 178, 3), (61, .iload 8, 2), (63, .iaload, 1), (64, .ifCond .le 7, 3), (67, .iconst 1, 1), (68, .goto 4, 3), (71, .iconst 0, 1), (72, .istore 12, 2), (74, .lload 5, 2), (76, .lload_n 3, 1), (77, .lload 10, 2), (79, .ladd, 1), (80, .iload 12, 2), (82, .ifCond .eq 7, 3), (85, .lconst 1, 1), (86, .goto 4, 3), (89, .lconst 0, 1), (90, .ladd, 1), (91, .invokestatic 241, 3), (94, .lstore 5, 2), (96, .iload 12, 2), (98, .ifCond .eq 14, 3), (101, .aload_n 0, 1)]
def vt_i261_1 : List (Nat × Instr × Nat) := [(102, .bipush 24, 2), (104, .iload 7, 2), (106, .iconst 0, 1), (107, .invokevirtual 505, 3), (110, .istore 7, 2), (112, .aload_n 0, 1), (113, .iload 9, 2), (115, .invokevirtual 517, 3), (118, .aload_n 0, 1), (119, .getfield 178, 3), (122, .iload 8, 2), (124, .iaload, 1), (125, .iconst 1, 1), (126, .if_icmp .ne 18, 3), (129, .lload_n 3, 1), (130, .aload_n 0, 1), (131, .aload_n 0, 1), (132, .getfield 187, 3), (135, .iload 8, 2), (137, .iaload, 1), (138, .iload_n 2, 1), (139, .invokevirtual 550, 3), (142, .ladd, 1), (143, .lstore_n 3, 1), (144, .aload_n 0, 1), (145, .getfield 178, 3), (148, .iload 8, 2), (150, .iaload, 1), (151, .iconst 2, 1), (152, .if_icmp .ne 13, 3), (155, .aload_n 0, 1), (156, .getfield 187, 3), (159, .iload 8, 2), (161, .iaload, 1), (162, .goto 4, 3), (165, .iconst (-1), 1), (166, .istore 8, 2), (168, .goto (-157), 3), (171, .aload_n 0, 1), (172, .iload 7, 2), (174, .invokevirtual 553, 3), (177, .lload 5, 2), (179, .lload_n 3, 1), (180, .invokestatic 241, 3), (183, .invokestatic 520, 3), (186, .lreturn, 1)]
def vt_i261 : List (Nat × Instr × Nat) := vt_i261_0 ++ (vt_i261_1)
theorem vt_o261_0 : vt_chk (prog_14_method_75_code, vt_i261_0) = true := by sorry
theorem vt_o261_1 : vt_chk (prog_14_method_75_code, vt_i261_1) = true := by sorry
theorem vt_o261 : vt_chk (prog_14_method_75_code, vt_i261) = true := (vt_app vt_o261_0 vt_o261_1)
-- 262: VitalTwinModel.genFor (II)J
def vt_i262_0 : List (Nat × Instr × Nat) := [(0, .aload_n 0, 1), (1, .getfield 181, 3), (4, .iload_n 1, 1), (5, .iaload, 1), (6, .istore_n 3, 1), (7, .aload_n 0, 1), (8, .iconst 0, 1), (9, .aload_n 0, 1), (10, .getfield 105, 3), (13, .iload_n 3, 1), (14, .iaload, 1), (15, .iconst 0, 1), (16, .aload_n 0, 1), (17, .getfield 105, 3), (20, .iload_n 3, 1), (21, .iaload, 1), (22, .i2l, 1), (23, .aload_n 0, 1), (24, .getfield 105, 3), (27, .iload_n 3, 1), (28, .iaload, 1), (29, .i2l, 1), (30, .invokevirtual 483, 3), (33, .pop, 1), (34, .aload_n 0, 1), (35, .iconst 2, 1), (36, .aload_n 0, 1), (37, .getfield 111, 3), (40, .iload_n 3, 1), (41, .iaload, 1), (42, .iconst 0, 1), (43, .invokevirtual 505, 3), (46, .pop, 1), (47, .aload_n 0, 1), (48, .getfield 428, 3), (51, .istore 4, 2), (53, .aload_n 0, 1), (54, .iconst 0, 1), (55, .aload_n 0, 1), (56, .getfield 108, 3), (59, .iload_n 3, 1), (60, .iaload, 1), (61, .iconst 0, 1), (62, .aload_n 0, 1), (63, .getfield 108, 3), (66, .iload_n 3, 1), (67, .iaload, 1), (68, .i2l, 1), (69, .aload_n 0, 1), (70, .getfield 108, 3), (73, .iload_n 3, 1), (74, .iaload, 1), (75, .i2l, 1), (76, .invokevirtual 483, 3), (79, .pop, 1), (80, .aload_n 0, 1), (81, .iconst 3, 1), (82, .iconst 0, 1), (83, .iconst 0, 1), (84, .invokevirtual 505, 3)]
def vt_i262_1 : List (Nat × Instr × Nat) := [(87, .pop, 1), (88, .aload_n 0, 1), (89, .iconst 1, 1), (90, .aload_n 0, 1), (91, .getfield 111, 3), (94, .iload_n 3, 1), (95, .iaload, 1), (96, .iconst 0, 1), (97, .aload_n 0, 1), (98, .getfield 105, 3), (101, .iload_n 3, 1), (102, .iaload, 1), (103, .i2l, 1), (104, .aload_n 0, 1), (105, .getfield 108, 3), (108, .iload_n 3, 1), (109, .iaload, 1), (110, .i2l, 1), (111, .lconst 1, 1), (112, .ladd, 1), (113, .invokevirtual 483, 3), (116, .pop, 1), (117, .aload_n 0, 1), (118, .bipush 14, 2), (120, .iconst 0, 1), (121, .iconst 0, 1), (122, .lconst 0, 1), (123, .lconst 1, 1), (124, .invokevirtual 483, 3), (127, .pop, 1), (128, .aload_n 0, 1), (129, .bipush 25, 2), (131, .iconst 0, 1), (132, .iconst 0, 1), (133, .invokevirtual 505, 3), (136, .istore 5, 2), (138, .aload_n 0, 1), (139, .aload_n 0, 1), (140, .getfield 184, 3), (143, .iload_n 1, 1), (144, .iaload, 1), (145, .iload_n 2, 1), (146, .invokevirtual 550, 3), (149, .lstore 6, 2), (151, .aload_n 0, 1), (152, .iconst 0, 1), (153, .iconst 1, 1), (154, .iconst 0, 1), (155, .lconst 1, 1), (156, .lconst 1, 1), (157, .invokevirtual 483, 3), (160, .pop, 1), (161, .aload_n 0, 1), (162, .iconst 3, 1), (163, .iconst 0, 1), (164, .iconst 0, 1), (165, .invokevirtual 505, 3), (168, .pop, 1), (169, .aload_n 0, 1), (170, .iconst 1, 1)]
def vt_i262_2 : List (Nat × Instr × Nat) := [(171, .aload_n 0, 1), (172, .getfield 111, 3), (175, .iload_n 3, 1), (176, .iaload, 1), (177, .iconst 0, 1), (178, .aload_n 0, 1), (179, .getfield 105, 3), (182, .iload_n 3, 1), (183, .iaload, 1), (184, .i2l, 1), (185, .aload_n 0, 1), (186, .getfield 108, 3), (189, .iload_n 3, 1), (190, .iaload, 1), (191, .i2l, 1), (192, .invokevirtual 483, 3), (195, .pop, 1), (196, .aload_n 0, 1), (197, .bipush 6, 2), (199, .iconst 0, 1), (200, .iconst 0, 1), (201, .aload_n 0, 1), (202, .getfield 105, 3), (205, .iload_n 3, 1), (206, .iaload, 1), (207, .i2l, 1), (208, .lconst 1, 1), (209, .ladd, 1), (210, .aload_n 0, 1), (211, .getfield 108, 3), (214, .iload_n 3, 1), (215, .iaload, 1), (216, .i2l, 1), (217, .lconst 1, 1), (218, .ladd, 1), (219, .invokevirtual 483, 3), (222, .pop, 1), (223, .aload_n 0, 1), (224, .iconst 2, 1), (225, .aload_n 0, 1), (226, .getfield 111, 3), (229, .iload_n 3, 1), (230, .iaload, 1), (231, .iconst 0, 1), (232, .invokevirtual 505, 3), (235, .pop, 1), (236, .aload_n 0, 1), (237, .bipush 24, 2), (239, .iload 4, 2), (241, .iconst 0, 1), (242, .invokevirtual 505, 3), (245, .pop, 1), (246, .aload_n 0, 1), (247, .iload 5, 2), (249, .invokevirtual 517, 3), (252, .aload_n 0, 1), (253, .getfield 108, 3), (256, .iload_n 3, 1), (257, .iaload, 1), (258, .i2l, 1)]
def vt_i262_3 : List (Nat × Instr × Nat) := [(259, .aload_n 0, 1), (260, .getfield 105, 3), (263, .iload_n 3, 1), (264, .iaload, 1), (265, .i2l, 1), (266, .lsub, 1), (267, .lconst 1, 1), (268, .ladd, 1), (269, .lstore 8, 2), (271, .lload 6, 2), (273, .ldc2_w 556, 3), (276, .ladd, 1), (277, .lstore 10, 2), (279, .lload 8, 2), (281, .ldc2_w 496, 3), (284, .lload 10, 2), (286, .ldiv, 1), (287, .lcmp, 1), (288, .ifCond .le 9, 3), (291, .ldc2_w 496, 3), (294, .goto 15, 3), (297, .ldc2_w 558, 3), (300, .lload 8, 2), (302, .lload 10, 2), (304, .lmul, 1), (305, .ladd, 1), (306, .invokestatic 520, 3), (309, .lreturn, 1)]
def vt_i262 : List (Nat × Instr × Nat) := vt_i262_0 ++ (vt_i262_1 ++ (vt_i262_2 ++ (vt_i262_3)))
theorem vt_o262_0 : vt_chk (prog_14_method_76_code, vt_i262_0) = true := by sorry
theorem vt_o262_1 : vt_chk (prog_14_method_76_code, vt_i262_1) = true := by sorry
theorem vt_o262_2 : vt_chk (prog_14_method_76_code, vt_i262_2) = true := by sorry
theorem vt_o262_3 : vt_chk (prog_14_method_76_code, vt_i262_3) = true := by sorry
theorem vt_o262 : vt_chk (prog_14_method_76_code, vt_i262) = true := (vt_app vt_o262_0 (vt_app vt_o262_1 (vt_app vt_o262_2 vt_o262_3)))
-- 263: VitalTwinModel.bringBack ()V
def vt_i263_0 : List (Nat × Instr × Nat) := [(0, .aload_n 0, 1), (1, .aload_n 0, 1), (2, .getfield 425, 3), (5, .putfield 86, 3), (8, .aload_n 0, 1), (9, .aload_n 0, 1), (10, .getfield 431, 3), (13, .putfield 428, 3), (16, .iconst 0, 1), (17, .istore_n 1, 1), (18, .iload_n 1, 1), (19, .aload_n 0, 1), (20, .getfield 86, 3), (23, .if_icmp .ge 190, 3), (26, .aload_n 0, 1), (27, .getfield 99, 3), (30, .iload_n 1, 1), (31, .aload_n 0, 1), (32, .getfield 362, 3), (35, .iload_n 1, 1), (36, .iaload, 1), (37, .iastore, 1), (38, .aload_n 0, 1), (39, .getfield 102, 3), (42, .iload_n 1, 1), (43, .aload_n 0, 1), (44, .getfield 362, 3), (47, .sipush 400, 3), (50, .iload_n 1, 1), (51, .iadd, 1), (52, .iaload, 1), (53, .iastore, 1), (54, .aload_n 0, 1), (55, .getfield 105, 3), (58, .iload_n 1, 1), (59, .aload_n 0, 1), (60, .getfield 362, 3), (63, .sipush 800, 3), (66, .iload_n 1, 1), (67, .iadd, 1), (68, .iaload, 1), (69, .iastore, 1), (70, .aload_n 0, 1), (71, .getfield 108, 3), (74, .iload_n 1, 1), (75, .aload_n 0, 1), (76, .getfield 362, 3), (79, .sipush 1200, 3), (82, .iload_n 1, 1), (83, .iadd, 1), (84, .iaload, 1), (85, .iastore, 1), (86, .aload_n 0, 1), (87, .getfield 111, 3), (90, .iload_n 1, 1), (91, .aload_n 0, 1), (92, .getfield 362, 3), (95, .sipush 1600, 3), (98, .iload_n 1, 1), (99, .iadd, 1)]
def vt_i263_1 : List (Nat × Instr × Nat) := [(100, .iaload, 1), (101, .iastore, 1), (102, .aload_n 0, 1), (103, .getfield 114, 3), (106, .iload_n 1, 1), (107, .aload_n 0, 1), (108, .getfield 362, 3), (111, .sipush 2000, 3), (114, .iload_n 1, 1), (115, .iadd, 1), (116, .iaload, 1), (117, .iastore, 1), (118, .aload_n 0, 1), (119, .getfield 117, 3), (122, .iload_n 1, 1), (123, .aload_n 0, 1), (124, .getfield 362, 3), (127, .sipush 2400, 3), (130, .iload_n 1, 1), (131, .iadd, 1), (132, .iaload, 1), (133, .iconst 1, 1), (134, .if_icmp .ne 7, 3), (137, .iconst 1, 1), (138, .goto 4, 3), (141, .iconst 0, 1), (142, .bastore, 1), (143, .aload_n 0, 1), (144, .getfield 120, 3), (147, .iload_n 1, 1), (148, .aload_n 0, 1), (149, .getfield 362, 3), (152, .sipush 2800, 3), (155, .iload_n 1, 1), (156, .iadd, 1), (157, .iaload, 1), (158, .iastore, 1), (159, .aload_n 0, 1), (160, .getfield 126, 3), (163, .iload_n 1, 1), (164, .aload_n 0, 1), (165, .getfield 362, 3), (168, .sipush 3200, 3), (171, .iload_n 1, 1), (172, .iadd, 1), (173, .iaload, 1), (174, .iastore, 1), (175, .aload_n 0, 1), (176, .getfield 129, 3), (179, .iload_n 1, 1), (180, .aload_n 0, 1), (181, .getfield 362, 3), (184, .sipush 3600, 3), (187, .iload_n 1, 1), (188, .iadd, 1), (189, .iaload, 1), (190, .iastore, 1), (191, .aload_n 0, 1), (192, .getfield 79, 3), (195, .iload_n 1, 1)]
def vt_i263_2 : List (Nat × Instr × Nat) := [(196, .aload_n 0, 1), (197, .getfield 362, 3), (200, .sipush 4000, 3), (203, .iload_n 1, 1), (204, .iadd, 1), (205, .iaload, 1), (206, .iastore, 1), (207, .iinc 1 1, 3), (210, .goto (-192), 3), (213, .iconst 0, 1), (214, .istore_n 1, 1), (215, .iload_n 1, 1), (216, .bipush 20, 2), (218, .aload_n 0, 1), (219, .getfield 86, 3), (222, .imul, 1), (223, .if_icmp .ge 21, 3), (226, .aload_n 0, 1), (227, .getfield 83, 3), (230, .iload_n 1, 1), (231, .aload_n 0, 1), (232, .getfield 365, 3), (235, .iload_n 1, 1), (236, .baload, 1), (237, .bastore, 1), (238, .iinc 1 1, 3), (241, .goto (-26), 3), (244, .iconst 0, 1), (245, .istore_n 1, 1), (246, .iload_n 1, 1), (247, .aload_n 0, 1), (248, .getfield 428, 3), (251, .if_icmp .ge 81, 3), (254, .aload_n 0, 1), (255, .getfield 346, 3), (258, .iload_n 1, 1), (259, .aload_n 0, 1), (260, .getfield 368, 3), (263, .iload_n 1, 1), (264, .iaload, 1), (265, .iastore, 1), (266, .aload_n 0, 1), (267, .getfield 349, 3), (270, .iload_n 1, 1), (271, .aload_n 0, 1), (272, .getfield 368, 3), (275, .sipush 8192, 3), (278, .iload_n 1, 1), (279, .iadd, 1), (280, .iaload, 1), (281, .iastore, 1), (282, .aload_n 0, 1), (283, .getfield 352, 3), (286, .iload_n 1, 1), (287, .aload_n 0, 1), (288, .getfield 368, 3), (291, .sipush 16384, 3), (294, .iload_n 1, 1), (295, .iadd, 1), (296, .iaload, 1)]
def vt_i263_3 : List (Nat × Instr × Nat) := [(297, .iastore, 1), (298, .aload_n 0, 1), (299, .getfield 355, 3), (302, .iload_n 1, 1), (303, .aload_n 0, 1), (304, .getfield 371, 3), (307, .iload_n 1, 1), (308, .laload, 1), (309, .lastore, 1), (310, .aload_n 0, 1), (311, .getfield 359, 3), (314, .iload_n 1, 1), (315, .aload_n 0, 1), (316, .getfield 371, 3), (319, .sipush 8192, 3), (322, .iload_n 1, 1), (323, .iadd, 1), (324, .laload, 1), (325, .lastore, 1), (326, .iinc 1 1, 3), (329, .goto (-83), 3), (332, .return_, 1)]
def vt_i263 : List (Nat × Instr × Nat) := vt_i263_0 ++ (vt_i263_1 ++ (vt_i263_2 ++ (vt_i263_3)))
theorem vt_o263_0 : vt_chk (prog_14_method_55_code, vt_i263_0) = true := by sorry
theorem vt_o263_1 : vt_chk (prog_14_method_55_code, vt_i263_1) = true := by sorry
theorem vt_o263_2 : vt_chk (prog_14_method_55_code, vt_i263_2) = true := by sorry
theorem vt_o263_3 : vt_chk (prog_14_method_55_code, vt_i263_3) = true := by sorry
theorem vt_o263 : vt_chk (prog_14_method_55_code, vt_i263) = true := (vt_app vt_o263_0 (vt_app vt_o263_1 (vt_app vt_o263_2 vt_o263_3)))
-- 264: VitalTwinModel.firstGiven ()V
def vt_i264 : List (Nat × Instr × Nat) := [(0, .iconst 0, 1), (1, .istore_n 1, 1), (2, .iconst 0, 1), (3, .istore_n 2, 1), (4, .iload_n 2, 1), (5, .aload_n 0, 1), (6, .getfield 86, 3), (9, .if_icmp .ge 85, 3), (12, .aload_n 0, 1), (13, .getfield 99, 3), (16, .iload_n 2, 1), (17, .iaload, 1), (18, .iconst 1, 1), (19, .if_icmp .eq 6, 3), (22, .goto 66, 3), (25, .iconst 0, 1), (26, .istore_n 3, 1), (27, .iload_n 3, 1), (28, .aload_n 0, 1), (29, .getfield 114, 3), (32, .iload_n 2, 1), (33, .iaload, 1), (34, .if_icmp .ge 45, 3), (37, .aload_n 0, 1), (38, .getfield 389, 3), (41, .iload_n 1, 1), (42, .iload_n 3, 1), (43, .iadd, 1), (44, .aload_n 0, 1), (45, .getfield 105, 3), (48, .iload_n 2, 1), (49, .iaload, 1), (50, .ifCond .gt 12, 3), (53, .aload_n 0, 1), (54, .getfield 108, 3), (57, .iload_n 2, 1), (58, .iaload, 1), (59, .ifCond .ge 12, 3), (62, .aload_n 0, 1), (63, .getfield 105, 3), (66, .iload_n 2, 1), (67, .iaload, 1), (68, .goto 4, 3), (71, .iconst 0, 1), (72, .iastore, 1), (73, .iinc 3 1, 3), (76, .goto (-49), 3), (79, .iload_n 1, 1), (80, .aload_n 0, 1), (81, .getfield 114, 3), (84, .iload_n 2, 1), (85, .iaload, 1), (86, .iadd, 1), (87, .istore_n 1, 1), (88, .iinc 2 1, 3), (91, .goto (-87), 3), (94, .return_, 1)]
theorem vt_o264 : vt_chk (prog_14_method_79_code, vt_i264) = true := by sorry
-- 265: VitalTwinModel.anew ()V
def vt_i265_0 : List (Nat × Instr × Nat) := [(0, .iconst 0, 1), (1, .istore_n 1, 1), (2, .iload_n 1, 1), (3, .sipush 8192, 3), (6, .if_icmp .ge 16, 3), (9, .aload_n 0, 1), (10, .getfield 374, 3), (13, .iload_n 1, 1), (14, .lconst 0, 1), (15, .lastore, 1), (16, .iinc 1 1, 3), (19, .goto (-17), 3), (22, .iconst 0, 1), (23, .istore_n 1, 1), (24, .iload_n 1, 1), (25, .aload_n 0, 1), (26, .getfield 86, 3), (29, .if_icmp .ge 98, 3), (32, .aload_n 0, 1), (33, .getfield 99, 3), (36, .iload_n 1, 1), (37, .iaload, 1), (38, .iconst 2, 1), (39, .if_icmp .eq 16, 3), (42, .aload_n 0, 1), (43, .getfield 99, 3), (46, .iload_n 1, 1), (47, .iaload, 1), (48, .iconst 3, 1), (49, .if_icmp .eq 6, 3), (52, .goto 69, 3), (55, .iconst 0, 1), (56, .istore_n 2, 1), (57, .iload_n 2, 1), (58, .aload_n 0, 1), (59, .getfield 114, 3), (62, .iload_n 1, 1), (63, .iaload, 1), (64, .if_icmp .ge 57, 3), (67, .aload_n 0, 1), (68, .getfield 374, 3), (71, .aload_n 0, 1), (72, .getfield 111, 3), (75, .iload_n 1, 1), (76, .iaload, 1), (77, .iload_n 2, 1), (78, .iadd, 1), (79, .aload_n 0, 1), (80, .getfield 126, 3), (83, .iload_n 1, 1), (84, .iaload, 1), (85, .i2l, 1), (86, .lastore, 1), (87, .aload_n 0, 1), (88, .getfield 374, 3), (91, .sipush 4096, 3), (94, .aload_n 0, 1), (95, .getfield 111, 3), (98, .iload_n 1, 1), (99, .iaload, 1)]
def vt_i265_1 : List (Nat × Instr × Nat) := [(100, .iadd, 1), (101, .iload_n 2, 1), (102, .iadd, 1), (103, .ldc2_w 571, 3), (106, .aload_n 0, 1), (107, .getfield 126, 3), (110, .iload_n 1, 1), (111, .iaload, 1), (112, .i2l, 1), (113, .lmul, 1), (114, .lastore, 1), (115, .iinc 2 1, 3), (118, .goto (-61), 3), (121, .iinc 1 1, 3), (124, .goto (-100), 3), (127, .iconst 0, 1), (128, .istore_n 1, 1), (129, .iload_n 1, 1), (130, .iconst 2, 1), (131, .if_icmp .ge 30, 3), (134, .aload_n 0, 1), (135, .getfield 377, 3), (138, .iload_n 1, 1), (139, .lconst 0, 1), (140, .lastore, 1), (141, .aload_n 0, 1), (142, .getfield 380, 3), (145, .iload_n 1, 1), (146, .lconst 0, 1), (147, .lastore, 1), (148, .aload_n 0, 1), (149, .getfield 386, 3), (152, .iload_n 1, 1), (153, .iconst 0, 1), (154, .iastore, 1), (155, .iinc 1 1, 3), (158, .goto (-29), 3), (161, .aload_n 0, 1), (162, .iconst 0, 1), (163, .putfield 573, 3), (166, .aload_n 0, 1), (167, .iconst 0, 1), (168, .putfield 576, 3), (171, .aload_n 0, 1), (172, .iconst 0, 1), (173, .putfield 579, 3), (176, .aload_n 0, 1), (177, .iconst 0, 1), (178, .putfield 582, 3), (181, .aload_n 0, 1), (182, .iconst 0, 1), (183, .putfield 585, 3), (186, .aload_n 0, 1), (187, .iconst 0, 1), (188, .putfield 588, 3), (191, .aload_n 0, 1), (192, .iconst 0, 1), (193, .putfield 591, 3), (196, .aload_n 0, 1), (197, .iconst 0, 1)]
def vt_i265_2 : List (Nat × Instr × Nat) := [(198, .putfield 594, 3), (201, .return_, 1)]
def vt_i265 : List (Nat × Instr × Nat) := vt_i265_0 ++ (vt_i265_1 ++ (vt_i265_2))
theorem vt_o265_0 : vt_chk (prog_14_method_80_code, vt_i265_0) = true := by sorry
theorem vt_o265_1 : vt_chk (prog_14_method_80_code, vt_i265_1) = true := by sorry
theorem vt_o265_2 : vt_chk (prog_14_method_80_code, vt_i265_2) = true := by sorry
theorem vt_o265 : vt_chk (prog_14_method_80_code, vt_i265) = true := (vt_app vt_o265_0 (vt_app vt_o265_1 vt_o265_2))
-- 266: VitalTwinModel.steps (I)I
def vt_i266 : List (Nat × Instr × Nat) := [(0, .aload_n 0, 1), (1, .iload_n 1, 1), (2, .iconst 1, 1), (3, .if_icmp .lt 10, 3), (6, .iload_n 1, 1), (7, .ldc_w 627, 3), (10, .if_icmp .le 7, 3), (13, .iconst 1, 1), (14, .goto 15, 3), (17, .aload_n 0, 1), (18, .getfield 464, 3), (21, .ifCond .ne 7, 3), (24, .iconst 2, 1), (25, .goto 4, 3), (28, .iconst 0, 1), (29, .putfield 3, 3), (32, .aload_n 0, 1), (33, .getfield 3, 3), (36, .ifCond .gt 10, 3), (39, .aload_n 0, 1), (40, .getfield 585, 3), (43, .ifCond .le 5, 3), (46, .iconst 0, 1), (47, .ireturn, 1), (48, .aload_n 0, 1), (49, .getfield 573, 3), (52, .ifCond .ne 7, 3), (55, .aload_n 0, 1), (56, .invokevirtual 628, 3), (59, .iconst 0, 1), (60, .istore_n 2, 1), (61, .iload_n 2, 1), (62, .iload_n 1, 1), (63, .if_icmp .ge 20, 3), (66, .aload_n 0, 1), (67, .getfield 573, 3), (70, .ifCond .le 13, 3), (73, .aload_n 0, 1), (74, .invokevirtual 631, 3), (77, .iinc 2 1, 3), (80, .goto (-19), 3), (83, .iload_n 2, 1), (84, .ireturn, 1)]
theorem vt_o266 : vt_chk (prog_14_method_92_code, vt_i266) = true := by sorry
-- 267: VitalTwinModel.cycleBegins ()V
def vt_i267_0 : List (Nat × Instr × Nat) := [(0, .iconst 0, 1), (1, .istore_n 1, 1), (2, .iconst 0, 1), (3, .istore_n 2, 1), (4, .iload_n 2, 1), (5, .aload_n 0, 1), (6, .getfield 86, 3), (9, .if_icmp .ge 91, 3), (12, .aload_n 0, 1), (13, .getfield 99, 3), (16, .iload_n 2, 1), (17, .iaload, 1), (18, .iconst 1, 1), (19, .if_icmp .eq 6, 3), (22, .goto 72, 3), (25, .iconst 0, 1), (26, .istore_n 3, 1), (27, .iload_n 3, 1), (28, .aload_n 0, 1), (29, .getfield 114, 3), (32, .iload_n 2, 1), (33, .iaload, 1), (34, .if_icmp .ge 60, 3), (37, .aload_n 0, 1), (38, .getfield 374, 3), (41, .aload_n 0, 1), (42, .getfield 111, 3), (45, .iload_n 2, 1), (46, .iaload, 1), (47, .iload_n 3, 1), (48, .iadd, 1), (49, .aload_n 0, 1), (50, .getfield 389, 3), (53, .iload_n 1, 1), (54, .iaload, 1), (55, .i2l, 1), (56, .lastore, 1), (57, .aload_n 0, 1), (58, .getfield 374, 3), (61, .sipush 4096, 3), (64, .aload_n 0, 1), (65, .getfield 111, 3), (68, .iload_n 2, 1), (69, .iaload, 1), (70, .iadd, 1), (71, .iload_n 3, 1), (72, .iadd, 1), (73, .ldc2_w 571, 3), (76, .aload_n 0, 1), (77, .getfield 389, 3), (80, .iload_n 1, 1), (81, .iaload, 1), (82, .i2l, 1), (83, .lmul, 1), (84, .lastore, 1), (85, .iinc 1 1, 3), (88, .iinc 3 1, 3), (91, .goto (-64), 3), (94, .iinc 2 1, 3), (97, .goto (-93), 3)]
def vt_i267_1 : List (Nat × Instr × Nat) := [(100, .aload_n 0, 1), (101, .iconst 0, 1), (102, .putfield 579, 3), (105, .aload_n 0, 1), (106, .iconst 0, 1), (107, .invokevirtual 600, 3), (110, .return_, 1)]
def vt_i267 : List (Nat × Instr × Nat) := vt_i267_0 ++ (vt_i267_1)
theorem vt_o267_0 : vt_chk (prog_14_method_84_code, vt_i267_0) = true := by sorry
theorem vt_o267_1 : vt_chk (prog_14_method_84_code, vt_i267_1) = true := by sorry
theorem vt_o267 : vt_chk (prog_14_method_84_code, vt_i267) = true := (vt_app vt_o267_0 vt_o267_1)
-- 268: VitalTwinModel.copyBegins (I)V
def vt_i268 : List (Nat × Instr × Nat) := [(0, .aload_n 0, 1), (1, .iload_n 1, 1), (2, .iconst 1, 1), (3, .iadd, 1), (4, .putfield 573, 3), (7, .aload_n 0, 1), (8, .aload_n 0, 1), (9, .getfield 446, 3), (12, .putfield 576, 3), (15, .aload_n 0, 1), (16, .iconst 0, 1), (17, .putfield 582, 3), (20, .aload_n 0, 1), (21, .getfield 377, 3), (24, .iload_n 1, 1), (25, .lconst 0, 1), (26, .lastore, 1), (27, .aload_n 0, 1), (28, .getfield 380, 3), (31, .iload_n 1, 1), (32, .lconst 0, 1), (33, .lastore, 1), (34, .aload_n 0, 1), (35, .getfield 386, 3), (38, .iload_n 1, 1), (39, .iconst 0, 1), (40, .iastore, 1), (41, .return_, 1)]
theorem vt_o268 : vt_chk (prog_14_method_83_code, vt_i268) = true := by sorry
-- 269: VitalTwinModel.step ()V
def vt_i269_0 : List (Nat × Instr × Nat) := [(0, .aload_n 0, 1), (1, .getfield 573, 3), (4, .iconst 1, 1), (5, .isub, 1), (6, .istore_n 1, 1), (7, .aload_n 0, 1), (8, .invokevirtual 617, 3), (11, .aload_n 0, 1), (12, .getfield 576, 3), (15, .istore_n 2, 1), (16, .aload_n 0, 1), (17, .dup, 1), (18, .getfield 576, 3), (21, .iconst 1, 1), (22, .iadd, 1), (23, .putfield 576, 3), (26, .aload_n 0, 1), (27, .dup, 1), (28, .getfield 579, 3), (31, .iconst 1, 1), (32, .iadd, 1), (33, .putfield 579, 3), (36, .aload_n 0, 1), (37, .dup, 1), (38, .getfield 582, 3), (41, .iconst 1, 1), (42, .iadd, 1), (43, .putfield 582, 3), (46, .aload_n 0, 1), (47, .iload_n 1, 1), (48, .aload_n 0, 1), (49, .getfield 346, 3), (52, .iload_n 2, 1), (53, .iaload, 1), (54, .aload_n 0, 1), (55, .getfield 349, 3), (58, .iload_n 2, 1), (59, .iaload, 1), (60, .aload_n 0, 1), (61, .getfield 352, 3), (64, .iload_n 2, 1), (65, .iaload, 1), (66, .invokevirtual 620, 3), (69, .ifCond .ne 9, 3), (72, .aload_n 0, 1), (73, .iconst 1, 1), (74, .invokevirtual 614, 3), (77, .return_, 1), (78, .aload_n 0, 1), (79, .getfield 346, 3), (82, .iload_n 2, 1), (83, .iaload, 1), (84, .bipush 29, 2), (86, .if_icmp .eq 20, 3), (89, .aload_n 0, 1), (90, .getfield 582, 3), (93, .aload_n 0, 1), (94, .getfield 449, 3), (97, .if_icmp .lt 8, 3), (100, .aload_n 0, 1)]
def vt_i269_1 : List (Nat × Instr × Nat) := [(101, .iconst 2, 1), (102, .invokevirtual 614, 3), (105, .return_, 1), (106, .iload_n 1, 1), (107, .ifCond .ne 11, 3), (110, .aload_n 0, 1), (111, .iconst 1, 1), (112, .invokevirtual 600, 3), (115, .goto 7, 3), (118, .aload_n 0, 1), (119, .invokevirtual 624, 3), (122, .return_, 1)]
def vt_i269 : List (Nat × Instr × Nat) := vt_i269_0 ++ (vt_i269_1)
theorem vt_o269_0 : vt_chk (prog_14_method_91_code, vt_i269_0) = true := by sorry
theorem vt_o269_1 : vt_chk (prog_14_method_91_code, vt_i269_1) = true := by sorry
theorem vt_o269 : vt_chk (prog_14_method_91_code, vt_i269) = true := (vt_app vt_o269_0 vt_o269_1)
end
section
/-! instructions of the methods 270 to 299, printed by wip/whole/tools/gen14.py out of the claim: each list is what decode gives -/
-- 270: VitalTwinModel.flipAll ()V
def vt_i270_0 : List (Nat × Instr × Nat) := [(0, .iconst 0, 1), (1, .istore_n 1, 1), (2, .iload_n 1, 1), (3, .aload_n 0, 1), (4, .getfield 594, 3), (7, .if_icmp .ge 127, 3), (10, .aload_n 0, 1), (11, .getfield 404, 3), (14, .iload_n 1, 1), (15, .iaload, 1), (16, .aload_n 0, 1), (17, .getfield 579, 3), (20, .if_icmp .eq 6, 3), (23, .goto 105, 3), (26, .aload_n 0, 1), (27, .dup, 1), (28, .getfield 591, 3), (31, .iconst 1, 1), (32, .iadd, 1), (33, .putfield 591, 3), (36, .lconst 1, 1), (37, .aload_n 0, 1), (38, .getfield 401, 3), (41, .iload_n 1, 1), (42, .iaload, 1), (43, .lshl, 1), (44, .lstore_n 2, 1), (45, .aload_n 0, 1), (46, .getfield 398, 3), (49, .iload_n 1, 1), (50, .iaload, 1), (51, .iconst (-1), 1), (52, .if_icmp .ne 21, 3), (55, .aload_n 0, 1), (56, .getfield 377, 3), (59, .aload_n 0, 1), (60, .getfield 395, 3), (63, .iload_n 1, 1), (64, .iaload, 1), (65, .dup2, 1), (66, .laload, 1), (67, .lload_n 2, 1), (68, .lxor, 1), (69, .lastore, 1), (70, .goto 58, 3), (73, .aload_n 0, 1), (74, .getfield 398, 3), (77, .iload_n 1, 1), (78, .iaload, 1), (79, .bipush (-2), 2), (81, .if_icmp .ne 21, 3), (84, .aload_n 0, 1), (85, .getfield 380, 3), (88, .aload_n 0, 1), (89, .getfield 395, 3), (92, .iload_n 1, 1), (93, .iaload, 1), (94, .dup2, 1), (95, .laload, 1), (96, .lload_n 2, 1)]
def vt_i270_1 : List (Nat × Instr × Nat) := [(97, .lxor, 1), (98, .lastore, 1), (99, .goto 29, 3), (102, .aload_n 0, 1), (103, .getfield 374, 3), (106, .sipush 4096, 3), (109, .aload_n 0, 1), (110, .getfield 395, 3), (113, .iload_n 1, 1), (114, .iaload, 1), (115, .imul, 1), (116, .aload_n 0, 1), (117, .getfield 398, 3), (120, .iload_n 1, 1), (121, .iaload, 1), (122, .iadd, 1), (123, .dup2, 1), (124, .laload, 1), (125, .lload_n 2, 1), (126, .lxor, 1), (127, .lastore, 1), (128, .iinc 1 1, 3), (131, .goto (-129), 3), (134, .return_, 1)]
def vt_i270 : List (Nat × Instr × Nat) := vt_i270_0 ++ (vt_i270_1)
theorem vt_o270_0 : vt_chk (prog_14_method_85_code, vt_i270_0) = true := by sorry
theorem vt_o270_1 : vt_chk (prog_14_method_85_code, vt_i270_1) = true := by sorry
theorem vt_o270 : vt_chk (prog_14_method_85_code, vt_i270) = true := (vt_app vt_o270_0 vt_o270_1)
-- 271: VitalTwinModel.does (IIII)Z
def vt_i271_0 : List (Nat × Instr × Nat) := [(0, .aload_n 0, 1), (1, .getfield 377, 3), (4, .iload_n 1, 1), (5, .laload, 1), (6, .lstore 5, 2), (8, .aload_n 0, 1), (9, .getfield 380, 3), (12, .iload_n 1, 1), (13, .laload, 1), (14, .lstore 7, 2), (16, .sipush 4096, 3), (19, .iload_n 1, 1), (20, .imul, 1), (21, .istore 9, 2), (23, .iload_n 1, 1), (24, .ifCond .ne 8, 3), (27, .iload_n 3, 1), (28, .i2l, 1), (29, .goto 9, 3), (32, .ldc2_w 571, 3), (35, .iload_n 3, 1), (36, .i2l, 1), (37, .lmul, 1), (38, .lstore 10, 2), (40, .iload_n 2, 1), (41, .tableswitch 850 0 30 #[139, 150, 168, 182, 193, 232, 267, 281, 295, 347, 387, 410, 426, 442, 469, 496, 523, 550, 577, 604, 616, 640, 666, 690, 714, 722, 744, 766, 804, 850, 837], 139), (180, .aload_n 0, 1), (181, .getfield 377, 3), (184, .iload_n 1, 1), (185, .lload 10, 2), (187, .lastore, 1), (188, .goto 703, 3), (191, .aload_n 0, 1), (192, .getfield 377, 3), (195, .iload_n 1, 1), (196, .aload_n 0, 1), (197, .getfield 374, 3), (200, .iload 9, 2), (202, .iload_n 3, 1), (203, .iadd, 1)]
def vt_i271_1 : List (Nat × Instr × Nat) := [(204, .laload, 1), (205, .lastore, 1), (206, .goto 685, 3), (209, .aload_n 0, 1), (210, .getfield 374, 3), (213, .iload 9, 2), (215, .iload_n 3, 1), (216, .iadd, 1), (217, .lload 5, 2), (219, .lastore, 1), (220, .goto 671, 3), (223, .aload_n 0, 1), (224, .getfield 380, 3), (227, .iload_n 1, 1), (228, .lload 5, 2), (230, .lastore, 1), (231, .goto 660, 3), (234, .aload_n 0, 1), (235, .iload_n 1, 1), (236, .lload 5, 2), (238, .iload 4, 2), (240, .invokevirtual 603, 3), (243, .istore 12, 2), (245, .iload 12, 2), (247, .ifCond .ge 5, 3), (250, .iconst 0, 1), (251, .ireturn, 1), (252, .aload_n 0, 1), (253, .getfield 377, 3), (256, .iload_n 1, 1), (257, .aload_n 0, 1), (258, .getfield 374, 3), (261, .iload 9, 2), (263, .iload_n 3, 1), (264, .iadd, 1), (265, .iload 12, 2), (267, .iadd, 1), (268, .laload, 1), (269, .lastore, 1), (270, .goto 621, 3)]
def vt_i271_2 : List (Nat × Instr × Nat) := [(273, .aload_n 0, 1), (274, .iload_n 1, 1), (275, .lload 7, 2), (277, .iload 4, 2), (279, .invokevirtual 603, 3), (282, .istore 12, 2), (284, .iload 12, 2), (286, .ifCond .ge 5, 3), (289, .iconst 0, 1), (290, .ireturn, 1), (291, .aload_n 0, 1), (292, .getfield 374, 3), (295, .iload 9, 2), (297, .iload_n 3, 1), (298, .iadd, 1), (299, .iload 12, 2), (301, .iadd, 1), (302, .lload 5, 2), (304, .lastore, 1), (305, .goto 586, 3), (308, .aload_n 0, 1), (309, .getfield 377, 3), (312, .iload_n 1, 1), (313, .lload 5, 2), (315, .lload 7, 2), (317, .ladd, 1), (318, .lastore, 1), (319, .goto 572, 3), (322, .aload_n 0, 1), (323, .getfield 377, 3), (326, .iload_n 1, 1), (327, .lload 5, 2), (329, .lload 7, 2), (331, .lsub, 1), (332, .lastore, 1), (333, .goto 558, 3), (336, .iload_n 1, 1), (337, .iconst 1, 1), (338, .if_icmp .ne 19, 3), (341, .lload 5, 2)]
def vt_i271_3 : List (Nat × Instr × Nat) := [(343, .lload 7, 2), (345, .lmul, 1), (346, .ldc2_w 571, 3), (349, .lrem, 1), (350, .lconst 0, 1), (351, .lcmp, 1), (352, .ifCond .eq 5, 3), (355, .iconst 0, 1), (356, .ireturn, 1), (357, .aload_n 0, 1), (358, .getfield 377, 3), (361, .iload_n 1, 1), (362, .iload_n 1, 1), (363, .iconst 1, 1), (364, .if_icmp .ne 15, 3), (367, .lload 5, 2), (369, .lload 7, 2), (371, .lmul, 1), (372, .ldc2_w 571, 3), (375, .ldiv, 1), (376, .goto 8, 3), (379, .lload 5, 2), (381, .lload 7, 2), (383, .lmul, 1), (384, .lastore, 1), (385, .goto 506, 3), (388, .lload 7, 2), (390, .lconst 0, 1), (391, .lcmp, 1), (392, .ifCond .ne 5, 3), (395, .iconst 0, 1), (396, .ireturn, 1), (397, .aload_n 0, 1), (398, .getfield 377, 3), (401, .iload_n 1, 1), (402, .iload_n 1, 1), (403, .iconst 1, 1), (404, .if_icmp .ne 15, 3), (407, .ldc2_w 571, 3), (410, .lload 5, 2)]
def vt_i271_4 : List (Nat × Instr × Nat) := [(412, .lload 7, 2), (414, .ldiv, 1), (415, .lmul, 1), (416, .goto 8, 3), (419, .lload 5, 2), (421, .lload 7, 2), (423, .ldiv, 1), (424, .lastore, 1), (425, .goto 466, 3), (428, .lload 7, 2), (430, .lconst 0, 1), (431, .lcmp, 1), (432, .ifCond .ne 5, 3), (435, .iconst 0, 1), (436, .ireturn, 1), (437, .aload_n 0, 1), (438, .getfield 377, 3), (441, .iload_n 1, 1), (442, .lload 5, 2), (444, .lload 7, 2), (446, .lrem, 1), (447, .lastore, 1), (448, .goto 443, 3), (451, .aload_n 0, 1), (452, .getfield 377, 3), (455, .iload_n 1, 1), (456, .lload 5, 2), (458, .lload 7, 2), (460, .invokestatic 234, 3), (463, .lastore, 1), (464, .goto 427, 3), (467, .aload_n 0, 1), (468, .getfield 377, 3), (471, .iload_n 1, 1), (472, .lload 5, 2), (474, .lload 7, 2), (476, .invokestatic 241, 3), (479, .lastore, 1), (480, .goto 411, 3), (483, .aload_n 0, 1)]
def vt_i271_5 : List (Nat × Instr × Nat) := [(484, .getfield 377, 3), (487, .iload_n 1, 1), (488, .aload_n 0, 1), (489, .iload_n 1, 1), (490, .lload 5, 2), (492, .lload 7, 2), (494, .lcmp, 1), (495, .ifCond .ge 7, 3), (498, .iconst 1, 1), (499, .goto 4, 3), (502, .iconst 0, 1), (503, .invokevirtual 607, 3), (506, .lastore, 1), (507, .goto 384, 3), (510, .aload_n 0, 1), (511, .getfield 377, 3), (514, .iload_n 1, 1), (515, .aload_n 0, 1), (516, .iload_n 1, 1), (517, .lload 5, 2), (519, .lload 7, 2), (521, .lcmp, 1), (522, .ifCond .gt 7, 3), (525, .iconst 1, 1), (526, .goto 4, 3), (529, .iconst 0, 1), (530, .invokevirtual 607, 3), (533, .lastore, 1), (534, .goto 357, 3), (537, .aload_n 0, 1), (538, .getfield 377, 3), (541, .iload_n 1, 1), (542, .aload_n 0, 1), (543, .iload_n 1, 1), (544, .lload 5, 2), (546, .lload 7, 2), (548, .lcmp, 1), (549, .ifCond .le 7, 3), (552, .iconst 1, 1), (553, .goto 4, 3)]
def vt_i271_6 : List (Nat × Instr × Nat) := [(556, .iconst 0, 1), (557, .invokevirtual 607, 3), (560, .lastore, 1), (561, .goto 330, 3), (564, .aload_n 0, 1), (565, .getfield 377, 3), (568, .iload_n 1, 1), (569, .aload_n 0, 1), (570, .iload_n 1, 1), (571, .lload 5, 2), (573, .lload 7, 2), (575, .lcmp, 1), (576, .ifCond .lt 7, 3), (579, .iconst 1, 1), (580, .goto 4, 3), (583, .iconst 0, 1), (584, .invokevirtual 607, 3), (587, .lastore, 1), (588, .goto 303, 3), (591, .aload_n 0, 1), (592, .getfield 377, 3), (595, .iload_n 1, 1), (596, .aload_n 0, 1), (597, .iload_n 1, 1), (598, .lload 5, 2), (600, .lload 7, 2), (602, .lcmp, 1), (603, .ifCond .ne 7, 3), (606, .iconst 1, 1), (607, .goto 4, 3), (610, .iconst 0, 1), (611, .invokevirtual 607, 3), (614, .lastore, 1), (615, .goto 276, 3), (618, .aload_n 0, 1), (619, .getfield 377, 3), (622, .iload_n 1, 1), (623, .aload_n 0, 1), (624, .iload_n 1, 1), (625, .lload 5, 2)]
def vt_i271_7 : List (Nat × Instr × Nat) := [(627, .lload 7, 2), (629, .lcmp, 1), (630, .ifCond .eq 7, 3), (633, .iconst 1, 1), (634, .goto 4, 3), (637, .iconst 0, 1), (638, .invokevirtual 607, 3), (641, .lastore, 1), (642, .goto 249, 3), (645, .aload_n 0, 1), (646, .getfield 377, 3), (649, .iload_n 1, 1), (650, .lload 5, 2), (652, .lneg, 1), (653, .lastore, 1), (654, .goto 237, 3), (657, .aload_n 0, 1), (658, .getfield 377, 3), (661, .iload_n 1, 1), (662, .lload 5, 2), (664, .lconst 0, 1), (665, .lcmp, 1), (666, .ifCond .ge 9, 3), (669, .lload 5, 2), (671, .lneg, 1), (672, .goto 5, 3), (675, .lload 5, 2), (677, .lastore, 1), (678, .goto 213, 3), (681, .aload_n 0, 1), (682, .getfield 377, 3), (685, .iload_n 1, 1), (686, .aload_n 0, 1), (687, .iload_n 1, 1), (688, .lload 5, 2), (690, .lconst 0, 1), (691, .lcmp, 1), (692, .ifCond .ne 7, 3), (695, .iconst 1, 1), (696, .goto 4, 3)]
def vt_i271_8 : List (Nat × Instr × Nat) := [(699, .iconst 0, 1), (700, .invokevirtual 607, 3), (703, .lastore, 1), (704, .goto 187, 3), (707, .aload_n 0, 1), (708, .getfield 377, 3), (711, .iload_n 1, 1), (712, .lload 5, 2), (714, .lload 10, 2), (716, .lcmp, 1), (717, .ifCond .ge 8, 3), (720, .lload 10, 2), (722, .goto 5, 3), (725, .lload 5, 2), (727, .lastore, 1), (728, .goto 163, 3), (731, .aload_n 0, 1), (732, .getfield 377, 3), (735, .iload_n 1, 1), (736, .lload 5, 2), (738, .lload 10, 2), (740, .lcmp, 1), (741, .ifCond .le 8, 3), (744, .lload 10, 2), (746, .goto 5, 3), (749, .lload 5, 2), (751, .lastore, 1), (752, .goto 139, 3), (755, .aload_n 0, 1), (756, .iload_n 3, 1), (757, .putfield 576, 3), (760, .goto 131, 3), (763, .aload_n 0, 1), (764, .lload 5, 2), (766, .lconst 0, 1), (767, .lcmp, 1), (768, .ifCond .ne 7, 3), (771, .iload_n 3, 1), (772, .goto 7, 3), (775, .aload_n 0, 1)]
def vt_i271_9 : List (Nat × Instr × Nat) := [(776, .getfield 576, 3), (779, .putfield 576, 3), (782, .goto 109, 3), (785, .aload_n 0, 1), (786, .lload 5, 2), (788, .lconst 0, 1), (789, .lcmp, 1), (790, .ifCond .eq 7, 3), (793, .iload_n 3, 1), (794, .goto 7, 3), (797, .aload_n 0, 1), (798, .getfield 576, 3), (801, .putfield 576, 3), (804, .goto 87, 3), (807, .aload_n 0, 1), (808, .getfield 383, 3), (811, .bipush 32, 2), (813, .iload_n 1, 1), (814, .imul, 1), (815, .aload_n 0, 1), (816, .getfield 386, 3), (819, .iload_n 1, 1), (820, .iaload, 1), (821, .iadd, 1), (822, .aload_n 0, 1), (823, .getfield 576, 3), (826, .iastore, 1), (827, .aload_n 0, 1), (828, .getfield 386, 3), (831, .iload_n 1, 1), (832, .dup2, 1), (833, .iaload, 1), (834, .iconst 1, 1), (835, .iadd, 1), (836, .iastore, 1), (837, .aload_n 0, 1), (838, .iload_n 3, 1), (839, .putfield 576, 3), (842, .goto 49, 3), (845, .aload_n 0, 1)]
def vt_i271_10 : List (Nat × Instr × Nat) := [(846, .getfield 386, 3), (849, .iload_n 1, 1), (850, .dup2, 1), (851, .iaload, 1), (852, .iconst 1, 1), (853, .isub, 1), (854, .iastore, 1), (855, .aload_n 0, 1), (856, .aload_n 0, 1), (857, .getfield 383, 3), (860, .bipush 32, 2), (862, .iload_n 1, 1), (863, .imul, 1), (864, .aload_n 0, 1), (865, .getfield 386, 3), (868, .iload_n 1, 1), (869, .iaload, 1), (870, .iadd, 1), (871, .iaload, 1), (872, .putfield 576, 3), (875, .goto 16, 3), (878, .lload 5, 2), (880, .lconst 0, 1), (881, .lcmp, 1), (882, .ifCond .eq 7, 3), (885, .iconst 1, 1), (886, .goto 4, 3), (889, .iconst 0, 1), (890, .ireturn, 1), (891, .iconst 1, 1), (892, .ireturn, 1)]
def vt_i271 : List (Nat × Instr × Nat) := vt_i271_0 ++ (vt_i271_1 ++ (vt_i271_2 ++ (vt_i271_3 ++ (vt_i271_4 ++ (vt_i271_5 ++ (vt_i271_6 ++ (vt_i271_7 ++ (vt_i271_8 ++ (vt_i271_9 ++ (vt_i271_10))))))))))
theorem vt_o271_0 : vt_chk (prog_14_method_88_code, vt_i271_0) = true := by sorry
theorem vt_o271_1 : vt_chk (prog_14_method_88_code, vt_i271_1) = true := by sorry
theorem vt_o271_2 : vt_chk (prog_14_method_88_code, vt_i271_2) = true := by sorry
theorem vt_o271_3 : vt_chk (prog_14_method_88_code, vt_i271_3) = true := by sorry
theorem vt_o271_4 : vt_chk (prog_14_method_88_code, vt_i271_4) = true := by sorry
theorem vt_o271_5 : vt_chk (prog_14_method_88_code, vt_i271_5) = true := by sorry
theorem vt_o271_6 : vt_chk (prog_14_method_88_code, vt_i271_6) = true := by sorry
theorem vt_o271_7 : vt_chk (prog_14_method_88_code, vt_i271_7) = true := by sorry
theorem vt_o271_8 : vt_chk (prog_14_method_88_code, vt_i271_8) = true := by sorry
theorem vt_o271_9 : vt_chk (prog_14_method_88_code, vt_i271_9) = true := by sorry
theorem vt_o271_10 : vt_chk (prog_14_method_88_code, vt_i271_10) = true := by sorry
theorem vt_o271 : vt_chk (prog_14_method_88_code, vt_i271) = true := (vt_app vt_o271_0 (vt_app vt_o271_1 (vt_app vt_o271_2 (vt_app vt_o271_3 (vt_app vt_o271_4 (vt_app vt_o271_5 (vt_app vt_o271_6 (vt_app vt_o271_7 (vt_app vt_o271_8 (vt_app vt_o271_9 vt_o271_10))))))))))
-- 272: VitalTwinModel.indexOf (IJI)I
def vt_i272 : List (Nat × Instr × Nat) := [(0, .iload_n 1, 1), (1, .iconst 1, 1), (2, .if_icmp .ne 15, 3), (5, .lload_n 2, 1), (6, .ldc2_w 571, 3), (9, .lrem, 1), (10, .lconst 0, 1), (11, .lcmp, 1), (12, .ifCond .eq 5, 3), (15, .iconst (-1), 1), (16, .ireturn, 1), (17, .iload_n 1, 1), (18, .iconst 1, 1), (19, .if_icmp .ne 11, 3), (22, .lload_n 2, 1), (23, .ldc2_w 571, 3), (26, .ldiv, 1), (27, .goto 4, 3), (30, .lload_n 2, 1), (31, .lstore 5, 2), (33, .lload 5, 2), (35, .lconst 0, 1), (36, .lcmp, 1), (37, .ifCond .lt 12, 3), (40, .lload 5, 2), (42, .iload 4, 2), (44, .i2l, 1), (45, .lcmp, 1), (46, .ifCond .lt 7, 3), (49, .iconst (-1), 1), (50, .goto 6, 3), (53, .lload 5, 2), (55, .l2i, 1), (56, .ireturn, 1)]
theorem vt_o272 : vt_chk (prog_14_method_86_code, vt_i272) = true := by sorry
-- 273: VitalTwinModel.truth (IZ)J
def vt_i273 : List (Nat × Instr × Nat) := [(0, .iload_n 2, 1), (1, .ifCond .ne 7, 3), (4, .lconst 0, 1), (5, .goto 14, 3), (8, .iload_n 1, 1), (9, .ifCond .ne 7, 3), (12, .lconst 1, 1), (13, .goto 6, 3), (16, .ldc2_w 571, 3), (19, .lreturn, 1)]
theorem vt_o273 : vt_chk (prog_14_method_87_code, vt_i273) = true := by sorry
-- 274: VitalTwinModel.latch (I)V
def vt_i274 : List (Nat × Instr × Nat) := [(0, .aload_n 0, 1), (1, .iload_n 1, 1), (2, .putfield 585, 3), (5, .aload_n 0, 1), (6, .invokevirtual 597, 3), (9, .return_, 1)]
theorem vt_o274 : vt_chk (prog_14_method_81_code, vt_i274) = true := by sorry
-- 275: VitalTwinModel.through ()V
def vt_i275 : List (Nat × Instr × Nat) := [(0, .aload_n 0, 1), (1, .iconst 0, 1), (2, .putfield 573, 3), (5, .aload_n 0, 1), (6, .iconst 0, 1), (7, .putfield 579, 3), (10, .aload_n 0, 1), (11, .iconst 0, 1), (12, .putfield 582, 3), (15, .aload_n 0, 1), (16, .iconst 0, 1), (17, .putfield 594, 3), (20, .aload_n 0, 1), (21, .getfield 386, 3), (24, .iconst 0, 1), (25, .iconst 0, 1), (26, .iastore, 1), (27, .aload_n 0, 1), (28, .getfield 386, 3), (31, .iconst 1, 1), (32, .iconst 0, 1), (33, .iastore, 1), (34, .return_, 1)]
theorem vt_o275 : vt_chk (prog_14_method_82_code, vt_i275) = true := by sorry
-- 276: VitalTwinModel.gate ()V
def vt_i276_0 : List (Nat × Instr × Nat) := [(0, .aload_n 0, 1), (1, .invokevirtual 610, 3), (4, .ifCond .ne 9, 3), (7, .aload_n 0, 1), (8, .iconst 3, 1), (9, .invokevirtual 614, 3), (12, .return_, 1), (13, .sipush 4096, 3), (16, .aload_n 0, 1), (17, .getfield 588, 3), (20, .bipush 16, 2), (22, .irem, 1), (23, .imul, 1), (24, .istore_n 1, 1), (25, .iconst 0, 1), (26, .istore_n 2, 1), (27, .iload_n 2, 1), (28, .aload_n 0, 1), (29, .getfield 86, 3), (32, .if_icmp .ge 63, 3), (35, .aload_n 0, 1), (36, .getfield 99, 3), (39, .iload_n 2, 1), (40, .iaload, 1), (41, .iconst 2, 1), (42, .if_icmp .eq 6, 3), (45, .goto 44, 3), (48, .iconst 0, 1), (49, .istore_n 3, 1), (50, .iload_n 3, 1), (51, .aload_n 0, 1), (52, .getfield 114, 3), (55, .iload_n 2, 1), (56, .iaload, 1), (57, .if_icmp .ge 32, 3), (60, .aload_n 0, 1), (61, .getfield 392, 3), (64, .iload_n 1, 1), (65, .aload_n 0, 1), (66, .getfield 374, 3), (69, .aload_n 0, 1), (70, .getfield 111, 3), (73, .iload_n 2, 1), (74, .iaload, 1), (75, .iload_n 3, 1), (76, .iadd, 1), (77, .laload, 1), (78, .l2i, 1), (79, .iastore, 1), (80, .iinc 1 1, 3), (83, .iinc 3 1, 3), (86, .goto (-36), 3), (89, .iinc 2 1, 3), (92, .goto (-65), 3), (95, .aload_n 0, 1), (96, .dup, 1), (97, .getfield 588, 3), (100, .iconst 1, 1), (101, .iadd, 1), (102, .putfield 588, 3)]
def vt_i276_1 : List (Nat × Instr × Nat) := [(105, .aload_n 0, 1), (106, .invokevirtual 597, 3), (109, .return_, 1)]
def vt_i276 : List (Nat × Instr × Nat) := vt_i276_0 ++ (vt_i276_1)
theorem vt_o276_0 : vt_chk (prog_14_method_90_code, vt_i276_0) = true := by sorry
theorem vt_o276_1 : vt_chk (prog_14_method_90_code, vt_i276_1) = true := by sorry
theorem vt_o276 : vt_chk (prog_14_method_90_code, vt_i276) = true := (vt_app vt_o276_0 vt_o276_1)
-- 277: VitalTwinModel.agree ()Z
def vt_i277_0 : List (Nat × Instr × Nat) := [(0, .iconst 0, 1), (1, .istore_n 1, 1), (2, .iload_n 1, 1), (3, .aload_n 0, 1), (4, .getfield 86, 3), (7, .if_icmp .ge 106, 3), (10, .aload_n 0, 1), (11, .getfield 99, 3), (14, .iload_n 1, 1), (15, .iaload, 1), (16, .iconst 2, 1), (17, .if_icmp .eq 6, 3), (20, .goto 87, 3), (23, .iconst 0, 1), (24, .istore_n 2, 1), (25, .iload_n 2, 1), (26, .aload_n 0, 1), (27, .getfield 114, 3), (30, .iload_n 1, 1), (31, .iaload, 1), (32, .if_icmp .ge 75, 3), (35, .aload_n 0, 1), (36, .getfield 374, 3), (39, .aload_n 0, 1), (40, .getfield 111, 3), (43, .iload_n 1, 1), (44, .iaload, 1), (45, .iload_n 2, 1), (46, .iadd, 1), (47, .laload, 1), (48, .lstore_n 3, 1), (49, .lload_n 3, 1), (50, .aload_n 0, 1), (51, .getfield 105, 3), (54, .iload_n 1, 1), (55, .iaload, 1), (56, .i2l, 1), (57, .lcmp, 1), (58, .ifCond .lt 41, 3), (61, .lload_n 3, 1), (62, .aload_n 0, 1), (63, .getfield 108, 3), (66, .iload_n 1, 1), (67, .iaload, 1), (68, .i2l, 1), (69, .lcmp, 1), (70, .ifCond .gt 29, 3), (73, .aload_n 0, 1), (74, .getfield 374, 3), (77, .sipush 4096, 3), (80, .aload_n 0, 1), (81, .getfield 111, 3), (84, .iload_n 1, 1), (85, .iaload, 1), (86, .iadd, 1), (87, .iload_n 2, 1), (88, .iadd, 1), (89, .laload, 1), (90, .ldc2_w 571, 3), (93, .lload_n 3, 1)]
def vt_i277_1 : List (Nat × Instr × Nat) := [(94, .lmul, 1), (95, .lcmp, 1), (96, .ifCond .eq 5, 3), (99, .iconst 0, 1), (100, .ireturn, 1), (101, .iinc 2 1, 3), (104, .goto (-79), 3), (107, .iinc 1 1, 3), (110, .goto (-108), 3), (113, .iconst 1, 1), (114, .ireturn, 1)]
def vt_i277 : List (Nat × Instr × Nat) := vt_i277_0 ++ (vt_i277_1)
theorem vt_o277_0 : vt_chk (prog_14_method_89_code, vt_i277_0) = true := by sorry
theorem vt_o277_1 : vt_chk (prog_14_method_89_code, vt_i277_1) = true := by sorry
theorem vt_o277 : vt_chk (prog_14_method_89_code, vt_i277) = true := (vt_app vt_o277_0 vt_o277_1)
-- 278: VitalTwinModel.cycle ()I
def vt_i278 : List (Nat × Instr × Nat) := [(0, .aload_n 0, 1), (1, .aload_n 0, 1), (2, .getfield 464, 3), (5, .ifCond .eq 7, 3), (8, .iconst 0, 1), (9, .goto 4, 3), (12, .iconst 1, 1), (13, .putfield 3, 3), (16, .aload_n 0, 1), (17, .getfield 3, 3), (20, .ifCond .gt 10, 3), (23, .aload_n 0, 1), (24, .getfield 585, 3), (27, .ifCond .le 5, 3), (30, .iconst 0, 1), (31, .ireturn, 1), (32, .aload_n 0, 1), (33, .invokevirtual 634, 3), (36, .aload_n 0, 1), (37, .getfield 585, 3), (40, .ifCond .le 7, 3), (43, .iconst 0, 1), (44, .goto 4, 3), (47, .iconst 1, 1), (48, .ireturn, 1)]
theorem vt_o278 : vt_chk (prog_14_method_93_code, vt_i278) = true := by sorry
-- 279: VitalTwinModel.whole ()V
def vt_i279 : List (Nat × Instr × Nat) := [(0, .aload_n 0, 1), (1, .getfield 573, 3), (4, .ifCond .ne 7, 3), (7, .aload_n 0, 1), (8, .invokevirtual 628, 3), (11, .aload_n 0, 1), (12, .getfield 573, 3), (15, .ifCond .le 10, 3), (18, .aload_n 0, 1), (19, .invokevirtual 631, 3), (22, .goto (-11), 3), (25, .return_, 1)]
theorem vt_o279 : vt_chk (prog_14_method_94_code, vt_i279) = true := by sorry
-- 280: VitalTwinModel.input (II)Z
def vt_i280 : List (Nat × Instr × Nat) := [(0, .aload_n 0, 1), (1, .iconst 0, 1), (2, .putfield 3, 3), (5, .aload_n 0, 1), (6, .getfield 464, 3), (9, .ifCond .eq 23, 3), (12, .aload_n 0, 1), (13, .getfield 573, 3), (16, .ifCond .ne 16, 3), (19, .iload_n 1, 1), (20, .ifCond .lt 12, 3), (23, .aload_n 0, 1), (24, .iconst 1, 1), (25, .iload_n 1, 1), (26, .invokevirtual 640, 3), (29, .goto 4, 3), (32, .iconst (-1), 1), (33, .istore_n 3, 1), (34, .iload_n 3, 1), (35, .ifCond .lt 23, 3), (38, .iload_n 2, 1), (39, .aload_n 0, 1), (40, .getfield 105, 3), (43, .iload_n 3, 1), (44, .iaload, 1), (45, .if_icmp .lt 13, 3), (48, .iload_n 2, 1), (49, .aload_n 0, 1), (50, .getfield 108, 3), (53, .iload_n 3, 1), (54, .iaload, 1), (55, .if_icmp .le 5, 3), (58, .iconst 0, 1), (59, .ireturn, 1), (60, .aload_n 0, 1), (61, .getfield 389, 3), (64, .iload_n 1, 1), (65, .iload_n 2, 1), (66, .iastore, 1), (67, .iconst 1, 1), (68, .ireturn, 1)]
theorem vt_o280 : vt_chk (prog_14_method_96_code, vt_i280) = true := by sorry
-- 281: VitalTwinModel.symbolAt (II)I
def vt_i281 : List (Nat × Instr × Nat) := [(0, .iload_n 2, 1), (1, .istore_n 3, 1), (2, .iconst 0, 1), (3, .istore 4, 2), (5, .iload 4, 2), (7, .aload_n 0, 1), (8, .getfield 86, 3), (11, .if_icmp .ge 56, 3), (14, .iload_n 3, 1), (15, .ifCond .lt 52, 3), (18, .aload_n 0, 1), (19, .getfield 99, 3), (22, .iload 4, 2), (24, .iaload, 1), (25, .iload_n 1, 1), (26, .if_icmp .eq 6, 3), (29, .goto 32, 3), (32, .iload_n 3, 1), (33, .aload_n 0, 1), (34, .getfield 114, 3), (37, .iload 4, 2), (39, .iaload, 1), (40, .if_icmp .ge 11, 3), (43, .aload_n 0, 1), (44, .iload_n 3, 1), (45, .putfield 637, 3), (48, .iload 4, 2), (50, .ireturn, 1), (51, .iload_n 3, 1), (52, .aload_n 0, 1), (53, .getfield 114, 3), (56, .iload 4, 2), (58, .iaload, 1), (59, .isub, 1), (60, .istore_n 3, 1), (61, .iinc 4 1, 3), (64, .goto (-59), 3), (67, .iconst (-1), 1), (68, .ireturn, 1)]
theorem vt_o281 : vt_chk (prog_14_method_95_code, vt_i281) = true := by sorry
-- 282: VitalTwinModel.output (I)I
def vt_i282 : List (Nat × Instr × Nat) := [(0, .aload_n 0, 1), (1, .getfield 464, 3), (4, .ifCond .eq 16, 3), (7, .iload_n 1, 1), (8, .ifCond .lt 12, 3), (11, .aload_n 0, 1), (12, .iconst 2, 1), (13, .iload_n 1, 1), (14, .invokevirtual 640, 3), (17, .goto 4, 3), (20, .iconst (-1), 1), (21, .istore_n 2, 1), (22, .aload_n 0, 1), (23, .iload_n 2, 1), (24, .ifCond .ge 7, 3), (27, .iconst 1, 1), (28, .goto 4, 3), (31, .iconst 0, 1), (32, .putfield 3, 3), (35, .aload_n 0, 1), (36, .getfield 3, 3), (39, .ifCond .le 5, 3), (42, .iconst 0, 1), (43, .ireturn, 1), (44, .aload_n 0, 1), (45, .getfield 585, 3), (48, .ifCond .gt 10, 3), (51, .aload_n 0, 1), (52, .getfield 588, 3), (55, .ifCond .ne 12, 3), (58, .aload_n 0, 1), (59, .getfield 126, 3), (62, .iload_n 2, 1), (63, .iaload, 1), (64, .goto 23, 3), (67, .aload_n 0, 1), (68, .getfield 392, 3), (71, .sipush 4096, 3), (74, .aload_n 0, 1), (75, .getfield 588, 3), (78, .iconst 1, 1), (79, .isub, 1), (80, .bipush 16, 2), (82, .irem, 1), (83, .imul, 1), (84, .iload_n 1, 1), (85, .iadd, 1), (86, .iaload, 1), (87, .ireturn, 1)]
theorem vt_o282 : vt_chk (prog_14_method_97_code, vt_i282) = true := by sorry
-- 283: VitalTwinModel.past (II)I
def vt_i283 : List (Nat × Instr × Nat) := [(0, .aload_n 0, 1), (1, .getfield 464, 3), (4, .ifCond .eq 37, 3), (7, .iload_n 2, 1), (8, .ifCond .lt 33, 3), (11, .iload_n 2, 1), (12, .aload_n 0, 1), (13, .getfield 443, 3), (16, .if_icmp .ge 25, 3), (19, .iload_n 1, 1), (20, .ifCond .lt 21, 3), (23, .iload_n 1, 1), (24, .bipush 16, 2), (26, .if_icmp .ge 15, 3), (29, .iload_n 1, 1), (30, .aload_n 0, 1), (31, .getfield 588, 3), (34, .if_icmp .ge 7, 3), (37, .iconst 1, 1), (38, .goto 4, 3), (41, .iconst 0, 1), (42, .istore_n 3, 1), (43, .aload_n 0, 1), (44, .iload_n 3, 1), (45, .ifCond .eq 7, 3), (48, .iconst 0, 1), (49, .goto 4, 3), (52, .iconst 1, 1), (53, .putfield 3, 3), (56, .iload_n 3, 1), (57, .ifCond .eq 28, 3), (60, .aload_n 0, 1), (61, .getfield 392, 3), (64, .sipush 4096, 3), (67, .aload_n 0, 1), (68, .getfield 588, 3), (71, .iconst 1, 1), (72, .isub, 1), (73, .iload_n 1, 1), (74, .isub, 1), (75, .bipush 16, 2), (77, .irem, 1), (78, .imul, 1), (79, .iload_n 2, 1), (80, .iadd, 1), (81, .iaload, 1), (82, .goto 4, 3), (85, .iconst 0, 1), (86, .ireturn, 1)]
theorem vt_o283 : vt_chk (prog_14_method_98_code, vt_i283) = true := by sorry
-- 284: VitalTwinModel.cell (II)J
def vt_i284 : List (Nat × Instr × Nat) := [(0, .aload_n 0, 1), (1, .getfield 464, 3), (4, .ifCond .eq 28, 3), (7, .iload_n 1, 1), (8, .ifCond .lt 24, 3), (11, .iload_n 1, 1), (12, .iconst 2, 1), (13, .if_icmp .ge 19, 3), (16, .iload_n 2, 1), (17, .ifCond .lt 15, 3), (20, .iload_n 2, 1), (21, .aload_n 0, 1), (22, .getfield 437, 3), (25, .if_icmp .ge 7, 3), (28, .iconst 1, 1), (29, .goto 4, 3), (32, .iconst 0, 1), (33, .istore_n 3, 1), (34, .aload_n 0, 1), (35, .iload_n 3, 1), (36, .ifCond .eq 7, 3), (39, .iconst 0, 1), (40, .goto 4, 3), (43, .iconst 1, 1), (44, .putfield 3, 3), (47, .iload_n 3, 1), (48, .ifCond .eq 18, 3), (51, .aload_n 0, 1), (52, .getfield 374, 3), (55, .sipush 4096, 3), (58, .iload_n 1, 1), (59, .imul, 1), (60, .iload_n 2, 1), (61, .iadd, 1), (62, .laload, 1), (63, .goto 4, 3), (66, .lconst 0, 1), (67, .lreturn, 1)]
theorem vt_o284 : vt_chk (prog_14_method_99_code, vt_i284) = true := by sorry
-- 285: VitalTwinModel.register (II)J
def vt_i285_0 : List (Nat × Instr × Nat) := [(0, .aload_n 0, 1), (1, .iload_n 1, 1), (2, .ifCond .lt 17, 3), (5, .iload_n 1, 1), (6, .iconst 1, 1), (7, .if_icmp .gt 12, 3), (10, .iload_n 2, 1), (11, .ifCond .lt 8, 3), (14, .iload_n 2, 1), (15, .iconst 3, 1), (16, .if_icmp .le 7, 3), (19, .iconst 1, 1), (20, .goto 4, 3), (23, .iconst 0, 1), (24, .putfield 3, 3), (27, .aload_n 0, 1), (28, .getfield 3, 3), (31, .ifCond .le 5, 3), (34, .lconst 0, 1), (35, .lreturn, 1), (36, .aload_n 0, 1), (37, .getfield 573, 3), (40, .iload_n 1, 1), (41, .iconst 1, 1), (42, .iadd, 1), (43, .if_icmp .ne 7, 3), (46, .iconst 1, 1), (47, .goto 4, 3), (50, .iconst 0, 1), (51, .istore_n 3, 1), (52, .iload_n 2, 1), (53, .ifCond .ne 12, 3), (56, .aload_n 0, 1), (57, .getfield 377, 3), (60, .iload_n 1, 1), (61, .laload, 1), (62, .goto 55, 3), (65, .iload_n 2, 1), (66, .iconst 1, 1), (67, .if_icmp .ne 12, 3), (70, .aload_n 0, 1), (71, .getfield 380, 3), (74, .iload_n 1, 1), (75, .laload, 1), (76, .goto 41, 3), (79, .iload_n 2, 1), (80, .iconst 2, 1), (81, .if_icmp .ne 21, 3), (84, .iload_n 3, 1), (85, .ifCond .eq 11, 3), (88, .aload_n 0, 1), (89, .getfield 576, 3), (92, .i2l, 1), (93, .goto 24, 3), (96, .ldc2_w 643, 3), (99, .goto 18, 3), (102, .iload_n 3, 1), (103, .ifCond .eq 13, 3), (106, .aload_n 0, 1), (107, .getfield 386, 3)]
def vt_i285_1 : List (Nat × Instr × Nat) := [(110, .iload_n 1, 1), (111, .iaload, 1), (112, .i2l, 1), (113, .goto 4, 3), (116, .lconst 0, 1), (117, .lreturn, 1)]
def vt_i285 : List (Nat × Instr × Nat) := vt_i285_0 ++ (vt_i285_1)
theorem vt_o285_0 : vt_chk (prog_14_method_100_code, vt_i285_0) = true := by sorry
theorem vt_o285_1 : vt_chk (prog_14_method_100_code, vt_i285_1) = true := by sorry
theorem vt_o285 : vt_chk (prog_14_method_100_code, vt_i285) = true := (vt_app vt_o285_0 vt_o285_1)
-- 286: VitalTwinModel.flip (IIII)Z
def vt_i286_0 : List (Nat × Instr × Nat) := [(0, .aload_n 0, 1), (1, .iconst 0, 1), (2, .putfield 3, 3), (5, .aload_n 0, 1), (6, .iload_n 1, 1), (7, .iload_n 2, 1), (8, .invokevirtual 645, 3), (11, .ifCond .eq 49, 3), (14, .iload_n 3, 1), (15, .ifCond .lt 45, 3), (18, .iload_n 3, 1), (19, .bipush 63, 2), (21, .if_icmp .gt 39, 3), (24, .aload_n 0, 1), (25, .getfield 585, 3), (28, .ifCond .gt 32, 3), (31, .aload_n 0, 1), (32, .getfield 594, 3), (35, .bipush 8, 2), (37, .if_icmp .eq 23, 3), (40, .iload 4, 2), (42, .aload_n 0, 1), (43, .getfield 573, 3), (46, .ifCond .le 10, 3), (49, .aload_n 0, 1), (50, .getfield 579, 3), (53, .goto 4, 3), (56, .iconst 0, 1), (57, .if_icmp .ge 5, 3), (60, .iconst 0, 1), (61, .ireturn, 1), (62, .aload_n 0, 1), (63, .getfield 395, 3), (66, .aload_n 0, 1), (67, .getfield 594, 3), (70, .iload_n 1, 1), (71, .iastore, 1), (72, .aload_n 0, 1), (73, .getfield 398, 3), (76, .aload_n 0, 1), (77, .getfield 594, 3), (80, .iload_n 2, 1), (81, .iastore, 1), (82, .aload_n 0, 1), (83, .getfield 401, 3), (86, .aload_n 0, 1), (87, .getfield 594, 3), (90, .iload_n 3, 1), (91, .iastore, 1), (92, .aload_n 0, 1), (93, .getfield 404, 3), (96, .aload_n 0, 1), (97, .getfield 594, 3), (100, .iload 4, 2), (102, .iastore, 1), (103, .aload_n 0, 1), (104, .dup, 1), (105, .getfield 594, 3), (108, .iconst 1, 1), (109, .iadd, 1)]
def vt_i286_1 : List (Nat × Instr × Nat) := [(110, .putfield 594, 3), (113, .iconst 1, 1), (114, .ireturn, 1)]
def vt_i286 : List (Nat × Instr × Nat) := vt_i286_0 ++ (vt_i286_1)
theorem vt_o286_0 : vt_chk (prog_14_method_102_code, vt_i286_0) = true := by sorry
theorem vt_o286_1 : vt_chk (prog_14_method_102_code, vt_i286_1) = true := by sorry
theorem vt_o286 : vt_chk (prog_14_method_102_code, vt_i286) = true := (vt_app vt_o286_0 vt_o286_1)
-- 287: VitalTwinModel.isPlace (II)Z
def vt_i287 : List (Nat × Instr × Nat) := [(0, .aload_n 0, 1), (1, .getfield 464, 3), (4, .ifCond .eq 30, 3), (7, .iload_n 1, 1), (8, .ifCond .lt 26, 3), (11, .iload_n 1, 1), (12, .iconst 2, 1), (13, .if_icmp .ge 21, 3), (16, .iload_n 2, 1), (17, .bipush (-2), 2), (19, .if_icmp .lt 15, 3), (22, .iload_n 2, 1), (23, .aload_n 0, 1), (24, .getfield 437, 3), (27, .if_icmp .ge 7, 3), (30, .iconst 1, 1), (31, .goto 4, 3), (34, .iconst 0, 1), (35, .ireturn, 1)]
theorem vt_o287 : vt_chk (prog_14_method_101_code, vt_i287) = true := by sorry
-- 288: VitalTwinModel.power ()Z
def vt_i288 : List (Nat × Instr × Nat) := [(0, .aload_n 0, 1), (1, .iconst 0, 1), (2, .putfield 3, 3), (5, .aload_n 0, 1), (6, .getfield 464, 3), (9, .ifCond .eq 7, 3), (12, .aload_n 0, 1), (13, .invokevirtual 471, 3), (16, .aload_n 0, 1), (17, .getfield 464, 3), (20, .ireturn, 1)]
theorem vt_o288 : vt_chk (prog_14_method_103_code, vt_i288) = true := by sorry
-- 289: VitalTwinModel.probe (IIII)I
def vt_i289_0 : List (Nat × Instr × Nat) := [(0, .aload_n 0, 1), (1, .iconst 0, 1), (2, .putfield 3, 3), (5, .aload_n 0, 1), (6, .iload_n 1, 1), (7, .iload_n 2, 1), (8, .invokevirtual 645, 3), (11, .ifCond .eq 39, 3), (14, .aload_n 0, 1), (15, .getfield 573, 3), (18, .ifCond .gt 32, 3), (21, .aload_n 0, 1), (22, .getfield 585, 3), (25, .ifCond .gt 25, 3), (28, .aload_n 0, 1), (29, .getfield 594, 3), (32, .ifCond .gt 18, 3), (35, .iload_n 3, 1), (36, .ifCond .lt 14, 3), (39, .iload 4, 2), (41, .ifCond .lt 9, 3), (44, .iload 4, 2), (46, .iconst 4, 1), (47, .if_icmp .le 5, 3), (50, .iconst (-1), 1), (51, .ireturn, 1), (52, .aload_n 0, 1), (53, .getfield 588, 3), (56, .istore 5, 2), (58, .aload_n 0, 1), (59, .getfield 591, 3), (62, .istore 6, 2), (64, .sipush 4096, 3), (67, .aload_n 0, 1), (68, .getfield 588, 3), (71, .bipush 16, 2), (73, .irem, 1), (74, .imul, 1), (75, .istore 7, 2), (77, .aload_n 0, 1), (78, .invokevirtual 649, 3), (81, .iconst 0, 1), (82, .istore 8, 2), (84, .iload 8, 2), (86, .aload_n 0, 1), (87, .getfield 443, 3), (90, .if_icmp .ge 26, 3), (93, .aload_n 0, 1), (94, .getfield 413, 3), (97, .iload 8, 2), (99, .aload_n 0, 1), (100, .getfield 392, 3), (103, .iload 7, 2), (105, .iload 8, 2), (107, .iadd, 1), (108, .iaload, 1), (109, .iastore, 1), (110, .iinc 8 1, 3), (113, .goto (-29), 3), (116, .aload_n 0, 1)]
def vt_i289_1 : List (Nat × Instr × Nat) := [(117, .invokevirtual 634, 3), (120, .aload_n 0, 1), (121, .getfield 585, 3), (124, .ifCond .ne 7, 3), (127, .iconst 1, 1), (128, .goto 4, 3), (131, .iconst 0, 1), (132, .istore 8, 2), (134, .iconst 0, 1), (135, .istore 9, 2), (137, .iload 9, 2), (139, .aload_n 0, 1), (140, .getfield 443, 3), (143, .if_icmp .ge 26, 3), (146, .aload_n 0, 1), (147, .getfield 410, 3), (150, .iload 9, 2), (152, .aload_n 0, 1), (153, .getfield 392, 3), (156, .iload 7, 2), (158, .iload 9, 2), (160, .iadd, 1), (161, .iaload, 1), (162, .iastore, 1), (163, .iinc 9 1, 3), (166, .goto (-29), 3), (169, .aload_n 0, 1), (170, .iload 5, 2), (172, .iload 6, 2), (174, .invokevirtual 652, 3), (177, .iconst 0, 1), (178, .istore 9, 2), (180, .iconst 0, 1), (181, .istore 10, 2), (183, .iload 10, 2), (185, .bipush 64, 2), (187, .if_icmp .ge 125, 3), (190, .iload 8, 2), (192, .ifCond .eq 120, 3), (195, .aload_n 0, 1), (196, .iload_n 1, 1), (197, .iload_n 2, 1), (198, .iload 10, 2), (200, .iload_n 3, 1), (201, .invokevirtual 655, 3), (204, .pop, 1), (205, .aload_n 0, 1), (206, .invokevirtual 634, 3), (209, .aload_n 0, 1), (210, .getfield 585, 3), (213, .istore 11, 2), (215, .iconst 1, 1), (216, .istore 12, 2), (218, .iconst 0, 1), (219, .istore 13, 2), (221, .iload 13, 2), (223, .aload_n 0, 1), (224, .getfield 443, 3), (227, .if_icmp .ge 41, 3), (230, .iload 12, 2)]
def vt_i289_2 : List (Nat × Instr × Nat) := [(232, .ifCond .eq 27, 3), (235, .aload_n 0, 1), (236, .getfield 392, 3), (239, .iload 7, 2), (241, .iload 13, 2), (243, .iadd, 1), (244, .iaload, 1), (245, .aload_n 0, 1), (246, .getfield 410, 3), (249, .iload 13, 2), (251, .iaload, 1), (252, .if_icmp .ne 7, 3), (255, .iconst 1, 1), (256, .goto 4, 3), (259, .iconst 0, 1), (260, .istore 12, 2), (262, .iinc 13 1, 3), (265, .goto (-44), 3), (268, .iload 11, 2), (270, .ifCond .ne 11, 3), (273, .iload 12, 2), (275, .ifCond .ne 6, 3), (278, .iconst 4, 1), (279, .istore 11, 2), (281, .iload 9, 2), (283, .iload 11, 2), (285, .iload 4, 2), (287, .if_icmp .ne 7, 3), (290, .iconst 1, 1), (291, .goto 4, 3), (294, .iconst 0, 1), (295, .iadd, 1), (296, .istore 9, 2), (298, .aload_n 0, 1), (299, .iload 5, 2), (301, .iload 6, 2), (303, .invokevirtual 652, 3), (306, .iinc 10 1, 3), (309, .goto (-126), 3), (312, .iconst 0, 1), (313, .istore 10, 2), (315, .iload 10, 2), (317, .aload_n 0, 1), (318, .getfield 443, 3), (321, .if_icmp .ge 26, 3), (324, .aload_n 0, 1), (325, .getfield 392, 3), (328, .iload 7, 2), (330, .iload 10, 2), (332, .iadd, 1), (333, .aload_n 0, 1), (334, .getfield 413, 3), (337, .iload 10, 2), (339, .iaload, 1), (340, .iastore, 1), (341, .iinc 10 1, 3), (344, .goto (-29), 3), (347, .iload 8, 2), (349, .ifCond .eq 8, 3), (352, .iload 9, 2)]
def vt_i289_3 : List (Nat × Instr × Nat) := [(354, .goto 4, 3), (357, .iconst (-1), 1), (358, .ireturn, 1)]
def vt_i289 : List (Nat × Instr × Nat) := vt_i289_0 ++ (vt_i289_1 ++ (vt_i289_2 ++ (vt_i289_3)))
theorem vt_o289_0 : vt_chk (prog_14_method_106_code, vt_i289_0) = true := by sorry
theorem vt_o289_1 : vt_chk (prog_14_method_106_code, vt_i289_1) = true := by sorry
theorem vt_o289_2 : vt_chk (prog_14_method_106_code, vt_i289_2) = true := by sorry
theorem vt_o289_3 : vt_chk (prog_14_method_106_code, vt_i289_3) = true := by sorry
theorem vt_o289 : vt_chk (prog_14_method_106_code, vt_i289) = true := (vt_app vt_o289_0 (vt_app vt_o289_1 (vt_app vt_o289_2 vt_o289_3)))
-- 290: VitalTwinModel.keepAll ()V
def vt_i290 : List (Nat × Instr × Nat) := [(0, .iconst 0, 1), (1, .istore_n 1, 1), (2, .iload_n 1, 1), (3, .sipush 8192, 3), (6, .if_icmp .ge 21, 3), (9, .aload_n 0, 1), (10, .getfield 407, 3), (13, .iload_n 1, 1), (14, .aload_n 0, 1), (15, .getfield 374, 3), (18, .iload_n 1, 1), (19, .laload, 1), (20, .lastore, 1), (21, .iinc 1 1, 3), (24, .goto (-22), 3), (27, .iconst 0, 1), (28, .istore_n 1, 1), (29, .iload_n 1, 1), (30, .iconst 2, 1), (31, .if_icmp .ge 41, 3), (34, .aload_n 0, 1), (35, .getfield 407, 3), (38, .sipush 8192, 3), (41, .iload_n 1, 1), (42, .iadd, 1), (43, .aload_n 0, 1), (44, .getfield 377, 3), (47, .iload_n 1, 1), (48, .laload, 1), (49, .lastore, 1), (50, .aload_n 0, 1), (51, .getfield 407, 3), (54, .sipush 8194, 3), (57, .iload_n 1, 1), (58, .iadd, 1), (59, .aload_n 0, 1), (60, .getfield 380, 3), (63, .iload_n 1, 1), (64, .laload, 1), (65, .lastore, 1), (66, .iinc 1 1, 3), (69, .goto (-40), 3), (72, .return_, 1)]
theorem vt_o290 : vt_chk (prog_14_method_104_code, vt_i290) = true := by sorry
-- 291: VitalTwinModel.bringAll (II)V
def vt_i291 : List (Nat × Instr × Nat) := [(0, .iconst 0, 1), (1, .istore_n 3, 1), (2, .iload_n 3, 1), (3, .sipush 8192, 3), (6, .if_icmp .ge 21, 3), (9, .aload_n 0, 1), (10, .getfield 374, 3), (13, .iload_n 3, 1), (14, .aload_n 0, 1), (15, .getfield 407, 3), (18, .iload_n 3, 1), (19, .laload, 1), (20, .lastore, 1), (21, .iinc 3 1, 3), (24, .goto (-22), 3), (27, .iconst 0, 1), (28, .istore_n 3, 1), (29, .iload_n 3, 1), (30, .iconst 2, 1), (31, .if_icmp .ge 41, 3), (34, .aload_n 0, 1), (35, .getfield 377, 3), (38, .iload_n 3, 1), (39, .aload_n 0, 1), (40, .getfield 407, 3), (43, .sipush 8192, 3), (46, .iload_n 3, 1), (47, .iadd, 1), (48, .laload, 1), (49, .lastore, 1), (50, .aload_n 0, 1), (51, .getfield 380, 3), (54, .iload_n 3, 1), (55, .aload_n 0, 1), (56, .getfield 407, 3), (59, .sipush 8194, 3), (62, .iload_n 3, 1), (63, .iadd, 1), (64, .laload, 1), (65, .lastore, 1), (66, .iinc 3 1, 3), (69, .goto (-40), 3), (72, .aload_n 0, 1), (73, .invokevirtual 597, 3), (76, .aload_n 0, 1), (77, .iconst 0, 1), (78, .putfield 585, 3), (81, .aload_n 0, 1), (82, .iload_n 1, 1), (83, .putfield 588, 3), (86, .aload_n 0, 1), (87, .iload_n 2, 1), (88, .putfield 591, 3), (91, .return_, 1)]
theorem vt_o291 : vt_chk (prog_14_method_105_code, vt_i291) = true := by sorry
-- 292: VitalTwinModel.symbol (II)I
def vt_i292 : List (Nat × Instr × Nat) := [(0, .aload_n 0, 1), (1, .iconst 0, 1), (2, .putfield 3, 3), (5, .iload_n 1, 1), (6, .ifCond .lt 11, 3), (9, .iload_n 1, 1), (10, .aload_n 0, 1), (11, .getfield 86, 3), (14, .if_icmp .lt 5, 3), (17, .iconst (-1), 1), (18, .ireturn, 1), (19, .iload_n 2, 1), (20, .tableswitch 115 0 8 #[52, 59, 66, 73, 80, 87, 94, 101, 108], 52), (72, .aload_n 0, 1), (73, .getfield 99, 3), (76, .iload_n 1, 1), (77, .iaload, 1), (78, .ireturn, 1), (79, .aload_n 0, 1), (80, .getfield 102, 3), (83, .iload_n 1, 1), (84, .iaload, 1), (85, .ireturn, 1), (86, .aload_n 0, 1), (87, .getfield 105, 3), (90, .iload_n 1, 1), (91, .iaload, 1), (92, .ireturn, 1), (93, .aload_n 0, 1), (94, .getfield 108, 3), (97, .iload_n 1, 1), (98, .iaload, 1), (99, .ireturn, 1), (100, .aload_n 0, 1), (101, .getfield 111, 3), (104, .iload_n 1, 1), (105, .iaload, 1), (106, .ireturn, 1), (107, .aload_n 0, 1), (108, .getfield 114, 3), (111, .iload_n 1, 1), (112, .iaload, 1), (113, .ireturn, 1), (114, .aload_n 0, 1), (115, .getfield 120, 3), (118, .iload_n 1, 1), (119, .iaload, 1), (120, .ireturn, 1), (121, .aload_n 0, 1), (122, .getfield 126, 3), (125, .iload_n 1, 1), (126, .iaload, 1), (127, .ireturn, 1), (128, .aload_n 0, 1), (129, .getfield 129, 3), (132, .iload_n 1, 1), (133, .iaload, 1), (134, .ireturn, 1), (135, .iconst (-1), 1), (136, .ireturn, 1)]
theorem vt_o292 : vt_chk (prog_14_method_107_code, vt_i292) = true := by sorry
-- 293: VitalTwinModel.name (II)I
def vt_i293 : List (Nat × Instr × Nat) := [(0, .aload_n 0, 1), (1, .iconst 0, 1), (2, .putfield 3, 3), (5, .iload_n 1, 1), (6, .ifCond .lt 25, 3), (9, .iload_n 1, 1), (10, .aload_n 0, 1), (11, .getfield 86, 3), (14, .if_icmp .ge 17, 3), (17, .iload_n 2, 1), (18, .ifCond .lt 13, 3), (21, .iload_n 2, 1), (22, .aload_n 0, 1), (23, .getfield 79, 3), (26, .iload_n 1, 1), (27, .iaload, 1), (28, .if_icmp .lt 7, 3), (31, .iconst (-1), 1), (32, .goto 14, 3), (35, .aload_n 0, 1), (36, .getfield 83, 3), (39, .bipush 20, 2), (41, .iload_n 1, 1), (42, .imul, 1), (43, .iload_n 2, 1), (44, .iadd, 1), (45, .baload, 1), (46, .ireturn, 1)]
theorem vt_o293 : vt_chk (prog_14_method_108_code, vt_i293) = true := by sorry
-- 294: VitalTwinModel.code (II)I
def vt_i294 : List (Nat × Instr × Nat) := [(0, .aload_n 0, 1), (1, .iconst 0, 1), (2, .putfield 3, 3), (5, .iload_n 1, 1), (6, .ifCond .lt 20, 3), (9, .iload_n 1, 1), (10, .aload_n 0, 1), (11, .getfield 428, 3), (14, .if_icmp .ge 12, 3), (17, .iload_n 2, 1), (18, .ifCond .lt 8, 3), (21, .iload_n 2, 1), (22, .iconst 2, 1), (23, .if_icmp .le 5, 3), (26, .iconst (-1), 1), (27, .ireturn, 1), (28, .iload_n 2, 1), (29, .ifCond .ne 12, 3), (32, .aload_n 0, 1), (33, .getfield 346, 3), (36, .iload_n 1, 1), (37, .iaload, 1), (38, .goto 23, 3), (41, .iload_n 2, 1), (42, .iconst 1, 1), (43, .if_icmp .ne 12, 3), (46, .aload_n 0, 1), (47, .getfield 349, 3), (50, .iload_n 1, 1), (51, .iaload, 1), (52, .goto 9, 3), (55, .aload_n 0, 1), (56, .getfield 352, 3), (59, .iload_n 1, 1), (60, .iaload, 1), (61, .ireturn, 1)]
theorem vt_o294 : vt_chk (prog_14_method_109_code, vt_i294) = true := by sorry
-- 295: VitalTwinModel.range (II)J
def vt_i295 : List (Nat × Instr × Nat) := [(0, .aload_n 0, 1), (1, .iload_n 1, 1), (2, .ifCond .lt 20, 3), (5, .iload_n 1, 1), (6, .aload_n 0, 1), (7, .getfield 428, 3), (10, .if_icmp .ge 12, 3), (13, .iload_n 2, 1), (14, .ifCond .lt 8, 3), (17, .iload_n 2, 1), (18, .iconst 1, 1), (19, .if_icmp .le 7, 3), (22, .iconst 1, 1), (23, .goto 4, 3), (26, .iconst 0, 1), (27, .putfield 3, 3), (30, .aload_n 0, 1), (31, .getfield 3, 3), (34, .ifCond .le 5, 3), (37, .lconst 0, 1), (38, .lreturn, 1), (39, .iload_n 2, 1), (40, .ifCond .ne 12, 3), (43, .aload_n 0, 1), (44, .getfield 355, 3), (47, .iload_n 1, 1), (48, .laload, 1), (49, .goto 9, 3), (52, .aload_n 0, 1), (53, .getfield 359, 3), (56, .iload_n 1, 1), (57, .laload, 1), (58, .lreturn, 1)]
theorem vt_o295 : vt_chk (prog_14_method_110_code, vt_i295) = true := by sorry
-- 296: VitalTwinModel.text (III)I
def vt_i296_0 : List (Nat × Instr × Nat) := [(0, .aload_n 0, 1), (1, .iconst 0, 1), (2, .putfield 3, 3), (5, .iload_n 1, 1), (6, .ifCond .lt 24, 3), (9, .iload_n 1, 1), (10, .iconst 1, 1), (11, .if_icmp .gt 19, 3), (14, .iload_n 2, 1), (15, .ifCond .lt 15, 3), (18, .iload_n 2, 1), (19, .aload_n 0, 1), (20, .getfield 428, 3), (23, .if_icmp .ge 7, 3), (26, .iload_n 3, 1), (27, .ifCond .ge 5, 3), (30, .iconst (-1), 1), (31, .ireturn, 1), (32, .aload_n 0, 1), (33, .iconst 0, 1), (34, .putfield 658, 3), (37, .iconst 0, 1), (38, .istore 4, 2), (40, .iconst 0, 1), (41, .istore 5, 2), (43, .iload 5, 2), (45, .aload_n 0, 1), (46, .getfield 346, 3), (49, .iload_n 2, 1), (50, .iaload, 1), (51, .if_icmp .ge 30, 3), (54, .aload_n 0, 1), (55, .getfield 416, 3), (58, .iload 4, 2), (60, .baload, 1), (61, .bipush 32, 2), (63, .if_icmp .eq 9, 3), (66, .iinc 4 1, 3), (69, .goto (-15), 3), (72, .iinc 4 1, 3), (75, .iinc 5 1, 3), (78, .goto (-35), 3), (81, .aload_n 0, 1), (82, .getfield 416, 3), (85, .iload 4, 2), (87, .baload, 1), (88, .bipush 32, 2), (90, .if_icmp .eq 20, 3), (93, .aload_n 0, 1), (94, .aload_n 0, 1), (95, .getfield 416, 3), (98, .iload 4, 2), (100, .baload, 1), (101, .invokevirtual 661, 3), (104, .iinc 4 1, 3), (107, .goto (-26), 3), (110, .aload_n 0, 1), (111, .getfield 346, 3), (114, .iload_n 2, 1), (115, .iaload, 1)]
def vt_i296_1 : List (Nat × Instr × Nat) := [(116, .istore 5, 2), (118, .iload 5, 2), (120, .ifCond .eq 17, 3), (123, .iload 5, 2), (125, .bipush 22, 2), (127, .if_icmp .eq 10, 3), (130, .iload 5, 2), (132, .bipush 23, 2), (134, .if_icmp .ne 35, 3), (137, .aload_n 0, 1), (138, .iload_n 1, 1), (139, .ifCond .ne 13, 3), (142, .aload_n 0, 1), (143, .getfield 349, 3), (146, .iload_n 2, 1), (147, .iaload, 1), (148, .i2l, 1), (149, .goto 14, 3), (152, .ldc2_w 571, 3), (155, .aload_n 0, 1), (156, .getfield 349, 3), (159, .iload_n 2, 1), (160, .iaload, 1), (161, .i2l, 1), (162, .lmul, 1), (163, .invokevirtual 666, 3), (166, .goto 52, 3), (169, .iload 5, 2), (171, .iconst 1, 1), (172, .if_icmp .eq 35, 3), (175, .iload 5, 2), (177, .iconst 2, 1), (178, .if_icmp .eq 29, 3), (181, .iload 5, 2), (183, .iconst 4, 1), (184, .if_icmp .eq 23, 3), (187, .iload 5, 2), (189, .iconst 5, 1), (190, .if_icmp .eq 17, 3), (193, .iload 5, 2), (195, .bipush 24, 2), (197, .if_icmp .lt 21, 3), (200, .iload 5, 2), (202, .bipush 28, 2), (204, .if_icmp .ge 14, 3), (207, .aload_n 0, 1), (208, .aload_n 0, 1), (209, .getfield 349, 3), (212, .iload_n 2, 1), (213, .iaload, 1), (214, .i2l, 1), (215, .invokevirtual 666, 3), (218, .iload 5, 2), (220, .iconst 4, 1), (221, .if_icmp .eq 9, 3), (224, .iload 5, 2), (226, .iconst 5, 1), (227, .if_icmp .ne 14, 3), (230, .aload_n 0, 1), (231, .aload_n 0, 1)]
def vt_i296_2 : List (Nat × Instr × Nat) := [(232, .getfield 352, 3), (235, .iload_n 2, 1), (236, .iaload, 1), (237, .i2l, 1), (238, .invokevirtual 666, 3), (241, .iload_n 3, 1), (242, .aload_n 0, 1), (243, .getfield 658, 3), (246, .if_icmp .ge 12, 3), (249, .aload_n 0, 1), (250, .getfield 419, 3), (253, .iload_n 3, 1), (254, .baload, 1), (255, .goto 4, 3), (258, .iconst (-1), 1), (259, .ireturn, 1)]
def vt_i296 : List (Nat × Instr × Nat) := vt_i296_0 ++ (vt_i296_1 ++ (vt_i296_2))
theorem vt_o296_0 : vt_chk (prog_14_method_113_code, vt_i296_0) = true := by sorry
theorem vt_o296_1 : vt_chk (prog_14_method_113_code, vt_i296_1) = true := by sorry
theorem vt_o296_2 : vt_chk (prog_14_method_113_code, vt_i296_2) = true := by sorry
theorem vt_o296 : vt_chk (prog_14_method_113_code, vt_i296) = true := (vt_app vt_o296_0 (vt_app vt_o296_1 vt_o296_2))
-- 297: VitalTwinModel.put (I)V
def vt_i297 : List (Nat × Instr × Nat) := [(0, .aload_n 0, 1), (1, .getfield 419, 3), (4, .aload_n 0, 1), (5, .getfield 658, 3), (8, .iload_n 1, 1), (9, .i2b, 1), (10, .bastore, 1), (11, .aload_n 0, 1), (12, .dup, 1), (13, .getfield 658, 3), (16, .iconst 1, 1), (17, .iadd, 1), (18, .putfield 658, 3), (21, .return_, 1)]
theorem vt_o297 : vt_chk (prog_14_method_111_code, vt_i297) = true := by sorry
-- 298: VitalTwinModel.putNumber (J)V
def vt_i298 : List (Nat × Instr × Nat) := [(0, .aload_n 0, 1), (1, .bipush 32, 2), (3, .invokevirtual 661, 3), (6, .lload_n 1, 1), (7, .lconst 0, 1), (8, .lcmp, 1), (9, .ifCond .ge 9, 3), (12, .aload_n 0, 1), (13, .bipush 45, 2), (15, .invokevirtual 661, 3), (18, .lload_n 1, 1), (19, .lconst 0, 1), (20, .lcmp, 1), (21, .ifCond .ge 8, 3), (24, .lload_n 1, 1), (25, .lneg, 1), (26, .goto 4, 3), (29, .lload_n 1, 1), (30, .lstore_n 3, 1), (31, .lconst 1, 1), (32, .lstore 5, 2), (34, .lload_n 3, 1), (35, .lload 5, 2), (37, .ldiv, 1), (38, .ldc2_w 664, 3), (41, .lcmp, 1), (42, .ifCond .le 14, 3), (45, .lload 5, 2), (47, .ldc2_w 49, 3), (50, .lmul, 1), (51, .lstore 5, 2), (53, .goto (-19), 3), (56, .lload 5, 2), (58, .lconst 0, 1), (59, .lcmp, 1), (60, .ifCond .le 31, 3), (63, .aload_n 0, 1), (64, .ldc2_w 51, 3), (67, .lload_n 3, 1), (68, .lload 5, 2), (70, .ldiv, 1), (71, .ldc2_w 49, 3), (74, .lrem, 1), (75, .ladd, 1), (76, .l2i, 1), (77, .invokevirtual 661, 3), (80, .lload 5, 2), (82, .ldc2_w 49, 3), (85, .ldiv, 1), (86, .lstore 5, 2), (88, .goto (-32), 3), (91, .return_, 1)]
theorem vt_o298 : vt_chk (prog_14_method_112_code, vt_i298) = true := by sorry
-- 299: VitalTwinModel.count (I)I
def vt_i299 : List (Nat × Instr × Nat) := [(0, .aload_n 0, 1), (1, .iconst 0, 1), (2, .putfield 3, 3), (5, .iload_n 1, 1), (6, .ifCond .ne 8, 3), (9, .aload_n 0, 1), (10, .getfield 11, 3), (13, .ireturn, 1), (14, .aload_n 0, 1), (15, .getfield 464, 3), (18, .ifCond .ne 5, 3), (21, .iconst (-1), 1), (22, .ireturn, 1), (23, .iload_n 1, 1), (24, .tableswitch 133 1 13 #[68, 73, 78, 83, 88, 93, 98, 103, 108, 113, 118, 123, 128], 68), (92, .aload_n 0, 1), (93, .getfield 86, 3), (96, .ireturn, 1), (97, .aload_n 0, 1), (98, .getfield 428, 3), (101, .ireturn, 1), (102, .aload_n 0, 1), (103, .getfield 437, 3), (106, .ireturn, 1), (107, .aload_n 0, 1), (108, .getfield 446, 3), (111, .ireturn, 1), (112, .aload_n 0, 1), (113, .getfield 449, 3), (116, .ireturn, 1), (117, .aload_n 0, 1), (118, .getfield 440, 3), (121, .ireturn, 1), (122, .aload_n 0, 1), (123, .getfield 443, 3), (126, .ireturn, 1), (127, .aload_n 0, 1), (128, .getfield 588, 3), (131, .ireturn, 1), (132, .aload_n 0, 1), (133, .getfield 579, 3), (136, .ireturn, 1), (137, .aload_n 0, 1), (138, .getfield 573, 3), (141, .ireturn, 1), (142, .aload_n 0, 1), (143, .getfield 585, 3), (146, .ireturn, 1), (147, .aload_n 0, 1), (148, .getfield 594, 3), (151, .ireturn, 1), (152, .aload_n 0, 1), (153, .getfield 591, 3), (156, .ireturn, 1), (157, .iconst (-1), 1), (158, .ireturn, 1)]
theorem vt_o299 : vt_chk (prog_14_method_114_code, vt_i299) = true := by sorry
end
section
/-! part 01: a pure picture of values, cells, worlds; the judgement ip_V (the kit's W over any heap that holds the picture) and its rules, one a kind of instruction -/
abbrev ip_A : Type := (Nat → Int32) ⊕ (Nat → Int64) ⊕ (Nat → Option Nat)
/-- a cell: an array (kind, length, contents) or an object (class, fields); addresses count from the law's own first cell on -/
abbrev ip_E : Type := (Nat × Nat × ip_A) ⊕ (Nat × List Value)
/-- a world: the next address, the slots made so far, the cells -/
abbrev ip_W : Type := Nat × Nat × (Nat → Option ip_E)
/-- a value of the picture as the machine's: references count from b on, .retAddr k stands for String constant k -/
def ip_v (b : Nat) (sc : Nat → Nat) (v : Value) : Value := match v with
  | .ref k => .ref (b + k)
  | .retAddr k => .ref (sc k)
  | v => v
def ip_e (b : Nat) (sc : Nat → Nat) (aC : Nat → ClassId) (x : ip_E) : va_E := match x with
  | .inl (k, n, .inl f) => .inl (aC k, n, .inl f)
  | .inl (k, n, .inr (.inl f)) => .inl (aC k, n, .inr (.inl f))
  | .inl (k, n, .inr (.inr f)) => .inl (aC k, n, .inr (.inr (.inr (.inr (fun j => (f j).map (fun a => b + a))))))
  | .inr (ci, fs) => .inr (ci, fs.map (ip_v b sc))
def ip_G (D : va_G) (cl : List vw_C) (aC : Nat → ClassId) (b : Nat) (sc : Nat → Nat) (w : ip_W) (H : Heap) : Prop :=
  H.size = b + w.1 ∧ ∀ (k : Nat) (x : ip_E), w.2.2 k = some x → va_at D cl (b + k, ip_e b sc aC x) H
/-- locals of the picture as the machine's -/
def ip_l (b : Nat) (sc : Nat → Nat) (lo : List (Nat × Value)) : List (Nat × Value) := lo.map (fun q => (q.1, ip_v b sc q.2))
theorem ip_v_cat (b : Nat) (sc : Nat → Nat) (v : Value) : (ip_v b sc v).category = v.category := by cases v <;> rfl
def ip_get (lo : List (Nat × Value)) (i : Nat) : Option Value := match lo with
  | [] => none
  | q :: r => if q.1 = i then some q.2 else ip_get r i
def ip_set1 (lo : List (Nat × Value)) (i : Nat) (v : Value) : List (Nat × Value) := (i, v) :: lo.filter (fun q => !(q.1 == i) && !(q.1 + 1 == i && q.2.category == 2))
def ip_set2 (lo : List (Nat × Value)) (i : Nat) (v : Value) : List (Nat × Value) := (i, v) :: lo.filter (fun q => !(q.1 == i) && (!(q.1 == i + 1) && !(q.1 + 1 == i && q.2.category == 2)))
theorem ip_get_mem : ∀ (lo : List (Nat × Value)) (i : Nat) (v : Value), ip_get lo i = some v → (i, v) ∈ lo
  | [], i, v, h => by simp [ip_get] at h
  | q :: r, i, v, h => by
    unfold ip_get at h
    split at h
    · rename_i hq
      cases h
      subst hq
      exact List.mem_cons_self
    · exact List.mem_cons_of_mem _ (ip_get_mem r i v h)
theorem ip_get_at {b : Nat} {sc : Nat → Nat} {ls : Array Slot} {nL : Nat} {lo : List (Nat × Value)} (h : lv_has ls nL (ip_l b sc lo)) {i : Nat} {v : Value} (hg : ip_get lo i = some v) : ls[i]? = some (.val (ip_v b sc v)) :=
  h.2.2 (i, ip_v b sc v) (List.mem_map.mpr ⟨(i, v), ip_get_mem lo i v hg, rfl⟩)
theorem ip_get_pos {b : Nat} {sc : Nat → Nat} {lo : List (Nat × Value)} {i : Nat} {v : Value} (hg : ip_get lo i = some v) : ∃ k : Nat, (ip_l b sc lo)[k]? = some (i, ip_v b sc v) := by
  have h : (i, ip_v b sc v) ∈ ip_l b sc lo := List.mem_map.mpr ⟨(i, v), ip_get_mem lo i v hg, rfl⟩
  obtain ⟨k, hk⟩ := List.mem_iff_getElem?.mp h
  exact ⟨k, hk⟩
theorem ip_l_set1 (b : Nat) (sc : Nat → Nat) (lo : List (Nat × Value)) (i : Nat) (v : Value) : (i, ip_v b sc v) :: (ip_l b sc lo).filter (fun q => !(q.1 == i) && !(q.1 + 1 == i && q.2.category == 2)) = ip_l b sc (ip_set1 lo i v) := by
  simp only [ip_l, ip_set1, List.map_cons, List.filter_map, Function.comp_def, ip_v_cat]
theorem ip_l_set2 (b : Nat) (sc : Nat → Nat) (lo : List (Nat × Value)) (i : Nat) (v : Value) : (i, ip_v b sc v) :: (ip_l b sc lo).filter (fun q => !(q.1 == i) && (!(q.1 == i + 1) && !(q.1 + 1 == i && q.2.category == 2))) = ip_l b sc (ip_set2 lo i v) := by
  simp only [ip_l, ip_set2, List.map_cons, List.filter_map, Function.comp_def, ip_v_cat]
section IPV
variable {p : Program} {l : Launch} {e : Env} {R : Room} {s : State} {m : MethodId} {args : Array Value} {below : List Frame} {meth : Method} {c : Code} {Q : State → Prop}
variable {D : va_G} {cl : List vw_C} {aC : Nat → ClassId} {b : Nat} {sc : Nat → Nat} {nL n0 s0 : Nat} {cc : ByteArray} {w : ip_W} {pc : Nat} {lo : List (Nat × Value)} {st : List Value}
/-- from every heap that holds the world w: the method, at pc with these locals and this stack, comes to a state with Q; n0, s0: the world's counts at the method's entry -/
def ip_V (p : Program) (l : Launch) (e : Env) (R : Room) (s : State) (m : MethodId) (args : Array Value) (below : List Frame) (meth : Method) (c : Code) (D : va_G) (cl : List vw_C) (aC : Nat → ClassId) (b : Nat) (sc : Nat → Nat) (nL n0 s0 : Nat) (Q : State → Prop) (w : ip_W) (pc : Nat) (lo : List (Nat × Value)) (st : List Value) : Prop :=
  ∀ (H : Heap) (locs : List Loc) (ls : Array Slot), ip_G D cl aC b sc w H → va_S (fun q => b ≤ q) s.heap H locs → lv_has ls nL (ip_l b sc lo) → W p l e R s m args below meth c H locs (w.1 - n0) (w.2.1 - s0) Q (F0 m pc ls (st.map (ip_v b sc)))

theorem ip_iconst (hx : p.tables.exec = Jvm.exec) (hb : c.code = cc) {n : Int} (hdg : decode cc pc = .ok (.iconst n, 1)) (k : ip_V p l e R s m args below meth c D cl aC b sc nL n0 s0 Q w (pc + 1) lo (.int (Int32.ofInt n) :: st)) : ip_V p l e R s m args below meth c D cl aC b sc nL n0 s0 Q w pc lo (st) :=
  fun H locs ls hG hS hl => lv_iconst hx hb hdg rfl (k H locs ls hG hS hl)
theorem ip_bipush (hx : p.tables.exec = Jvm.exec) (hb : c.code = cc) {n : Int} (hdg : decode cc pc = .ok (.bipush n, 2)) (k : ip_V p l e R s m args below meth c D cl aC b sc nL n0 s0 Q w (pc + 2) lo (.int (Int8.ofInt n).toInt32 :: st)) : ip_V p l e R s m args below meth c D cl aC b sc nL n0 s0 Q w pc lo (st) :=
  fun H locs ls hG hS hl => lv_bipush hx hb hdg rfl (k H locs ls hG hS hl)
theorem ip_sipush (hx : p.tables.exec = Jvm.exec) (hb : c.code = cc) {n : Int} (hdg : decode cc pc = .ok (.sipush n, 3)) (k : ip_V p l e R s m args below meth c D cl aC b sc nL n0 s0 Q w (pc + 3) lo (.int (Int16.ofInt n).toInt32 :: st)) : ip_V p l e R s m args below meth c D cl aC b sc nL n0 s0 Q w pc lo (st) :=
  fun H locs ls hG hS hl => lv_sipush hx hb hdg rfl (k H locs ls hG hS hl)
theorem ip_lconst (hx : p.tables.exec = Jvm.exec) (hb : c.code = cc) {n : Fin 2} (hdg : decode cc pc = .ok (.lconst n, 1)) (k : ip_V p l e R s m args below meth c D cl aC b sc nL n0 s0 Q w (pc + 1) lo (.long (Int64.ofNat (n : Nat)) :: st)) : ip_V p l e R s m args below meth c D cl aC b sc nL n0 s0 Q w pc lo (st) :=
  fun H locs ls hG hS hl => lv_lconst hx hb hdg rfl (k H locs ls hG hS hl)
theorem ip_null (hx : p.tables.exec = Jvm.exec) (hb : c.code = cc) (hdg : decode cc pc = .ok (.aconst_null, 1)) (k : ip_V p l e R s m args below meth c D cl aC b sc nL n0 s0 Q w (pc + 1) lo (.null :: st)) : ip_V p l e R s m args below meth c D cl aC b sc nL n0 s0 Q w pc lo (st) :=
  fun H locs ls hG hS hl => lv_null hx hb hdg (k H locs ls hG hS hl)
theorem ip_iload_n (hx : p.tables.exec = Jvm.exec) (hb : c.code = cc) {i : Fin 4} {x : Int32} (hdg : decode cc pc = .ok (.iload_n i, 1)) (hg : ip_get lo i = some (.int x)) (k : ip_V p l e R s m args below meth c D cl aC b sc nL n0 s0 Q w (pc + 1) lo (.int x :: st)) : ip_V p l e R s m args below meth c D cl aC b sc nL n0 s0 Q w pc lo (st) :=
  fun H locs ls hG hS hl => lv_iload_n hx hb hdg rfl (ip_get_at hl hg) (k H locs ls hG hS hl)
theorem ip_iload (hx : p.tables.exec = Jvm.exec) (hb : c.code = cc) {i : Nat} {x : Int32} (hdg : decode cc pc = .ok (.iload i, 2)) (hg : ip_get lo i = some (.int x)) (k : ip_V p l e R s m args below meth c D cl aC b sc nL n0 s0 Q w (pc + 2) lo (.int x :: st)) : ip_V p l e R s m args below meth c D cl aC b sc nL n0 s0 Q w pc lo (st) :=
  fun H locs ls hG hS hl => lv_iload hx hb hdg (ip_get_at hl hg) (k H locs ls hG hS hl)
theorem ip_lload_n (hx : p.tables.exec = Jvm.exec) (hb : c.code = cc) {i : Fin 4} {x : Int64} (hdg : decode cc pc = .ok (.lload_n i, 1)) (hg : ip_get lo i = some (.long x)) (k : ip_V p l e R s m args below meth c D cl aC b sc nL n0 s0 Q w (pc + 1) lo (.long x :: st)) : ip_V p l e R s m args below meth c D cl aC b sc nL n0 s0 Q w pc lo (st) :=
  fun H locs ls hG hS hl => lv_lload_n hx hb hdg rfl (ip_get_at hl hg) (k H locs ls hG hS hl)
theorem ip_lload (hx : p.tables.exec = Jvm.exec) (hb : c.code = cc) {i : Nat} {x : Int64} (hdg : decode cc pc = .ok (.lload i, 2)) (hg : ip_get lo i = some (.long x)) (k : ip_V p l e R s m args below meth c D cl aC b sc nL n0 s0 Q w (pc + 2) lo (.long x :: st)) : ip_V p l e R s m args below meth c D cl aC b sc nL n0 s0 Q w pc lo (st) :=
  fun H locs ls hG hS hl => lv_lload hx hb hdg (ip_get_at hl hg) (k H locs ls hG hS hl)
theorem ip_aload_n (hx : p.tables.exec = Jvm.exec) (hb : c.code = cc) {i : Fin 4} {x : Value} (hdg : decode cc pc = .ok (.aload_n i, 1)) (hg : ip_get lo i = some x) (hr : (∃ a, x = .ref a) ∨ (∃ a, x = .retAddr a) ∨ x = .null) (k : ip_V p l e R s m args below meth c D cl aC b sc nL n0 s0 Q w (pc + 1) lo (x :: st)) : ip_V p l e R s m args below meth c D cl aC b sc nL n0 s0 Q w pc lo st := by
  intro H locs ls hG hS hl
  have ha := ip_get_at hl hg
  have kk := k H locs ls hG hS hl
  rcases hr with ⟨a, rfl⟩ | ⟨a, rfl⟩ | rfl
  · exact lv_aload_n hx hb hdg rfl ha kk
  · exact lv_aload_n hx hb hdg rfl ha kk
  · exact lv_aload_nN hx hb hdg rfl ha kk
theorem ip_aload (hx : p.tables.exec = Jvm.exec) (hb : c.code = cc) {i : Nat} {x : Value} (hdg : decode cc pc = .ok (.aload i, 2)) (hg : ip_get lo i = some x) (hr : (∃ a, x = .ref a) ∨ (∃ a, x = .retAddr a) ∨ x = .null) (k : ip_V p l e R s m args below meth c D cl aC b sc nL n0 s0 Q w (pc + 2) lo (x :: st)) : ip_V p l e R s m args below meth c D cl aC b sc nL n0 s0 Q w pc lo st := by
  intro H locs ls hG hS hl
  have ha := ip_get_at hl hg
  have kk := k H locs ls hG hS hl
  rcases hr with ⟨a, rfl⟩ | ⟨a, rfl⟩ | rfl
  · exact lv_aload hx hb hdg ha kk
  · exact lv_aload hx hb hdg ha kk
  · exact lv_aloadN hx hb hdg ha kk
theorem ip_istore_n (hx : p.tables.exec = Jvm.exec) (hb : c.code = cc) {i : Fin 4} {x : Int32} (hdg : decode cc pc = .ok (.istore_n i, 1)) (hn : (i : Nat) < nL) (k : ip_V p l e R s m args below meth c D cl aC b sc nL n0 s0 Q w (pc + 1) (ip_set1 lo i (.int x)) st) : ip_V p l e R s m args below meth c D cl aC b sc nL n0 s0 Q w pc lo (.int x :: st) :=
  fun H locs ls hG hS hl => lv_istore_n hx hb hdg rfl hl hn (ip_l_set1 b sc lo i (.int x)) (fun ls' hl' => k H locs ls' hG hS hl')
theorem ip_istore (hx : p.tables.exec = Jvm.exec) (hb : c.code = cc) {i : Nat} {x : Int32} (hdg : decode cc pc = .ok (.istore i, 2)) (hn : (i : Nat) < nL) (k : ip_V p l e R s m args below meth c D cl aC b sc nL n0 s0 Q w (pc + 2) (ip_set1 lo i (.int x)) st) : ip_V p l e R s m args below meth c D cl aC b sc nL n0 s0 Q w pc lo (.int x :: st) :=
  fun H locs ls hG hS hl => lv_istore hx hb hdg hl hn (ip_l_set1 b sc lo i (.int x)) (fun ls' hl' => k H locs ls' hG hS hl')
theorem ip_lstore_n (hx : p.tables.exec = Jvm.exec) (hb : c.code = cc) {i : Fin 4} {x : Int64} (hdg : decode cc pc = .ok (.lstore_n i, 1)) (hn : (i : Nat) + 1 < nL) (k : ip_V p l e R s m args below meth c D cl aC b sc nL n0 s0 Q w (pc + 1) (ip_set2 lo i (.long x)) st) : ip_V p l e R s m args below meth c D cl aC b sc nL n0 s0 Q w pc lo (.long x :: st) :=
  fun H locs ls hG hS hl => lv_lstore_n hx hb hdg rfl hl hn (ip_l_set2 b sc lo i (.long x)) (fun ls' hl' => k H locs ls' hG hS hl')
theorem ip_lstore (hx : p.tables.exec = Jvm.exec) (hb : c.code = cc) {i : Nat} {x : Int64} (hdg : decode cc pc = .ok (.lstore i, 2)) (hn : (i : Nat) + 1 < nL) (k : ip_V p l e R s m args below meth c D cl aC b sc nL n0 s0 Q w (pc + 2) (ip_set2 lo i (.long x)) st) : ip_V p l e R s m args below meth c D cl aC b sc nL n0 s0 Q w pc lo (.long x :: st) :=
  fun H locs ls hG hS hl => lv_lstore hx hb hdg hl hn (ip_l_set2 b sc lo i (.long x)) (fun ls' hl' => k H locs ls' hG hS hl')
theorem ip_astore_n (hx : p.tables.exec = Jvm.exec) (hb : c.code = cc) {i : Fin 4} {x : Value} (hdg : decode cc pc = .ok (.astore_n i, 1)) (hn : (i : Nat) < nL) (hr : (∃ a, x = .ref a) ∨ (∃ a, x = .retAddr a) ∨ x = .null) (k : ip_V p l e R s m args below meth c D cl aC b sc nL n0 s0 Q w (pc + 1) (ip_set1 lo i x) st) : ip_V p l e R s m args below meth c D cl aC b sc nL n0 s0 Q w pc lo (x :: st) := by
  intro H locs ls hG hS hl
  have hq := ip_l_set1 b sc lo i x
  rcases hr with ⟨a, rfl⟩ | ⟨a, rfl⟩ | rfl
  · exact lv_astore_n hx hb hdg rfl hl hn hq (fun ls' hl' => k H locs ls' hG hS hl')
  · exact lv_astore_n hx hb hdg rfl hl hn hq (fun ls' hl' => k H locs ls' hG hS hl')
  · exact lv_astore_nN hx hb hdg rfl hl hn hq (fun ls' hl' => k H locs ls' hG hS hl')
theorem ip_astore (hx : p.tables.exec = Jvm.exec) (hb : c.code = cc) {i : Nat} {x : Value} (hdg : decode cc pc = .ok (.astore i, 2)) (hn : (i : Nat) < nL) (hr : (∃ a, x = .ref a) ∨ (∃ a, x = .retAddr a) ∨ x = .null) (k : ip_V p l e R s m args below meth c D cl aC b sc nL n0 s0 Q w (pc + 2) (ip_set1 lo i x) st) : ip_V p l e R s m args below meth c D cl aC b sc nL n0 s0 Q w pc lo (x :: st) := by
  intro H locs ls hG hS hl
  have hq := ip_l_set1 b sc lo i x
  rcases hr with ⟨a, rfl⟩ | ⟨a, rfl⟩ | rfl
  · exact lv_astore hx hb hdg hl hn hq (fun ls' hl' => k H locs ls' hG hS hl')
  · exact lv_astore hx hb hdg hl hn hq (fun ls' hl' => k H locs ls' hG hS hl')
  · exact lv_astoreN hx hb hdg hl hn hq (fun ls' hl' => k H locs ls' hG hS hl')
theorem ip_iinc (hx : p.tables.exec = Jvm.exec) (hb : c.code = cc) {i : Nat} {n : Int} {x : Int32} (hdg : decode cc pc = .ok (.iinc i n, 3)) (hn : i < nL) (hg : ip_get lo i = some (.int x)) (k : ip_V p l e R s m args below meth c D cl aC b sc nL n0 s0 Q w (pc + 3) (ip_set1 lo i (.int (x + Int32.ofInt n))) st) : ip_V p l e R s m args below meth c D cl aC b sc nL n0 s0 Q w pc lo st := by
  intro H locs ls hG hS hl
  obtain ⟨j, hj⟩ := ip_get_pos (b := b) (sc := sc) hg
  exact lv_iinc hx hb hdg hl hj rfl hn (ip_l_set1 b sc lo i (.int (x + Int32.ofInt n))) (fun ls' hl' => k H locs ls' hG hS hl')
theorem ip_iadd (hx : p.tables.exec = Jvm.exec) (hb : c.code = cc) {x y : Int32} (hdg : decode cc pc = .ok (.iadd, 1)) (k : ip_V p l e R s m args below meth c D cl aC b sc nL n0 s0 Q w (pc + 1) lo (.int (x + y) :: st)) : ip_V p l e R s m args below meth c D cl aC b sc nL n0 s0 Q w pc lo (.int y :: .int x :: st) :=
  fun H locs ls hG hS hl => lv_iadd hx hb hdg (k H locs ls hG hS hl)
theorem ip_isub (hx : p.tables.exec = Jvm.exec) (hb : c.code = cc) {x y : Int32} (hdg : decode cc pc = .ok (.isub, 1)) (k : ip_V p l e R s m args below meth c D cl aC b sc nL n0 s0 Q w (pc + 1) lo (.int (x - y) :: st)) : ip_V p l e R s m args below meth c D cl aC b sc nL n0 s0 Q w pc lo (.int y :: .int x :: st) :=
  fun H locs ls hG hS hl => lv_isub hx hb hdg (k H locs ls hG hS hl)
theorem ip_imul (hx : p.tables.exec = Jvm.exec) (hb : c.code = cc) {x y : Int32} (hdg : decode cc pc = .ok (.imul, 1)) (k : ip_V p l e R s m args below meth c D cl aC b sc nL n0 s0 Q w (pc + 1) lo (.int (x * y) :: st)) : ip_V p l e R s m args below meth c D cl aC b sc nL n0 s0 Q w pc lo (.int y :: .int x :: st) :=
  fun H locs ls hG hS hl => lv_imul hx hb hdg (k H locs ls hG hS hl)
theorem ip_iand (hx : p.tables.exec = Jvm.exec) (hb : c.code = cc) {x y : Int32} (hdg : decode cc pc = .ok (.iand, 1)) (k : ip_V p l e R s m args below meth c D cl aC b sc nL n0 s0 Q w (pc + 1) lo (.int (x &&& y) :: st)) : ip_V p l e R s m args below meth c D cl aC b sc nL n0 s0 Q w pc lo (.int y :: .int x :: st) :=
  fun H locs ls hG hS hl => lv_iand hx hb hdg (k H locs ls hG hS hl)
theorem ip_ladd (hx : p.tables.exec = Jvm.exec) (hb : c.code = cc) {x y : Int64} (hdg : decode cc pc = .ok (.ladd, 1)) (k : ip_V p l e R s m args below meth c D cl aC b sc nL n0 s0 Q w (pc + 1) lo (.long (x + y) :: st)) : ip_V p l e R s m args below meth c D cl aC b sc nL n0 s0 Q w pc lo (.long y :: .long x :: st) :=
  fun H locs ls hG hS hl => lv_ladd hx hb hdg (k H locs ls hG hS hl)
theorem ip_lsub (hx : p.tables.exec = Jvm.exec) (hb : c.code = cc) {x y : Int64} (hdg : decode cc pc = .ok (.lsub, 1)) (k : ip_V p l e R s m args below meth c D cl aC b sc nL n0 s0 Q w (pc + 1) lo (.long (x - y) :: st)) : ip_V p l e R s m args below meth c D cl aC b sc nL n0 s0 Q w pc lo (.long y :: .long x :: st) :=
  fun H locs ls hG hS hl => lv_lsub hx hb hdg (k H locs ls hG hS hl)
theorem ip_lmul (hx : p.tables.exec = Jvm.exec) (hb : c.code = cc) {x y : Int64} (hdg : decode cc pc = .ok (.lmul, 1)) (k : ip_V p l e R s m args below meth c D cl aC b sc nL n0 s0 Q w (pc + 1) lo (.long (x * y) :: st)) : ip_V p l e R s m args below meth c D cl aC b sc nL n0 s0 Q w pc lo (.long y :: .long x :: st) :=
  fun H locs ls hG hS hl => lv_lmul hx hb hdg (k H locs ls hG hS hl)
theorem ip_land (hx : p.tables.exec = Jvm.exec) (hb : c.code = cc) {x y : Int64} (hdg : decode cc pc = .ok (.land, 1)) (k : ip_V p l e R s m args below meth c D cl aC b sc nL n0 s0 Q w (pc + 1) lo (.long (x &&& y) :: st)) : ip_V p l e R s m args below meth c D cl aC b sc nL n0 s0 Q w pc lo (.long y :: .long x :: st) :=
  fun H locs ls hG hS hl => lv_land hx hb hdg (k H locs ls hG hS hl)
theorem ip_lor (hx : p.tables.exec = Jvm.exec) (hb : c.code = cc) {x y : Int64} (hdg : decode cc pc = .ok (.lor, 1)) (k : ip_V p l e R s m args below meth c D cl aC b sc nL n0 s0 Q w (pc + 1) lo (.long (x ||| y) :: st)) : ip_V p l e R s m args below meth c D cl aC b sc nL n0 s0 Q w pc lo (.long y :: .long x :: st) :=
  fun H locs ls hG hS hl => lv_lor hx hb hdg (k H locs ls hG hS hl)
theorem ip_lxor (hx : p.tables.exec = Jvm.exec) (hb : c.code = cc) {x y : Int64} (hdg : decode cc pc = .ok (.lxor, 1)) (k : ip_V p l e R s m args below meth c D cl aC b sc nL n0 s0 Q w (pc + 1) lo (.long (x ^^^ y) :: st)) : ip_V p l e R s m args below meth c D cl aC b sc nL n0 s0 Q w pc lo (.long y :: .long x :: st) :=
  fun H locs ls hG hS hl => lv_lxor hx hb hdg (k H locs ls hG hS hl)
theorem ip_idiv (hx : p.tables.exec = Jvm.exec) (hb : c.code = cc) {x y : Int32} (hdg : decode cc pc = .ok (.idiv, 1)) (hne : ¬ y = 0) (k : ip_V p l e R s m args below meth c D cl aC b sc nL n0 s0 Q w (pc + 1) lo (.int (x / y) :: st)) : ip_V p l e R s m args below meth c D cl aC b sc nL n0 s0 Q w pc lo (.int y :: .int x :: st) :=
  fun H locs ls hG hS hl => lv_idiv hx hb hdg hne (k H locs ls hG hS hl)
theorem ip_irem (hx : p.tables.exec = Jvm.exec) (hb : c.code = cc) {x y : Int32} (hdg : decode cc pc = .ok (.irem, 1)) (hne : ¬ y = 0) (k : ip_V p l e R s m args below meth c D cl aC b sc nL n0 s0 Q w (pc + 1) lo (.int (x - x / y * y) :: st)) : ip_V p l e R s m args below meth c D cl aC b sc nL n0 s0 Q w pc lo (.int y :: .int x :: st) :=
  fun H locs ls hG hS hl => lv_irem hx hb hdg hne (k H locs ls hG hS hl)
theorem ip_ldiv (hx : p.tables.exec = Jvm.exec) (hb : c.code = cc) {x y : Int64} (hdg : decode cc pc = .ok (.ldiv, 1)) (hne : ¬ y = 0) (k : ip_V p l e R s m args below meth c D cl aC b sc nL n0 s0 Q w (pc + 1) lo (.long (x / y) :: st)) : ip_V p l e R s m args below meth c D cl aC b sc nL n0 s0 Q w pc lo (.long y :: .long x :: st) :=
  fun H locs ls hG hS hl => lv_ldiv hx hb hdg hne (k H locs ls hG hS hl)
theorem ip_lrem (hx : p.tables.exec = Jvm.exec) (hb : c.code = cc) {x y : Int64} (hdg : decode cc pc = .ok (.lrem, 1)) (hne : ¬ y = 0) (k : ip_V p l e R s m args below meth c D cl aC b sc nL n0 s0 Q w (pc + 1) lo (.long (x - x / y * y) :: st)) : ip_V p l e R s m args below meth c D cl aC b sc nL n0 s0 Q w pc lo (.long y :: .long x :: st) :=
  fun H locs ls hG hS hl => lv_lrem hx hb hdg hne (k H locs ls hG hS hl)
theorem ip_ineg (hx : p.tables.exec = Jvm.exec) (hb : c.code = cc) {x : Int32} (hdg : decode cc pc = .ok (.ineg, 1)) (k : ip_V p l e R s m args below meth c D cl aC b sc nL n0 s0 Q w (pc + 1) lo (.int (-x) :: st)) : ip_V p l e R s m args below meth c D cl aC b sc nL n0 s0 Q w pc lo (.int x :: st) :=
  fun H locs ls hG hS hl => lv_ineg hx hb hdg (k H locs ls hG hS hl)
theorem ip_lneg (hx : p.tables.exec = Jvm.exec) (hb : c.code = cc) {x : Int64} (hdg : decode cc pc = .ok (.lneg, 1)) (k : ip_V p l e R s m args below meth c D cl aC b sc nL n0 s0 Q w (pc + 1) lo (.long (-x) :: st)) : ip_V p l e R s m args below meth c D cl aC b sc nL n0 s0 Q w pc lo (.long x :: st) :=
  fun H locs ls hG hS hl => lv_lneg hx hb hdg (k H locs ls hG hS hl)
theorem ip_i2l (hx : p.tables.exec = Jvm.exec) (hb : c.code = cc) {x : Int32} (hdg : decode cc pc = .ok (.i2l, 1)) (k : ip_V p l e R s m args below meth c D cl aC b sc nL n0 s0 Q w (pc + 1) lo (.long x.toInt64 :: st)) : ip_V p l e R s m args below meth c D cl aC b sc nL n0 s0 Q w pc lo (.int x :: st) :=
  fun H locs ls hG hS hl => lv_i2l hx hb hdg rfl (k H locs ls hG hS hl)
theorem ip_l2i (hx : p.tables.exec = Jvm.exec) (hb : c.code = cc) {x : Int64} (hdg : decode cc pc = .ok (.l2i, 1)) (k : ip_V p l e R s m args below meth c D cl aC b sc nL n0 s0 Q w (pc + 1) lo (.int x.toInt32 :: st)) : ip_V p l e R s m args below meth c D cl aC b sc nL n0 s0 Q w pc lo (.long x :: st) :=
  fun H locs ls hG hS hl => lv_l2i hx hb hdg rfl (k H locs ls hG hS hl)
theorem ip_i2b (hx : p.tables.exec = Jvm.exec) (hb : c.code = cc) {x : Int32} (hdg : decode cc pc = .ok (.i2b, 1)) (k : ip_V p l e R s m args below meth c D cl aC b sc nL n0 s0 Q w (pc + 1) lo (.int x.toInt8.toInt32 :: st)) : ip_V p l e R s m args below meth c D cl aC b sc nL n0 s0 Q w pc lo (.int x :: st) :=
  fun H locs ls hG hS hl => lv_i2b hx hb hdg rfl (k H locs ls hG hS hl)
theorem ip_i2c (hx : p.tables.exec = Jvm.exec) (hb : c.code = cc) {x : Int32} (hdg : decode cc pc = .ok (.i2c, 1)) (k : ip_V p l e R s m args below meth c D cl aC b sc nL n0 s0 Q w (pc + 1) lo (.int (x.toUInt32 % 65536).toInt32 :: st)) : ip_V p l e R s m args below meth c D cl aC b sc nL n0 s0 Q w pc lo (.int x :: st) :=
  fun H locs ls hG hS hl => lv_i2c hx hb hdg rfl (k H locs ls hG hS hl)
theorem ip_lshl (hx : p.tables.exec = Jvm.exec) (hb : c.code = cc) {x : Int64} {y : Int32} (hdg : decode cc pc = .ok (.lshl, 1)) (k : ip_V p l e R s m args below meth c D cl aC b sc nL n0 s0 Q w (pc + 1) lo (.long (x <<< (y.toInt64 &&& 63)) :: st)) : ip_V p l e R s m args below meth c D cl aC b sc nL n0 s0 Q w pc lo (.int y :: .long x :: st) :=
  fun H locs ls hG hS hl => lv_lshl hx hb hdg rfl (k H locs ls hG hS hl)
theorem ip_lshr (hx : p.tables.exec = Jvm.exec) (hb : c.code = cc) {x : Int64} {y : Int32} (hdg : decode cc pc = .ok (.lshr, 1)) (k : ip_V p l e R s m args below meth c D cl aC b sc nL n0 s0 Q w (pc + 1) lo (.long (x >>> (y.toInt64 &&& 63)) :: st)) : ip_V p l e R s m args below meth c D cl aC b sc nL n0 s0 Q w pc lo (.int y :: .long x :: st) :=
  fun H locs ls hG hS hl => lv_lshr hx hb hdg rfl (k H locs ls hG hS hl)
theorem ip_lushr (hx : p.tables.exec = Jvm.exec) (hb : c.code = cc) {x : Int64} {y : Int32} (hdg : decode cc pc = .ok (.lushr, 1)) (k : ip_V p l e R s m args below meth c D cl aC b sc nL n0 s0 Q w (pc + 1) lo (.long (x.toUInt64 >>> (y.toInt64.toUInt64 &&& Int64.toUInt64 63)).toInt64 :: st)) : ip_V p l e R s m args below meth c D cl aC b sc nL n0 s0 Q w pc lo (.int y :: .long x :: st) :=
  fun H locs ls hG hS hl => lv_lushr hx hb hdg rfl (k H locs ls hG hS hl)
theorem ip_lcmp (hx : p.tables.exec = Jvm.exec) (hb : c.code = cc) {x y : Int64} (hdg : decode cc pc = .ok (.lcmp, 1)) (k : ip_V p l e R s m args below meth c D cl aC b sc nL n0 s0 Q w (pc + 1) lo (.int (lg_cmp x y) :: st)) : ip_V p l e R s m args below meth c D cl aC b sc nL n0 s0 Q w pc lo (.long y :: .long x :: st) :=
  fun H locs ls hG hS hl => W.lcmp hx hb hdg (k H locs ls hG hS hl)
theorem ip_dup (hx : p.tables.exec = Jvm.exec) (hb : c.code = cc) {v : Value} (hdg : decode cc pc = .ok (.dup, 1)) (hc : v.category = 1) (k : ip_V p l e R s m args below meth c D cl aC b sc nL n0 s0 Q w (pc + 1) lo (v :: v :: st)) : ip_V p l e R s m args below meth c D cl aC b sc nL n0 s0 Q w pc lo (v :: st) :=
  fun H locs ls hG hS hl => lv_dup hx hb hdg ((ip_v_cat b sc v).trans hc) (k H locs ls hG hS hl)
theorem ip_pop (hx : p.tables.exec = Jvm.exec) (hb : c.code = cc) {v : Value} (hdg : decode cc pc = .ok (.pop, 1)) (hc : v.category = 1) (k : ip_V p l e R s m args below meth c D cl aC b sc nL n0 s0 Q w (pc + 1) lo (st)) : ip_V p l e R s m args below meth c D cl aC b sc nL n0 s0 Q w pc lo (v :: st) :=
  fun H locs ls hG hS hl => lv_pop hx hb hdg ((ip_v_cat b sc v).trans hc) (k H locs ls hG hS hl)
theorem ip_dup2_11 (hx : p.tables.exec = Jvm.exec) (hb : c.code = cc) {v u : Value} (hdg : decode cc pc = .ok (.dup2, 1)) (hc : v.category = 1) (hd : u.category = 1) (k : ip_V p l e R s m args below meth c D cl aC b sc nL n0 s0 Q w (pc + 1) lo (v :: u :: v :: u :: st)) : ip_V p l e R s m args below meth c D cl aC b sc nL n0 s0 Q w pc lo (v :: u :: st) :=
  fun H locs ls hG hS hl => lv_dup2_11 hx hb hdg ((ip_v_cat b sc v).trans hc) ((ip_v_cat b sc u).trans hd) (k H locs ls hG hS hl)
theorem ip_dup2_2 (hx : p.tables.exec = Jvm.exec) (hb : c.code = cc) {v : Value} (hdg : decode cc pc = .ok (.dup2, 1)) (hc : v.category = 2) (k : ip_V p l e R s m args below meth c D cl aC b sc nL n0 s0 Q w (pc + 1) lo (v :: v :: st)) : ip_V p l e R s m args below meth c D cl aC b sc nL n0 s0 Q w pc lo (v :: st) :=
  fun H locs ls hG hS hl => lv_dup2_2 hx hb hdg ((ip_v_cat b sc v).trans hc) (k H locs ls hG hS hl)
theorem ip_if_eq (hx : p.tables.exec = Jvm.exec) (hb : c.code = cc) {x : Int32} {off : Int} {tgt : Nat} (hdg : decode cc pc = .ok (.ifCond .eq off, 3)) (ht : (pc : Int) + off = (tgt : Int)) (k : ip_V p l e R s m args below meth c D cl aC b sc nL n0 s0 Q w (if x = 0 then tgt else pc + 3) lo st) : ip_V p l e R s m args below meth c D cl aC b sc nL n0 s0 Q w pc lo (.int x :: st) := by
  intro H locs ls hG hS hl
  refine lv_if_eq hx hb hdg ht (fun hP => ?_) (fun hP => ?_)
  · have kk := k H locs ls hG hS hl
    rw [if_pos hP] at kk
    exact kk
  · have kk := k H locs ls hG hS hl
    rw [if_neg hP] at kk
    exact kk
theorem ip_if_ne (hx : p.tables.exec = Jvm.exec) (hb : c.code = cc) {x : Int32} {off : Int} {tgt : Nat} (hdg : decode cc pc = .ok (.ifCond .ne off, 3)) (ht : (pc : Int) + off = (tgt : Int)) (k : ip_V p l e R s m args below meth c D cl aC b sc nL n0 s0 Q w (if x ≠ 0 then tgt else pc + 3) lo st) : ip_V p l e R s m args below meth c D cl aC b sc nL n0 s0 Q w pc lo (.int x :: st) := by
  intro H locs ls hG hS hl
  refine lv_if_ne hx hb hdg ht (fun hP => ?_) (fun hP => ?_)
  · have kk := k H locs ls hG hS hl
    rw [if_pos hP] at kk
    exact kk
  · have kk := k H locs ls hG hS hl
    rw [if_neg (fun q => q hP)] at kk
    exact kk
theorem ip_if_lt (hx : p.tables.exec = Jvm.exec) (hb : c.code = cc) {x : Int32} {off : Int} {tgt : Nat} (hdg : decode cc pc = .ok (.ifCond .lt off, 3)) (ht : (pc : Int) + off = (tgt : Int)) (k : ip_V p l e R s m args below meth c D cl aC b sc nL n0 s0 Q w (if x < 0 then tgt else pc + 3) lo st) : ip_V p l e R s m args below meth c D cl aC b sc nL n0 s0 Q w pc lo (.int x :: st) := by
  intro H locs ls hG hS hl
  refine lv_if_lt hx hb hdg ht (fun hP => ?_) (fun hP => ?_)
  · have kk := k H locs ls hG hS hl
    rw [if_pos hP] at kk
    exact kk
  · have kk := k H locs ls hG hS hl
    rw [if_neg hP] at kk
    exact kk
theorem ip_if_ge (hx : p.tables.exec = Jvm.exec) (hb : c.code = cc) {x : Int32} {off : Int} {tgt : Nat} (hdg : decode cc pc = .ok (.ifCond .ge off, 3)) (ht : (pc : Int) + off = (tgt : Int)) (k : ip_V p l e R s m args below meth c D cl aC b sc nL n0 s0 Q w (if 0 ≤ x then tgt else pc + 3) lo st) : ip_V p l e R s m args below meth c D cl aC b sc nL n0 s0 Q w pc lo (.int x :: st) := by
  intro H locs ls hG hS hl
  refine lv_if_ge hx hb hdg ht (fun hP => ?_) (fun hP => ?_)
  · have kk := k H locs ls hG hS hl
    rw [if_pos hP] at kk
    exact kk
  · have kk := k H locs ls hG hS hl
    rw [if_neg hP] at kk
    exact kk
theorem ip_if_gt (hx : p.tables.exec = Jvm.exec) (hb : c.code = cc) {x : Int32} {off : Int} {tgt : Nat} (hdg : decode cc pc = .ok (.ifCond .gt off, 3)) (ht : (pc : Int) + off = (tgt : Int)) (k : ip_V p l e R s m args below meth c D cl aC b sc nL n0 s0 Q w (if 0 < x then tgt else pc + 3) lo st) : ip_V p l e R s m args below meth c D cl aC b sc nL n0 s0 Q w pc lo (.int x :: st) := by
  intro H locs ls hG hS hl
  refine lv_if_gt hx hb hdg ht (fun hP => ?_) (fun hP => ?_)
  · have kk := k H locs ls hG hS hl
    rw [if_pos hP] at kk
    exact kk
  · have kk := k H locs ls hG hS hl
    rw [if_neg hP] at kk
    exact kk
theorem ip_if_le (hx : p.tables.exec = Jvm.exec) (hb : c.code = cc) {x : Int32} {off : Int} {tgt : Nat} (hdg : decode cc pc = .ok (.ifCond .le off, 3)) (ht : (pc : Int) + off = (tgt : Int)) (k : ip_V p l e R s m args below meth c D cl aC b sc nL n0 s0 Q w (if x ≤ 0 then tgt else pc + 3) lo st) : ip_V p l e R s m args below meth c D cl aC b sc nL n0 s0 Q w pc lo (.int x :: st) := by
  intro H locs ls hG hS hl
  refine lv_if_le hx hb hdg ht (fun hP => ?_) (fun hP => ?_)
  · have kk := k H locs ls hG hS hl
    rw [if_pos hP] at kk
    exact kk
  · have kk := k H locs ls hG hS hl
    rw [if_neg hP] at kk
    exact kk
theorem ip_icmp_eq (hx : p.tables.exec = Jvm.exec) (hb : c.code = cc) {x y : Int32} {off : Int} {tgt : Nat} (hdg : decode cc pc = .ok (.if_icmp .eq off, 3)) (ht : (pc : Int) + off = (tgt : Int)) (k : ip_V p l e R s m args below meth c D cl aC b sc nL n0 s0 Q w (if x = y then tgt else pc + 3) lo st) : ip_V p l e R s m args below meth c D cl aC b sc nL n0 s0 Q w pc lo (.int y :: .int x :: st) := by
  intro H locs ls hG hS hl
  refine lv_icmp_eq hx hb hdg ht (fun hP => ?_) (fun hP => ?_)
  · have kk := k H locs ls hG hS hl
    rw [if_pos hP] at kk
    exact kk
  · have kk := k H locs ls hG hS hl
    rw [if_neg hP] at kk
    exact kk
theorem ip_icmp_ne (hx : p.tables.exec = Jvm.exec) (hb : c.code = cc) {x y : Int32} {off : Int} {tgt : Nat} (hdg : decode cc pc = .ok (.if_icmp .ne off, 3)) (ht : (pc : Int) + off = (tgt : Int)) (k : ip_V p l e R s m args below meth c D cl aC b sc nL n0 s0 Q w (if x ≠ y then tgt else pc + 3) lo st) : ip_V p l e R s m args below meth c D cl aC b sc nL n0 s0 Q w pc lo (.int y :: .int x :: st) := by
  intro H locs ls hG hS hl
  refine lv_icmp_ne hx hb hdg ht (fun hP => ?_) (fun hP => ?_)
  · have kk := k H locs ls hG hS hl
    rw [if_pos hP] at kk
    exact kk
  · have kk := k H locs ls hG hS hl
    rw [if_neg (fun q => q hP)] at kk
    exact kk
theorem ip_icmp_lt (hx : p.tables.exec = Jvm.exec) (hb : c.code = cc) {x y : Int32} {off : Int} {tgt : Nat} (hdg : decode cc pc = .ok (.if_icmp .lt off, 3)) (ht : (pc : Int) + off = (tgt : Int)) (k : ip_V p l e R s m args below meth c D cl aC b sc nL n0 s0 Q w (if x < y then tgt else pc + 3) lo st) : ip_V p l e R s m args below meth c D cl aC b sc nL n0 s0 Q w pc lo (.int y :: .int x :: st) := by
  intro H locs ls hG hS hl
  refine lv_icmp_lt hx hb hdg ht (fun hP => ?_) (fun hP => ?_)
  · have kk := k H locs ls hG hS hl
    rw [if_pos hP] at kk
    exact kk
  · have kk := k H locs ls hG hS hl
    rw [if_neg hP] at kk
    exact kk
theorem ip_icmp_ge (hx : p.tables.exec = Jvm.exec) (hb : c.code = cc) {x y : Int32} {off : Int} {tgt : Nat} (hdg : decode cc pc = .ok (.if_icmp .ge off, 3)) (ht : (pc : Int) + off = (tgt : Int)) (k : ip_V p l e R s m args below meth c D cl aC b sc nL n0 s0 Q w (if y ≤ x then tgt else pc + 3) lo st) : ip_V p l e R s m args below meth c D cl aC b sc nL n0 s0 Q w pc lo (.int y :: .int x :: st) := by
  intro H locs ls hG hS hl
  refine lv_icmp_ge hx hb hdg ht (fun hP => ?_) (fun hP => ?_)
  · have kk := k H locs ls hG hS hl
    rw [if_pos hP] at kk
    exact kk
  · have kk := k H locs ls hG hS hl
    rw [if_neg hP] at kk
    exact kk
theorem ip_icmp_gt (hx : p.tables.exec = Jvm.exec) (hb : c.code = cc) {x y : Int32} {off : Int} {tgt : Nat} (hdg : decode cc pc = .ok (.if_icmp .gt off, 3)) (ht : (pc : Int) + off = (tgt : Int)) (k : ip_V p l e R s m args below meth c D cl aC b sc nL n0 s0 Q w (if y < x then tgt else pc + 3) lo st) : ip_V p l e R s m args below meth c D cl aC b sc nL n0 s0 Q w pc lo (.int y :: .int x :: st) := by
  intro H locs ls hG hS hl
  refine lv_icmp_gt hx hb hdg ht (fun hP => ?_) (fun hP => ?_)
  · have kk := k H locs ls hG hS hl
    rw [if_pos hP] at kk
    exact kk
  · have kk := k H locs ls hG hS hl
    rw [if_neg hP] at kk
    exact kk
theorem ip_icmp_le (hx : p.tables.exec = Jvm.exec) (hb : c.code = cc) {x y : Int32} {off : Int} {tgt : Nat} (hdg : decode cc pc = .ok (.if_icmp .le off, 3)) (ht : (pc : Int) + off = (tgt : Int)) (k : ip_V p l e R s m args below meth c D cl aC b sc nL n0 s0 Q w (if x ≤ y then tgt else pc + 3) lo st) : ip_V p l e R s m args below meth c D cl aC b sc nL n0 s0 Q w pc lo (.int y :: .int x :: st) := by
  intro H locs ls hG hS hl
  refine lv_icmp_le hx hb hdg ht (fun hP => ?_) (fun hP => ?_)
  · have kk := k H locs ls hG hS hl
    rw [if_pos hP] at kk
    exact kk
  · have kk := k H locs ls hG hS hl
    rw [if_neg hP] at kk
    exact kk
theorem ip_goto (hx : p.tables.exec = Jvm.exec) (hb : c.code = cc) {off : Int} {tgt : Nat} (hdg : decode cc pc = .ok (.goto off, 3)) (ht : (pc : Int) + off = (tgt : Int)) (k : ip_V p l e R s m args below meth c D cl aC b sc nL n0 s0 Q w tgt lo st) : ip_V p l e R s m args below meth c D cl aC b sc nL n0 s0 Q w pc lo st :=
  fun H locs ls hG hS hl => lv_goto hx hb hdg ht (k H locs ls hG hS hl)
theorem ip_ifnonnull (hx : p.tables.exec = Jvm.exec) (hb : c.code = cc) {off : Int} {tgt : Nat} {x : Nat} (hdg : decode cc pc = .ok (.ifnonnull off, 3)) (ht : (pc : Int) + off = (tgt : Int)) (k : ip_V p l e R s m args below meth c D cl aC b sc nL n0 s0 Q w tgt lo st) : ip_V p l e R s m args below meth c D cl aC b sc nL n0 s0 Q w pc lo (.ref x :: st) :=
  fun H locs ls hG hS hl => lv_ifnonnull hx hb hdg ht (k H locs ls hG hS hl)
theorem ip_ifnonnullN (hx : p.tables.exec = Jvm.exec) (hb : c.code = cc) {off : Int} (hdg : decode cc pc = .ok (.ifnonnull off, 3)) (k : ip_V p l e R s m args below meth c D cl aC b sc nL n0 s0 Q w (pc + 3) lo st) : ip_V p l e R s m args below meth c D cl aC b sc nL n0 s0 Q w pc lo (.null :: st) :=
  fun H locs ls hG hS hl => lv_ifnonnullN hx hb hdg (k H locs ls hG hS hl)
theorem ip_ifnull (hx : p.tables.exec = Jvm.exec) (hb : c.code = cc) {off : Int} {x : Nat} (hdg : decode cc pc = .ok (.ifnull off, 3)) (k : ip_V p l e R s m args below meth c D cl aC b sc nL n0 s0 Q w (pc + 3) lo st) : ip_V p l e R s m args below meth c D cl aC b sc nL n0 s0 Q w pc lo (.ref x :: st) :=
  fun H locs ls hG hS hl => lv_ifnull hx hb hdg (k H locs ls hG hS hl)
theorem ip_ifnullN (hx : p.tables.exec = Jvm.exec) (hb : c.code = cc) {off : Int} {tgt : Nat} (hdg : decode cc pc = .ok (.ifnull off, 3)) (ht : (pc : Int) + off = (tgt : Int)) (k : ip_V p l e R s m args below meth c D cl aC b sc nL n0 s0 Q w tgt lo st) : ip_V p l e R s m args below meth c D cl aC b sc nL n0 s0 Q w pc lo (.null :: st) :=
  fun H locs ls hG hS hl => lv_ifnullN hx hb hdg ht (k H locs ls hG hS hl)
theorem ip_lookup (hx : p.tables.exec = Jvm.exec) (hb : c.code = cc) {dflt : Int} {ps : Array (Int × Int)} {len : Nat} {x : Int32} {off : Int} {tgt : Nat} (hdg : decode cc pc = .ok (.lookupswitch dflt ps, len)) (hp : (ps.toList.zip (ps.toList.drop 1)).all (fun (a, next) => a.1 < next.1) = true) (ho : Op.lookupswitch.offset ps.toList dflt x.toInt = off) (ht : (pc : Int) + off = (tgt : Int)) (k : ip_V p l e R s m args below meth c D cl aC b sc nL n0 s0 Q w tgt lo st) : ip_V p l e R s m args below meth c D cl aC b sc nL n0 s0 Q w pc lo (.int x :: st) :=
  fun H locs ls hG hS hl => lv_lookup hx hb hdg hp ho ht (k H locs ls hG hS hl)
theorem ip_tableOut (hx : p.tables.exec = Jvm.exec) (hb : c.code = cc) {dflt lw hi : Int} {offs : Array Int} {len : Nat} {x : Int32} {tgt : Nat} (hdg : decode cc pc = .ok (.tableswitch dflt lw hi offs, len)) (h : x.toInt < lw ∨ hi < x.toInt) (ht : (pc : Int) + dflt = (tgt : Int)) (k : ip_V p l e R s m args below meth c D cl aC b sc nL n0 s0 Q w tgt lo st) : ip_V p l e R s m args below meth c D cl aC b sc nL n0 s0 Q w pc lo (.int x :: st) :=
  fun H locs ls hG hS hl => lv_tableOut hx hb hdg h ht (k H locs ls hG hS hl)
theorem ip_tableIn (hx : p.tables.exec = Jvm.exec) (hb : c.code = cc) {dflt lw hi : Int} {offs : Array Int} {len : Nat} {x : Int32} {off : Int} {tgt : Nat} (hdg : decode cc pc = .ok (.tableswitch dflt lw hi offs, len)) (h1 : ¬ x.toInt < lw) (h2 : ¬ hi < x.toInt) (ho : offs[(x.toInt - lw).toNat]? = some off) (ht : (pc : Int) + off = (tgt : Int)) (k : ip_V p l e R s m args below meth c D cl aC b sc nL n0 s0 Q w tgt lo st) : ip_V p l e R s m args below meth c D cl aC b sc nL n0 s0 Q w pc lo (.int x :: st) :=
  fun H locs ls hG hS hl => lv_tableIn hx hb hdg h1 h2 ho ht (k H locs ls hG hS hl)
end IPV
end
section
/-! part 02: the rules of fields, arrays, new -/
/-- the kinds of arrays: 0 int, 1 byte, 2 long, 3 boolean, 4 of Symbols -/
def ip_T (aC : Nat → ClassId) : List (ClassId × FieldType) := [(aC 0, .int), (aC 1, .byte), (aC 2, .long), (aC 3, .boolean), (aC 4, .object "VitalTwin$Symbol")]
/-- one cell of a world turns, all else stays -/
theorem ip_G.turn {D : va_G} {cl : List vw_C} {aC : Nat → ClassId} {b : Nat} {sc : Nat → Nat} {w : ip_W} {H H1 : Heap} {a : Nat} {x : ip_E} (h : ip_G D cl aC b sc w H) (z : H1.size = H.size) (oq : ∀ q : Nat, q ≠ b + a → H1[q]? = H[q]?) (ha : va_at D cl (b + a, ip_e b sc aC x) H1) : ip_G D cl aC b sc (w.1, w.2.1, va_up w.2.2 a (some x)) H1 := by
  refine ⟨by rw [z]; exact h.1, fun k y hk => ?_⟩
  by_cases hka : k = a
  · subst hka
    have hk' : va_up w.2.2 k (some x) k = some y := hk
    simp [va_up] at hk'
    subst hk'
    exact ha
  · have hk' : va_up w.2.2 a (some x) k = some y := hk
    simp [va_up, hka] at hk'
    exact (h.2 k y hk').kept (oq (b + k) (by omega))
/-- a world grows by a cell -/
theorem ip_G.grow {D : va_G} {cl : List vw_C} {aC : Nat → ClassId} {b : Nat} {sc : Nat → Nat} {w : ip_W} {H H1 : Heap} {N : Nat} {x : ip_E} (h : ip_G D cl aC b sc w H) (z : H1.size = H.size + 1) (oq : ∀ q : Nat, q < H.size → H1[q]? = H[q]?) (ha : va_at D cl (b + w.1, ip_e b sc aC x) H1) : ip_G D cl aC b sc (w.1 + 1, w.2.1 + N, va_up w.2.2 w.1 (some x)) H1 := by
  refine ⟨by show H1.size = b + (w.1 + 1); rw [z, h.1]; omega, fun k y hk => ?_⟩
  by_cases hka : k = w.1
  · have hk' : va_up w.2.2 w.1 (some x) k = some y := hk
    rw [hka] at hk' ⊢
    simp [va_up] at hk'
    subst hk'
    exact ha
  · have hk' : va_up w.2.2 w.1 (some x) k = some y := hk
    simp [va_up, hka] at hk'
    have h2 := h.2 k y hk'
    exact h2.kept (oq (b + k) h2.lt)
theorem ip_S.grow {A : Nat → Prop} {H0 H H1 : Heap} {locs : List Loc} (hS : va_S A H0 H locs) (z : H1.size = H.size + 1) (oq : ∀ q : Nat, q < H.size → H1[q]? = H[q]?) : va_S A H0 H1 locs :=
  ⟨Nat.le_trans hS.1 (by omega), fun x h1 h2 => (oq x (Nat.lt_of_lt_of_le h1 hS.1)).trans (hS.2.1 x h1 h2), hS.2.2⟩
section IPH
variable {p : Program} {l : Launch} {e : Env} {R : Room} {s : State} {m : MethodId} {args : Array Value} {below : List Frame} {meth : Method} {c : Code} {Q : State → Prop}
variable {D : va_G} {cl : List vw_C} {aC : Nat → ClassId} {b : Nat} {sc : Nat → Nat} {nL n0 s0 : Nat} {cc : ByteArray} {w : ip_W} {pc : Nat} {lo : List (Nat × Value)} {st : List Value}
theorem ip_getf (hx : p.tables.exec = Jvm.exec) (hb : c.code = cc) {own ref C : String} {T : u_T} {N ci index a : Nat} {Ts : List Cond} (hts : ∀ w ∈ Ts, w.before args s = true) (hin : ∀ w ∈ u_ws C T N, w ∈ Ts) (hown : s.vm.findClass own = some m.cls) (hK : va_K D cl (ip_T aC) s) {fs : List Value} (he : w.2.2 a = some (.inr (ci, fs))) (hc : cl[ci]? = some (C, T, N)) (j : Nat) (hj : j < N) (hlink : (Cond.fieldLink own index ref (T j).2.1 (T j).2.2.1).before args s = true) (hsame : ∀ x, s.fieldFound? (T j).1 (T j).2.1 (T j).2.2.1 = some x → s.fieldFound? ref (T j).2.1 (T j).2.2.1 = some x) {v : Value} (hv : fs[j]? = some v) (hdg : decode cc pc = .ok (.getfield index, 3)) (k : ip_V p l e R s m args below meth c D cl aC b sc nL n0 s0 Q w (pc + 3) lo (v :: st)) : ip_V p l e R s m args below meth c D cl aC b sc nL n0 s0 Q w pc lo (.ref a :: st) := by
  intro H locs ls hG hS hl
  have hP : va_P D cl [(b + a, ip_e b sc aC (.inr (ci, fs)))] H := fun i q hi => by
    have hz : i < 1 := (List.getElem?_eq_some_iff.mp hi).1
    rw [show i = 0 by omega] at hi
    cases hi
    exact hG.2 a _ he
  exact va_get hx hb hts hin hown hK hP 0 rfl hc j hj hlink hsame (v := ip_v b sc v) (by rw [List.getElem?_map, hv]; rfl) hdg (k H locs ls hG hS hl)
theorem ip_putf (hx : p.tables.exec = Jvm.exec) (hb : c.code = cc) {own ref C : String} {T : u_T} {N ci index a : Nat} {Ts : List Cond} (hts : ∀ w ∈ Ts, w.before args s = true) (hin : ∀ w ∈ u_ws C T N, w ∈ Ts) (ty0 : Nat → FieldType) (hty : ∀ k, k < N → parseFieldDescriptor (T k).2.2.1 = some (ty0 k)) (hnm : ∀ a, a < N → ∀ b, b < N → a ≠ b → (T a).2.1 ≠ (T b).2.1) (hown : s.vm.findClass own = some m.cls) (hK : va_K D cl (ip_T aC) s) {fs : List Value} (he : w.2.2 a = some (.inr (ci, fs))) (hc : cl[ci]? = some (C, T, N)) (j : Nat) (hj : j < N) (hlink : (Cond.fieldLink own index ref (T j).2.1 (T j).2.2.1).before args s = true) (hsame : ∀ x, s.fieldFound? (T j).1 (T j).2.1 (T j).2.2.1 = some x → s.fieldFound? ref (T j).2.1 (T j).2.2.1 = some x) (hfin : (T j).2.2.2 = false) {ty : FieldType} {v : Value} (hd : parseFieldDescriptor (T j).2.2.1 = some ty) (hn : narrow ty (ip_v b sc v) = ip_v b sc v) (hfit : fits ty (ip_v b sc v) = true) (hlen : j < fs.length) (hdg : decode cc pc = .ok (.putfield index, 3))
    (k : ip_V p l e R s m args below meth c D cl aC b sc nL n0 s0 Q (w.1, w.2.1, va_up w.2.2 a (some (.inr (ci, fs.set j v)))) (pc + 3) lo st) : ip_V p l e R s m args below meth c D cl aC b sc nL n0 s0 Q w pc lo (v :: .ref a :: st) := by
  intro H locs ls hG hS hl
  have hap := va_apart (own := own) hts hin ty0 hty hnm hK hc
  obtain ⟨r, h1, cell, q1, q2, q3, q4⟩ := hG.2 a _ he
  have hr : r = (C, T, N) := Option.some.inj (h1.symm.trans hc)
  subst hr
  obtain ⟨hSl, hfc, kC, hkC, hkind⟩ := hK.1 ci _ hc
  obtain ⟨cf, kf, fi, f, hi, hsl⟩ := hSl j hj
  have hlay := hts _ (hin _ (u_in_lay hj))
  unfold u_lay at hlay
  rw [if_neg (by rw [hfin]; decide)] at hlay
  have hst := (u_facts hfc hkC (u_lays hts hin hj) hi).1
  have h6 := u_store hfc hkC hkind hlay hi hd hn hfit
  refine W.putK hx hb (f := f) ⟨hown, hlink, ⟨_, _, _, hsame _ hi⟩, hst⟩ (by rw [q2]; exact h6) q1 q3 (by rw [hsl]; exact k2_hasslot (q4 j hj)) rfl rfl hdg fun H' e1 e2 e3 => ?_
  rw [hsl] at e1 ⊢
  refine k H' _ ls (hG.turn (a := a) (x := .inr (ci, fs.set j v)) e2 e3 ?_) (hS.put e2 e3 (Nat.le_add_right b a)) hl
  refine ⟨_, hc, t_OB.to (V := updV (vp_V (fs.map (ip_v b sc))) j (ip_v b sc v)) ⟨_, e1, q2, q3, t_set q4 hap hj _⟩ (fun i _ => ?_)⟩
  rw [vp_updV_set (by rw [List.length_map]; exact hlen), ← List.map_set]
theorem ip_putfF (hx : p.tables.exec = Jvm.exec) (hb : c.code = cc) {own ref C : String} {T : u_T} {N ci index a : Nat} {Ts : List Cond} (hts : ∀ w ∈ Ts, w.before args s = true) (hin : ∀ w ∈ u_ws C T N, w ∈ Ts) (ty0 : Nat → FieldType) (hty : ∀ k, k < N → parseFieldDescriptor (T k).2.2.1 = some (ty0 k)) (hnm : ∀ a, a < N → ∀ b, b < N → a ≠ b → (T a).2.1 ≠ (T b).2.1) (hown : s.vm.findClass own = some m.cls) (hK : va_K D cl (ip_T aC) s) {fs : List Value} (he : w.2.2 a = some (.inr (ci, fs))) (hc : cl[ci]? = some (C, T, N)) (j : Nat) (hj : j < N) (hlink : (Cond.fieldLink own index ref (T j).2.1 (T j).2.2.1).before args s = true) (hsame : ∀ x, s.fieldFound? (T j).1 (T j).2.1 (T j).2.2.1 = some x → s.fieldFound? ref (T j).2.1 (T j).2.2.1 = some x) (hfin : (T j).2.2.2 = true) (hin2 : meth.name = "<init>") (hdecl : (T j).1 = own) {ty : FieldType} {v : Value} (hd : parseFieldDescriptor (T j).2.2.1 = some ty) (hn : narrow ty (ip_v b sc v) = ip_v b sc v) (hfit : fits ty (ip_v b sc v) = true) (hlen : j < fs.length) (hdg : decode cc pc = .ok (.putfield index, 3))
    (k : ip_V p l e R s m args below meth c D cl aC b sc nL n0 s0 Q (w.1, w.2.1, va_up w.2.2 a (some (.inr (ci, fs.set j v)))) (pc + 3) lo st) : ip_V p l e R s m args below meth c D cl aC b sc nL n0 s0 Q w pc lo (v :: .ref a :: st) := by
  intro H locs ls hG hS hl
  have hap := va_apart (own := own) hts hin ty0 hty hnm hK hc
  obtain ⟨r, h1, cell, q1, q2, q3, q4⟩ := hG.2 a _ he
  have hr : r = (C, T, N) := Option.some.inj (h1.symm.trans hc)
  subst hr
  obtain ⟨hSl, hfc, kC, hkC, hkind⟩ := hK.1 ci _ hc
  obtain ⟨cf, kf, fi, f, hi, hsl⟩ := hSl j hj
  have hlay := hts _ (hin _ (u_in_lay hj))
  unfold u_lay at hlay
  rw [if_pos hfin] at hlay
  have hst := (u_facts hfc hkC (u_lays hts hin hj) hi).1
  have hcf : m.cls = cf := by
    obtain ⟨_, _, c', _, _, _, -, -, hf', -, -, -, hown2, -⟩ := Cond.laysFinal_spec hlay
    have e1 : c' = cf := by have := hi.symm.trans hf'; simp at this; exact this.1.symm
    rw [hdecl] at hown2
    rw [← e1]; exact Option.some.inj (hown.symm.trans hown2)
  have h6 := u_fits hfc hkC hkind (Or.inr hlay) hi hd hn hfit
  refine W.putFinK hx hb hown hlink (hsame _ hi) hst hcf hin2 (by rw [q2]; exact h6) q1 q3 (by rw [hsl]; exact k2_hasslot (q4 j hj)) rfl rfl hdg fun H' e1 e2 e3 => ?_
  rw [hsl] at e1 ⊢
  refine k H' _ ls (hG.turn (a := a) (x := .inr (ci, fs.set j v)) e2 e3 ?_) (hS.put e2 e3 (Nat.le_add_right b a)) hl
  refine ⟨_, hc, t_OB.to (V := updV (vp_V (fs.map (ip_v b sc))) j (ip_v b sc v)) ⟨_, e1, q2, q3, t_set q4 hap hj _⟩ (fun i _ => ?_)⟩
  rw [vp_updV_set (by rw [List.length_map]; exact hlen), ← List.map_set]
theorem ip_iald (hx : p.tables.exec = Jvm.exec) (hb : c.code = cc) (hK : va_K D cl (ip_T aC) s) {a n : Nat} {f : Nat → Int32} (he : w.2.2 a = some (.inl (0, n, .inl f))) {i : Int32} (hin : vp_in i n) (hdg : decode cc pc = .ok (.iaload, 1)) (k : ip_V p l e R s m args below meth c D cl aC b sc nL n0 s0 Q w (pc + 1) lo (.int (f i.toNatClampNeg) :: st)) : ip_V p l e R s m args below meth c D cl aC b sc nL n0 s0 Q w pc lo (.int i :: .ref a :: st) := by
  intro H locs ls hG hS hl
  have hP : va_P D cl [(b + a, ip_e b sc aC (.inl (0, n, .inl f)))] H := fun i q hi => by
    have hz : i < 1 := (List.getElem?_eq_some_iff.mp hi).1
    rw [show i = 0 by omega] at hi
    cases hi
    exact hG.2 a _ he
  exact va_iald hx hb hK hP 0 0 rfl rfl hin hdg (k H locs ls hG hS hl)
theorem ip_bald (hx : p.tables.exec = Jvm.exec) (hb : c.code = cc) (hK : va_K D cl (ip_T aC) s) {a n : Nat} {f : Nat → Int32} (he : w.2.2 a = some (.inl (1, n, .inl f))) {i : Int32} (hin : vp_in i n) (hdg : decode cc pc = .ok (.baload, 1)) (k : ip_V p l e R s m args below meth c D cl aC b sc nL n0 s0 Q w (pc + 1) lo (.int (f i.toNatClampNeg) :: st)) : ip_V p l e R s m args below meth c D cl aC b sc nL n0 s0 Q w pc lo (.int i :: .ref a :: st) := by
  intro H locs ls hG hS hl
  have hP : va_P D cl [(b + a, ip_e b sc aC (.inl (1, n, .inl f)))] H := fun i q hi => by
    have hz : i < 1 := (List.getElem?_eq_some_iff.mp hi).1
    rw [show i = 0 by omega] at hi
    cases hi
    exact hG.2 a _ he
  exact va_bald hx hb hK hP 0 1 rfl rfl hin hdg (k H locs ls hG hS hl)
theorem ip_zald (hx : p.tables.exec = Jvm.exec) (hb : c.code = cc) (hK : va_K D cl (ip_T aC) s) {a n : Nat} {f : Nat → Int32} (he : w.2.2 a = some (.inl (3, n, .inl f))) {i : Int32} (hin : vp_in i n) (hdg : decode cc pc = .ok (.baload, 1)) (k : ip_V p l e R s m args below meth c D cl aC b sc nL n0 s0 Q w (pc + 1) lo (.int (f i.toNatClampNeg) :: st)) : ip_V p l e R s m args below meth c D cl aC b sc nL n0 s0 Q w pc lo (.int i :: .ref a :: st) := by
  intro H locs ls hG hS hl
  have hP : va_P D cl [(b + a, ip_e b sc aC (.inl (3, n, .inl f)))] H := fun i q hi => by
    have hz : i < 1 := (List.getElem?_eq_some_iff.mp hi).1
    rw [show i = 0 by omega] at hi
    cases hi
    exact hG.2 a _ he
  exact va_zald hx hb hK hP 0 3 rfl rfl hin hdg (k H locs ls hG hS hl)
theorem ip_lald (hx : p.tables.exec = Jvm.exec) (hb : c.code = cc) (hK : va_K D cl (ip_T aC) s) {a n : Nat} {f : Nat → Int64} (he : w.2.2 a = some (.inl (2, n, .inr (.inl f)))) {i : Int32} (hin : vp_in i n) (hdg : decode cc pc = .ok (.laload, 1)) (k : ip_V p l e R s m args below meth c D cl aC b sc nL n0 s0 Q w (pc + 1) lo (.long (f i.toNatClampNeg) :: st)) : ip_V p l e R s m args below meth c D cl aC b sc nL n0 s0 Q w pc lo (.int i :: .ref a :: st) := by
  intro H locs ls hG hS hl
  have hP : va_P D cl [(b + a, ip_e b sc aC (.inl (2, n, .inr (.inl f))))] H := fun i q hi => by
    have hz : i < 1 := (List.getElem?_eq_some_iff.mp hi).1
    rw [show i = 0 by omega] at hi
    cases hi
    exact hG.2 a _ he
  exact va_lald hx hb hK hP 0 2 rfl rfl hin hdg (k H locs ls hG hS hl)
def ip_r (r : Option Nat) : Value := match r with
  | none => .null
  | some a => .ref a
theorem ip_aald (hx : p.tables.exec = Jvm.exec) (hb : c.code = cc) (hK : va_K D cl (ip_T aC) s) {a n : Nat} {f : Nat → Option Nat} (he : w.2.2 a = some (.inl (4, n, .inr (.inr f)))) {i : Int32} (hin : vp_in i n) (hdg : decode cc pc = .ok (.aaload, 1)) (k : ip_V p l e R s m args below meth c D cl aC b sc nL n0 s0 Q w (pc + 1) lo (ip_r (f i.toNatClampNeg) :: st)) : ip_V p l e R s m args below meth c D cl aC b sc nL n0 s0 Q w pc lo (.int i :: .ref a :: st) := by
  intro H locs ls hG hS hl
  have hP : va_P D cl [(b + a, ip_e b sc aC (.inl (4, n, .inr (.inr f))))] H := fun i q hi => by
    have hz : i < 1 := (List.getElem?_eq_some_iff.mp hi).1
    rw [show i = 0 by omega] at hi
    cases hi
    exact hG.2 a _ he
  have kk := k H locs ls hG hS hl
  refine va_aldq hx hb hK hP 0 4 rfl rfl hin hdg ?_
  have e1 : va_rf ((f i.toNatClampNeg).map (fun a => b + a)) = ip_v b sc (ip_r (f i.toNatClampNeg)) := by cases f i.toNatClampNeg <;> rfl
  rw [e1]
  exact kk
theorem ip_alen (hx : p.tables.exec = Jvm.exec) (hb : c.code = cc) (hK : va_K D cl (ip_T aC) s) {a kd n : Nat} {x : ip_A} (hkd : kd < 5) (he : w.2.2 a = some (.inl (kd, n, x))) (hdg : decode cc pc = .ok (.arraylength, 1)) (k : ip_V p l e R s m args below meth c D cl aC b sc nL n0 s0 Q w (pc + 1) lo (.int (Int32.ofNat n) :: st)) : ip_V p l e R s m args below meth c D cl aC b sc nL n0 s0 Q w pc lo (.ref a :: st) := by
  intro H locs ls hG hS hl
  have kk := k H locs ls hG hS hl
  have ht : ∃ ty, (ip_T aC)[kd]? = some (aC kd, ty) := by
    rcases (show kd = 0 ∨ kd = 1 ∨ kd = 2 ∨ kd = 3 ∨ kd = 4 by omega) with rfl | rfl | rfl | rfl | rfl <;> exact ⟨_, rfl⟩
  obtain ⟨ty, ht⟩ := ht
  obtain f | f | f := x
  all_goals
    have hP : va_P D cl [(b + a, ip_e b sc aC _)] H := fun i q hi => by
      have hz : i < 1 := (List.getElem?_eq_some_iff.mp hi).1
      rw [show i = 0 by omega] at hi
      cases hi
      exact hG.2 a _ he
    exact va_alen hx hb hK hP 0 kd rfl ht rfl hdg kk
theorem ip_iast (hx : p.tables.exec = Jvm.exec) (hb : c.code = cc) (hK : va_K D cl (ip_T aC) s) {a n : Nat} {f : Nat → Int32} (he : w.2.2 a = some (.inl (0, n, .inl f))) {i : Int32} {x : Int32} (hin : vp_in i n) (hdg : decode cc pc = .ok (.iastore, 1)) (k : ip_V p l e R s m args below meth c D cl aC b sc nL n0 s0 Q (w.1, w.2.1, va_up w.2.2 a (some (.inl (0, n, .inl (upd f i.toNatClampNeg x))))) (pc + 1) lo st) : ip_V p l e R s m args below meth c D cl aC b sc nL n0 s0 Q w pc lo (.int x :: .int i :: .ref a :: st) := by
  intro H locs ls hG hS hl
  have hcell : H[b + a]? = some (vp_cell (aC 0) (n, .inl f)) := hG.2 a _ he
  refine W.iast hx hb hcell ((hK.2 0 _ rfl).1 n (fun j => .int (f j))) (fun q => by cases q) (by show ¬ (i < 0 ∨ (arrV _ _ _).slots.size ≤ _); rw [arrV_size]; exact hin) rfl rfl hdg fun H1 e1 z oq => ?_
  refine k H1 _ ls (hG.turn (a := a) (x := .inl (0, n, .inl (upd f i.toNatClampNeg x))) z oq ?_) (hS.put z oq (Nat.le_add_right b a)) hl
  show H1[b + a]? = some (vp_cell (aC 0) (n, .inl (upd f i.toNatClampNeg x)))
  rw [e1]
  rw [vp_cell_i, vp_cell_i, arrV_store]
  congr 2
  funext q
  by_cases hq : q = i.toNatClampNeg
  · subst hq
    simp [updV, upd]
  · simp [updV, upd, hq]
theorem ip_bast (hx : p.tables.exec = Jvm.exec) (hb : c.code = cc) (hK : va_K D cl (ip_T aC) s) {a n : Nat} {f : Nat → Int32} (he : w.2.2 a = some (.inl (1, n, .inl f))) {i : Int32} {x : Int32} (hin : vp_in i n) (hdg : decode cc pc = .ok (.bastore, 1)) (k : ip_V p l e R s m args below meth c D cl aC b sc nL n0 s0 Q (w.1, w.2.1, va_up w.2.2 a (some (.inl (1, n, .inl (upd f i.toNatClampNeg (vp_nar .byte x)))))) (pc + 1) lo st) : ip_V p l e R s m args below meth c D cl aC b sc nL n0 s0 Q w pc lo (.int x :: .int i :: .ref a :: st) := by
  intro H locs ls hG hS hl
  have hcell : H[b + a]? = some (vp_cell (aC 1) (n, .inl f)) := hG.2 a _ he
  refine W.bast hx hb hcell ((hK.2 1 _ rfl).1 n (fun j => .int (f j))) (fun q => by cases q) (by show ¬ (i < 0 ∨ (arrV _ _ _).slots.size ≤ _); rw [arrV_size]; exact hin) rfl rfl hdg fun H1 e1 z oq => ?_
  refine k H1 _ ls (hG.turn (a := a) (x := .inl (1, n, .inl (upd f i.toNatClampNeg (vp_nar .byte x)))) z oq ?_) (hS.put z oq (Nat.le_add_right b a)) hl
  show H1[b + a]? = some (vp_cell (aC 1) (n, .inl (upd f i.toNatClampNeg (vp_nar .byte x))))
  rw [e1]
  rw [vp_cell_i, vp_cell_i, arrV_store]
  congr 2
  funext q
  by_cases hq : q = i.toNatClampNeg
  · subst hq
    simp [updV, upd, vp_nar]
    try rfl
  · simp [updV, upd, hq]
theorem ip_zast (hx : p.tables.exec = Jvm.exec) (hb : c.code = cc) (hK : va_K D cl (ip_T aC) s) {a n : Nat} {f : Nat → Int32} (he : w.2.2 a = some (.inl (3, n, .inl f))) {i : Int32} {x : Int32} (hin : vp_in i n) (hdg : decode cc pc = .ok (.bastore, 1)) (k : ip_V p l e R s m args below meth c D cl aC b sc nL n0 s0 Q (w.1, w.2.1, va_up w.2.2 a (some (.inl (3, n, .inl (upd f i.toNatClampNeg (vp_nar .boolean x)))))) (pc + 1) lo st) : ip_V p l e R s m args below meth c D cl aC b sc nL n0 s0 Q w pc lo (.int x :: .int i :: .ref a :: st) := by
  intro H locs ls hG hS hl
  have hcell : H[b + a]? = some (vp_cell (aC 3) (n, .inl f)) := hG.2 a _ he
  refine W.zast hx hb hcell ((hK.2 3 _ rfl).1 n (fun j => .int (f j))) (fun q => by cases q) (by show ¬ (i < 0 ∨ (arrV _ _ _).slots.size ≤ _); rw [arrV_size]; exact hin) rfl rfl hdg fun H1 e1 z oq => ?_
  refine k H1 _ ls (hG.turn (a := a) (x := .inl (3, n, .inl (upd f i.toNatClampNeg (vp_nar .boolean x)))) z oq ?_) (hS.put z oq (Nat.le_add_right b a)) hl
  show H1[b + a]? = some (vp_cell (aC 3) (n, .inl (upd f i.toNatClampNeg (vp_nar .boolean x))))
  rw [e1]
  rw [vp_cell_i, vp_cell_i, arrV_store]
  congr 2
  funext q
  by_cases hq : q = i.toNatClampNeg
  · subst hq
    simp [updV, upd, vp_nar]
    try rfl
  · simp [updV, upd, hq]
theorem ip_last (hx : p.tables.exec = Jvm.exec) (hb : c.code = cc) (hK : va_K D cl (ip_T aC) s) {a n : Nat} {f : Nat → Int64} (he : w.2.2 a = some (.inl (2, n, .inr (.inl f)))) {i : Int32} {x : Int64} (hin : vp_in i n) (hdg : decode cc pc = .ok (.lastore, 1)) (k : ip_V p l e R s m args below meth c D cl aC b sc nL n0 s0 Q (w.1, w.2.1, va_up w.2.2 a (some (.inl (2, n, .inr (.inl (vp_updL f i.toNatClampNeg x)))))) (pc + 1) lo st) : ip_V p l e R s m args below meth c D cl aC b sc nL n0 s0 Q w pc lo (.long x :: .int i :: .ref a :: st) := by
  intro H locs ls hG hS hl
  have hcell : H[b + a]? = some (vp_cell (aC 2) (n, .inr (.inl f))) := hG.2 a _ he
  refine W.last hx hb hcell ((hK.2 2 _ rfl).1 n (fun j => .long (f j))) (fun q => by cases q) (by show ¬ (i < 0 ∨ (arrV _ _ _).slots.size ≤ _); rw [arrV_size]; exact hin) rfl rfl hdg fun H1 e1 z oq => ?_
  refine k H1 _ ls (hG.turn (a := a) (x := .inl (2, n, .inr (.inl (vp_updL f i.toNatClampNeg x)))) z oq ?_) (hS.put z oq (Nat.le_add_right b a)) hl
  show H1[b + a]? = some (vp_cell (aC 2) (n, .inr (.inl (vp_updL f i.toNatClampNeg x))))
  rw [e1]
  rw [vp_cell_l, vp_cell_l, arrV_store]
  congr 2
  funext q
  by_cases hq : q = i.toNatClampNeg
  · subst hq
    simp [updV, vp_updL]
  · simp [updV, vp_updL, hq]
theorem ip_aast (hx : p.tables.exec = Jvm.exec) (hb : c.code = cc) (hK : va_K D cl (ip_T aC) s) {a n v ci : Nat} {f : Nat → Option Nat} {vs : List Value} {r : vw_C} (he : w.2.2 a = some (.inl (4, n, .inr (.inr f)))) (hv : w.2.2 v = some (.inr (ci, vs))) (hc : cl[ci]? = some r) (hr1 : r.1 = "VitalTwin$Symbol") {i : Int32} (hin : vp_in i n) (hdg : decode cc pc = .ok (.aastore, 1)) (k : ip_V p l e R s m args below meth c D cl aC b sc nL n0 s0 Q (w.1, w.2.1, va_up w.2.2 a (some (.inl (4, n, .inr (.inr (va_up f i.toNatClampNeg (some v))))))) (pc + 1) lo st) : ip_V p l e R s m args below meth c D cl aC b sc nL n0 s0 Q w pc lo (.ref v :: .int i :: .ref a :: st) := by
  intro H locs ls hG hS hl
  have hcell : H[b + a]? = some (vp_cell (aC 4) (n, .inr (.inr (.inr (.inr (fun j => (f j).map (fun a => b + a))))))) := hG.2 a _ he
  have hlt : i.toNatClampNeg < n := Nat.not_le.mp fun q => hin (Or.inr q)
  have h0 : ¬ i < 0 := fun q => hin (Or.inl q)
  obtain ⟨r', hr', cellV, g1, g2, g3, -⟩ := hG.2 v _ hv
  have hcls := (hK.1 ci r hc).2
  obtain ⟨kA, comp, k1, k2, k3, -⟩ := (hK.2 4 (aC 4, .object "VitalTwin$Symbol") rfl).2
  rw [hr1] at hcls
  have hcomp : comp = D.1 ci := Option.some.inj (k3.symm.trans hcls.1)
  subst hcomp
  obtain ⟨kC, hkC, -⟩ := hcls.2
  refine W.aast hx hb hcell (fun q h => by cases h) (fun h => by cases h) k1 k2 rfl hkC ⟨h0, by show _ < (arrV _ _ _).slots.size; rw [arrV_size]; exact hlt⟩ g1 (fun q h => by rw [g3] at h; cases h) (by rw [g2]; exact hkC) (by rw [g2]; exact va_assign hcls) rfl rfl hdg fun H1 e1 z oq => ?_
  refine k H1 _ ls (hG.turn (a := a) (x := .inl (4, n, .inr (.inr (va_up f i.toNatClampNeg (some v))))) z oq ?_) (hS.put z oq (Nat.le_add_right b a)) hl
  show H1[b + a]? = some (vp_cell (aC 4) (n, .inr (.inr (.inr (.inr (fun j => (va_up f i.toNatClampNeg (some v) j).map (fun a => b + a)))))))
  rw [e1]
  rw [vp_cell_q, vp_cell_q, arrV_store]
  congr 2
  funext q
  by_cases hq : q = i.toNatClampNeg
  · subst hq
    simp [updV, va_up, va_rf, ip_v]
  · simp [updV, va_up, hq]
theorem ip_new (hx : p.tables.exec = Jvm.exec) (hb : c.code = cc) {own C : String} {T : u_T} {N ci index : Nat} {Ts : List Cond} (hts : ∀ w ∈ Ts, w.before args s = true) (hin : ∀ w ∈ u_ws C T N, w ∈ Ts) (ty : Nat → FieldType) (hty : ∀ k, k < N → parseFieldDescriptor (T k).2.2.1 = some (ty k)) (hown : s.vm.findClass own = some m.cls) (hcl : (Cond.classLink own index C).before args s = true) (hinst : (Cond.instantiable C N).before args s = true) (hini : (Cond.initialized C).before args s = true)
    (hK : va_K D cl (ip_T aC) s) (hc : cl[ci]? = some (C, T, N)) {fs : List Value} (hfs : ∀ j, j < N → defaultValue (ty j) = vp_V (fs.map (ip_v b sc)) j) (hn0 : n0 ≤ w.1) (hs0 : s0 ≤ w.2.1) (hcells : w.1 + 1 ≤ n0 + R.cells) (hslots : w.2.1 + N ≤ s0 + R.slots) (hdg : decode cc pc = .ok (.new index, 3))
    (k : ip_V p l e R s m args below meth c D cl aC b sc nL n0 s0 Q (w.1 + 1, w.2.1 + N, va_up w.2.2 w.1 (some (.inr (ci, fs)))) (pc + 3) lo (.ref w.1 :: st)) : ip_V p l e R s m args below meth c D cl aC b sc nL n0 s0 Q w pc lo st := by
  intro H locs ls hG hS hl
  have hKn := hK.1 ci _ hc
  refine W.newcK hx hb hown hcl hinst hini rfl hdg (by omega) (by omega) hKn.2.1 rfl fun H1 kC hkC e1 z1 o1 => ?_
  have kk := k H1 locs ls (hG.grow (N := N) (x := .inr (ci, fs)) z1 o1 ?_) (ip_S.grow hS z1 o1) hl
  · rw [show w.1 - n0 + 1 = w.1 + 1 - n0 by omega, show w.2.1 - s0 + N = w.2.1 + N - s0 by omega, hG.1]
    exact kk
  · refine ⟨_, hc, ?_⟩
    have hbn := (u_born ty hts hin hKn hkC e1 hty).to hfs
    rw [hG.1] at hbn
    exact hbn
theorem ip_newa (hx : p.tables.exec = Jvm.exec) (hb : c.code = cc) {atype : ArrayType} (harr : (Cond.arrayClass (newarray.typeOf atype)).before args s = true) {ty : FieldType} (hty : newarray.typeOf atype = ty) {kd : Nat} (hK : va_K D cl (ip_T aC) s) (hkd : (ip_T aC)[kd]? = some (aC kd, ty)) {n : Int32} {N' : Nat} {x0 : ip_A} (ha : ∀ cA : ClassId, (match ip_e b sc (fun _ => cA) (.inl (kd, N', x0)) with | .inl y => vp_cell y.1 y.2 | .inr _ => arrV 0 0 (fun _ => .null)) = arrV cA N' (fun _ => defaultValue ty)) (hn : ¬ n < 0) (hN : n.toNatClampNeg = N') (hbytes : N' * componentBytes ty ≤ 536870912)
    (hnm : ∀ cA, va_RA s cA ty → s.vm.findClass ("[" ++ ty.toString) = some cA) (hn0 : n0 ≤ w.1) (hs0 : s0 ≤ w.2.1) (hcells : w.1 + 1 ≤ n0 + R.cells) (hslots : w.2.1 + N' ≤ s0 + R.slots) (hdg : decode cc pc = .ok (.newarray atype, 2))
    (k : ip_V p l e R s m args below meth c D cl aC b sc nL n0 s0 Q (w.1 + 1, w.2.1 + N', va_up w.2.2 w.1 (some (.inl (kd, N', x0)))) (pc + 2) lo (.ref w.1 :: st)) : ip_V p l e R s m args below meth c D cl aC b sc nL n0 s0 Q w pc lo (.int n :: st) := by
  subst hty
  intro H locs ls hG hS hl
  refine va_newaK hx hb harr rfl hdg rfl hn hN hbytes (by omega) (by omega) rfl fun H1 cA e1 z1 o1 hAr hNm => ?_
  have hcA : cA = aC kd := Option.some.inj (hNm.symm.trans (hnm _ (hK.2 kd _ hkd).2))
  subst hcA
  have kk := k H1 locs ls (hG.grow (N := N') (x := .inl (kd, N', x0)) z1 o1 ?_) (ip_S.grow hS z1 o1) hl
  · rw [show w.1 - n0 + 1 = w.1 + 1 - n0 by omega, show w.2.1 - s0 + N' = w.2.1 + N' - s0 by omega, hG.1]
    exact kk
  · rw [hG.1, ← ha] at e1
    obtain f | f | f := x0 <;> exact e1
theorem ip_anew (hx : p.tables.exec = Jvm.exec) (hb : c.code = cc) {own : String} {index : Nat} (hown : s.vm.findClass own = some m.cls) (hclink : (Cond.classLink own index "VitalTwin$Symbol").before args s = true) (hover : (Cond.arrayOver (.object "VitalTwin$Symbol")).before args s = true) (hK : va_K D cl (ip_T aC) s) {n : Int32} {N' : Nat} (hn : ¬ n < 0) (hN : n.toNatClampNeg = N') (hbytes : N' * 4 ≤ 536870912) (hn0 : n0 ≤ w.1) (hs0 : s0 ≤ w.2.1) (hcells : w.1 + 1 ≤ n0 + R.cells) (hslots : w.2.1 + N' ≤ s0 + R.slots) (hdg : decode cc pc = .ok (.anewarray index, 3))
    (k : ip_V p l e R s m args below meth c D cl aC b sc nL n0 s0 Q (w.1 + 1, w.2.1 + N', va_up w.2.2 w.1 (some (.inl (4, N', .inr (.inr (fun _ => none)))))) (pc + 3) lo (.ref w.1 :: st)) : ip_V p l e R s m args below meth c D cl aC b sc nL n0 s0 Q w pc lo (.int n :: st) := by
  subst hN
  intro H locs ls hG hS hl
  refine W.anew hx hb hown hclink hover rfl hdg rfl hn hbytes (by omega) (by omega) fun cA kA comp f1 f2 f3 f4 => ?_
  generalize hH1 : H.push ({ cls := cA, slots := Array.replicate n.toNatClampNeg .null, vm := .none } : Cell) = H1
  have z1 : H1.size = H.size + 1 := by rw [← hH1, Array.size_push]
  have e1 : H1[H.size]? = some (arrV cA n.toNatClampNeg (fun _ => .null)) := by rw [← hH1, Array.getElem?_push_size, ← arrV_new]
  have o1 : ∀ q : Nat, q < H.size → H1[q]? = H[q]? := fun q hq => by rw [← hH1, Array.getElem?_push, if_neg (Nat.ne_of_lt hq)]
  obtain ⟨kA', comp', g1, g2, g3, g4⟩ := (hK.2 4 (aC 4, .object "VitalTwin$Symbol") rfl).2
  have hcA : cA = aC 4 := Option.some.inj (f1.symm.trans g4)
  subst hcA
  have kk := k H1 locs ls (hG.grow (N := n.toNatClampNeg) (x := .inl (4, n.toNatClampNeg, .inr (.inr (fun _ => none)))) z1 o1 ?_) (ip_S.grow hS z1 o1) hl
  · rw [show w.1 - n0 + 1 = w.1 + 1 - n0 by omega, show w.2.1 - s0 + n.toNatClampNeg = w.2.1 + n.toNatClampNeg - s0 by omega, hG.1]
    exact kk
  · rw [hG.1] at e1
    exact e1
end IPH
end
section
/-! part 03: how a method ends, and calls: a callee that returns, a callee that throws (out of the caller, or to a handler of its) -/
def ip_o (b : Nat) (sc : Nat → Nat) (o : Outcome) : Outcome := match o with
  | .returned v => .returned (v.map (ip_v b sc))
  | .threw a => .threw (b + a)
/-- the end of a method that stood over 'below', from the state s, whose world counted n0 cells and s0 slots: the outcome o, the world w -/
def ip_Q (D : va_G) (cl : List vw_C) (aC : Nat → ClassId) (b : Nat) (sc : Nat → Nat) (w : ip_W) (o : Outcome) (below : List Frame) (s : State) (n0 s0 : Nat) : State → Prop := fun t =>
  t.status = .running ∧ Ended t below (ip_o b sc o) ∧ s.WarmedH t.vm ∧ (∃ L : List Loc, s.sameButNew ({ t with vm := s.vm } : State) L (w.1 - n0) (w.2.1 - s0) ∧ ∀ q ∈ L, b ≤ q.base) ∧ ip_G D cl aC b sc w t.heap ∧ ∀ q : Nat, q < b → t.heap[q]? = s.heap[q]?
theorem ip_low {b : Nat} {H0 H : Heap} {locs : List Loc} (hb0 : b ≤ H0.size) (hS : va_S (fun q => b ≤ q) H0 H locs) : ∀ q : Nat, q < b → H[q]? = H0[q]? := fun q hq => hS.2.1 q (by omega) (by show ¬ b ≤ q; omega)
section IPR
variable {p : Program} {l : Launch} {e : Env} {R : Room} {s : State} {m : MethodId} {args : Array Value} {below : List Frame} {meth : Method} {c : Code}
variable {D : va_G} {cl : List vw_C} {aC : Nat → ClassId} {b : Nat} {sc : Nat → Nat} {nL n0 s0 : Nat} {cc : ByteArray} {w : ip_W} {pc : Nat} {lo : List (Nat × Value)}
theorem ip_iret (hx : p.tables.exec = Jvm.exec) (hb : c.code = cc) {v : Int32} {ty : FieldType} (hr : meth.sig.returnType = some ty) (hnr : narrow ty (.int v) = .int v) (hlocks : meth.locks = false) (hb0 : b ≤ s.heap.size) (hdg : decode cc pc = .ok (.ireturn, 1)) : ip_V p l e R s m args below meth c D cl aC b sc nL n0 s0 (ip_Q D cl aC b sc w (.returned (some (.int v))) below s n0 s0) w pc lo [.int v] := by
  intro H locs ls hG hS hl T hT X
  obtain ⟨fs, hret, hrun, hended, hW, hframe⟩ := X.leave (v := some (.int v)) (fun h => by rw [hr] at h; cases h) hlocks
  have hmeth' : T.vm.method? m = some meth := X.method'
  refine ⟨T.setFrames fs, ?_, hrun, hended, hW, ⟨locs, hframe, hS.2.2⟩, by show ip_G D cl aC b sc w T.heap; rw [hT]; exact hG, by show ∀ q : Nat, q < b → T.heap[q]? = s.heap[q]?; rw [hT]; exact ip_low hb0 hS⟩
  simp only [List.map, ip_v]
  jvm_step X.here [X.here.top, hx, hb, hdg, hmeth', hr, hnr]
  (try refine ⟨rfl, ?_⟩); (try refine ⟨rfl, ?_⟩)
  first | (intro acts; rw [hret _ acts rfl rfl rfl]) | rw [hret _ _ rfl rfl rfl]
  exact Steps.refl _
theorem ip_lret (hx : p.tables.exec = Jvm.exec) (hb : c.code = cc) {v : Int64} (hr : meth.sig.returnType = some .long) (hlocks : meth.locks = false) (hb0 : b ≤ s.heap.size) (hdg : decode cc pc = .ok (.lreturn, 1)) : ip_V p l e R s m args below meth c D cl aC b sc nL n0 s0 (ip_Q D cl aC b sc w (.returned (some (.long v))) below s n0 s0) w pc lo [.long v] := by
  intro H locs ls hG hS hl T hT X
  obtain ⟨fs, hret, hrun, hended, hW, hframe⟩ := X.leave (v := some (.long v)) (fun h => by rw [hr] at h; cases h) hlocks
  have hmeth' : T.vm.method? m = some meth := X.method'
  refine ⟨T.setFrames fs, ?_, hrun, hended, hW, ⟨locs, hframe, hS.2.2⟩, by show ip_G D cl aC b sc w T.heap; rw [hT]; exact hG, by show ∀ q : Nat, q < b → T.heap[q]? = s.heap[q]?; rw [hT]; exact ip_low hb0 hS⟩
  simp only [List.map, ip_v]
  jvm_step X.here [X.here.top, hx, hb, hdg, hmeth', hr, narrow]
  (try refine ⟨rfl, ?_⟩); (try refine ⟨rfl, ?_⟩)
  first | (intro acts; rw [hret _ acts rfl rfl rfl]) | rw [hret _ _ rfl rfl rfl]
  exact Steps.refl _
theorem ip_vret (hx : p.tables.exec = Jvm.exec) (hb : c.code = cc)  (hr : meth.sig.returnType = none) (hlocks : meth.locks = false) (hb0 : b ≤ s.heap.size) (hdg : decode cc pc = .ok (.return_, 1)) : ip_V p l e R s m args below meth c D cl aC b sc nL n0 s0 (ip_Q D cl aC b sc w (.returned (none)) below s n0 s0) w pc lo [] := by
  intro H locs ls hG hS hl T hT X
  obtain ⟨fs, hret, hrun, hended, hW, hframe⟩ := X.leave (v := none) (fun _ => rfl) hlocks
  have hmeth' : T.vm.method? m = some meth := X.method'
  refine ⟨T.setFrames fs, ?_, hrun, hended, hW, ⟨locs, hframe, hS.2.2⟩, by show ip_G D cl aC b sc w T.heap; rw [hT]; exact hG, by show ∀ q : Nat, q < b → T.heap[q]? = s.heap[q]?; rw [hT]; exact ip_low hb0 hS⟩
  simp only [List.map, ip_v]
  jvm_step X.here [X.here.top, hx, hb, hdg, hmeth', hr]
  (try refine ⟨rfl, ?_⟩); (try refine ⟨rfl, ?_⟩)
  first | (intro acts; rw [hret _ acts rfl rfl rfl]) | rw [hret _ _ rfl rfl rfl]
  exact Steps.refl _
theorem ip_aret (hx : p.tables.exec = Jvm.exec) (hb : c.code = cc) {v : Value} {rt : FieldType} (hr : meth.sig.returnType = some rt) (hrt : (∃ n, rt = .object n) ∨ ∃ t, rt = .array t) (hv : v = .null ∨ ∃ a, v = .ref a) (hlocks : meth.locks = false) (hb0 : b ≤ s.heap.size) (hdg : decode cc pc = .ok (.areturn, 1)) : ip_V p l e R s m args below meth c D cl aC b sc nL n0 s0 (ip_Q D cl aC b sc w (.returned (some v)) below s n0 s0) w pc lo [v] := by
  intro H locs ls hG hS hl T hT X
  obtain ⟨fs, hret, hrun, hended, hW, hframe⟩ := X.leave (v := some (ip_v b sc v)) (fun h => by rw [hr] at h; cases h) hlocks
  have hmeth' : T.vm.method? m = some meth := X.method'
  refine ⟨T.setFrames fs, ?_, hrun, hended, hW, ⟨locs, hframe, hS.2.2⟩, by show ip_G D cl aC b sc w T.heap; rw [hT]; exact hG, by show ∀ q : Nat, q < b → T.heap[q]? = s.heap[q]?; rw [hT]; exact ip_low hb0 hS⟩
  rcases hrt with ⟨n, rfl⟩ | ⟨t, rfl⟩ <;> rcases hv with rfl | ⟨a, rfl⟩ <;>
    (simp only [List.map, ip_v] at hret ⊢
     jvm_step X.here [X.here.top, hx, hb, hdg, hmeth', hr]
     (try refine ⟨rfl, ?_⟩); (try refine ⟨rfl, ?_⟩)
     first | (intro acts; rw [hret _ acts rfl rfl rfl]) | rw [hret _ _ rfl rfl rfl]
     exact Steps.refl _)
theorem ip_athrow (hx : p.tables.exec = Jvm.exec) (hb : c.code = cc) {a : Nat} {st : List Value} (hlocks : meth.locks = false) (hb0 : b ≤ s.heap.size) (hout : ∀ x ∈ c.exceptionTable.toList, covers x pc = false) (hdg : decode cc pc = .ok (.athrow, 1)) : ip_V p l e R s m args below meth c D cl aC b sc nL n0 s0 (ip_Q D cl aC b sc w (.threw a) below s n0 s0) w pc lo (.ref a :: st) := by
  intro H locs ls hG hS hl T hT X
  obtain ⟨h1, h2, h3, h4, h5⟩ := X.athrowLeaves hx (g := F0 m pc ls ((Value.ref a :: st).map (ip_v b sc))) rfl rfl rfl hout (a := b + a) (rest := st.map (ip_v b sc)) rfl (by rw [hb]; exact hdg) hlocks
  exact ⟨_, h1, h2, h3, h4, ⟨locs, h5, hS.2.2⟩, by show ip_G D cl aC b sc w T.heap; rw [hT]; exact hG, by show ∀ q : Nat, q < b → T.heap[q]? = s.heap[q]?; rw [hT]; exact ip_low hb0 hS⟩
end IPR
/-- words that hold on, when the tables grow warmer -/
def ip_gw (w : Cond) : Bool := match w with
  | .methodLinkNest _ _ _ _ => true
  | .arrayOver (.object _) => true
  | .castable _ _ => true
  | .declares _ => true
  | w => goodWord w
theorem ip_gw_moved {w : Cond} (h : ip_gw w = true) {s U : State} (hW : s.WarmedH U.vm) (hs : ∀ a : Array Value, w.before a s = true) : ∀ a : Array Value, w.before a U = true := by
  intro a
  unfold ip_gw at h
  split at h
  · exact va_Nw.use rfl (va_Nw.warmM hW (hs #[]))
  · exact va_AO.use (va_AO.moved hW.alike (hs #[]))
  · exact va_Nw.use rfl (va_Nw.warmC hW (hs #[]))
  · exact va_Nw.use rfl (va_Nw.warmD hW (hs #[]))
  · exact word_at hW (good_of_word h) (hs #[])
/-- the words of the tables, at a state -/
def ip_TK (Ts : List Cond) (s : State) : Prop := ∀ w ∈ Ts, ∀ a : Array Value, w.before a s = true
theorem ip_TK.moved {Ts : List Cond} {s U : State} (h : ip_TK Ts s) (hg : ∀ w ∈ Ts, ip_gw w = true) (hW : s.WarmedH U.vm) : ip_TK Ts U := fun w hw a => ip_gw_moved (hg w hw) hW (h w hw) a
/-- A METHOD's MEANING: y, from the world w with the arguments av, comes to the outcome o and the world w2, with the room R -/
def ip_M (l : Launch) (Ev : State → Prop) (Ts : List Cond) (D : va_G) (cl : List vw_C) (aC : Nat → ClassId) (b : Nat) (sc : Nat → Nat) (y : MethodName) (R : Room) (w : ip_W) (av : List Value) (o : Outcome) (w2 : ip_W) : Prop :=
  ∀ (p : Program) (e : Env) (s : State) (m : MethodId) (args : Array Value) (below : List Frame) (meth : Method) (c : Code) (T : State), p.tables.exec = Jvm.exec → Stand p l e R s m args below meth c T [] 0 0 → s.methodNamed? y = some m → ip_TK Ts s → Ev s → va_K D cl (ip_T aC) s → args = (av.map (ip_v b sc)).toArray → T.heap = s.heap → b ≤ s.heap.size → ip_G D cl aC b sc w s.heap →
    ∃ t, Steps p.tables e below (T.setTop (entryFrame m args c.maxLocals)) t ∧ ip_Q D cl aC b sc w2 o below s w.1 w.2.1 t
/-- where the caller stands when its callee has ended so -/
def ip_af (b : Nat) (sc : Nat → Nat) (g : JFrame) (len : Nat) (T2 : State) (o : Outcome) : State := match o with
  | .returned v => T2.setTop { g with pc := g.pc + len, stack := (v.map (ip_v b sc)).toList ++ g.stack }
  | .threw a => (T2.setTop g).pushFrame (.throwing (b + a))
section IPC
variable {p : Program} {l : Launch} {e : Env} {R : Room} {s : State} {m : MethodId} {args : Array Value} {below : List Frame} {meth : Method} {c : Code} {T : State} {locs : List Loc} {Q : State → Prop}
variable {D : va_G} {cl : List vw_C} {aC : Nat → ClassId} {b : Nat} {sc : Nat → Nat} {nL n0 s0 : Nat} {cc : ByteArray} {w w2 : ip_W} {pc : Nat} {lo : List (Nat × Value)} {Ts : List Cond} {Ev : State → Prop} {y : MethodName} {R2 : Room} {av : List Value} {o : Outcome}
/-- what a callee's start needs of the state's other parts comes along -/
def ip_Ek (b : Nat) (Ev : State → Prop) : Prop := ∀ s U : State, Ev s → s.WarmedH U.vm → (∀ q : Nat, q < b → U.heap[q]? = s.heap[q]?) → Ev U
/-- the callee runs: from its invocation to its end, seen from the caller -/
theorem ip_run (hx : p.tables.exec = Jvm.exec) (X : Stand p l e R s m args below meth c T locs (w.1 - n0) (w.2.1 - s0)) (hgood : ∀ w ∈ Ts, ip_gw w = true) (hts : ip_TK Ts s) (hEk : ip_Ek b Ev) (hE : Ev s) (hK : va_K D cl (ip_T aC) s) (hG : ip_G D cl aC b sc w T.heap) (hS : va_S (fun q => b ≤ q) s.heap T.heap locs) (hb0 : b ≤ s.heap.size) {g : JFrame} (hg : g.method = m) (hsize : g.locals.size = c.maxLocals) {ig : Instr} {len : Nat} (hdg : decode c.code g.pc = .ok (ig, len))
    {mk : MethodId} (hnamed : s.methodNamed? y = some mk) (hpl : plainFor y = true) {methk : Method} {ck : Code} (hmk : s.vm.method? mk = some methk) (hck : methk.code = some ck) (hlk : methk.locks = false)
    (hframes : R2.frames + 1 ≤ R.frames) (hlocals : 2 * g.monitorRoom + (g.stack.map fun v => v.category).sum + (ck.maxLocals + 11) + R2.locals ≤ R.locals) (hcells : w.1 - n0 + R2.cells ≤ R.cells) (hslots : w.2.1 - s0 + R2.slots ≤ R.slots)
    (hn0 : n0 ≤ w.1) (hs0 : s0 ≤ w.2.1) (hn1 : w.1 ≤ w2.1) (hs1 : w.2.1 ≤ w2.2.1) (hM : ip_M l Ev Ts D cl aC b sc y R2 w av o w2) :
    ∃ (T2 : State) (locs2 : List Loc), Stand p l e R s m args below meth c T2 locs2 (w2.1 - n0) (w2.2.1 - s0) ∧ ip_G D cl aC b sc w2 T2.heap ∧ va_S (fun q => b ≤ q) s.heap T2.heap locs2 ∧
      ∀ acts, Steps p.tables e below (doInvoke e (T.setTop g) acts mk (av.map (ip_v b sc)).toArray).1 (ip_af b sc g len T2 o) := by
  have hmkT : T.vm.method? mk = some methk := by rw [X.warmed.alike.method?]; exact hmk
  have hnT : T.methodNamed? y = some mk := X.named hnamed
  have hpk : T.plainMethod mk := State.plainMethod.of_named hpl hnT hmkT
  obtain ⟨Y, hin⟩ := X.into hg hsize hdg (av.map (ip_v b sc)).toArray (R' := R2) hmkT hck hlk hpk hframes hlocals hcells hslots
  have hWc : s.WarmedH (T.calling g mk (av.map (ip_v b sc)).toArray).vm := X.warmed
  have hnC : (T.calling g mk (av.map (ip_v b sc)).toArray).methodNamed? y = some mk := hnT
  obtain ⟨t, hst, hrun, hend, hW, ⟨L, hsame, hL⟩, hG2, hlow⟩ := hM p e (T.calling g mk (av.map (ip_v b sc)).toArray) mk (av.map (ip_v b sc)).toArray (.java g :: below) methk ck _ hx Y hnC (hts.moved hgood hWc) (hEk s _ hE hWc (fun q hq => by show T.heap[q]? = s.heap[q]?; exact ip_low hb0 hS q hq)) (va_K.moved hWc.alike hK) rfl rfl
    (by show b ≤ T.heap.size; rw [hG.1]; omega) (by show ip_G D cl aC b sc w T.heap; exact hG)
  have hlow2 : ∀ q : Nat, q < b → t.heap[q]? = T.heap[q]? := hlow
  have hsz : T.heap.size ≤ t.heap.size := by rw [hG.1, hG2.1]; omega
  have hS2 : va_S (fun q => b ≤ q) s.heap t.heap (locs ++ L) := ⟨Nat.le_trans hS.1 hsz, fun q h1 h2 => by
    have hq : q < b := Nat.not_le.mp h2
    rw [hlow2 q hq]
    exact hS.2.1 q h1 h2, fun q hq => by
    rcases List.mem_append.mp hq with h | h
    · exact hS.2.2 q h
    · exact hL q h⟩
  cases o with
  | returned v =>
    obtain ⟨T2, X2, hW2, -, ht⟩ := X.outOf hg hdg hend hW hsame
    have hh : t.heap = T2.heap := by rw [ht]; rfl
    rw [show w.1 - n0 + (w2.1 - w.1) = w2.1 - n0 by omega, show w.2.1 - s0 + (w2.2.1 - w.2.1) = w2.2.1 - s0 by omega] at X2
    refine ⟨T2, locs ++ L, X2, hh ▸ hG2, hh ▸ hS2, fun acts => ?_⟩
    rw [hin acts]
    show Steps p.tables e below _ (T2.setTop { g with pc := g.pc + len, stack := (v.map (ip_v b sc)).toList ++ g.stack })
    rw [← ht]
    exact Steps.weaken (mid := [.java g]) hst
  | threw a =>
    obtain ⟨T2, X2, hW2, -, ht⟩ := X.outOfThrown hg hend hW hsame
    have hh : t.heap = T2.heap := by rw [ht]; exact Stand.throwing_heap _ _ _
    rw [show w.1 - n0 + (w2.1 - w.1) = w2.1 - n0 by omega, show w.2.1 - s0 + (w2.2.1 - w.2.1) = w2.2.1 - s0 by omega] at X2
    refine ⟨T2, locs ++ L, X2, hh ▸ hG2, hh ▸ hS2, fun acts => ?_⟩
    rw [hin acts]
    show Steps p.tables e below _ ((T2.setTop g).pushFrame (.throwing (b + a)))
    rw [← ht]
    exact Steps.weaken (mid := [.java g]) hst
end IPC
end
section
/-! part 04: calls, as rules of ip_V -/
/-- as ip_V, but an exception, at a, has come to the method at pc -/
def ip_X (p : Program) (l : Launch) (e : Env) (R : Room) (s : State) (m : MethodId) (args : Array Value) (below : List Frame) (meth : Method) (c : Code) (D : va_G) (cl : List vw_C) (aC : Nat → ClassId) (b : Nat) (sc : Nat → Nat) (nL n0 s0 : Nat) (Q : State → Prop) (w : ip_W) (pc : Nat) (lo : List (Nat × Value)) (a : Nat) : Prop :=
  ∀ (T : State) (locs : List Loc) (ls : Array Slot) (stk : List Value), Stand p l e R s m args below meth c T locs (w.1 - n0) (w.2.1 - s0) → ip_G D cl aC b sc w T.heap → va_S (fun q => b ≤ q) s.heap T.heap locs → lv_has ls nL (ip_l b sc lo) → ∃ t, Steps p.tables e below ((T.setTop (F0 m pc ls stk)).pushFrame (.throwing (b + a))) t ∧ Q t
section IPX
variable {p : Program} {l : Launch} {e : Env} {R : Room} {s : State} {m : MethodId} {args : Array Value} {below : List Frame} {meth : Method} {c : Code} {Q : State → Prop}
variable {D : va_G} {cl : List vw_C} {aC : Nat → ClassId} {b : Nat} {sc : Nat → Nat} {nL n0 s0 : Nat} {cc : ByteArray} {w w2 : ip_W} {pc : Nat} {lo : List (Nat × Value)} {st rest : List Value} {Ts : List Cond} {Ev : State → Prop} {y : MethodName} {R2 : Room} {av : List Value} {o : Outcome}
/-- no handler: the method throws it on -/
theorem ip_Xout {a : Nat} (hlocks : meth.locks = false) (hb0 : b ≤ s.heap.size) (hout : ∀ x ∈ c.exceptionTable.toList, covers x pc = false) : ip_X p l e R s m args below meth c D cl aC b sc nL n0 s0 (ip_Q D cl aC b sc w (.threw a) below s n0 s0) w pc lo a := by
  intro T locs ls stk X hG hS hl
  obtain ⟨h1, h2, h3, h4, h5⟩ := X.leaveThrown (b + a) (g := F0 m pc ls stk) rfl rfl rfl hout hlocks
  exact ⟨_, h1, h2, h3, h4, ⟨locs, h5, hS.2.2⟩, hG, ip_low hb0 hS⟩
/-- a handler: the method goes on there -/
theorem ip_Xcatch {a hpc : Nat} (hfind : ∀ (T : State) (ls : Array Slot) (stk : List Value), s.WarmedH T.vm → ip_G D cl aC b sc w T.heap → Finds e ((T.setTop (F0 m pc ls stk)).pushFrame (.throwing (b + a))) (F0 m pc ls stk) (b + a) (.found hpc)) (k : ip_V p l e R s m args below meth c D cl aC b sc nL n0 s0 Q w hpc lo [.ref a]) : ip_X p l e R s m args below meth c D cl aC b sc nL n0 s0 Q w pc lo a := by
  intro T locs ls stk X hG hS hl
  obtain ⟨t, h1, h2⟩ := k T.heap locs ls hG hS hl T rfl X
  exact ⟨t, X.catchAt (b + a) rfl (hfind T ls stk X.warmed hG) h1, h2⟩
theorem ip_sum (l2 : List Value) : ((l2.map (ip_v b sc)).map fun v => v.category).sum = (l2.map fun v => v.category).sum := by
  rw [List.map_map]
  congr 1
  apply List.map_congr_left
  intro v _
  exact ip_v_cat b sc v
/-- what a call's end gives: the rest of the caller's walk -/
theorem ip_back {T T1 : State} {ls : Array Slot} {mk : MethodId} (hl : lv_has ls nL (ip_l b sc lo)) (hret : ∀ v, o = .returned v → ip_V p l e R s m args below meth c D cl aC b sc nL n0 s0 Q w2 (pc + 3) lo (v.toList ++ rest)) (hthr : ∀ a, o = .threw a → ip_X p l e R s m args below meth c D cl aC b sc nL n0 s0 Q w2 pc lo a)
    (hrun : ∃ (T2 : State) (locs2 : List Loc), Stand p l e R s m args below meth c T2 locs2 (w2.1 - n0) (w2.2.1 - s0) ∧ ip_G D cl aC b sc w2 T2.heap ∧ va_S (fun q => b ≤ q) s.heap T2.heap locs2 ∧
      ∀ acts, Steps p.tables e below (doInvoke e (T1.setTop (F0 m pc ls (rest.map (ip_v b sc)))) acts mk (av.map (ip_v b sc)).toArray).1 (ip_af b sc (F0 m pc ls (rest.map (ip_v b sc))) 3 T2 o))
    {g : JFrame} (hstep : ∀ target, (∀ acts, Steps p.tables e below (doInvoke e (T1.setTop (F0 m pc ls (rest.map (ip_v b sc)))) acts mk (av.map (ip_v b sc)).toArray).1 target) → Steps p.tables e below (T.setTop g) target) : ∃ t, Steps p.tables e below (T.setTop g) t ∧ Q t := by
  obtain ⟨T2, locs2, X2, hG2, hS2, hsteps⟩ := hrun
  cases o with
  | returned v =>
    obtain ⟨t, h1, h2⟩ := hret v rfl T2.heap locs2 ls hG2 hS2 hl T2 rfl X2
    refine ⟨t, hstep t fun acts => (hsteps acts).trans ?_, h2⟩
    have e1 : (v.map (ip_v b sc)).toList ++ rest.map (ip_v b sc) = (v.toList ++ rest).map (ip_v b sc) := by cases v <;> rfl
    show Steps p.tables e below (T2.setTop (F0 m (pc + 3) ls ((v.map (ip_v b sc)).toList ++ rest.map (ip_v b sc)))) t
    rw [e1]
    exact h1
  | threw a =>
    obtain ⟨t, h1, h2⟩ := hthr a rfl T2 locs2 ls _ X2 hG2 hS2 hl
    exact ⟨t, hstep t fun acts => (hsteps acts).trans h1, h2⟩
/-- what the tables say of a callee -/
def ip_C (s : State) (y : MethodName) (maxL : Nat) : Prop := ∀ mk, s.methodNamed? y = some mk → ∃ methM cM, s.vm.method? mk = some methM ∧ methM.code = some cM ∧ cM.maxLocals = maxL ∧ methM.locks = false ∧ parseMethodDescriptor y.desc = some methM.sig
theorem ip_C.of {bytes : ByteArray} {maxL : Nat} {ret : Option FieldType} (h : (Cond.code y bytes maxL ret).before args s = true) : ip_C s y maxL := by
  intro mk hn
  obtain ⟨m1, c1, h1, h2, h3, h4, h5, h6, -, h8⟩ := Cond.code_spec hn h
  exact ⟨m1, c1, h1, h2, h4, h6, h8⟩
theorem ip_C.ofWith {bytes : ByteArray} {maxL : Nat} {ret : Option FieldType} {hh : List (Nat × Nat × Nat × Nat)} (h : (Cond.codeWith y bytes maxL ret hh).before args s = true) : ip_C s y maxL := by
  intro mk hn
  obtain ⟨m0, m1, c1, h0, h1, h2, h3, h4, h5, h6, h7, h8⟩ := Cond.codeWith_spec h
  cases hn.symm.trans h0
  exact ⟨m1, c1, h1, h2, h4, h7, h8⟩
set_option maxHeartbeats 200000 in
theorem ip_callV (hx : p.tables.exec = Jvm.exec) (hb : c.code = cc) (hml : c.maxLocals = nL) {own C : String} {index maxL n a0 ci : Nat} {fs : List Value} {r : vw_C} (hgood : ∀ w ∈ Ts, ip_gw w = true) (hts : ip_TK Ts s) (hEk : ip_Ek b Ev) (hE : Ev s) (hK : va_K D cl (ip_T aC) s) (hb0 : b ≤ s.heap.size) (hown : s.vm.findClass own = some m.cls) (hlink : (Cond.methodLink own index y).before args s = true) (hinst : (Cond.instanceMethod y).before args s = true) (hsel : (Cond.selects C y y).before args s = true) (hC : ip_C s y maxL) (hy : y.cls ≠ "java/lang/invoke/MethodHandle" ∧ y.cls ≠ "java/lang/invoke/VarHandle") (hpl : plainFor y = true) (hlen : (parseMethodDescriptor y.desc).map (fun d => d.parameters.length) = some n) (hn : av.length = n)
    (he : w.2.2 a0 = some (.inr (ci, fs))) (hc : cl[ci]? = some r) (hr1 : r.1 = C) (hsum : (rest.map fun v => v.category).sum ≤ 8) (hR : R2.frames + 1 ≤ R.frames ∧ 8 + (maxL + 11) + R2.locals ≤ R.locals) (hcells : w.1 + R2.cells ≤ n0 + R.cells) (hslots : w.2.1 + R2.slots ≤ s0 + R.slots) (hn0 : n0 ≤ w.1) (hs0 : s0 ≤ w.2.1) (hn1 : w.1 ≤ w2.1) (hs1 : w.2.1 ≤ w2.2.1)
    (hM : ip_M l Ev Ts D cl aC b sc y R2 w (.ref a0 :: av) o w2) (hdg : decode cc pc = .ok (.invokevirtual index, 3)) (hret : ∀ v, o = .returned v → ip_V p l e R s m args below meth c D cl aC b sc nL n0 s0 Q w2 (pc + 3) lo (v.toList ++ rest)) (hthr : ∀ a, o = .threw a → ip_X p l e R s m args below meth c D cl aC b sc nL n0 s0 Q w2 pc lo a) : ip_V p l e R s m args below meth c D cl aC b sc nL n0 s0 Q w pc lo (av.reverse ++ .ref a0 :: rest) := by
  intro H locs ls hG hS hl T hT X
  subst hT
  subst hb
  obtain ⟨mk, methM, hnamed, hmethM, hstM, habM⟩ := Cond.instanceMethod_spec hinst
  obtain ⟨methM', cM, hmethM', hcM, hmL, hlk, hsigM⟩ := hC mk hnamed
  cases hmethM.symm.trans hmethM'
  obtain ⟨r', hr', cellB, g1, g2, g3, -⟩ := hG.2 a0 _ he
  have hcls : s.vm.findClass C = some cellB.cls := by rw [g2, ← hr1]; exact (hK.1 ci r hc).2.1
  obtain ⟨c2, r2, m2, q1, q2, q3, q4, kP, hkP, hkPi⟩ := Cond.selects_spec hsel
  cases hcls.symm.trans q1
  cases (State.methodFound?_of_named hnamed hy).symm.trans q2
  cases hnamed.symm.trans q3
  have hselP : selectMethod e.platform s.vm cellB.cls mk = .method mk := by rw [Launch.admits_selectMethod X.admits]; exact q4
  have hlen2 : (av.map (ip_v b sc)).length = methM.sig.parameters.length := by
    rw [hsigM] at hlen
    rw [List.length_map, hn]
    exact (Option.some.inj hlen).symm
  obtain ⟨vm1, X1, hstep1⟩ := X.invokevirtual hx hown hlink hnamed hmethM hstM hkP hkPi hy (a := b + a0) (cell := cellB) g1 (fun z h => by rw [g3] at h; cases h) hselP hmethM habM hkP hkPi (g := F0 m pc ls ((av.reverse ++ Value.ref a0 :: rest).map (ip_v b sc))) rfl (argsL := av.map (ip_v b sc)) (rest := rest.map (ip_v b sc)) hlen2 (by simp [ip_v]) hdg
  have hroom : 2 * (F0 m pc ls (rest.map (ip_v b sc))).monitorRoom + ((rest.map (ip_v b sc)).map fun v => v.category).sum ≤ 8 := lv_room (by rw [ip_sum]; exact hsum)
  have h9 := hR.2
  have h8 : 2 * (F0 m pc ls (rest.map (ip_v b sc))).monitorRoom + ((rest.map (ip_v b sc)).map fun v => v.category).sum + (cM.maxLocals + 11) + R2.locals ≤ R.locals := by rw [hmL]; omega
  have hrun := ip_run (g := F0 m pc ls (rest.map (ip_v b sc))) (av := (Value.ref a0 :: av)) (o := o) (w2 := w2) hx X1 hgood hts hEk hE hK hG hS hb0 rfl (by rw [hml]; exact hl.1) hdg hnamed hpl hmethM hcM hlk hR.1 h8 (by omega) (by omega) hn0 hs0 hn1 hs1 hM
  exact ip_back (av := (Value.ref a0 :: av)) hl hret hthr hrun hstep1
set_option maxHeartbeats 200000 in
theorem ip_callS (hx : p.tables.exec = Jvm.exec) (hb : c.code = cc) (hml : c.maxLocals = nL) {own : String} {index maxL n : Nat} (hgood : ∀ w ∈ Ts, ip_gw w = true) (hts : ip_TK Ts s) (hEk : ip_Ek b Ev) (hE : Ev s) (hK : va_K D cl (ip_T aC) s) (hb0 : b ≤ s.heap.size) (hown : s.vm.findClass own = some m.cls) (hlink : (Cond.methodLink own index y).before args s = true) (hstat : (Cond.static y).before args s = true) (hinit : (Cond.initialized y.cls).before args s = true) (hnm : ∃ mk, s.methodNamed? y = some mk) (hC : ip_C s y maxL) (hy : y.cls ≠ "java/lang/invoke/MethodHandle" ∧ y.cls ≠ "java/lang/invoke/VarHandle") (hpl : plainFor y = true) (hlen : (parseMethodDescriptor y.desc).map (fun d => d.parameters.length) = some n) (hn : av.length = n)
    (hsum : (rest.map fun v => v.category).sum ≤ 8) (hR : R2.frames + 1 ≤ R.frames ∧ 8 + (maxL + 11) + R2.locals ≤ R.locals) (hcells : w.1 + R2.cells ≤ n0 + R.cells) (hslots : w.2.1 + R2.slots ≤ s0 + R.slots) (hn0 : n0 ≤ w.1) (hs0 : s0 ≤ w.2.1) (hn1 : w.1 ≤ w2.1) (hs1 : w.2.1 ≤ w2.2.1)
    (hM : ip_M l Ev Ts D cl aC b sc y R2 w av o w2) (hdg : decode cc pc = .ok (.invokestatic index, 3)) (hret : ∀ v, o = .returned v → ip_V p l e R s m args below meth c D cl aC b sc nL n0 s0 Q w2 (pc + 3) lo (v.toList ++ rest)) (hthr : ∀ a, o = .threw a → ip_X p l e R s m args below meth c D cl aC b sc nL n0 s0 Q w2 pc lo a) : ip_V p l e R s m args below meth c D cl aC b sc nL n0 s0 Q w pc lo (av.reverse ++ rest) := by
  intro H locs ls hG hS hl T hT X
  subst hT
  subst hb
  obtain ⟨mk, hnamed⟩ := hnm
  obtain ⟨methM, cM, hmethM, hcM, hmL, hlk, hsigM⟩ := hC mk hnamed
  have hstatic : methM.isStatic = true := Cond.static_spec hnamed hmethM hstat
  obtain ⟨kP, hkP, -⟩ := className_of_methodNamed hnamed
  have hinitP : kP.init = .initialized := Cond.initialized_spec (findClass_of_methodNamed hnamed) hkP hinit
  have hlen2 : (av.map (ip_v b sc)).length = methM.sig.parameters.length := by
    rw [hsigM] at hlen
    rw [List.length_map, hn]
    exact (Option.some.inj hlen).symm
  obtain ⟨vm1, X1, hstep1⟩ := X.invokestatic hx hown hlink hnamed hmethM hstatic hkP hinitP hy (g := F0 m pc ls ((av.reverse ++ rest).map (ip_v b sc))) rfl (argsL := av.map (ip_v b sc)) (rest := rest.map (ip_v b sc)) hlen2 (by simp) hdg
  have hroom : 2 * (F0 m pc ls (rest.map (ip_v b sc))).monitorRoom + ((rest.map (ip_v b sc)).map fun v => v.category).sum ≤ 8 := lv_room (by rw [ip_sum]; exact hsum)
  have h9 := hR.2
  have h8 : 2 * (F0 m pc ls (rest.map (ip_v b sc))).monitorRoom + ((rest.map (ip_v b sc)).map fun v => v.category).sum + (cM.maxLocals + 11) + R2.locals ≤ R.locals := by rw [hmL]; omega
  have hrun := ip_run (g := F0 m pc ls (rest.map (ip_v b sc))) (av := av) (o := o) (w2 := w2) hx X1 hgood hts hEk hE hK hG hS hb0 rfl (by rw [hml]; exact hl.1) hdg hnamed hpl hmethM hcM hlk hR.1 h8 (by omega) (by omega) hn0 hs0 hn1 hs1 hM
  exact ip_back (av := av) hl hret hthr hrun hstep1
set_option maxHeartbeats 200000 in
theorem ip_callI (hx : p.tables.exec = Jvm.exec) (hb : c.code = cc) (hml : c.maxLocals = nL) {own : String} {index maxL n a0 : Nat} {bytes : ByteArray} (hgood : ∀ w ∈ Ts, ip_gw w = true) (hts : ip_TK Ts s) (hEk : ip_Ek b Ev) (hE : Ev s) (hK : va_K D cl (ip_T aC) s) (hb0 : b ≤ s.heap.size) (hown : s.vm.findClass own = some m.cls) (hy1 : y.name = "<init>") (hlink : (Cond.methodLink own index y).before args s = true ∨ ∃ host, (Cond.methodLinkNest own index y host).before args s = true) (hinst : (Cond.instanceMethod y).before args s = true) (hcode : (Cond.code y bytes maxL none).before args s = true) (hy : y.cls ≠ "java/lang/invoke/MethodHandle" ∧ y.cls ≠ "java/lang/invoke/VarHandle") (hpl : plainFor y = true) (hlen : (parseMethodDescriptor y.desc).map (fun d => d.parameters.length) = some n) (hn : av.length = n)
    (hsum : (rest.map fun v => v.category).sum ≤ 8) (hR : R2.frames + 1 ≤ R.frames ∧ 8 + (maxL + 11) + R2.locals ≤ R.locals) (hcells : w.1 + R2.cells ≤ n0 + R.cells) (hslots : w.2.1 + R2.slots ≤ s0 + R.slots) (hn0 : n0 ≤ w.1) (hs0 : s0 ≤ w.2.1) (hn1 : w.1 ≤ w2.1) (hs1 : w.2.1 ≤ w2.2.1)
    (hM : ip_M l Ev Ts D cl aC b sc y R2 w (.ref a0 :: av) o w2) (hdg : decode cc pc = .ok (.invokespecial index, 3)) (hret : ∀ v, o = .returned v → ip_V p l e R s m args below meth c D cl aC b sc nL n0 s0 Q w2 (pc + 3) lo (v.toList ++ rest)) (hthr : ∀ a, o = .threw a → ip_X p l e R s m args below meth c D cl aC b sc nL n0 s0 Q w2 pc lo a) : ip_V p l e R s m args below meth c D cl aC b sc nL n0 s0 Q w pc lo (av.reverse ++ .ref a0 :: rest) := by
  intro H locs ls hG hS hl T hT X
  subst hT
  subst hb
  have hplat : e.platform.magicAccessors = ({} : Platform).magicAccessors := by rw [X.admits.platform]
  have hlen2 : ∀ sig, parseMethodDescriptor y.desc = some sig → (av.map (ip_v b sc)).length = sig.parameters.length := by
    intro sig h
    rw [h] at hlen
    rw [List.length_map, hn]
    exact (Option.some.inj hlen).symm
  have hmid : ∃ (mk : MethodId) (vm1 : Vm), s.methodNamed? y = some mk ∧ s.WarmedH vm1 ∧ ∀ target, (∀ acts, Steps p.tables e below (doInvoke e ((T.setVm vm1).setTop (F0 m pc ls (rest.map (ip_v b sc)))) acts mk ((Value.ref a0 :: av).map (ip_v b sc)).toArray).1 target) → Steps p.tables e below (T.setTop (F0 m pc ls ((av.reverse ++ Value.ref a0 :: rest).map (ip_v b sc)))) target := by
    rcases hlink with hlink | ⟨host, hlink⟩
    · obtain ⟨mk, methM, cM, kP, vm1, hnamed, -, -, -, -, -, -, -, hW1, hstep1⟩ := Steps.initColdArgs (e := e) X.here hx X.warmed hplat hown hy1 hy hlink hinst hcode (f := F0 m pc ls ((av.reverse ++ Value.ref a0 :: rest).map (ip_v b sc))) rfl (a := b + a0) (argsL := av.map (ip_v b sc)) (rest := rest.map (ip_v b sc)) hlen2 (by simp [ip_v]) hdg
      exact ⟨mk, vm1, hnamed, hW1, hstep1⟩
    · obtain ⟨mk, methM, cM, kP, vm1, hnamed, -, -, -, -, -, -, -, hW1, hstep1⟩ := Steps.initColdArgsNest (e := e) X.here hx X.warmed hplat hown hy1 hy hlink hinst hcode (f := F0 m pc ls ((av.reverse ++ Value.ref a0 :: rest).map (ip_v b sc))) rfl (a := b + a0) (argsL := av.map (ip_v b sc)) (rest := rest.map (ip_v b sc)) hlen2 (by simp [ip_v]) hdg
      exact ⟨mk, vm1, hnamed, hW1, hstep1⟩
  obtain ⟨mk, vm1, hnamed, hW1, hstep1⟩ := hmid
  have X1 := X.noted hW1
  obtain ⟨methM, cM, hmethM, hcM, hmL, hlk, hsigM⟩ := ip_C.of hcode mk hnamed
  have hroom : 2 * (F0 m pc ls (rest.map (ip_v b sc))).monitorRoom + ((rest.map (ip_v b sc)).map fun v => v.category).sum ≤ 8 := lv_room (by rw [ip_sum]; exact hsum)
  have h9 := hR.2
  have h8 : 2 * (F0 m pc ls (rest.map (ip_v b sc))).monitorRoom + ((rest.map (ip_v b sc)).map fun v => v.category).sum + (cM.maxLocals + 11) + R2.locals ≤ R.locals := by rw [hmL]; omega
  have hrun := ip_run (g := F0 m pc ls (rest.map (ip_v b sc))) (av := (Value.ref a0 :: av)) (o := o) (w2 := w2) hx X1 hgood hts hEk hE hK hG hS hb0 rfl (by rw [hml]; exact hl.1) hdg hnamed hpl hmethM hcM hlk hR.1 h8 (by omega) (by omega) hn0 hs0 hn1 hs1 hM
  exact ip_back (av := (Value.ref a0 :: av)) hl hret hthr hrun hstep1
end IPX
end
section
/-! part 05: the pure interpreter: one simple step, and the run of a method -/
def ip_tg (pc : Nat) (off : Int) : Option Nat := if 0 ≤ (pc : Int) + off then some ((pc : Int) + off).toNat else none
def ip_b1 (c : ClassFile.Cond) (x : Int32) (t f : Nat) : Nat := match c with
  | .eq => if x = 0 then t else f
  | .ne => if x ≠ 0 then t else f
  | .lt => if x < 0 then t else f
  | .ge => if 0 ≤ x then t else f
  | .gt => if 0 < x then t else f
  | .le => if x ≤ 0 then t else f
def ip_b2 (c : ClassFile.Cond) (x y : Int32) (t f : Nat) : Nat := match c with
  | .eq => if x = y then t else f
  | .ne => if x ≠ y then t else f
  | .lt => if x < y then t else f
  | .ge => if y ≤ x then t else f
  | .gt => if y < x then t else f
  | .le => if x ≤ y then t else f
def ip_isR (v : Value) : Bool := match v with
  | .ref _ => true
  | .retAddr _ => true
  | .null => true
  | _ => false
/-- a field's type: 0 int, 1 long, 2 boolean, 3 a reference -/
def ip_fok (tc : Nat) (v : Value) : Bool := match v with
  | .int x => tc == 0 || (tc == 2 && (x == 0 || x == 1))
  | .long _ => tc == 1
  | .ref _ => tc == 3
  | .retAddr _ => tc == 3
  | .null => tc == 3
  | _ => false
def ip_in (i : Int32) (n : Nat) : Bool := decide (¬ i < 0) && decide (i.toNatClampNeg < n)
/-- the tables of one method: fields (class, place), their types and finality, constants, classes that it makes (number, fields at first) -/
abbrev ip_R : Type := Nat × List (Nat × Value) × List Value × ip_W
def ip_atk (t : ArrayType) : Option (Nat × ip_A × Nat) := match t with
  | .int => some (0, .inl (fun _ => 0), 4)
  | .byte => some (1, .inl (fun _ => 0), 1)
  | .long => some (2, .inr (.inl (fun _ => 0)), 8)
  | .boolean => some (3, .inl (fun _ => 0), 1)
  | _ => none
def ip_st (Fd : Nat → Option (Nat × Nat)) (Ft : Nat → Nat → Option (Nat × Bool)) (Cn : Nat → Option Value) (Nw : Nat → Option (Nat × List Value)) (nL : Nat) (ini : Option Nat) (i : Instr) (pc : Nat) (lo : List (Nat × Value)) (st : List Value) (w : ip_W) : Option ip_R := match i with
  | .iconst k => some (pc + 1, lo, .int (Int32.ofInt k) :: st, w)
  | .bipush k => some (pc + 2, lo, .int (Int8.ofInt k).toInt32 :: st, w)
  | .sipush k => some (pc + 3, lo, .int (Int16.ofInt k).toInt32 :: st, w)
  | .lconst k => some (pc + 1, lo, .long (Int64.ofNat (k : Nat)) :: st, w)
  | .aconst_null => some (pc + 1, lo, .null :: st, w)
  | .iload_n k => (match ip_get lo k with
    | some (.int x) => some (pc + 1, lo, .int x :: st, w)
    | _ => none)
  | .iload k => (match ip_get lo k with
    | some (.int x) => some (pc + 2, lo, .int x :: st, w)
    | _ => none)
  | .lload_n k => (match ip_get lo k with
    | some (.long x) => some (pc + 1, lo, .long x :: st, w)
    | _ => none)
  | .lload k => (match ip_get lo k with
    | some (.long x) => some (pc + 2, lo, .long x :: st, w)
    | _ => none)
  | .aload_n k => (match ip_get lo k with
    | some x => if ip_isR x = true then some (pc + 1, lo, x :: st, w) else none
    | none => none)
  | .aload k => (match ip_get lo k with
    | some x => if ip_isR x = true then some (pc + 2, lo, x :: st, w) else none
    | none => none)
  | .istore_n k => (match st with
    | .int x :: r => if (k : Nat) < nL then some (pc + 1, ip_set1 lo k (.int x), r, w) else none
    | _ => none)
  | .istore k => (match st with
    | .int x :: r => if (k : Nat) < nL then some (pc + 2, ip_set1 lo k (.int x), r, w) else none
    | _ => none)
  | .lstore_n k => (match st with
    | .long x :: r => if (k : Nat) + 1 < nL then some (pc + 1, ip_set2 lo k (.long x), r, w) else none
    | _ => none)
  | .lstore k => (match st with
    | .long x :: r => if (k : Nat) + 1 < nL then some (pc + 2, ip_set2 lo k (.long x), r, w) else none
    | _ => none)
  | .astore_n k => (match st with
    | x :: r => if (k : Nat) < nL ∧ ip_isR x = true then some (pc + 1, ip_set1 lo k x, r, w) else none
    | _ => none)
  | .astore k => (match st with
    | x :: r => if (k : Nat) < nL ∧ ip_isR x = true then some (pc + 2, ip_set1 lo k x, r, w) else none
    | _ => none)
  | .iinc k z => (match ip_get lo k with
    | some (.int x) => if k < nL then some (pc + 3, ip_set1 lo k (.int (x + Int32.ofInt z)), st, w) else none
    | _ => none)
  | .iadd => (match st with
    | .int y :: .int x :: r => some (pc + 1, lo, .int (x + y) :: r, w)
    | _ => none)
  | .isub => (match st with
    | .int y :: .int x :: r => some (pc + 1, lo, .int (x - y) :: r, w)
    | _ => none)
  | .imul => (match st with
    | .int y :: .int x :: r => some (pc + 1, lo, .int (x * y) :: r, w)
    | _ => none)
  | .iand => (match st with
    | .int y :: .int x :: r => some (pc + 1, lo, .int (x &&& y) :: r, w)
    | _ => none)
  | .ladd => (match st with
    | .long y :: .long x :: r => some (pc + 1, lo, .long (x + y) :: r, w)
    | _ => none)
  | .lsub => (match st with
    | .long y :: .long x :: r => some (pc + 1, lo, .long (x - y) :: r, w)
    | _ => none)
  | .lmul => (match st with
    | .long y :: .long x :: r => some (pc + 1, lo, .long (x * y) :: r, w)
    | _ => none)
  | .land => (match st with
    | .long y :: .long x :: r => some (pc + 1, lo, .long (x &&& y) :: r, w)
    | _ => none)
  | .lor => (match st with
    | .long y :: .long x :: r => some (pc + 1, lo, .long (x ||| y) :: r, w)
    | _ => none)
  | .lxor => (match st with
    | .long y :: .long x :: r => some (pc + 1, lo, .long (x ^^^ y) :: r, w)
    | _ => none)
  | .idiv => (match st with
    | .int y :: .int x :: r => if ¬ y = 0 then some (pc + 1, lo, .int (x / y) :: r, w) else none
    | _ => none)
  | .irem => (match st with
    | .int y :: .int x :: r => if ¬ y = 0 then some (pc + 1, lo, .int (x - x / y * y) :: r, w) else none
    | _ => none)
  | .ldiv => (match st with
    | .long y :: .long x :: r => if ¬ y = 0 then some (pc + 1, lo, .long (x / y) :: r, w) else none
    | _ => none)
  | .lrem => (match st with
    | .long y :: .long x :: r => if ¬ y = 0 then some (pc + 1, lo, .long (x - x / y * y) :: r, w) else none
    | _ => none)
  | .ineg => (match st with
    | .int x :: r => some (pc + 1, lo, .int (-x) :: r, w)
    | _ => none)
  | .lneg => (match st with
    | .long x :: r => some (pc + 1, lo, .long (-x) :: r, w)
    | _ => none)
  | .i2l => (match st with
    | .int x :: r => some (pc + 1, lo, .long (x.toInt64) :: r, w)
    | _ => none)
  | .l2i => (match st with
    | .long x :: r => some (pc + 1, lo, .int (x.toInt32) :: r, w)
    | _ => none)
  | .i2b => (match st with
    | .int x :: r => some (pc + 1, lo, .int (x.toInt8.toInt32) :: r, w)
    | _ => none)
  | .i2c => (match st with
    | .int x :: r => some (pc + 1, lo, .int ((x.toUInt32 % 65536).toInt32) :: r, w)
    | _ => none)
  | .lshl => (match st with
    | .int y :: .long x :: r => some (pc + 1, lo, .long (x <<< (y.toInt64 &&& 63)) :: r, w)
    | _ => none)
  | .lshr => (match st with
    | .int y :: .long x :: r => some (pc + 1, lo, .long (x >>> (y.toInt64 &&& 63)) :: r, w)
    | _ => none)
  | .lushr => (match st with
    | .int y :: .long x :: r => some (pc + 1, lo, .long ((x.toUInt64 >>> (y.toInt64.toUInt64 &&& Int64.toUInt64 63)).toInt64) :: r, w)
    | _ => none)
  | .lcmp => (match st with
    | .long y :: .long x :: r => some (pc + 1, lo, .int (lg_cmp x y) :: r, w)
    | _ => none)
  | .dup => (match st with
    | v :: r => if v.category = 1 then some (pc + 1, lo, v :: v :: r, w) else none
    | _ => none)
  | .pop => (match st with
    | v :: r => if v.category = 1 then some (pc + 1, lo, r, w) else none
    | _ => none)
  | .dup2 => (match st with
    | v :: r => if v.category = 2 then some (pc + 1, lo, v :: v :: r, w) else (match r with
      | u :: r2 => if v.category = 1 ∧ u.category = 1 then some (pc + 1, lo, v :: u :: v :: u :: r2, w) else none
      | _ => none)
    | _ => none)
  | .ifCond c off => (match st with
    | .int x :: r => (match ip_tg pc off with
      | some t => some (ip_b1 c x t (pc + 3), lo, r, w)
      | none => none)
    | _ => none)
  | .if_icmp c off => (match st with
    | .int y :: .int x :: r => (match ip_tg pc off with
      | some t => some (ip_b2 c x y t (pc + 3), lo, r, w)
      | none => none)
    | _ => none)
  | .goto off => (match ip_tg pc off with
    | some t => some (t, lo, st, w)
    | none => none)
  | .ifnull off => (match st with
    | .ref _ :: r => some (pc + 3, lo, r, w)
    | .null :: r => (match ip_tg pc off with
      | some t => some (t, lo, r, w)
      | none => none)
    | _ => none)
  | .ifnonnull off => (match st with
    | .null :: r => some (pc + 3, lo, r, w)
    | .ref _ :: r => (match ip_tg pc off with
      | some t => some (t, lo, r, w)
      | none => none)
    | _ => none)
  | .lookupswitch d ps => (match st with
    | .int x :: r => if (ps.toList.zip (ps.toList.drop 1)).all (fun (a, next) => a.1 < next.1) = true then (match ip_tg pc (Op.lookupswitch.offset ps.toList d x.toInt) with
      | some t => some (t, lo, r, w)
      | none => none) else none
    | _ => none)
  | .tableswitch d lw hi offs => (match st with
    | .int x :: r => if x.toInt < lw ∨ hi < x.toInt then (match ip_tg pc d with
      | some t => some (t, lo, r, w)
      | none => none) else (match offs[(x.toInt - lw).toNat]? with
      | some off => (match ip_tg pc off with
        | some t => some (t, lo, r, w)
        | none => none)
      | none => none)
    | _ => none)
  | .ldc k => (match Cn k with
    | some v => some (pc + 2, lo, v :: st, w)
    | none => none)
  | .ldc_w k => (match Cn k with
    | some v => some (pc + 3, lo, v :: st, w)
    | none => none)
  | .ldc2_w k => (match Cn k with
    | some v => some (pc + 3, lo, v :: st, w)
    | none => none)
  | .getfield k => (match st with
    | .ref a :: r => (match Fd k, w.2.2 a with
      | some (ci, j), some (.inr (ci2, fs)) => if ci = ci2 then (match fs[j]? with
        | some v => some (pc + 3, lo, v :: r, w)
        | none => none) else none
      | _, _ => none)
    | _ => none)
  | .putfield k => (match st with
    | v :: .ref a :: r => (match Fd k, w.2.2 a with
      | some (ci, j), some (.inr (ci2, fs)) => (match Ft ci j with
        | some (tc, fin) => if ci = ci2 ∧ ip_fok tc v = true ∧ j < fs.length ∧ (fin = true → ini = some ci) then some (pc + 3, lo, r, (w.1, w.2.1, va_up w.2.2 a (some (.inr (ci, fs.set j v))))) else none
        | none => none)
      | _, _ => none)
    | _ => none)
  | .arraylength => (match st with
    | .ref a :: r => (match w.2.2 a with
      | some (.inl (kd, n, _)) => if kd < 5 then some (pc + 1, lo, .int (Int32.ofNat n) :: r, w) else none
      | _ => none)
    | _ => none)
  | .iaload => (match st with
    | .int i :: .ref a :: r => (match w.2.2 a with
      | some (.inl (0, n, .inl f)) => if ip_in i n = true then some (pc + 1, lo, .int (f i.toNatClampNeg) :: r, w) else none
      | _ => none)
    | _ => none)
  | .baload => (match st with
    | .int i :: .ref a :: r => (match w.2.2 a with
      | some (.inl (1, n, .inl f)) => if ip_in i n = true then some (pc + 1, lo, .int (f i.toNatClampNeg) :: r, w) else none
      | some (.inl (3, n, .inl f)) => if ip_in i n = true then some (pc + 1, lo, .int (f i.toNatClampNeg) :: r, w) else none
      | _ => none)
    | _ => none)
  | .laload => (match st with
    | .int i :: .ref a :: r => (match w.2.2 a with
      | some (.inl (2, n, .inr (.inl f))) => if ip_in i n = true then some (pc + 1, lo, .long (f i.toNatClampNeg) :: r, w) else none
      | _ => none)
    | _ => none)
  | .aaload => (match st with
    | .int i :: .ref a :: r => (match w.2.2 a with
      | some (.inl (4, n, .inr (.inr f))) => if ip_in i n = true then some (pc + 1, lo, ip_r (f i.toNatClampNeg) :: r, w) else none
      | _ => none)
    | _ => none)
  | .iastore => (match st with
    | .int x :: .int i :: .ref a :: r => (match w.2.2 a with
      | some (.inl (0, n, .inl f)) => if ip_in i n = true then some (pc + 1, lo, r, (w.1, w.2.1, va_up w.2.2 a (some (.inl (0, n, .inl (upd f i.toNatClampNeg x)))))) else none
      | _ => none)
    | _ => none)
  | .bastore => (match st with
    | .int x :: .int i :: .ref a :: r => (match w.2.2 a with
      | some (.inl (1, n, .inl f)) => if ip_in i n = true then some (pc + 1, lo, r, (w.1, w.2.1, va_up w.2.2 a (some (.inl (1, n, .inl (upd f i.toNatClampNeg (vp_nar .byte x))))))) else none
      | some (.inl (3, n, .inl f)) => if ip_in i n = true then some (pc + 1, lo, r, (w.1, w.2.1, va_up w.2.2 a (some (.inl (3, n, .inl (upd f i.toNatClampNeg (vp_nar .boolean x))))))) else none
      | _ => none)
    | _ => none)
  | .lastore => (match st with
    | .long x :: .int i :: .ref a :: r => (match w.2.2 a with
      | some (.inl (2, n, .inr (.inl f))) => if ip_in i n = true then some (pc + 1, lo, r, (w.1, w.2.1, va_up w.2.2 a (some (.inl (2, n, .inr (.inl (vp_updL f i.toNatClampNeg x))))))) else none
      | _ => none)
    | _ => none)
  | .aastore => (match st with
    | .ref v :: .int i :: .ref a :: r => (match w.2.2 a, w.2.2 v with
      | some (.inl (4, n, .inr (.inr f))), some (.inr (11, _)) => if ip_in i n = true then some (pc + 1, lo, r, (w.1, w.2.1, va_up w.2.2 a (some (.inl (4, n, .inr (.inr (va_up f i.toNatClampNeg (some v)))))))) else none
      | _, _ => none)
    | _ => none)
  | .new k => (match Nw k with
    | some (ci, fs) => some (pc + 3, lo, .ref w.1 :: st, (w.1 + 1, w.2.1 + fs.length, va_up w.2.2 w.1 (some (.inr (ci, fs)))))
    | none => none)
  | .newarray t => (match st with
    | .int n :: r => (match ip_atk t with
      | some (kd, x0, _) => if ¬ n < 0 ∧ n.toNatClampNeg ≤ 1000000 then some (pc + 2, lo, .ref w.1 :: r, (w.1 + 1, w.2.1 + n.toNatClampNeg, va_up w.2.2 w.1 (some (.inl (kd, n.toNatClampNeg, x0))))) else none
      | none => none)
    | _ => none)
  | .anewarray _ => (match st with
    | .int n :: r => if ¬ n < 0 ∧ n.toNatClampNeg ≤ 1000000 then some (pc + 3, lo, .ref w.1 :: r, (w.1 + 1, w.2.1 + n.toNatClampNeg, va_up w.2.2 w.1 (some (.inl (4, n.toNatClampNeg, .inr (.inr (fun _ => none))))))) else none
    | _ => none)
  | _ => none
end
section
/-! part 06: the simple step is sound -/
section IPS
variable {p : Program} {l : Launch} {e : Env} {R : Room} {s : State} {m : MethodId} {args : Array Value} {below : List Frame} {meth : Method} {c : Code} {Q : State → Prop}
variable {D : va_G} {cl : List vw_C} {aC : Nat → ClassId} {b : Nat} {sc : Nat → Nat} {nL n0 s0 : Nat} {cc : ByteArray} {w : ip_W} {pc : Nat} {lo : List (Nat × Value)} {st : List Value} {Ts : List Cond} {own : String}
variable {Fd : Nat → Option (Nat × Nat)} {Ft : Nat → Nat → Option (Nat × Bool)} {Cn : Nat → Option Value} {Nw : Nat → Option (Nat × List Value)} {ini : Option Nat} {r : ip_R}
/-- ip_V at what a step gives -/
def ip_Vr (p : Program) (l : Launch) (e : Env) (R : Room) (s : State) (m : MethodId) (args : Array Value) (below : List Frame) (meth : Method) (c : Code) (D : va_G) (cl : List vw_C) (aC : Nat → ClassId) (b : Nat) (sc : Nat → Nat) (nL n0 s0 : Nat) (Q : State → Prop) (r : ip_R) : Prop := ip_V p l e R s m args below meth c D cl aC b sc nL n0 s0 Q r.2.2.2 r.1 r.2.1 r.2.2.1
theorem ip_isR_of {x : Value} (h : ip_isR x = true) : (∃ a, x = .ref a) ∨ (∃ a, x = .retAddr a) ∨ x = .null := by
  cases x with
  | ref a => exact Or.inl ⟨a, rfl⟩
  | retAddr a => exact Or.inr (Or.inl ⟨a, rfl⟩)
  | null => exact Or.inr (Or.inr rfl)
  | _ => simp [ip_isR] at h
theorem ip_tg_of {off : Int} {t : Nat} (h : ip_tg pc off = some t) : (pc : Int) + off = (t : Int) := by
  unfold ip_tg at h
  split at h
  · rename_i h0
    cases h
    exact (Int.toNat_of_nonneg h0).symm
  · cases h
theorem ip_in_of {i : Int32} {n : Nat} (h : ip_in i n = true) : vp_in i n := by
  unfold ip_in at h
  simp only [Bool.and_eq_true, decide_eq_true_eq] at h
  intro q
  rcases q with q | q
  · exact h.1 q
  · omega
theorem ip_s_iconst {n : Int} (h : ip_st Fd Ft Cn Nw nL ini (.iconst n) pc lo st w = some r) (hx : p.tables.exec = Jvm.exec) (hb : c.code = cc) (hdg : decode cc pc = .ok (.iconst n, 1)) (k : ip_Vr p l e R s m args below meth c D cl aC b sc nL n0 s0 Q r) : ip_V p l e R s m args below meth c D cl aC b sc nL n0 s0 Q w pc lo st := by
  simp only [ip_st] at h
  cases h
  exact ip_iconst hx hb hdg k
theorem ip_s_bipush {n : Int} (h : ip_st Fd Ft Cn Nw nL ini (.bipush n) pc lo st w = some r) (hx : p.tables.exec = Jvm.exec) (hb : c.code = cc) (hdg : decode cc pc = .ok (.bipush n, 2)) (k : ip_Vr p l e R s m args below meth c D cl aC b sc nL n0 s0 Q r) : ip_V p l e R s m args below meth c D cl aC b sc nL n0 s0 Q w pc lo st := by
  simp only [ip_st] at h
  cases h
  exact ip_bipush hx hb hdg k
theorem ip_s_sipush {n : Int} (h : ip_st Fd Ft Cn Nw nL ini (.sipush n) pc lo st w = some r) (hx : p.tables.exec = Jvm.exec) (hb : c.code = cc) (hdg : decode cc pc = .ok (.sipush n, 3)) (k : ip_Vr p l e R s m args below meth c D cl aC b sc nL n0 s0 Q r) : ip_V p l e R s m args below meth c D cl aC b sc nL n0 s0 Q w pc lo st := by
  simp only [ip_st] at h
  cases h
  exact ip_sipush hx hb hdg k
theorem ip_s_lconst {n : Fin 2} (h : ip_st Fd Ft Cn Nw nL ini (.lconst n) pc lo st w = some r) (hx : p.tables.exec = Jvm.exec) (hb : c.code = cc) (hdg : decode cc pc = .ok (.lconst n, 1)) (k : ip_Vr p l e R s m args below meth c D cl aC b sc nL n0 s0 Q r) : ip_V p l e R s m args below meth c D cl aC b sc nL n0 s0 Q w pc lo st := by
  simp only [ip_st] at h
  cases h
  exact ip_lconst hx hb hdg k
theorem ip_s_null (h : ip_st Fd Ft Cn Nw nL ini (.aconst_null) pc lo st w = some r) (hx : p.tables.exec = Jvm.exec) (hb : c.code = cc) (hdg : decode cc pc = .ok (.aconst_null, 1)) (k : ip_Vr p l e R s m args below meth c D cl aC b sc nL n0 s0 Q r) : ip_V p l e R s m args below meth c D cl aC b sc nL n0 s0 Q w pc lo st := by
  simp only [ip_st] at h
  cases h
  exact ip_null hx hb hdg k
theorem ip_s_iload_n {i : Fin 4} (h : ip_st Fd Ft Cn Nw nL ini (.iload_n i) pc lo st w = some r) (hx : p.tables.exec = Jvm.exec) (hb : c.code = cc) (hdg : decode cc pc = .ok (.iload_n i, 1)) (k : ip_Vr p l e R s m args below meth c D cl aC b sc nL n0 s0 Q r) : ip_V p l e R s m args below meth c D cl aC b sc nL n0 s0 Q w pc lo st := by
  simp only [ip_st] at h
  split at h
  · rename_i hg
    cases h
    exact ip_iload_n hx hb hdg hg k
  · cases h
theorem ip_s_iload {i : Nat} (h : ip_st Fd Ft Cn Nw nL ini (.iload i) pc lo st w = some r) (hx : p.tables.exec = Jvm.exec) (hb : c.code = cc) (hdg : decode cc pc = .ok (.iload i, 2)) (k : ip_Vr p l e R s m args below meth c D cl aC b sc nL n0 s0 Q r) : ip_V p l e R s m args below meth c D cl aC b sc nL n0 s0 Q w pc lo st := by
  simp only [ip_st] at h
  split at h
  · rename_i hg
    cases h
    exact ip_iload hx hb hdg hg k
  · cases h
theorem ip_s_lload_n {i : Fin 4} (h : ip_st Fd Ft Cn Nw nL ini (.lload_n i) pc lo st w = some r) (hx : p.tables.exec = Jvm.exec) (hb : c.code = cc) (hdg : decode cc pc = .ok (.lload_n i, 1)) (k : ip_Vr p l e R s m args below meth c D cl aC b sc nL n0 s0 Q r) : ip_V p l e R s m args below meth c D cl aC b sc nL n0 s0 Q w pc lo st := by
  simp only [ip_st] at h
  split at h
  · rename_i hg
    cases h
    exact ip_lload_n hx hb hdg hg k
  · cases h
theorem ip_s_lload {i : Nat} (h : ip_st Fd Ft Cn Nw nL ini (.lload i) pc lo st w = some r) (hx : p.tables.exec = Jvm.exec) (hb : c.code = cc) (hdg : decode cc pc = .ok (.lload i, 2)) (k : ip_Vr p l e R s m args below meth c D cl aC b sc nL n0 s0 Q r) : ip_V p l e R s m args below meth c D cl aC b sc nL n0 s0 Q w pc lo st := by
  simp only [ip_st] at h
  split at h
  · rename_i hg
    cases h
    exact ip_lload hx hb hdg hg k
  · cases h
theorem ip_s_aload_n {i : Fin 4} (h : ip_st Fd Ft Cn Nw nL ini (.aload_n i) pc lo st w = some r) (hx : p.tables.exec = Jvm.exec) (hb : c.code = cc) (hdg : decode cc pc = .ok (.aload_n i, 1)) (k : ip_Vr p l e R s m args below meth c D cl aC b sc nL n0 s0 Q r) : ip_V p l e R s m args below meth c D cl aC b sc nL n0 s0 Q w pc lo st := by
  simp only [ip_st] at h
  split at h
  · rename_i hg
    split at h
    · rename_i hr
      cases h
      exact ip_aload_n hx hb hdg hg (ip_isR_of hr) k
    · cases h
  · cases h
theorem ip_s_aload {i : Nat} (h : ip_st Fd Ft Cn Nw nL ini (.aload i) pc lo st w = some r) (hx : p.tables.exec = Jvm.exec) (hb : c.code = cc) (hdg : decode cc pc = .ok (.aload i, 2)) (k : ip_Vr p l e R s m args below meth c D cl aC b sc nL n0 s0 Q r) : ip_V p l e R s m args below meth c D cl aC b sc nL n0 s0 Q w pc lo st := by
  simp only [ip_st] at h
  split at h
  · rename_i hg
    split at h
    · rename_i hr
      cases h
      exact ip_aload hx hb hdg hg (ip_isR_of hr) k
    · cases h
  · cases h
theorem ip_s_istore_n {i : Fin 4} (h : ip_st Fd Ft Cn Nw nL ini (.istore_n i) pc lo st w = some r) (hx : p.tables.exec = Jvm.exec) (hb : c.code = cc) (hdg : decode cc pc = .ok (.istore_n i, 1)) (k : ip_Vr p l e R s m args below meth c D cl aC b sc nL n0 s0 Q r) : ip_V p l e R s m args below meth c D cl aC b sc nL n0 s0 Q w pc lo st := by
  simp only [ip_st] at h
  split at h
  · split at h
    · rename_i hn
      cases h
      exact ip_istore_n hx hb hdg hn k
    · cases h
  · cases h
theorem ip_s_istore {i : Nat} (h : ip_st Fd Ft Cn Nw nL ini (.istore i) pc lo st w = some r) (hx : p.tables.exec = Jvm.exec) (hb : c.code = cc) (hdg : decode cc pc = .ok (.istore i, 2)) (k : ip_Vr p l e R s m args below meth c D cl aC b sc nL n0 s0 Q r) : ip_V p l e R s m args below meth c D cl aC b sc nL n0 s0 Q w pc lo st := by
  simp only [ip_st] at h
  split at h
  · split at h
    · rename_i hn
      cases h
      exact ip_istore hx hb hdg hn k
    · cases h
  · cases h
theorem ip_s_lstore_n {i : Fin 4} (h : ip_st Fd Ft Cn Nw nL ini (.lstore_n i) pc lo st w = some r) (hx : p.tables.exec = Jvm.exec) (hb : c.code = cc) (hdg : decode cc pc = .ok (.lstore_n i, 1)) (k : ip_Vr p l e R s m args below meth c D cl aC b sc nL n0 s0 Q r) : ip_V p l e R s m args below meth c D cl aC b sc nL n0 s0 Q w pc lo st := by
  simp only [ip_st] at h
  split at h
  · split at h
    · rename_i hn
      cases h
      exact ip_lstore_n hx hb hdg hn k
    · cases h
  · cases h
theorem ip_s_lstore {i : Nat} (h : ip_st Fd Ft Cn Nw nL ini (.lstore i) pc lo st w = some r) (hx : p.tables.exec = Jvm.exec) (hb : c.code = cc) (hdg : decode cc pc = .ok (.lstore i, 2)) (k : ip_Vr p l e R s m args below meth c D cl aC b sc nL n0 s0 Q r) : ip_V p l e R s m args below meth c D cl aC b sc nL n0 s0 Q w pc lo st := by
  simp only [ip_st] at h
  split at h
  · split at h
    · rename_i hn
      cases h
      exact ip_lstore hx hb hdg hn k
    · cases h
  · cases h
theorem ip_s_astore_n {i : Fin 4} (h : ip_st Fd Ft Cn Nw nL ini (.astore_n i) pc lo st w = some r) (hx : p.tables.exec = Jvm.exec) (hb : c.code = cc) (hdg : decode cc pc = .ok (.astore_n i, 1)) (k : ip_Vr p l e R s m args below meth c D cl aC b sc nL n0 s0 Q r) : ip_V p l e R s m args below meth c D cl aC b sc nL n0 s0 Q w pc lo st := by
  simp only [ip_st] at h
  split at h
  · split at h
    · rename_i hn
      cases h
      exact ip_astore_n hx hb hdg hn.1 (ip_isR_of hn.2) k
    · cases h
  · cases h
theorem ip_s_astore {i : Nat} (h : ip_st Fd Ft Cn Nw nL ini (.astore i) pc lo st w = some r) (hx : p.tables.exec = Jvm.exec) (hb : c.code = cc) (hdg : decode cc pc = .ok (.astore i, 2)) (k : ip_Vr p l e R s m args below meth c D cl aC b sc nL n0 s0 Q r) : ip_V p l e R s m args below meth c D cl aC b sc nL n0 s0 Q w pc lo st := by
  simp only [ip_st] at h
  split at h
  · split at h
    · rename_i hn
      cases h
      exact ip_astore hx hb hdg hn.1 (ip_isR_of hn.2) k
    · cases h
  · cases h
theorem ip_s_iinc {i : Nat} {n : Int} (h : ip_st Fd Ft Cn Nw nL ini (.iinc i n) pc lo st w = some r) (hx : p.tables.exec = Jvm.exec) (hb : c.code = cc) (hdg : decode cc pc = .ok (.iinc i n, 3)) (k : ip_Vr p l e R s m args below meth c D cl aC b sc nL n0 s0 Q r) : ip_V p l e R s m args below meth c D cl aC b sc nL n0 s0 Q w pc lo st := by
  simp only [ip_st] at h
  split at h
  · rename_i hg
    split at h
    · rename_i hn
      cases h
      exact ip_iinc hx hb hdg hn hg k
    · cases h
  · cases h
theorem ip_s_iadd (h : ip_st Fd Ft Cn Nw nL ini (.iadd) pc lo st w = some r) (hx : p.tables.exec = Jvm.exec) (hb : c.code = cc) (hdg : decode cc pc = .ok (.iadd, 1)) (k : ip_Vr p l e R s m args below meth c D cl aC b sc nL n0 s0 Q r) : ip_V p l e R s m args below meth c D cl aC b sc nL n0 s0 Q w pc lo st := by
  simp only [ip_st] at h
  split at h
  · cases h
    exact ip_iadd hx hb hdg k
  · cases h
theorem ip_s_isub (h : ip_st Fd Ft Cn Nw nL ini (.isub) pc lo st w = some r) (hx : p.tables.exec = Jvm.exec) (hb : c.code = cc) (hdg : decode cc pc = .ok (.isub, 1)) (k : ip_Vr p l e R s m args below meth c D cl aC b sc nL n0 s0 Q r) : ip_V p l e R s m args below meth c D cl aC b sc nL n0 s0 Q w pc lo st := by
  simp only [ip_st] at h
  split at h
  · cases h
    exact ip_isub hx hb hdg k
  · cases h
theorem ip_s_imul (h : ip_st Fd Ft Cn Nw nL ini (.imul) pc lo st w = some r) (hx : p.tables.exec = Jvm.exec) (hb : c.code = cc) (hdg : decode cc pc = .ok (.imul, 1)) (k : ip_Vr p l e R s m args below meth c D cl aC b sc nL n0 s0 Q r) : ip_V p l e R s m args below meth c D cl aC b sc nL n0 s0 Q w pc lo st := by
  simp only [ip_st] at h
  split at h
  · cases h
    exact ip_imul hx hb hdg k
  · cases h
theorem ip_s_iand (h : ip_st Fd Ft Cn Nw nL ini (.iand) pc lo st w = some r) (hx : p.tables.exec = Jvm.exec) (hb : c.code = cc) (hdg : decode cc pc = .ok (.iand, 1)) (k : ip_Vr p l e R s m args below meth c D cl aC b sc nL n0 s0 Q r) : ip_V p l e R s m args below meth c D cl aC b sc nL n0 s0 Q w pc lo st := by
  simp only [ip_st] at h
  split at h
  · cases h
    exact ip_iand hx hb hdg k
  · cases h
theorem ip_s_ladd (h : ip_st Fd Ft Cn Nw nL ini (.ladd) pc lo st w = some r) (hx : p.tables.exec = Jvm.exec) (hb : c.code = cc) (hdg : decode cc pc = .ok (.ladd, 1)) (k : ip_Vr p l e R s m args below meth c D cl aC b sc nL n0 s0 Q r) : ip_V p l e R s m args below meth c D cl aC b sc nL n0 s0 Q w pc lo st := by
  simp only [ip_st] at h
  split at h
  · cases h
    exact ip_ladd hx hb hdg k
  · cases h
theorem ip_s_lsub (h : ip_st Fd Ft Cn Nw nL ini (.lsub) pc lo st w = some r) (hx : p.tables.exec = Jvm.exec) (hb : c.code = cc) (hdg : decode cc pc = .ok (.lsub, 1)) (k : ip_Vr p l e R s m args below meth c D cl aC b sc nL n0 s0 Q r) : ip_V p l e R s m args below meth c D cl aC b sc nL n0 s0 Q w pc lo st := by
  simp only [ip_st] at h
  split at h
  · cases h
    exact ip_lsub hx hb hdg k
  · cases h
theorem ip_s_lmul (h : ip_st Fd Ft Cn Nw nL ini (.lmul) pc lo st w = some r) (hx : p.tables.exec = Jvm.exec) (hb : c.code = cc) (hdg : decode cc pc = .ok (.lmul, 1)) (k : ip_Vr p l e R s m args below meth c D cl aC b sc nL n0 s0 Q r) : ip_V p l e R s m args below meth c D cl aC b sc nL n0 s0 Q w pc lo st := by
  simp only [ip_st] at h
  split at h
  · cases h
    exact ip_lmul hx hb hdg k
  · cases h
theorem ip_s_land (h : ip_st Fd Ft Cn Nw nL ini (.land) pc lo st w = some r) (hx : p.tables.exec = Jvm.exec) (hb : c.code = cc) (hdg : decode cc pc = .ok (.land, 1)) (k : ip_Vr p l e R s m args below meth c D cl aC b sc nL n0 s0 Q r) : ip_V p l e R s m args below meth c D cl aC b sc nL n0 s0 Q w pc lo st := by
  simp only [ip_st] at h
  split at h
  · cases h
    exact ip_land hx hb hdg k
  · cases h
theorem ip_s_lor (h : ip_st Fd Ft Cn Nw nL ini (.lor) pc lo st w = some r) (hx : p.tables.exec = Jvm.exec) (hb : c.code = cc) (hdg : decode cc pc = .ok (.lor, 1)) (k : ip_Vr p l e R s m args below meth c D cl aC b sc nL n0 s0 Q r) : ip_V p l e R s m args below meth c D cl aC b sc nL n0 s0 Q w pc lo st := by
  simp only [ip_st] at h
  split at h
  · cases h
    exact ip_lor hx hb hdg k
  · cases h
theorem ip_s_lxor (h : ip_st Fd Ft Cn Nw nL ini (.lxor) pc lo st w = some r) (hx : p.tables.exec = Jvm.exec) (hb : c.code = cc) (hdg : decode cc pc = .ok (.lxor, 1)) (k : ip_Vr p l e R s m args below meth c D cl aC b sc nL n0 s0 Q r) : ip_V p l e R s m args below meth c D cl aC b sc nL n0 s0 Q w pc lo st := by
  simp only [ip_st] at h
  split at h
  · cases h
    exact ip_lxor hx hb hdg k
  · cases h
theorem ip_s_ineg (h : ip_st Fd Ft Cn Nw nL ini (.ineg) pc lo st w = some r) (hx : p.tables.exec = Jvm.exec) (hb : c.code = cc) (hdg : decode cc pc = .ok (.ineg, 1)) (k : ip_Vr p l e R s m args below meth c D cl aC b sc nL n0 s0 Q r) : ip_V p l e R s m args below meth c D cl aC b sc nL n0 s0 Q w pc lo st := by
  simp only [ip_st] at h
  split at h
  · cases h
    exact ip_ineg hx hb hdg k
  · cases h
theorem ip_s_lneg (h : ip_st Fd Ft Cn Nw nL ini (.lneg) pc lo st w = some r) (hx : p.tables.exec = Jvm.exec) (hb : c.code = cc) (hdg : decode cc pc = .ok (.lneg, 1)) (k : ip_Vr p l e R s m args below meth c D cl aC b sc nL n0 s0 Q r) : ip_V p l e R s m args below meth c D cl aC b sc nL n0 s0 Q w pc lo st := by
  simp only [ip_st] at h
  split at h
  · cases h
    exact ip_lneg hx hb hdg k
  · cases h
theorem ip_s_i2l (h : ip_st Fd Ft Cn Nw nL ini (.i2l) pc lo st w = some r) (hx : p.tables.exec = Jvm.exec) (hb : c.code = cc) (hdg : decode cc pc = .ok (.i2l, 1)) (k : ip_Vr p l e R s m args below meth c D cl aC b sc nL n0 s0 Q r) : ip_V p l e R s m args below meth c D cl aC b sc nL n0 s0 Q w pc lo st := by
  simp only [ip_st] at h
  split at h
  · cases h
    exact ip_i2l hx hb hdg k
  · cases h
theorem ip_s_l2i (h : ip_st Fd Ft Cn Nw nL ini (.l2i) pc lo st w = some r) (hx : p.tables.exec = Jvm.exec) (hb : c.code = cc) (hdg : decode cc pc = .ok (.l2i, 1)) (k : ip_Vr p l e R s m args below meth c D cl aC b sc nL n0 s0 Q r) : ip_V p l e R s m args below meth c D cl aC b sc nL n0 s0 Q w pc lo st := by
  simp only [ip_st] at h
  split at h
  · cases h
    exact ip_l2i hx hb hdg k
  · cases h
theorem ip_s_i2b (h : ip_st Fd Ft Cn Nw nL ini (.i2b) pc lo st w = some r) (hx : p.tables.exec = Jvm.exec) (hb : c.code = cc) (hdg : decode cc pc = .ok (.i2b, 1)) (k : ip_Vr p l e R s m args below meth c D cl aC b sc nL n0 s0 Q r) : ip_V p l e R s m args below meth c D cl aC b sc nL n0 s0 Q w pc lo st := by
  simp only [ip_st] at h
  split at h
  · cases h
    exact ip_i2b hx hb hdg k
  · cases h
theorem ip_s_i2c (h : ip_st Fd Ft Cn Nw nL ini (.i2c) pc lo st w = some r) (hx : p.tables.exec = Jvm.exec) (hb : c.code = cc) (hdg : decode cc pc = .ok (.i2c, 1)) (k : ip_Vr p l e R s m args below meth c D cl aC b sc nL n0 s0 Q r) : ip_V p l e R s m args below meth c D cl aC b sc nL n0 s0 Q w pc lo st := by
  simp only [ip_st] at h
  split at h
  · cases h
    exact ip_i2c hx hb hdg k
  · cases h
theorem ip_s_lshl (h : ip_st Fd Ft Cn Nw nL ini (.lshl) pc lo st w = some r) (hx : p.tables.exec = Jvm.exec) (hb : c.code = cc) (hdg : decode cc pc = .ok (.lshl, 1)) (k : ip_Vr p l e R s m args below meth c D cl aC b sc nL n0 s0 Q r) : ip_V p l e R s m args below meth c D cl aC b sc nL n0 s0 Q w pc lo st := by
  simp only [ip_st] at h
  split at h
  · cases h
    exact ip_lshl hx hb hdg k
  · cases h
theorem ip_s_lshr (h : ip_st Fd Ft Cn Nw nL ini (.lshr) pc lo st w = some r) (hx : p.tables.exec = Jvm.exec) (hb : c.code = cc) (hdg : decode cc pc = .ok (.lshr, 1)) (k : ip_Vr p l e R s m args below meth c D cl aC b sc nL n0 s0 Q r) : ip_V p l e R s m args below meth c D cl aC b sc nL n0 s0 Q w pc lo st := by
  simp only [ip_st] at h
  split at h
  · cases h
    exact ip_lshr hx hb hdg k
  · cases h
theorem ip_s_lushr (h : ip_st Fd Ft Cn Nw nL ini (.lushr) pc lo st w = some r) (hx : p.tables.exec = Jvm.exec) (hb : c.code = cc) (hdg : decode cc pc = .ok (.lushr, 1)) (k : ip_Vr p l e R s m args below meth c D cl aC b sc nL n0 s0 Q r) : ip_V p l e R s m args below meth c D cl aC b sc nL n0 s0 Q w pc lo st := by
  simp only [ip_st] at h
  split at h
  · cases h
    exact ip_lushr hx hb hdg k
  · cases h
theorem ip_s_lcmp (h : ip_st Fd Ft Cn Nw nL ini (.lcmp) pc lo st w = some r) (hx : p.tables.exec = Jvm.exec) (hb : c.code = cc) (hdg : decode cc pc = .ok (.lcmp, 1)) (k : ip_Vr p l e R s m args below meth c D cl aC b sc nL n0 s0 Q r) : ip_V p l e R s m args below meth c D cl aC b sc nL n0 s0 Q w pc lo st := by
  simp only [ip_st] at h
  split at h
  · cases h
    exact ip_lcmp hx hb hdg k
  · cases h
theorem ip_s_idiv (h : ip_st Fd Ft Cn Nw nL ini (.idiv) pc lo st w = some r) (hx : p.tables.exec = Jvm.exec) (hb : c.code = cc) (hdg : decode cc pc = .ok (.idiv, 1)) (k : ip_Vr p l e R s m args below meth c D cl aC b sc nL n0 s0 Q r) : ip_V p l e R s m args below meth c D cl aC b sc nL n0 s0 Q w pc lo st := by
  simp only [ip_st] at h
  split at h
  · split at h
    · rename_i hn
      cases h
      exact ip_idiv hx hb hdg hn k
    · cases h
  · cases h
theorem ip_s_irem (h : ip_st Fd Ft Cn Nw nL ini (.irem) pc lo st w = some r) (hx : p.tables.exec = Jvm.exec) (hb : c.code = cc) (hdg : decode cc pc = .ok (.irem, 1)) (k : ip_Vr p l e R s m args below meth c D cl aC b sc nL n0 s0 Q r) : ip_V p l e R s m args below meth c D cl aC b sc nL n0 s0 Q w pc lo st := by
  simp only [ip_st] at h
  split at h
  · split at h
    · rename_i hn
      cases h
      exact ip_irem hx hb hdg hn k
    · cases h
  · cases h
theorem ip_s_ldiv (h : ip_st Fd Ft Cn Nw nL ini (.ldiv) pc lo st w = some r) (hx : p.tables.exec = Jvm.exec) (hb : c.code = cc) (hdg : decode cc pc = .ok (.ldiv, 1)) (k : ip_Vr p l e R s m args below meth c D cl aC b sc nL n0 s0 Q r) : ip_V p l e R s m args below meth c D cl aC b sc nL n0 s0 Q w pc lo st := by
  simp only [ip_st] at h
  split at h
  · split at h
    · rename_i hn
      cases h
      exact ip_ldiv hx hb hdg hn k
    · cases h
  · cases h
theorem ip_s_lrem (h : ip_st Fd Ft Cn Nw nL ini (.lrem) pc lo st w = some r) (hx : p.tables.exec = Jvm.exec) (hb : c.code = cc) (hdg : decode cc pc = .ok (.lrem, 1)) (k : ip_Vr p l e R s m args below meth c D cl aC b sc nL n0 s0 Q r) : ip_V p l e R s m args below meth c D cl aC b sc nL n0 s0 Q w pc lo st := by
  simp only [ip_st] at h
  split at h
  · split at h
    · rename_i hn
      cases h
      exact ip_lrem hx hb hdg hn k
    · cases h
  · cases h
theorem ip_s_dup (h : ip_st Fd Ft Cn Nw nL ini (.dup) pc lo st w = some r) (hx : p.tables.exec = Jvm.exec) (hb : c.code = cc) (hdg : decode cc pc = .ok (.dup, 1)) (k : ip_Vr p l e R s m args below meth c D cl aC b sc nL n0 s0 Q r) : ip_V p l e R s m args below meth c D cl aC b sc nL n0 s0 Q w pc lo st := by
  simp only [ip_st] at h
  split at h
  · split at h
    · rename_i hn
      cases h
      exact ip_dup hx hb hdg hn k
    · cases h
  · cases h
theorem ip_s_pop (h : ip_st Fd Ft Cn Nw nL ini (.pop) pc lo st w = some r) (hx : p.tables.exec = Jvm.exec) (hb : c.code = cc) (hdg : decode cc pc = .ok (.pop, 1)) (k : ip_Vr p l e R s m args below meth c D cl aC b sc nL n0 s0 Q r) : ip_V p l e R s m args below meth c D cl aC b sc nL n0 s0 Q w pc lo st := by
  simp only [ip_st] at h
  split at h
  · split at h
    · rename_i hn
      cases h
      exact ip_pop hx hb hdg hn k
    · cases h
  · cases h
theorem ip_s_dup2 (h : ip_st Fd Ft Cn Nw nL ini (.dup2) pc lo st w = some r) (hx : p.tables.exec = Jvm.exec) (hb : c.code = cc) (hdg : decode cc pc = .ok (.dup2, 1)) (k : ip_Vr p l e R s m args below meth c D cl aC b sc nL n0 s0 Q r) : ip_V p l e R s m args below meth c D cl aC b sc nL n0 s0 Q w pc lo st := by
  simp only [ip_st] at h
  split at h
  · split at h
    · rename_i hn
      cases h
      exact ip_dup2_2 hx hb hdg hn k
    · split at h
      · split at h
        · rename_i hn
          cases h
          exact ip_dup2_11 hx hb hdg hn.1 hn.2 k
        · cases h
      · cases h
  · cases h
theorem ip_s_ifCond {cd : ClassFile.Cond} {off : Int} (h : ip_st Fd Ft Cn Nw nL ini (.ifCond cd off) pc lo st w = some r) (hx : p.tables.exec = Jvm.exec) (hb : c.code = cc) (hdg : decode cc pc = .ok (.ifCond cd off, 3)) (k : ip_Vr p l e R s m args below meth c D cl aC b sc nL n0 s0 Q r) : ip_V p l e R s m args below meth c D cl aC b sc nL n0 s0 Q w pc lo st := by
  simp only [ip_st] at h
  split at h
  · split at h
    · rename_i ht
      cases h
      cases cd
      · exact ip_if_eq hx hb hdg (ip_tg_of ht) k
      · exact ip_if_ne hx hb hdg (ip_tg_of ht) k
      · exact ip_if_lt hx hb hdg (ip_tg_of ht) k
      · exact ip_if_ge hx hb hdg (ip_tg_of ht) k
      · exact ip_if_gt hx hb hdg (ip_tg_of ht) k
      · exact ip_if_le hx hb hdg (ip_tg_of ht) k
    · cases h
  · cases h
theorem ip_s_if_icmp {cd : ClassFile.Cond} {off : Int} (h : ip_st Fd Ft Cn Nw nL ini (.if_icmp cd off) pc lo st w = some r) (hx : p.tables.exec = Jvm.exec) (hb : c.code = cc) (hdg : decode cc pc = .ok (.if_icmp cd off, 3)) (k : ip_Vr p l e R s m args below meth c D cl aC b sc nL n0 s0 Q r) : ip_V p l e R s m args below meth c D cl aC b sc nL n0 s0 Q w pc lo st := by
  simp only [ip_st] at h
  split at h
  · split at h
    · rename_i ht
      cases h
      cases cd
      · exact ip_icmp_eq hx hb hdg (ip_tg_of ht) k
      · exact ip_icmp_ne hx hb hdg (ip_tg_of ht) k
      · exact ip_icmp_lt hx hb hdg (ip_tg_of ht) k
      · exact ip_icmp_ge hx hb hdg (ip_tg_of ht) k
      · exact ip_icmp_gt hx hb hdg (ip_tg_of ht) k
      · exact ip_icmp_le hx hb hdg (ip_tg_of ht) k
    · cases h
  · cases h
theorem ip_s_goto {off : Int} (h : ip_st Fd Ft Cn Nw nL ini (.goto off) pc lo st w = some r) (hx : p.tables.exec = Jvm.exec) (hb : c.code = cc) (hdg : decode cc pc = .ok (.goto off, 3)) (k : ip_Vr p l e R s m args below meth c D cl aC b sc nL n0 s0 Q r) : ip_V p l e R s m args below meth c D cl aC b sc nL n0 s0 Q w pc lo st := by
  simp only [ip_st] at h
  split at h
  · rename_i ht
    cases h
    exact ip_goto hx hb hdg (ip_tg_of ht) k
  · cases h
theorem ip_s_ifnull {off : Int} (h : ip_st Fd Ft Cn Nw nL ini (.ifnull off) pc lo st w = some r) (hx : p.tables.exec = Jvm.exec) (hb : c.code = cc) (hdg : decode cc pc = .ok (.ifnull off, 3)) (k : ip_Vr p l e R s m args below meth c D cl aC b sc nL n0 s0 Q r) : ip_V p l e R s m args below meth c D cl aC b sc nL n0 s0 Q w pc lo st := by
  simp only [ip_st] at h
  split at h
  · cases h
    exact ip_ifnull hx hb hdg k
  · split at h
    · rename_i ht
      cases h
      exact ip_ifnullN hx hb hdg (ip_tg_of ht) k
    · cases h
  · cases h
theorem ip_s_ifnonnull {off : Int} (h : ip_st Fd Ft Cn Nw nL ini (.ifnonnull off) pc lo st w = some r) (hx : p.tables.exec = Jvm.exec) (hb : c.code = cc) (hdg : decode cc pc = .ok (.ifnonnull off, 3)) (k : ip_Vr p l e R s m args below meth c D cl aC b sc nL n0 s0 Q r) : ip_V p l e R s m args below meth c D cl aC b sc nL n0 s0 Q w pc lo st := by
  simp only [ip_st] at h
  split at h
  · cases h
    exact ip_ifnonnullN hx hb hdg k
  · split at h
    · rename_i ht
      cases h
      exact ip_ifnonnull hx hb hdg (ip_tg_of ht) k
    · cases h
  · cases h
theorem ip_s_lookup {d : Int} {ps : Array (Int × Int)} {len : Nat} (h : ip_st Fd Ft Cn Nw nL ini (.lookupswitch d ps) pc lo st w = some r) (hx : p.tables.exec = Jvm.exec) (hb : c.code = cc) (hdg : decode cc pc = .ok (.lookupswitch d ps, len)) (k : ip_Vr p l e R s m args below meth c D cl aC b sc nL n0 s0 Q r) : ip_V p l e R s m args below meth c D cl aC b sc nL n0 s0 Q w pc lo st := by
  simp only [ip_st] at h
  split at h
  · split at h
    · rename_i hp
      split at h
      · rename_i ht
        cases h
        exact ip_lookup hx hb hdg hp rfl (ip_tg_of ht) k
      · cases h
    · cases h
  · cases h
theorem ip_s_table {d lw hi : Int} {offs : Array Int} {len : Nat} (h : ip_st Fd Ft Cn Nw nL ini (.tableswitch d lw hi offs) pc lo st w = some r) (hx : p.tables.exec = Jvm.exec) (hb : c.code = cc) (hdg : decode cc pc = .ok (.tableswitch d lw hi offs, len)) (k : ip_Vr p l e R s m args below meth c D cl aC b sc nL n0 s0 Q r) : ip_V p l e R s m args below meth c D cl aC b sc nL n0 s0 Q w pc lo st := by
  simp only [ip_st] at h
  split at h
  · split at h
    · rename_i hp
      split at h
      · rename_i ht
        cases h
        exact ip_tableOut hx hb hdg hp (ip_tg_of ht) k
      · cases h
    · rename_i hp
      split at h
      · rename_i ho
        split at h
        · rename_i ht
          cases h
          exact ip_tableIn hx hb hdg (fun q => hp (Or.inl q)) (fun q => hp (Or.inr q)) ho (ip_tg_of ht) k
        · cases h
      · cases h
  · cases h
theorem ip_s_arraylength (h : ip_st Fd Ft Cn Nw nL ini (.arraylength) pc lo st w = some r) (hx : p.tables.exec = Jvm.exec) (hb : c.code = cc) (hdg : decode cc pc = .ok (.arraylength, 1)) (hK : va_K D cl (ip_T aC) s) (k : ip_Vr p l e R s m args below meth c D cl aC b sc nL n0 s0 Q r) : ip_V p l e R s m args below meth c D cl aC b sc nL n0 s0 Q w pc lo st := by
  simp only [ip_st] at h
  split at h
  · split at h
    · rename_i he
      split at h
      · rename_i hkd
        cases h
        exact ip_alen hx hb hK hkd he hdg k
      · cases h
    · cases h
  · cases h
theorem ip_s_iaload (h : ip_st Fd Ft Cn Nw nL ini (.iaload) pc lo st w = some r) (hx : p.tables.exec = Jvm.exec) (hb : c.code = cc) (hdg : decode cc pc = .ok (.iaload, 1)) (hK : va_K D cl (ip_T aC) s) (k : ip_Vr p l e R s m args below meth c D cl aC b sc nL n0 s0 Q r) : ip_V p l e R s m args below meth c D cl aC b sc nL n0 s0 Q w pc lo st := by
  simp only [ip_st] at h
  split at h
  · split at h
    · rename_i he
      split at h
      · rename_i hn
        cases h
        exact ip_iald hx hb hK he (ip_in_of hn) hdg k
      · cases h
    · cases h
  · cases h
theorem ip_s_baload (h : ip_st Fd Ft Cn Nw nL ini (.baload) pc lo st w = some r) (hx : p.tables.exec = Jvm.exec) (hb : c.code = cc) (hdg : decode cc pc = .ok (.baload, 1)) (hK : va_K D cl (ip_T aC) s) (k : ip_Vr p l e R s m args below meth c D cl aC b sc nL n0 s0 Q r) : ip_V p l e R s m args below meth c D cl aC b sc nL n0 s0 Q w pc lo st := by
  simp only [ip_st] at h
  split at h
  · split at h
    · rename_i he
      split at h
      · rename_i hn
        cases h
        exact ip_bald hx hb hK he (ip_in_of hn) hdg k
      · cases h
    · rename_i he
      split at h
      · rename_i hn
        cases h
        exact ip_zald hx hb hK he (ip_in_of hn) hdg k
      · cases h
    · cases h
  · cases h
theorem ip_s_laload (h : ip_st Fd Ft Cn Nw nL ini (.laload) pc lo st w = some r) (hx : p.tables.exec = Jvm.exec) (hb : c.code = cc) (hdg : decode cc pc = .ok (.laload, 1)) (hK : va_K D cl (ip_T aC) s) (k : ip_Vr p l e R s m args below meth c D cl aC b sc nL n0 s0 Q r) : ip_V p l e R s m args below meth c D cl aC b sc nL n0 s0 Q w pc lo st := by
  simp only [ip_st] at h
  split at h
  · split at h
    · rename_i he
      split at h
      · rename_i hn
        cases h
        exact ip_lald hx hb hK he (ip_in_of hn) hdg k
      · cases h
    · cases h
  · cases h
theorem ip_s_aaload (h : ip_st Fd Ft Cn Nw nL ini (.aaload) pc lo st w = some r) (hx : p.tables.exec = Jvm.exec) (hb : c.code = cc) (hdg : decode cc pc = .ok (.aaload, 1)) (hK : va_K D cl (ip_T aC) s) (k : ip_Vr p l e R s m args below meth c D cl aC b sc nL n0 s0 Q r) : ip_V p l e R s m args below meth c D cl aC b sc nL n0 s0 Q w pc lo st := by
  simp only [ip_st] at h
  split at h
  · split at h
    · rename_i he
      split at h
      · rename_i hn
        cases h
        exact ip_aald hx hb hK he (ip_in_of hn) hdg k
      · cases h
    · cases h
  · cases h
theorem ip_s_iastore (h : ip_st Fd Ft Cn Nw nL ini (.iastore) pc lo st w = some r) (hx : p.tables.exec = Jvm.exec) (hb : c.code = cc) (hdg : decode cc pc = .ok (.iastore, 1)) (hK : va_K D cl (ip_T aC) s) (k : ip_Vr p l e R s m args below meth c D cl aC b sc nL n0 s0 Q r) : ip_V p l e R s m args below meth c D cl aC b sc nL n0 s0 Q w pc lo st := by
  simp only [ip_st] at h
  split at h
  · split at h
    · rename_i he
      split at h
      · rename_i hn
        cases h
        exact ip_iast hx hb hK he (ip_in_of hn) hdg k
      · cases h
    · cases h
  · cases h
theorem ip_s_bastore (h : ip_st Fd Ft Cn Nw nL ini (.bastore) pc lo st w = some r) (hx : p.tables.exec = Jvm.exec) (hb : c.code = cc) (hdg : decode cc pc = .ok (.bastore, 1)) (hK : va_K D cl (ip_T aC) s) (k : ip_Vr p l e R s m args below meth c D cl aC b sc nL n0 s0 Q r) : ip_V p l e R s m args below meth c D cl aC b sc nL n0 s0 Q w pc lo st := by
  simp only [ip_st] at h
  split at h
  · split at h
    · rename_i he
      split at h
      · rename_i hn
        cases h
        exact ip_bast hx hb hK he (ip_in_of hn) hdg k
      · cases h
    · rename_i he
      split at h
      · rename_i hn
        cases h
        exact ip_zast hx hb hK he (ip_in_of hn) hdg k
      · cases h
    · cases h
  · cases h
theorem ip_s_lastore (h : ip_st Fd Ft Cn Nw nL ini (.lastore) pc lo st w = some r) (hx : p.tables.exec = Jvm.exec) (hb : c.code = cc) (hdg : decode cc pc = .ok (.lastore, 1)) (hK : va_K D cl (ip_T aC) s) (k : ip_Vr p l e R s m args below meth c D cl aC b sc nL n0 s0 Q r) : ip_V p l e R s m args below meth c D cl aC b sc nL n0 s0 Q w pc lo st := by
  simp only [ip_st] at h
  split at h
  · split at h
    · rename_i he
      split at h
      · rename_i hn
        cases h
        exact ip_last hx hb hK he (ip_in_of hn) hdg k
      · cases h
    · cases h
  · cases h
theorem ip_s_aastore (h : ip_st Fd Ft Cn Nw nL ini (.aastore) pc lo st w = some r) (hx : p.tables.exec = Jvm.exec) (hb : c.code = cc) (hdg : decode cc pc = .ok (.aastore, 1)) (hK : va_K D cl (ip_T aC) s) {r11 : vw_C} (hS11 : cl[11]? = some r11 ∧ r11.1 = "VitalTwin$Symbol") (k : ip_Vr p l e R s m args below meth c D cl aC b sc nL n0 s0 Q r) : ip_V p l e R s m args below meth c D cl aC b sc nL n0 s0 Q w pc lo st := by
  simp only [ip_st] at h
  split at h
  · split at h
    · rename_i he hv
      split at h
      · rename_i hn
        cases h
        exact ip_aast hx hb hK he hv hS11.1 hS11.2 (ip_in_of hn) hdg k
      · cases h
    · cases h
  · cases h
/-- what the tables say of a class' fields -/
def ip_Fok (Ts : List Cond) (C : String) (T : u_T) (N : Nat) : Prop := (∀ w ∈ u_ws C T N, w ∈ Ts) ∧ (∀ a, a < N → ∀ b, b < N → a ≠ b → (T a).2.1 ≠ (T b).2.1) ∧ ∃ ty0 : Nat → FieldType, ∀ k, k < N → parseFieldDescriptor (T k).2.2.1 = some (ty0 k)
def ip_ty (tc : Nat) (ty : FieldType) : Prop := (tc = 0 ∧ ty = .int) ∨ (tc = 1 ∧ ty = .long) ∨ (tc = 2 ∧ ty = .boolean) ∨ (tc = 3 ∧ ((∃ n, ty = .object n) ∨ ∃ t, ty = .array t))
theorem ip_ty_ok {tc : Nat} {ty : FieldType} {v : Value} (ht : ip_ty tc ty) (hv : ip_fok tc v = true) : narrow ty (ip_v b sc v) = ip_v b sc v ∧ fits ty (ip_v b sc v) = true := by
  rcases ht with ⟨rfl, rfl⟩ | ⟨rfl, rfl⟩ | ⟨rfl, rfl⟩ | ⟨rfl, ⟨n, rfl⟩ | ⟨t, rfl⟩⟩
  · cases v <;> simp [ip_fok] at hv
    exact ⟨rfl, rfl⟩
  · cases v <;> simp [ip_fok] at hv
    exact ⟨rfl, rfl⟩
  · cases v <;> simp [ip_fok] at hv
    rcases hv with rfl | rfl <;> exact ⟨rfl, rfl⟩
  · cases v <;> simp [ip_fok] at hv <;> exact ⟨rfl, rfl⟩
  · cases v <;> simp [ip_fok] at hv <;> exact ⟨rfl, rfl⟩
theorem ip_s_getfield {kx : Nat} (h : ip_st Fd Ft Cn Nw nL ini (.getfield kx) pc lo st w = some r) (hx : p.tables.exec = Jvm.exec) (hb : c.code = cc) (hdg : decode cc pc = .ok (.getfield kx, 3)) (hK : va_K D cl (ip_T aC) s) (hts : ip_TK Ts s) (hown : s.vm.findClass own = some m.cls) (hFd : ∀ (k ci j : Nat), Fd k = some (ci, j) → ∃ (C : String) (T : u_T) (N : Nat), cl[ci]? = some (C, T, N) ∧ j < N ∧ Cond.fieldLink own k (T j).1 (T j).2.1 (T j).2.2.1 ∈ Ts) (hcl : ∀ (ci : Nat) (C : String) (T : u_T) (N : Nat), cl[ci]? = some (C, T, N) → ip_Fok Ts C T N) (k : ip_Vr p l e R s m args below meth c D cl aC b sc nL n0 s0 Q r) : ip_V p l e R s m args below meth c D cl aC b sc nL n0 s0 Q w pc lo st := by
  simp only [ip_st] at h
  split at h
  · split at h
    · rename_i hf he
      split at h
      · rename_i hci
        subst hci
        split at h
        · rename_i hv
          cases h
          obtain ⟨C, T, N, hc, hj, hlk⟩ := hFd _ _ _ hf
          exact ip_getf hx hb (fun w hw => hts w hw args) (hcl _ _ _ _ hc).1 hown hK he hc _ hj (hts _ hlk args) (fun _ h9 => h9) hv hdg k
        · cases h
      · cases h
    · cases h
  · cases h
theorem ip_s_putfield {kx : Nat} (h : ip_st Fd Ft Cn Nw nL ini (.putfield kx) pc lo st w = some r) (hx : p.tables.exec = Jvm.exec) (hb : c.code = cc) (hdg : decode cc pc = .ok (.putfield kx, 3)) (hK : va_K D cl (ip_T aC) s) (hts : ip_TK Ts s) (hown : s.vm.findClass own = some m.cls) (hFd : ∀ (k ci j : Nat), Fd k = some (ci, j) → ∃ (C : String) (T : u_T) (N : Nat), cl[ci]? = some (C, T, N) ∧ j < N ∧ Cond.fieldLink own k (T j).1 (T j).2.1 (T j).2.2.1 ∈ Ts) (hcl : ∀ (ci : Nat) (C : String) (T : u_T) (N : Nat), cl[ci]? = some (C, T, N) → ip_Fok Ts C T N) (hFt : ∀ (ci j tc : Nat) (fin : Bool) (C : String) (T : u_T) (N : Nat), Ft ci j = some (tc, fin) → cl[ci]? = some (C, T, N) → j < N → (T j).2.2.2 = fin ∧ ∃ ty, parseFieldDescriptor (T j).2.2.1 = some ty ∧ ip_ty tc ty) (hini : ∀ (ci : Nat) (C : String) (T : u_T) (N : Nat), ini = some ci → cl[ci]? = some (C, T, N) → meth.name = "<init>" ∧ ∀ j, j < N → (T j).1 = own) (k : ip_Vr p l e R s m args below meth c D cl aC b sc nL n0 s0 Q r) : ip_V p l e R s m args below meth c D cl aC b sc nL n0 s0 Q w pc lo st := by
  simp only [ip_st] at h
  split at h
  · split at h
    · rename_i hf he
      split at h
      · rename_i hft
        split at h
        · rename_i hcc
          obtain ⟨hci, hfo, hjl, hfin⟩ := hcc
          subst hci
          cases h
          obtain ⟨C, T, N, hc, hj, hlk⟩ := hFd _ _ _ hf
          obtain ⟨hin, hnm, ty0, hty⟩ := hcl _ _ _ _ hc
          obtain ⟨hf1, ty, hd, hty2⟩ := hFt _ _ _ _ _ _ _ hft hc hj
          obtain ⟨hn, hfit⟩ := ip_ty_ok (b := b) (sc := sc) hty2 hfo
          cases hfb : (T _).2.2.2 with
          | false => exact ip_putf hx hb (fun w hw => hts w hw args) hin ty0 hty hnm hown hK he hc _ hj (hts _ hlk args) (fun _ h9 => h9) hfb hd hn hfit hjl hdg k
          | true =>
            have h7 := hini _ _ _ _ (hfin (by rw [← hf1]; exact hfb)) hc
            exact ip_putfF hx hb (fun w hw => hts w hw args) hin ty0 hty hnm hown hK he hc _ hj (hts _ hlk args) (fun _ h9 => h9) hfb h7.1 (h7.2 _ hj) hd hn hfit hjl hdg k
        · cases h
      · cases h
    · cases h
  · cases h
theorem ip_s_new {kx : Nat} (h : ip_st Fd Ft Cn Nw nL ini (.new kx) pc lo st w = some r) (hx : p.tables.exec = Jvm.exec) (hb : c.code = cc) (hdg : decode cc pc = .ok (.new kx, 3)) (hK : va_K D cl (ip_T aC) s) (hts : ip_TK Ts s) (hown : s.vm.findClass own = some m.cls) (hFd : ∀ (k ci j : Nat), Fd k = some (ci, j) → ∃ (C : String) (T : u_T) (N : Nat), cl[ci]? = some (C, T, N) ∧ j < N ∧ Cond.fieldLink own k (T j).1 (T j).2.1 (T j).2.2.1 ∈ Ts) (hcl : ∀ (ci : Nat) (C : String) (T : u_T) (N : Nat), cl[ci]? = some (C, T, N) → ip_Fok Ts C T N) (hn0 : n0 ≤ w.1) (hs0 : s0 ≤ w.2.1) (hcells : r.2.2.2.1 ≤ n0 + R.cells) (hslots : r.2.2.2.2.1 ≤ s0 + R.slots) (hNw : ∀ (k ci : Nat) (fs : List Value), Nw k = some (ci, fs) → ∃ (C : String) (T : u_T) (N : Nat) (ty : Nat → FieldType), cl[ci]? = some (C, T, N) ∧ Cond.classLink own k C ∈ Ts ∧ Cond.instantiable C N ∈ Ts ∧ Cond.initialized C ∈ Ts ∧ N = fs.length ∧ (∀ k, k < N → parseFieldDescriptor (T k).2.2.1 = some (ty k)) ∧ ∀ j, j < N → defaultValue (ty j) = vp_V (fs.map (ip_v b sc)) j) (k : ip_Vr p l e R s m args below meth c D cl aC b sc nL n0 s0 Q r) : ip_V p l e R s m args below meth c D cl aC b sc nL n0 s0 Q w pc lo st := by
  simp only [ip_st] at h
  split at h
  · rename_i hnw
    cases h
    obtain ⟨C, T, N, ty, hc, hlk, hinst, hinit, hlen, hty, hfs⟩ := hNw _ _ _ hnw
    subst hlen
    exact ip_new hx hb (fun w hw => hts w hw args) (hcl _ _ _ _ hc).1 ty hty hown (hts _ hlk args) (hts _ hinst args) (hts _ hinit args) hK hc hfs hn0 hs0 hcells hslots hdg k
  · cases h
end IPS
end
section
/-! part 07: arrays made, constants; the whole simple step is sound -/
section IPT
variable {p : Program} {l : Launch} {e : Env} {R : Room} {s : State} {m : MethodId} {args : Array Value} {below : List Frame} {meth : Method} {c : Code} {Q : State → Prop}
variable {D : va_G} {cl : List vw_C} {aC : Nat → ClassId} {b : Nat} {sc : Nat → Nat} {nL n0 s0 : Nat} {cc : ByteArray} {w : ip_W} {pc : Nat} {lo : List (Nat × Value)} {st : List Value} {Ts : List Cond} {own : String}
variable {Fd : Nat → Option (Nat × Nat)} {Ft : Nat → Nat → Option (Nat × Bool)} {Cn : Nat → Option Value} {Nw : Nat → Option (Nat × List Value)} {ini : Option Nat} {r : ip_R}
set_option maxHeartbeats 400000 in
theorem ip_s_newarray {t : ArrayType} (h : ip_st Fd Ft Cn Nw nL ini (.newarray t) pc lo st w = some r) (hx : p.tables.exec = Jvm.exec) (hb : c.code = cc) (hdg : decode cc pc = .ok (.newarray t, 2)) (hK : va_K D cl (ip_T aC) s) (hts : ip_TK Ts s) (hA : Cond.arrayClass .int ∈ Ts ∧ Cond.arrayClass .byte ∈ Ts ∧ Cond.arrayClass .long ∈ Ts ∧ Cond.arrayClass .boolean ∈ Ts) (hn0 : n0 ≤ w.1) (hs0 : s0 ≤ w.2.1) (hcells : r.2.2.2.1 ≤ n0 + R.cells) (hslots : r.2.2.2.2.1 ≤ s0 + R.slots) (k : ip_Vr p l e R s m args below meth c D cl aC b sc nL n0 s0 Q r) : ip_V p l e R s m args below meth c D cl aC b sc nL n0 s0 Q w pc lo st := by
  simp only [ip_st] at h
  split at h
  · rename_i n rr
    cases t
    all_goals simp only [ip_atk] at h
    case boolean =>
      split at h
      · rename_i hn
        cases h
        have harr : (Cond.arrayClass (newarray.typeOf .boolean)).before args s = true := hts _ hA.2.2.2 args
        have hby : n.toNatClampNeg * componentBytes .boolean ≤ 536870912 := by
          have h3 : componentBytes .boolean ≤ 8 := by decide
          have h4 := Nat.mul_le_mul hn.2 h3
          omega
        have hcel : ∀ cA : ClassId, (match ip_e b sc (fun _ => cA) (.inl (3, n.toNatClampNeg, .inl (fun _ => 0))) with | .inl y => vp_cell y.1 y.2 | .inr _ => arrV 0 0 (fun _ => .null)) = arrV cA n.toNatClampNeg (fun _ => defaultValue .boolean) := fun _ => rfl
        exact ip_newa (atype := .boolean) (ty := .boolean) (n := n) (N' := n.toNatClampNeg) (kd := 3) (x0 := .inl (fun _ => 0)) hx hb harr rfl hK rfl hcel hn.1 rfl hby (fun _ h => h) hn0 hs0 hcells hslots hdg k
      · cases h
    case byte =>
      split at h
      · rename_i hn
        cases h
        have harr : (Cond.arrayClass (newarray.typeOf .byte)).before args s = true := hts _ hA.2.1 args
        have hby : n.toNatClampNeg * componentBytes .byte ≤ 536870912 := by
          have h3 : componentBytes .byte ≤ 8 := by decide
          have h4 := Nat.mul_le_mul hn.2 h3
          omega
        have hcel : ∀ cA : ClassId, (match ip_e b sc (fun _ => cA) (.inl (1, n.toNatClampNeg, .inl (fun _ => 0))) with | .inl y => vp_cell y.1 y.2 | .inr _ => arrV 0 0 (fun _ => .null)) = arrV cA n.toNatClampNeg (fun _ => defaultValue .byte) := fun _ => rfl
        exact ip_newa (atype := .byte) (ty := .byte) (n := n) (N' := n.toNatClampNeg) (kd := 1) (x0 := .inl (fun _ => 0)) hx hb harr rfl hK rfl hcel hn.1 rfl hby (fun _ h => h) hn0 hs0 hcells hslots hdg k
      · cases h
    case int =>
      split at h
      · rename_i hn
        cases h
        have harr : (Cond.arrayClass (newarray.typeOf .int)).before args s = true := hts _ hA.1 args
        have hby : n.toNatClampNeg * componentBytes .int ≤ 536870912 := by
          have h3 : componentBytes .int ≤ 8 := by decide
          have h4 := Nat.mul_le_mul hn.2 h3
          omega
        have hcel : ∀ cA : ClassId, (match ip_e b sc (fun _ => cA) (.inl (0, n.toNatClampNeg, .inl (fun _ => 0))) with | .inl y => vp_cell y.1 y.2 | .inr _ => arrV 0 0 (fun _ => .null)) = arrV cA n.toNatClampNeg (fun _ => defaultValue .int) := fun _ => rfl
        exact ip_newa (atype := .int) (ty := .int) (n := n) (N' := n.toNatClampNeg) (kd := 0) (x0 := .inl (fun _ => 0)) hx hb harr rfl hK rfl hcel hn.1 rfl hby (fun _ h => h) hn0 hs0 hcells hslots hdg k
      · cases h
    case long =>
      split at h
      · rename_i hn
        cases h
        have harr : (Cond.arrayClass (newarray.typeOf .long)).before args s = true := hts _ hA.2.2.1 args
        have hby : n.toNatClampNeg * componentBytes .long ≤ 536870912 := by
          have h3 : componentBytes .long ≤ 8 := by decide
          have h4 := Nat.mul_le_mul hn.2 h3
          omega
        have hcel : ∀ cA : ClassId, (match ip_e b sc (fun _ => cA) (.inl (2, n.toNatClampNeg, .inr (.inl (fun _ => 0)))) with | .inl y => vp_cell y.1 y.2 | .inr _ => arrV 0 0 (fun _ => .null)) = arrV cA n.toNatClampNeg (fun _ => defaultValue .long) := fun _ => rfl
        exact ip_newa (atype := .long) (ty := .long) (n := n) (N' := n.toNatClampNeg) (kd := 2) (x0 := .inr (.inl (fun _ => 0))) hx hb harr rfl hK rfl hcel hn.1 rfl hby (fun _ h => h) hn0 hs0 hcells hslots hdg k
      · cases h
    all_goals cases h
  · cases h
theorem ip_s_anewarray {kx : Nat} (h : ip_st Fd Ft Cn Nw nL ini (.anewarray kx) pc lo st w = some r) (hx : p.tables.exec = Jvm.exec) (hb : c.code = cc) (hdg : decode cc pc = .ok (.anewarray kx, 3)) (hK : va_K D cl (ip_T aC) s) (hts : ip_TK Ts s) (hown : s.vm.findClass own = some m.cls) (hlk : Cond.classLink own kx "VitalTwin$Symbol" ∈ Ts) (hov : Cond.arrayOver (.object "VitalTwin$Symbol") ∈ Ts) (hn0 : n0 ≤ w.1) (hs0 : s0 ≤ w.2.1) (hcells : r.2.2.2.1 ≤ n0 + R.cells) (hslots : r.2.2.2.2.1 ≤ s0 + R.slots) (k : ip_Vr p l e R s m args below meth c D cl aC b sc nL n0 s0 Q r) : ip_V p l e R s m args below meth c D cl aC b sc nL n0 s0 Q w pc lo st := by
  simp only [ip_st] at h
  split at h
  · split at h
    · rename_i hn
      cases h
      exact ip_anew hx hb hown (hts _ hlk args) (hts _ hov args) hK hn.1 rfl (by have := hn.2; omega) hn0 hs0 hcells hslots hdg k
    · cases h
  · cases h
/-- a constant that a method loads -/
def ip_Cok (Ts : List Cond) (own : String) (k : Nat) (v : Value) : Prop := (∃ x, v = .int x ∧ Cond.constant own k x ∈ Ts) ∨ (∃ x, v = .long x ∧ Cond.constantLong own k x ∈ Ts) ∨ ∃ j, v = .retAddr j
/-- the rule for String constants, to be paid where they are known -/
def ip_Sok (p : Program) (l : Launch) (e : Env) (R : Room) (s : State) (m : MethodId) (args : Array Value) (below : List Frame) (meth : Method) (c : Code) (D : va_G) (cl : List vw_C) (aC : Nat → ClassId) (b : Nat) (sc : Nat → Nat) (nL n0 s0 : Nat) (Q : State → Prop) (Cn : Nat → Option Value) : Prop :=
  ∀ (k j pc n : Nat) (i : Instr) (w : ip_W) (lo : List (Nat × Value)) (st : List Value), Cn k = some (.retAddr j) → decode c.code pc = .ok (i, n) → ((i = .ldc k ∧ n = 2) ∨ (i = .ldc_w k ∧ n = 3)) → ip_V p l e R s m args below meth c D cl aC b sc nL n0 s0 Q w (pc + n) lo (.retAddr j :: st) → ip_V p l e R s m args below meth c D cl aC b sc nL n0 s0 Q w pc lo st
theorem ip_s_ldc {kx : Nat} (h : ip_st Fd Ft Cn Nw nL ini (.ldc kx) pc lo st w = some r) (hx : p.tables.exec = Jvm.exec) (hb : c.code = cc) (hdg : decode cc pc = .ok (.ldc kx, 2)) (hts : ip_TK Ts s) (hown : s.vm.findClass own = some m.cls) (hCn : ∀ (k : Nat) (v : Value), Cn k = some v → ip_Cok Ts own k v) (hl2 : ∀ x : Int64, Cn kx ≠ some (.long x)) (hSk : ip_Sok p l e R s m args below meth c D cl aC b sc nL n0 s0 Q Cn) (k : ip_Vr p l e R s m args below meth c D cl aC b sc nL n0 s0 Q r) : ip_V p l e R s m args below meth c D cl aC b sc nL n0 s0 Q w pc lo st := by
  simp only [ip_st] at h
  split at h
  · rename_i v hc
    cases h
    rcases hCn _ _ hc with ⟨x, rfl, hk⟩ | ⟨x, rfl, hk⟩ | ⟨j, rfl⟩
    · exact fun H locs ls hG hS hl => lv_ldc hx hb hown (hts _ hk args) hdg (k H locs ls hG hS hl)
    · exact absurd hc (hl2 x)
    · exact hSk kx j pc 2 (.ldc kx) w lo st hc (by rw [hb]; exact hdg) (Or.inl ⟨rfl, rfl⟩) k
  · cases h
theorem ip_s_ldc_w {kx : Nat} (h : ip_st Fd Ft Cn Nw nL ini (.ldc_w kx) pc lo st w = some r) (hx : p.tables.exec = Jvm.exec) (hb : c.code = cc) (hdg : decode cc pc = .ok (.ldc_w kx, 3)) (hts : ip_TK Ts s) (hown : s.vm.findClass own = some m.cls) (hCn : ∀ (k : Nat) (v : Value), Cn k = some v → ip_Cok Ts own k v) (hl2 : ∀ x : Int64, Cn kx ≠ some (.long x)) (hSk : ip_Sok p l e R s m args below meth c D cl aC b sc nL n0 s0 Q Cn) (k : ip_Vr p l e R s m args below meth c D cl aC b sc nL n0 s0 Q r) : ip_V p l e R s m args below meth c D cl aC b sc nL n0 s0 Q w pc lo st := by
  simp only [ip_st] at h
  split at h
  · rename_i v hc
    cases h
    rcases hCn _ _ hc with ⟨x, rfl, hk⟩ | ⟨x, rfl, hk⟩ | ⟨j, rfl⟩
    · exact fun H locs ls hG hS hl => lv_ldcw hx hb hown (hts _ hk args) hdg (k H locs ls hG hS hl)
    · exact absurd hc (hl2 x)
    · exact hSk kx j pc 3 (.ldc_w kx) w lo st hc (by rw [hb]; exact hdg) (Or.inr ⟨rfl, rfl⟩) k
  · cases h
theorem ip_s_ldc2 {kx : Nat} (h : ip_st Fd Ft Cn Nw nL ini (.ldc2_w kx) pc lo st w = some r) (hx : p.tables.exec = Jvm.exec) (hb : c.code = cc) (hdg : decode cc pc = .ok (.ldc2_w kx, 3)) (hts : ip_TK Ts s) (hown : s.vm.findClass own = some m.cls) (hC2 : ∃ x, Cn kx = some (.long x) ∧ Cond.constantLong own kx x ∈ Ts) (k : ip_Vr p l e R s m args below meth c D cl aC b sc nL n0 s0 Q r) : ip_V p l e R s m args below meth c D cl aC b sc nL n0 s0 Q w pc lo st := by
  simp only [ip_st] at h
  obtain ⟨x, hc, hk⟩ := hC2
  rw [hc] at h
  cases h
  exact fun H locs ls hG hS hl => lv_ldc2 hx hb hown (hts _ hk args) hdg (k H locs ls hG hS hl)
end IPT
end
section
/-! part 08: the run of a method, by calls too; its tables and what must hold of them -/
/-- the tables: instructions; fields; their types; constants; classes made; calls (callee, arguments, kind, the receiver's class); locals; the class whose constructor it is; return types (0 none, 1 int, 2 boolean, 3 long, 4 a reference); what the library's own members give -/
abbrev ip_TB : Type := (Nat → Nat → Option (Instr × Nat)) × (Nat → Nat → Option (Nat × Nat)) × (Nat → Nat → Option (Nat × Bool)) × (Nat → Nat → Option Value) × (Nat → Nat → Option (Nat × List Value)) × (Nat → Nat → Option (Nat × Nat × Nat × Nat)) × (Nat → Nat) × (Nat → Option Nat) × (Nat → Nat) × (Nat → List Value → ip_W → Option (Option Value × ip_W))
def tI (tb : ip_TB) : Nat → Nat → Option (Instr × Nat) := tb.1
def tF (tb : ip_TB) : Nat → Nat → Option (Nat × Nat) := tb.2.1
def tFt (tb : ip_TB) : Nat → Nat → Option (Nat × Bool) := tb.2.2.1
def tC (tb : ip_TB) : Nat → Nat → Option Value := tb.2.2.2.1
def tN (tb : ip_TB) : Nat → Nat → Option (Nat × List Value) := tb.2.2.2.2.1
def tM (tb : ip_TB) : Nat → Nat → Option (Nat × Nat × Nat × Nat) := tb.2.2.2.2.2.1
def tL (tb : ip_TB) : Nat → Nat := tb.2.2.2.2.2.2.1
def tJ (tb : ip_TB) : Nat → Option Nat := tb.2.2.2.2.2.2.2.1
def tR (tb : ip_TB) : Nat → Nat := tb.2.2.2.2.2.2.2.2.1
def tP (tb : ip_TB) : Nat → List Value → ip_W → Option (Option Value × ip_W) := tb.2.2.2.2.2.2.2.2.2
/-- 0 a simple instruction, 1 a call, 2 an end -/
def ip_ck (i : Instr) : Nat := match i with
  | .invokevirtual _ => 1
  | .invokestatic _ => 1
  | .invokespecial _ => 1
  | .ireturn => 2
  | .lreturn => 2
  | .areturn => 2
  | .return_ => 2
  | .athrow => 2
  | _ => 0
def ip_ci (i : Instr) : Option (Nat × Nat) := match i with
  | .invokestatic k => some (0, k)
  | .invokevirtual k => some (1, k)
  | .invokespecial k => some (2, k)
  | _ => none
/-- n arguments off the stack, the first one first -/
def ip_take (n : Nat) (st : List Value) : Option (List Value × List Value) := if n ≤ st.length then some ((st.take n).reverse, st.drop n) else none
theorem ip_take_of {n : Nat} {st av rest : List Value} (h : ip_take n st = some (av, rest)) : st = av.reverse ++ rest ∧ av.length = n := by
  unfold ip_take at h
  split at h
  · rename_i hn
    cases h
    constructor
    · rw [List.reverse_reverse, List.take_append_drop]
    · rw [List.length_reverse, List.length_take]
      omega
  · cases h
def ip_end (rc : Nat) (i : Instr) (st : List Value) (w : ip_W) : Option (Outcome × ip_W) := match i with
  | .ireturn => (match st with
    | [.int v] => if rc = 1 ∨ (rc = 2 ∧ (v = 0 ∨ v = 1)) then some (.returned (some (.int v)), w) else none
    | _ => none)
  | .lreturn => (match st with
    | [.long v] => if rc = 3 then some (.returned (some (.long v)), w) else none
    | _ => none)
  | .areturn => (match st with
    | [.ref a] => if rc = 4 then some (.returned (some (.ref a)), w) else none
    | [.null] => if rc = 4 then some (.returned (some .null), w) else none
    | _ => none)
  | .return_ => (match st with
    | [] => if rc = 0 then some (.returned none, w) else none
    | _ => none)
  | .athrow => (match st with
    | .ref a :: _ => some (.threw a, w)
    | _ => none)
  | _ => none
/-- a call's arguments, with the receiver, and what stays on the stack -/
def ip_arg (kc n ci : Nat) (st : List Value) (w : ip_W) : Option (List Value × List Value) := match ip_take n st with
  | none => none
  | some (av, rest) => if kc = 0 then some (av, rest) else (match rest with
    | .ref a :: r => if kc = 2 then some (.ref a :: av, r) else (match w.2.2 a with
      | some (.inr (cj, _)) => if cj = ci then some (.ref a :: av, r) else none
      | _ => none)
    | _ => none)
def ip_ex (tb : ip_TB) : Nat → Nat → Nat → Nat → List (Nat × Value) → List Value → ip_W → Option (Outcome × ip_W)
  | 0, _, _, _, _, _, _ => none
  | f + 1, d, y, pc, lo, st, w => match tI tb y pc with
    | none => none
    | some (i, _) => if ip_ck i = 0 then (match ip_st (tF tb y) (tFt tb) (tC tb y) (tN tb y) (tL tb y) (tJ tb y) i pc lo st w with
        | some r => ip_ex tb f d y r.1 r.2.1 r.2.2.1 r.2.2.2
        | none => none)
      else if ip_ck i = 2 then ip_end (tR tb y) i st w
      else (match ip_ci i with
        | none => none
        | some (kc, k) => (match tM tb y k with
          | none => none
          | some (z, n, kc2, ci) => if kc2 = 3 then (match st with
              | .ref _ :: r => if kc = 2 ∧ 1 ≤ d ∧ (r.map fun v => v.category).sum ≤ 8 then ip_ex tb f d y (pc + 3) lo r w else none
              | _ => none)
            else if kc2 = kc then (match ip_arg kc n ci st w with
              | none => none
              | some (av, rest) => if 1 ≤ d ∧ (rest.map fun v => v.category).sum ≤ 8 ∧ (lg_sl av).length ≤ tL tb z then (match ip_ex tb f (d - 1) z 0 (lv_args 0 av) [] w with
                | some (.returned v, w2) => ip_ex tb f d y (pc + 3) lo (v.toList ++ rest) w2
                | some (.threw a, w2) => some (.threw a, w2)
                | none => none) else none)
            else if kc2 = kc + 4 then (match ip_arg kc n ci st w with
              | none => none
              | some (av, rest) => if 4 ≤ d ∧ (rest.map fun v => v.category).sum ≤ 8 then (match tP tb z av w with
                | some (v, w2) => if w.1 ≤ w2.1 ∧ w.2.1 ≤ w2.2.1 then ip_ex tb f d y (pc + 3) lo (v.toList ++ rest) w2 else none
                | none => none) else none)
            else none))
/-- worlds only grow -/
theorem ip_st_mono {Fd : Nat → Option (Nat × Nat)} {Ft : Nat → Nat → Option (Nat × Bool)} {Cn : Nat → Option Value} {Nw : Nat → Option (Nat × List Value)} {nL : Nat} {ini : Option Nat} {i : Instr} {pc : Nat} {lo : List (Nat × Value)} {st : List Value} {w : ip_W} {r : ip_R} (h : ip_st Fd Ft Cn Nw nL ini i pc lo st w = some r) : w.1 ≤ r.2.2.2.1 ∧ w.2.1 ≤ r.2.2.2.2.1 := by
  cases i
  all_goals simp only [ip_st] at h
  all_goals (repeat' split at h)
  all_goals first | (cases h; done) | (cases h; exact ⟨Nat.le_refl _, Nat.le_refl _⟩) | (cases h; exact ⟨Nat.le_add_right _ _, Nat.le_add_right _ _⟩)
theorem ip_end_mono {rc : Nat} {i : Instr} {st : List Value} {w : ip_W} {o : Outcome} {w2 : ip_W} (h : ip_end rc i st w = some (o, w2)) : w2 = w := by
  cases i
  all_goals simp only [ip_end] at h
  all_goals (repeat' split at h)
  all_goals first | (cases h; done) | (cases h; rfl)
theorem ip_ex_mono (tb : ip_TB) : ∀ (f d y pc : Nat) (lo : List (Nat × Value)) (st : List Value) (w : ip_W) (o : Outcome) (w2 : ip_W), ip_ex tb f d y pc lo st w = some (o, w2) → w.1 ≤ w2.1 ∧ w.2.1 ≤ w2.2.1 := by
  intro f
  induction f with
  | zero => intro d y pc lo st w o w2 h; simp [ip_ex] at h
  | succ f ih =>
    intro d y pc lo st w o w2 h
    unfold ip_ex at h
    split at h
    · cases h
    · split at h
      · split at h
        · rename_i hst
          have h1 := ip_st_mono hst
          have h2 := ih _ _ _ _ _ _ _ _ h
          omega
        · cases h
      · split at h
        · rw [ip_end_mono h]
          exact ⟨Nat.le_refl _, Nat.le_refl _⟩
        · split at h
          · cases h
          · split at h
            · cases h
            · split at h
              · split at h
                · split at h
                  · exact ih _ _ _ _ _ _ _ _ h
                  · cases h
                · cases h
              · split at h
                · split at h
                  · cases h
                  · split at h
                    · split at h
                      · rename_i hc
                        have h1 := ih _ _ _ _ _ _ _ _ hc
                        have h2 := ih _ _ _ _ _ _ _ _ h
                        omega
                      · rename_i hc
                        have h1 := ih _ _ _ _ _ _ _ _ hc
                        cases h
                        exact h1
                      · cases h
                    · cases h
                · split at h
                  · split at h
                    · cases h
                    · split at h
                      · split at h
                        · split at h
                          · rename_i hw
                            have h2 := ih _ _ _ _ _ _ _ _ h
                            omega
                          · cases h
                        · cases h
                      · cases h
                  · cases h
end
section
/-! part 09: the run is sound -/
def ip_rc (rc : Nat) (ret : Option FieldType) : Prop := (rc = 0 ∧ ret = none) ∨ (rc = 1 ∧ ret = some .int) ∨ (rc = 2 ∧ ret = some .boolean) ∨ (rc = 3 ∧ ret = some .long) ∨ (rc = 4 ∧ ∃ rt, ret = some rt ∧ ((∃ n, rt = .object n) ∨ ∃ t, rt = .array t))
/-- what the tables say of a method that is run -/
def ip_Zok (tb : ip_TB) (Ts : List Cond) (mN : Nat → MethodName) (mB : Nat → ByteArray) (mR : Nat → Option FieldType) (z n : Nat) : Prop :=
  Cond.code (mN z) (mB z) (tL tb z) (mR z) ∈ Ts ∧ tL tb z ≤ 29 ∧ plainFor (mN z) = true ∧ ((mN z).cls ≠ "java/lang/invoke/MethodHandle" ∧ (mN z).cls ≠ "java/lang/invoke/VarHandle") ∧ (parseMethodDescriptor (mN z).desc).map (fun d => d.parameters.length) = some n ∧ ip_rc (tR tb z) (mR z)
/-- of a call -/
def ip_Mok (tb : ip_TB) (Ts : List Cond) (cl : List vw_C) (mN : Nat → MethodName) (mB : Nat → ByteArray) (mR : Nat → Option FieldType) (y k z n kc ci : Nat) : Prop :=
  (kc = 0 → ip_Zok tb Ts mN mB mR z n ∧ Cond.methodLink (mN y).cls k (mN z) ∈ Ts ∧ Cond.static (mN z) ∈ Ts ∧ Cond.initialized (mN z).cls ∈ Ts) ∧
  (kc = 1 → ip_Zok tb Ts mN mB mR z n ∧ Cond.methodLink (mN y).cls k (mN z) ∈ Ts ∧ Cond.instanceMethod (mN z) ∈ Ts ∧ ∃ r : vw_C, cl[ci]? = some r ∧ Cond.selects r.1 (mN z) (mN z) ∈ Ts) ∧
  (kc = 2 → ip_Zok tb Ts mN mB mR z n ∧ (Cond.methodLink (mN y).cls k (mN z) ∈ Ts ∨ ∃ host, Cond.methodLinkNest (mN y).cls k (mN z) host ∈ Ts) ∧ Cond.instanceMethod (mN z) ∈ Ts ∧ (mN z).name = "<init>" ∧ mR z = none) ∧
  (kc = 3 → Cond.methodLink (mN y).cls k Lib.objectInit ∈ Ts ∧ Cond.instanceMethod Lib.objectInit ∈ Ts ∧ Cond.code Lib.objectInit ⟨#[0xb1]⟩ 1 none ∈ Ts)
/-- of all -/
def ip_OK (tb : ip_TB) (Ts : List Cond) (cl : List vw_C) (b : Nat) (sc : Nat → Nat) (mN : Nat → MethodName) (mB : Nat → ByteArray) (mR : Nat → Option FieldType) : Prop :=
  (∀ w ∈ Ts, ip_gw w = true) ∧
  (∀ (y pc : Nat) (i : Instr) (n : Nat), tI tb y pc = some (i, n) → decode (mB y) pc = .ok (i, n) ∧ (n = ip_ln i ∨ ip_sw i = true)) ∧
  (∀ (y k ci j : Nat), tF tb y k = some (ci, j) → ∃ (C : String) (T : u_T) (N : Nat), cl[ci]? = some (C, T, N) ∧ j < N ∧ Cond.fieldLink (mN y).cls k (T j).1 (T j).2.1 (T j).2.2.1 ∈ Ts) ∧
  (∀ (ci : Nat) (C : String) (T : u_T) (N : Nat), cl[ci]? = some (C, T, N) → ip_Fok Ts C T N) ∧
  (∀ (ci j tc : Nat) (fin : Bool) (C : String) (T : u_T) (N : Nat), tFt tb ci j = some (tc, fin) → cl[ci]? = some (C, T, N) → j < N → (T j).2.2.2 = fin ∧ ∃ ty, parseFieldDescriptor (T j).2.2.1 = some ty ∧ ip_ty tc ty) ∧
  (∀ (y ci : Nat) (C : String) (T : u_T) (N : Nat), tJ tb y = some ci → cl[ci]? = some (C, T, N) → (mN y).name = "<init>" ∧ ∀ j, j < N → (T j).1 = (mN y).cls) ∧
  (∀ (y k : Nat) (v : Value), tC tb y k = some v → ip_Cok Ts (mN y).cls k v) ∧
  (∀ (y pc k n : Nat), (tI tb y pc = some (.ldc k, n) ∨ tI tb y pc = some (.ldc_w k, n)) → ∀ x : Int64, tC tb y k ≠ some (.long x)) ∧
  (∀ (y pc k n : Nat), tI tb y pc = some (.ldc2_w k, n) → ∃ x, tC tb y k = some (.long x) ∧ Cond.constantLong (mN y).cls k x ∈ Ts) ∧
  (∀ (y k ci : Nat) (fs : List Value), tN tb y k = some (ci, fs) → ∃ (C : String) (T : u_T) (N : Nat) (ty : Nat → FieldType), cl[ci]? = some (C, T, N) ∧ Cond.classLink (mN y).cls k C ∈ Ts ∧ Cond.instantiable C N ∈ Ts ∧ Cond.initialized C ∈ Ts ∧ N = fs.length ∧ (∀ k, k < N → parseFieldDescriptor (T k).2.2.1 = some (ty k)) ∧ ∀ j, j < N → defaultValue (ty j) = vp_V (fs.map (ip_v b sc)) j) ∧
  (Cond.arrayClass .int ∈ Ts ∧ Cond.arrayClass .byte ∈ Ts ∧ Cond.arrayClass .long ∈ Ts ∧ Cond.arrayClass .boolean ∈ Ts) ∧
  (∀ (y pc k n : Nat), tI tb y pc = some (.anewarray k, n) → Cond.classLink (mN y).cls k "VitalTwin$Symbol" ∈ Ts) ∧
  Cond.arrayOver (.object "VitalTwin$Symbol") ∈ Ts ∧
  (∃ r11 : vw_C, cl[11]? = some r11 ∧ r11.1 = "VitalTwin$Symbol") ∧
  (∀ (y k z n kc ci : Nat), tM tb y k = some (z, n, kc, ci) → ip_Mok tb Ts cl mN mB mR y k z n kc ci)
/-- where a method y stands -/
def ip_Cx (tb : ip_TB) (Ts : List Cond) (Ev : State → Prop) (D : va_G) (cl : List vw_C) (aC : Nat → ClassId) (b : Nat) (mN : Nat → MethodName) (mB : Nat → ByteArray) (y : Nat) (p : Program) (s : State) (m : MethodId) (meth : Method) (c : Code) : Prop :=
  p.tables.exec = Jvm.exec ∧ c.code = mB y ∧ c.maxLocals = tL tb y ∧ ip_rc (tR tb y) meth.sig.returnType ∧ meth.locks = false ∧ c.exceptionTable.isEmpty = true ∧ meth.name = (mN y).name ∧ s.vm.findClass (mN y).cls = some m.cls ∧ ip_TK Ts s ∧ Ev s ∧ va_K D cl (ip_T aC) s ∧ b ≤ s.heap.size
/-- the String constants' rule, wherever a method stands -/
def ip_Sall (l : Launch) (tb : ip_TB) (Ts : List Cond) (Ev : State → Prop) (D : va_G) (cl : List vw_C) (aC : Nat → ClassId) (b : Nat) (sc : Nat → Nat) (mN : Nat → MethodName) (mB : Nat → ByteArray) : Prop :=
  ∀ (y : Nat) (p : Program) (e : Env) (R : Room) (s : State) (m : MethodId) (args : Array Value) (below : List Frame) (meth : Method) (c : Code) (n0 s0 : Nat) (Q : State → Prop), ip_Cx tb Ts Ev D cl aC b mN mB y p s m meth c → ip_Sok p l e R s m args below meth c D cl aC b sc (tL tb y) n0 s0 Q (tC tb y)
/-- the library's own members' rule, wherever a method stands -/
def ip_Pall (l : Launch) (tb : ip_TB) (Ts : List Cond) (Ev : State → Prop) (D : va_G) (cl : List vw_C) (aC : Nat → ClassId) (b : Nat) (sc : Nat → Nat) (mN : Nat → MethodName) (mB : Nat → ByteArray) : Prop :=
  ∀ (y : Nat) (p : Program) (e : Env) (R : Room) (s : State) (m : MethodId) (args : Array Value) (below : List Frame) (meth : Method) (c : Code) (n0 s0 : Nat) (Q : State → Prop) (k z n kc ci pc : Nat) (i : Instr) (av rest st : List Value) (lo : List (Nat × Value)) (v : Option Value) (w w2 : ip_W), ip_Cx tb Ts Ev D cl aC b mN mB y p s m meth c →
    tM tb y k = some (z, n, kc + 4, ci) → ip_ci i = some (kc, k) → decode (mB y) pc = .ok (i, 3) → ip_arg kc n ci st w = some (av, rest) → (rest.map fun v => v.category).sum ≤ 8 → 4 ≤ R.frames → 192 ≤ R.locals → n0 ≤ w.1 → s0 ≤ w.2.1 → w2.1 ≤ n0 + R.cells → w2.2.1 ≤ s0 + R.slots → tP tb z av w = some (v, w2) →
    ip_V p l e R s m args below meth c D cl aC b sc (tL tb y) n0 s0 Q w2 (pc + 3) lo (v.toList ++ rest) → ip_V p l e R s m args below meth c D cl aC b sc (tL tb y) n0 s0 Q w pc lo st
section IPZ
variable {p : Program} {l : Launch} {e : Env} {R : Room} {s : State} {m : MethodId} {args : Array Value} {below : List Frame} {meth : Method} {c : Code} {Q : State → Prop}
variable {D : va_G} {cl : List vw_C} {aC : Nat → ClassId} {b : Nat} {sc : Nat → Nat} {nL n0 s0 : Nat} {cc : ByteArray} {w w2 : ip_W} {pc : Nat} {lo : List (Nat × Value)} {st : List Value} {Ts : List Cond} {Ev : State → Prop}
variable {tb : ip_TB} {mN : Nat → MethodName} {mB : Nat → ByteArray} {mR : Nat → Option FieldType}
theorem ip_objInit (hx : p.tables.exec = Jvm.exec) (hb : c.code = cc) (hml : c.maxLocals = nL) {own : String} {idx a0 : Nat} (hown : s.vm.findClass own = some m.cls) (hlink : (Cond.methodLink own idx Lib.objectInit).before args s = true) (hinst : (Cond.instanceMethod Lib.objectInit).before args s = true) (hcode : (Cond.code Lib.objectInit ⟨#[0xb1]⟩ 1 none).before args s = true) (hsum : (st.map fun v => v.category).sum ≤ 8) (hfr : 1 ≤ R.frames) (hlo : 20 ≤ R.locals) (hdg : decode cc pc = .ok (.invokespecial idx, 3)) (k : ip_V p l e R s m args below meth c D cl aC b sc nL n0 s0 Q w (pc + 3) lo st) : ip_V p l e R s m args below meth c D cl aC b sc nL n0 s0 Q w pc lo (.ref a0 :: st) := by
  intro H locs ls hG hS hl
  have hroom : 2 * (F0 m pc ls (st.map (ip_v b sc))).monitorRoom + ((st.map (ip_v b sc)).map fun v => v.category).sum ≤ 8 := lv_room (by rw [ip_sum]; exact hsum)
  exact W.objInit hx hb hown hlink hinst hcode (g := F0 m pc ls ((Value.ref a0 :: st).map (ip_v b sc))) rfl (by rw [hml]; exact hl.1) (a := b + a0) (rest := st.map (ip_v b sc)) rfl hdg hfr (by
    have h9 : 2 * (F0 m pc ls ((Value.ref a0 :: st).map (ip_v b sc))).monitorRoom = 2 * (F0 m pc ls (st.map (ip_v b sc))).monitorRoom := rfl
    rw [h9]
    omega) (k H locs ls hG hS hl)
set_option maxHeartbeats 1000000 in
theorem ip_simple (hOK : ip_OK tb Ts cl b sc mN mB mR) {y : Nat} (hC : ip_Cx tb Ts Ev D cl aC b mN mB y p s m meth c) (hSk : ip_Sok p l e R s m args below meth c D cl aC b sc (tL tb y) n0 s0 Q (tC tb y)) {i : Instr} {n : Nat} {r : ip_R} (hI : tI tb y pc = some (i, n)) (hst : ip_st (tF tb y) (tFt tb) (tC tb y) (tN tb y) (tL tb y) (tJ tb y) i pc lo st w = some r) (hn0 : n0 ≤ w.1) (hs0 : s0 ≤ w.2.1) (hcells : r.2.2.2.1 ≤ n0 + R.cells) (hslots : r.2.2.2.2.1 ≤ s0 + R.slots)
    (k : ip_Vr p l e R s m args below meth c D cl aC b sc (tL tb y) n0 s0 Q r) : ip_V p l e R s m args below meth c D cl aC b sc (tL tb y) n0 s0 Q w pc lo st := by
  obtain ⟨hgood, okI, okF, okcl, okFt, okJ, okC, okL, okL2, okN, okA, okA2, okA3, ⟨r11, ok11⟩, okM⟩ := hOK
  obtain ⟨hx, hb, hml, hrc, hlocks, hexc, hname, hown, hts, hE, hK, hb0⟩ := hC
  obtain ⟨hdg, hn⟩ := okI y pc i n hI
  have hd : ip_sw i = false → decode (mB y) pc = .ok (i, ip_ln i) := fun hs => by
    rcases hn with rfl | hn
    · exact hdg
    · rw [hs] at hn
      cases hn
  have hFd := okF y
  have hNw := okN y
  have hini : ∀ (ci : Nat) (C : String) (T : u_T) (N : Nat), tJ tb y = some ci → cl[ci]? = some (C, T, N) → meth.name = "<init>" ∧ ∀ j, j < N → (T j).1 = (mN y).cls := fun ci C T N h1 h2 => by
    rw [hname]
    exact okJ y ci C T N h1 h2
  cases i
  case iconst => exact ip_s_iconst hst hx hb (hd rfl) k
  case bipush => exact ip_s_bipush hst hx hb (hd rfl) k
  case sipush => exact ip_s_sipush hst hx hb (hd rfl) k
  case lconst => exact ip_s_lconst hst hx hb (hd rfl) k
  case iload_n => exact ip_s_iload_n hst hx hb (hd rfl) k
  case iload => exact ip_s_iload hst hx hb (hd rfl) k
  case lload_n => exact ip_s_lload_n hst hx hb (hd rfl) k
  case lload => exact ip_s_lload hst hx hb (hd rfl) k
  case aload_n => exact ip_s_aload_n hst hx hb (hd rfl) k
  case aload => exact ip_s_aload hst hx hb (hd rfl) k
  case istore_n => exact ip_s_istore_n hst hx hb (hd rfl) k
  case istore => exact ip_s_istore hst hx hb (hd rfl) k
  case lstore_n => exact ip_s_lstore_n hst hx hb (hd rfl) k
  case lstore => exact ip_s_lstore hst hx hb (hd rfl) k
  case astore_n => exact ip_s_astore_n hst hx hb (hd rfl) k
  case astore => exact ip_s_astore hst hx hb (hd rfl) k
  case iinc => exact ip_s_iinc hst hx hb (hd rfl) k
  case iadd => exact ip_s_iadd hst hx hb (hd rfl) k
  case isub => exact ip_s_isub hst hx hb (hd rfl) k
  case imul => exact ip_s_imul hst hx hb (hd rfl) k
  case iand => exact ip_s_iand hst hx hb (hd rfl) k
  case ladd => exact ip_s_ladd hst hx hb (hd rfl) k
  case lsub => exact ip_s_lsub hst hx hb (hd rfl) k
  case lmul => exact ip_s_lmul hst hx hb (hd rfl) k
  case land => exact ip_s_land hst hx hb (hd rfl) k
  case lor => exact ip_s_lor hst hx hb (hd rfl) k
  case lxor => exact ip_s_lxor hst hx hb (hd rfl) k
  case ineg => exact ip_s_ineg hst hx hb (hd rfl) k
  case lneg => exact ip_s_lneg hst hx hb (hd rfl) k
  case i2l => exact ip_s_i2l hst hx hb (hd rfl) k
  case l2i => exact ip_s_l2i hst hx hb (hd rfl) k
  case i2b => exact ip_s_i2b hst hx hb (hd rfl) k
  case i2c => exact ip_s_i2c hst hx hb (hd rfl) k
  case lshl => exact ip_s_lshl hst hx hb (hd rfl) k
  case lshr => exact ip_s_lshr hst hx hb (hd rfl) k
  case lushr => exact ip_s_lushr hst hx hb (hd rfl) k
  case lcmp => exact ip_s_lcmp hst hx hb (hd rfl) k
  case idiv => exact ip_s_idiv hst hx hb (hd rfl) k
  case irem => exact ip_s_irem hst hx hb (hd rfl) k
  case ldiv => exact ip_s_ldiv hst hx hb (hd rfl) k
  case lrem => exact ip_s_lrem hst hx hb (hd rfl) k
  case dup => exact ip_s_dup hst hx hb (hd rfl) k
  case pop => exact ip_s_pop hst hx hb (hd rfl) k
  case dup2 => exact ip_s_dup2 hst hx hb (hd rfl) k
  case ifCond => exact ip_s_ifCond hst hx hb (hd rfl) k
  case if_icmp => exact ip_s_if_icmp hst hx hb (hd rfl) k
  case goto => exact ip_s_goto hst hx hb (hd rfl) k
  case ifnull => exact ip_s_ifnull hst hx hb (hd rfl) k
  case ifnonnull => exact ip_s_ifnonnull hst hx hb (hd rfl) k
  case aconst_null => exact ip_s_null hst hx hb (hd rfl) k
  case lookupswitch => exact ip_s_lookup hst hx hb hdg k
  case tableswitch => exact ip_s_table hst hx hb hdg k
  case arraylength => exact ip_s_arraylength hst hx hb (hd rfl) hK k
  case iaload => exact ip_s_iaload hst hx hb (hd rfl) hK k
  case baload => exact ip_s_baload hst hx hb (hd rfl) hK k
  case laload => exact ip_s_laload hst hx hb (hd rfl) hK k
  case aaload => exact ip_s_aaload hst hx hb (hd rfl) hK k
  case iastore => exact ip_s_iastore hst hx hb (hd rfl) hK k
  case bastore => exact ip_s_bastore hst hx hb (hd rfl) hK k
  case lastore => exact ip_s_lastore hst hx hb (hd rfl) hK k
  case aastore => exact ip_s_aastore hst hx hb (hd rfl) hK ok11 k
  case getfield => exact ip_s_getfield hst hx hb (hd rfl) hK hts hown hFd okcl k
  case putfield => exact ip_s_putfield hst hx hb (hd rfl) hK hts hown hFd okcl okFt hini k
  case new => exact ip_s_new hst hx hb (hd rfl) hK hts hown hFd okcl hn0 hs0 hcells hslots hNw k
  case newarray => exact ip_s_newarray hst hx hb (hd rfl) hK hts okA hn0 hs0 hcells hslots k
  case anewarray => exact ip_s_anewarray hst hx hb (hd rfl) hK hts hown (okA2 y pc _ n hI) okA3 hn0 hs0 hcells hslots k
  case ldc => exact ip_s_ldc hst hx hb (hd rfl) hts hown (okC y) (okL y pc _ n (Or.inl hI)) hSk k
  case ldc_w => exact ip_s_ldc_w hst hx hb (hd rfl) hts hown (okC y) (okL y pc _ n (Or.inr hI)) hSk k
  case ldc2_w => exact ip_s_ldc2 hst hx hb (hd rfl) hts hown (okL2 y pc _ n hI) k
  all_goals (simp [ip_st] at hst)
end IPZ
end
section
/-! part 10: THE RUN IS SOUND: where the interpreter comes to an outcome, so does the machine -/
section IPW
variable {p : Program} {l : Launch} {e : Env} {R : Room} {s : State} {m : MethodId} {args : Array Value} {below : List Frame} {meth : Method} {c : Code} {Q : State → Prop}
variable {D : va_G} {cl : List vw_C} {aC : Nat → ClassId} {b : Nat} {sc : Nat → Nat} {nL n0 s0 : Nat} {cc : ByteArray} {w w2 : ip_W} {pc : Nat} {lo : List (Nat × Value)} {st : List Value} {Ts : List Cond} {Ev : State → Prop}
variable {tb : ip_TB} {mN : Nat → MethodName} {mB : Nat → ByteArray} {mR : Nat → Option FieldType}
theorem ip_args (b : Nat) (sc : Nat → Nat) : ∀ (av : List Value) (i : Nat), lv_args i (av.map (ip_v b sc)) = ip_l b sc (lv_args i av)
  | [], i => rfl
  | v :: vs, i => by
    show (i, ip_v b sc v) :: lv_args (if (ip_v b sc v).category = 2 then i + 2 else i + 1) (vs.map (ip_v b sc)) = (i, ip_v b sc v) :: ip_l b sc (lv_args (if v.category = 2 then i + 2 else i + 1) vs)
    rw [ip_v_cat, ip_args b sc vs]
theorem ip_sl (b : Nat) (sc : Nat → Nat) : ∀ av : List Value, (lg_sl (av.map (ip_v b sc))).length = (lg_sl av).length
  | [] => rfl
  | v :: vs => by
    have h := ip_sl b sc vs
    simp only [lg_sl, List.map_cons, List.flatMap_cons, List.length_append] at h ⊢
    rw [h, ip_v_cat]
    split <;> rfl
/-- the room that a run of depth d takes, from a world to another -/
def ip_rm (d : Nat) (w w2 : ip_W) : Room := { frames := d, cells := w2.1 - w.1, slots := w2.2.1 - w.2.1, locals := 48 * d }
/-- a method's meaning out of its body's run -/
theorem ip_enter {z n d : Nat} {av : List Value} {o : Outcome} (hz : ip_Zok tb Ts mN mB mR z n) (hav : (lg_sl av).length ≤ tL tb z) (hw : w.1 ≤ w2.1 ∧ w.2.1 ≤ w2.2.1)
    (h : ∀ (p : Program) (e : Env) (R : Room) (s : State) (m : MethodId) (args : Array Value) (below : List Frame) (meth : Method) (c : Code) (n0 s0 : Nat), ip_Cx tb Ts Ev D cl aC b mN mB z p s m meth c → d ≤ R.frames → 48 * d ≤ R.locals → n0 ≤ w.1 → s0 ≤ w.2.1 → w2.1 ≤ n0 + R.cells → w2.2.1 ≤ s0 + R.slots → ip_V p l e R s m args below meth c D cl aC b sc (tL tb z) n0 s0 (ip_Q D cl aC b sc w2 o below s n0 s0) w 0 (lv_args 0 av) []) :
    ip_M l Ev Ts D cl aC b sc (mN z) (ip_rm d w w2) w av o w2 := by
  intro p e s m args below meth c T hx X hn hts hE hK hargs hT hb0 hG
  subst hargs
  obtain ⟨meth', c', h1, h2, h3, h4, h5, h6, h7, h8⟩ := Cond.code_spec hn (hts _ hz.1 (av.map (ip_v b sc)).toArray)
  cases X.method.symm.trans h1
  cases X.code.symm.trans h2
  have hrc : ip_rc (tR tb z) meth.sig.returnType := by rw [h5]; exact hz.2.2.2.2.2
  have hCx : ip_Cx tb Ts Ev D cl aC b mN mB z p s m meth c := ⟨hx, h3, h4, hrc, h6, h7, (name_of_methodNamed hn h1).1, findClass_of_methodNamed hn, hts, hE, hK, hb0⟩
  have hV := h p e (ip_rm d w w2) s m (av.map (ip_v b sc)).toArray below meth c w.1 w.2.1 hCx (Nat.le_refl _) (Nat.le_refl _) (Nat.le_refl _) (Nat.le_refl _) (by show w2.1 ≤ w.1 + (w2.1 - w.1); omega) (by show w2.2.1 ≤ w.2.1 + (w2.2.1 - w.2.1); omega)
  have hl := lv_entry (av.map (ip_v b sc)) (n := c.maxLocals) (by rw [ip_sl, h4]; exact hav)
  rw [ip_args, h4] at hl
  rw [lg_entry_eq, h4]
  have X' : Stand p l e (ip_rm d w w2) s m (av.map (ip_v b sc)).toArray below meth c T [] (w.1 - w.1) (w.2.1 - w.2.1) := by
    rw [Nat.sub_self, Nat.sub_self]
    exact X
  exact hV s.heap [] _ hG va_S.rf hl T hT X'
theorem ip_exc (h : c.exceptionTable.isEmpty = true) (pc : Nat) : ∀ x ∈ c.exceptionTable.toList, covers x pc = false := by
  intro x hx
  have h1 : c.exceptionTable = #[] := Array.isEmpty_iff.mp h
  rw [h1] at hx
  cases hx
theorem ip_endok {y n : Nat} {i : Instr} {o : Outcome} (hC : ip_Cx tb Ts Ev D cl aC b mN mB y p s m meth c) (hdg : decode (mB y) pc = .ok (i, n)) (hn : n = ip_ln i ∨ ip_sw i = true) (h : ip_end (tR tb y) i st w = some (o, w2)) : ip_V p l e R s m args below meth c D cl aC b sc (tL tb y) n0 s0 (ip_Q D cl aC b sc w2 o below s n0 s0) w pc lo st := by
  obtain ⟨hx, hb, hml, hrc, hlocks, hexc, hname, hown, hts, hE, hK, hb0⟩ := hC
  have hd : ip_sw i = false → decode (mB y) pc = .ok (i, ip_ln i) := fun hs => by
    rcases hn with rfl | hn
    · exact hdg
    · rw [hs] at hn
      cases hn
  have hw := ip_end_mono h
  subst hw
  cases i
  case ireturn =>
    simp only [ip_end] at h
    split at h
    · split at h
      · rename_i v hv
        cases h
        rcases hv with hv | ⟨hv, hv2⟩
        · rcases hrc with ⟨h1, h2⟩ | ⟨h1, h2⟩ | ⟨h1, h2⟩ | ⟨h1, h2⟩ | ⟨h1, h2⟩
          · omega
          · exact ip_iret hx hb h2 rfl hlocks hb0 (hd rfl)
          · omega
          · omega
          · omega
        · rcases hrc with ⟨h1, h2⟩ | ⟨h1, h2⟩ | ⟨h1, h2⟩ | ⟨h1, h2⟩ | ⟨h1, h2⟩
          · omega
          · omega
          · exact ip_iret hx hb h2 (by rcases hv2 with rfl | rfl <;> rfl) hlocks hb0 (hd rfl)
          · omega
          · omega
      · cases h
    · cases h
  case lreturn =>
    simp only [ip_end] at h
    split at h
    · split at h
      · rename_i v hv
        cases h
        rcases hrc with ⟨h1, h2⟩ | ⟨h1, h2⟩ | ⟨h1, h2⟩ | ⟨h1, h2⟩ | ⟨h1, h2⟩
        · omega
        · omega
        · omega
        · exact ip_lret hx hb h2 hlocks hb0 (hd rfl)
        · omega
      · cases h
    · cases h
  case areturn =>
    simp only [ip_end] at h
    split at h
    · split at h
      · rename_i v hv
        cases h
        rcases hrc with ⟨h1, h2⟩ | ⟨h1, h2⟩ | ⟨h1, h2⟩ | ⟨h1, h2⟩ | ⟨h1, rt, h2, h3⟩
        · omega
        · omega
        · omega
        · omega
        · exact ip_aret hx hb h2 h3 (Or.inr ⟨_, rfl⟩) hlocks hb0 (hd rfl)
      · cases h
    · split at h
      · rename_i v hv
        cases h
        rcases hrc with ⟨h1, h2⟩ | ⟨h1, h2⟩ | ⟨h1, h2⟩ | ⟨h1, h2⟩ | ⟨h1, rt, h2, h3⟩
        · omega
        · omega
        · omega
        · omega
        · exact ip_aret hx hb h2 h3 (Or.inl rfl) hlocks hb0 (hd rfl)
      · cases h
    · cases h
  case return_ =>
    simp only [ip_end] at h
    split at h
    · split at h
      · rename_i v hv
        cases h
        rcases hrc with ⟨h1, h2⟩ | ⟨h1, h2⟩ | ⟨h1, h2⟩ | ⟨h1, h2⟩ | ⟨h1, h2⟩
        · exact ip_vret hx hb h2 hlocks hb0 (hd rfl)
        · omega
        · omega
        · omega
        · omega
      · cases h
    · cases h
  case athrow =>
    simp only [ip_end] at h
    split at h
    · cases h
      exact ip_athrow hx hb hlocks hb0 (ip_exc hexc pc) (hd rfl)
    · cases h
  all_goals (simp [ip_end] at h)
end IPW
end
section
/-! part 11: the theorem -/
section IPU
variable {l : Launch} {D : va_G} {cl : List vw_C} {aC : Nat → ClassId} {b : Nat} {sc : Nat → Nat} {Ts : List Cond} {Ev : State → Prop}
variable {tb : ip_TB} {mN : Nat → MethodName} {mB : Nat → ByteArray} {mR : Nat → Option FieldType}
theorem ip_ci_of {i : Instr} {kc k : Nat} (h : ip_ci i = some (kc, k)) : (i = .invokestatic k ∧ kc = 0) ∨ (i = .invokevirtual k ∧ kc = 1) ∨ (i = .invokespecial k ∧ kc = 2) := by
  cases i <;> simp [ip_ci] at h
  · obtain ⟨rfl, rfl⟩ := h
    exact Or.inr (Or.inr ⟨rfl, rfl⟩)
  · obtain ⟨rfl, rfl⟩ := h
    exact Or.inl ⟨rfl, rfl⟩
  · obtain ⟨rfl, rfl⟩ := h
    exact Or.inr (Or.inl ⟨rfl, rfl⟩)
theorem ip_arg0 {n ci : Nat} {st av rest : List Value} {w : ip_W} (h : ip_arg 0 n ci st w = some (av, rest)) : st = av.reverse ++ rest ∧ av.length = n := by
  unfold ip_arg at h
  split at h
  · cases h
  · rename_i hp
    simp at h
    obtain ⟨rfl, rfl⟩ := h
    exact ip_take_of hp
theorem ip_arg2 {n ci : Nat} {st av rest : List Value} {w : ip_W} (h : ip_arg 2 n ci st w = some (av, rest)) : ∃ (a : Nat) (av2 : List Value), av = .ref a :: av2 ∧ st = av2.reverse ++ .ref a :: rest ∧ av2.length = n := by
  unfold ip_arg at h
  split at h
  · cases h
  · rename_i hp
    simp at h
    split at h
    · simp at h
      obtain ⟨rfl, rfl⟩ := h
      exact ⟨_, _, rfl, ip_take_of hp⟩
    · cases h
theorem ip_arg1 {n ci : Nat} {st av rest : List Value} {w : ip_W} (h : ip_arg 1 n ci st w = some (av, rest)) : ∃ (a : Nat) (av2 fs : List Value), av = .ref a :: av2 ∧ st = av2.reverse ++ .ref a :: rest ∧ av2.length = n ∧ w.2.2 a = some (.inr (ci, fs)) := by
  unfold ip_arg at h
  split at h
  · cases h
  · rename_i hp
    simp at h
    split at h
    · split at h
      · rename_i he
        split at h
        · rename_i hci
          subst hci
          simp at h
          obtain ⟨rfl, rfl⟩ := h
          obtain ⟨h1, h2⟩ := ip_take_of hp
          exact ⟨_, _, _, rfl, h1, h2, he⟩
        · cases h
      · cases h
    · cases h
/-- a call to a method that is run -/
theorem ip_callok {p : Program} {e : Env} {R : Room} {s : State} {m : MethodId} {args : Array Value} {below : List Frame} {meth : Method} {c : Code} {n0 s0 : Nat} {Q : State → Prop} {w w2 : ip_W} {pc y k z n kc ci d : Nat} {lo : List (Nat × Value)} {st av rest : List Value} {i : Instr} {o : Outcome}
    (hOK : ip_OK tb Ts cl b sc mN mB mR) (hEk : ip_Ek b Ev) (hC : ip_Cx tb Ts Ev D cl aC b mN mB y p s m meth c) (hM : tM tb y k = some (z, n, kc, ci)) (hci : ip_ci i = some (kc, k)) (hdg : decode (mB y) pc = .ok (i, 3)) (ha : ip_arg kc n ci st w = some (av, rest)) (hsum : (rest.map fun v => v.category).sum ≤ 8) (hav : (lg_sl av).length ≤ tL tb z)
    (hd1 : 1 ≤ d) (hdR : d ≤ R.frames) (hdL : 48 * d ≤ R.locals) (hn0 : n0 ≤ w.1) (hs0 : s0 ≤ w.2.1) (hw1 : w.1 ≤ w2.1) (hw2 : w.2.1 ≤ w2.2.1) (hcells : w2.1 ≤ n0 + R.cells) (hslots : w2.2.1 ≤ s0 + R.slots)
    (hrun : ∀ (p : Program) (e : Env) (R : Room) (s : State) (m : MethodId) (args : Array Value) (below : List Frame) (meth : Method) (c : Code) (n0 s0 : Nat), ip_Cx tb Ts Ev D cl aC b mN mB z p s m meth c → d - 1 ≤ R.frames → 48 * (d - 1) ≤ R.locals → n0 ≤ w.1 → s0 ≤ w.2.1 → w2.1 ≤ n0 + R.cells → w2.2.1 ≤ s0 + R.slots → ip_V p l e R s m args below meth c D cl aC b sc (tL tb z) n0 s0 (ip_Q D cl aC b sc w2 o below s n0 s0) w 0 (lv_args 0 av) [])
    (hret : ∀ v, o = .returned v → ip_V p l e R s m args below meth c D cl aC b sc (tL tb y) n0 s0 Q w2 (pc + 3) lo (v.toList ++ rest)) (hthr : ∀ a, o = .threw a → ip_X p l e R s m args below meth c D cl aC b sc (tL tb y) n0 s0 Q w2 pc lo a) : ip_V p l e R s m args below meth c D cl aC b sc (tL tb y) n0 s0 Q w pc lo st := by
  have okM := hOK.2.2.2.2.2.2.2.2.2.2.2.2.2.2 y k z n kc ci hM
  obtain ⟨hx, hb, hml, hrc, hlocks, hexc, hname, hown, hts, hE, hK, hb0⟩ := hC
  have hc9 : w.1 + (ip_rm (d - 1) w w2).cells ≤ n0 + R.cells := by show w.1 + (w2.1 - w.1) ≤ _; omega
  have hs9 : w.2.1 + (ip_rm (d - 1) w w2).slots ≤ s0 + R.slots := by show w.2.1 + (w2.2.1 - w.2.1) ≤ _; omega
  rcases ip_ci_of hci with ⟨rfl, rfl⟩ | ⟨rfl, rfl⟩ | ⟨rfl, rfl⟩
  · obtain ⟨hz, h1, h2, h3⟩ := okM.1 rfl
    obtain ⟨rfl, hlen⟩ := ip_arg0 ha
    have hR : (ip_rm (d - 1) w w2).frames + 1 ≤ R.frames ∧ 8 + (tL tb z + 11) + (ip_rm (d - 1) w w2).locals ≤ R.locals := by
      have h29 := hz.2.1
      exact ⟨by show d - 1 + 1 ≤ _; omega, by show 8 + (tL tb z + 11) + 48 * (d - 1) ≤ _; omega⟩
    exact ip_callS hx hb hml hOK.1 hts hEk hE hK hb0 hown (hts _ h1 args) (hts _ h2 args) (hts _ h3 args) (Cond.code_named (hts _ hz.1 args)) (ip_C.of (hts _ hz.1 args)) hz.2.2.2.1 hz.2.2.1 hz.2.2.2.2.1 hlen hsum hR hc9 hs9 hn0 hs0 hw1 hw2 (ip_enter hz hav ⟨hw1, hw2⟩ hrun) hdg hret hthr
  · obtain ⟨hz, h1, h2, r, h3, h4⟩ := okM.2.1 rfl
    obtain ⟨a, av2, fs, rfl, rfl, hlen, he⟩ := ip_arg1 ha
    have hR : (ip_rm (d - 1) w w2).frames + 1 ≤ R.frames ∧ 8 + (tL tb z + 11) + (ip_rm (d - 1) w w2).locals ≤ R.locals := by
      have h29 := hz.2.1
      exact ⟨by show d - 1 + 1 ≤ _; omega, by show 8 + (tL tb z + 11) + 48 * (d - 1) ≤ _; omega⟩
    exact ip_callV hx hb hml hOK.1 hts hEk hE hK hb0 hown (hts _ h1 args) (hts _ h2 args) (hts _ h4 args) (ip_C.of (hts _ hz.1 args)) hz.2.2.2.1 hz.2.2.1 hz.2.2.2.2.1 hlen he h3 rfl hsum hR hc9 hs9 hn0 hs0 hw1 hw2 (ip_enter hz hav ⟨hw1, hw2⟩ hrun) hdg hret hthr
  · obtain ⟨hz, h1, h2, h3, h4⟩ := okM.2.2.1 rfl
    obtain ⟨a, av2, rfl, rfl, hlen⟩ := ip_arg2 ha
    have hR : (ip_rm (d - 1) w w2).frames + 1 ≤ R.frames ∧ 8 + (tL tb z + 11) + (ip_rm (d - 1) w w2).locals ≤ R.locals := by
      have h29 := hz.2.1
      exact ⟨by show d - 1 + 1 ≤ _; omega, by show 8 + (tL tb z + 11) + 48 * (d - 1) ≤ _; omega⟩
    have hlk : (Cond.methodLink (mN y).cls k (mN z)).before args s = true ∨ ∃ host, (Cond.methodLinkNest (mN y).cls k (mN z) host).before args s = true := by
      rcases h1 with h1 | ⟨host, h1⟩
      · exact Or.inl (hts _ h1 args)
      · exact Or.inr ⟨host, hts _ h1 args⟩
    have hcd := hts _ hz.1 args
    rw [h4] at hcd
    exact ip_callI hx hb hml hOK.1 hts hEk hE hK hb0 hown h3 hlk (hts _ h2 args) hcd hz.2.2.2.1 hz.2.2.1 hz.2.2.2.2.1 hlen hsum hR hc9 hs9 hn0 hs0 hw1 hw2 (ip_enter hz hav ⟨hw1, hw2⟩ hrun) hdg hret hthr
theorem ip_sound (hOK : ip_OK tb Ts cl b sc mN mB mR) (hEk : ip_Ek b Ev) (hS : ip_Sall l tb Ts Ev D cl aC b sc mN mB) (hP : ip_Pall l tb Ts Ev D cl aC b sc mN mB) : ∀ (f d y pc : Nat) (lo : List (Nat × Value)) (st : List Value) (w : ip_W) (o : Outcome) (w2 : ip_W), ip_ex tb f d y pc lo st w = some (o, w2) →
    ∀ (p : Program) (e : Env) (R : Room) (s : State) (m : MethodId) (args : Array Value) (below : List Frame) (meth : Method) (c : Code) (n0 s0 : Nat), ip_Cx tb Ts Ev D cl aC b mN mB y p s m meth c → d ≤ R.frames → 48 * d ≤ R.locals → n0 ≤ w.1 → s0 ≤ w.2.1 → w2.1 ≤ n0 + R.cells → w2.2.1 ≤ s0 + R.slots → ip_V p l e R s m args below meth c D cl aC b sc (tL tb y) n0 s0 (ip_Q D cl aC b sc w2 o below s n0 s0) w pc lo st := by
  intro f
  induction f with
  | zero => intro d y pc lo st w o w2 h; simp [ip_ex] at h
  | succ f ih =>
    intro d y pc lo st w o w2 h p e R s m args below meth c n0 s0 hC hdR hdL hn0 hs0 hcells hslots
    unfold ip_ex at h
    split at h
    · cases h
    · rename_i i n hI
      obtain ⟨hdg, hn⟩ := hOK.2.1 y pc i n hI
      split at h
      · split at h
        · rename_i r hst
          have hm := ip_ex_mono tb _ _ _ _ _ _ _ _ _ h
          have hm1 := ip_st_mono hst
          exact ip_simple hOK hC (hS y p e R s m args below meth c n0 s0 _ hC) hI hst hn0 hs0 (by omega) (by omega) (ih _ _ _ _ _ _ _ _ h p e R s m args below meth c n0 s0 hC hdR hdL (by omega) (by omega) hcells hslots)
        · cases h
      · split at h
        · exact ip_endok hC hdg hn h
        · split at h
          · cases h
          · rename_i kc k hci
            have h3 : decode (mB y) pc = .ok (i, 3) := by
              have e3 : ip_ln i = 3 ∧ ip_sw i = false := by
                rcases ip_ci_of hci with ⟨rfl, -⟩ | ⟨rfl, -⟩ | ⟨rfl, -⟩ <;> exact ⟨rfl, rfl⟩
              rcases hn with rfl | hn
              · rw [e3.1] at hdg
                exact hdg
              · rw [e3.2] at hn
                cases hn
            split at h
            · cases h
            · rename_i z na kc2 ci hM
              split at h
              · rename_i hk3
                subst hk3
                split at h
                · split at h
                  · rename_i hcc
                    obtain ⟨hk2, hd1, hsum⟩ := hcc
                    subst hk2
                    have okM := (hOK.2.2.2.2.2.2.2.2.2.2.2.2.2.2 y k z na 3 ci hM).2.2.2 rfl
                    have hC' := hC
                    obtain ⟨hx, hb, hml, hrc, hlocks, hexc, hname, hown, hts, hE, hK, hb0⟩ := hC'
                    rcases ip_ci_of hci with ⟨_, h9⟩ | ⟨_, h9⟩ | ⟨rfl, -⟩
                    · cases h9
                    · cases h9
                    · exact ip_objInit hx hb hml hown (hts _ okM.1 args) (hts _ okM.2.1 args) (hts _ okM.2.2 args) hsum (by omega) (by omega) h3 (ih _ _ _ _ _ _ _ _ h p e R s m args below meth c n0 s0 hC hdR hdL hn0 hs0 hcells hslots)
                  · cases h
                · cases h
              · split at h
                · rename_i hkk
                  subst hkk
                  split at h
                  · cases h
                  · rename_i av rest ha
                    split at h
                    · rename_i hcc
                      obtain ⟨hd1, hsum, hav⟩ := hcc
                      split at h
                      · rename_i v w1 hrun
                        have hm1 := ip_ex_mono tb _ _ _ _ _ _ _ _ _ hrun
                        have hm2 := ip_ex_mono tb _ _ _ _ _ _ _ _ _ h
                        exact ip_callok hOK hEk hC hM hci h3 ha hsum hav hd1 hdR hdL hn0 hs0 hm1.1 hm1.2 (by omega) (by omega) (ih _ _ _ _ _ _ _ _ hrun)
                          (fun v2 hv2 => by
                            cases hv2
                            exact ih _ _ _ _ _ _ _ _ h p e R s m args below meth c n0 s0 hC hdR hdL (by omega) (by omega) hcells hslots)
                          (fun a ha => by cases ha)
                      · rename_i a w1 hrun
                        have hm1 := ip_ex_mono tb _ _ _ _ _ _ _ _ _ hrun
                        cases h
                        have hC' := hC
                        obtain ⟨hx, hb, hml, hrc, hlocks, hexc, hname, hown, hts, hE, hK, hb0⟩ := hC'
                        exact ip_callok hOK hEk hC hM hci h3 ha hsum hav hd1 hdR hdL hn0 hs0 hm1.1 hm1.2 (by omega) (by omega) (ih _ _ _ _ _ _ _ _ hrun)
                          (fun v2 hv2 => by cases hv2)
                          (fun a2 ha2 => by
                            cases ha2
                            exact ip_Xout hlocks hb0 (ip_exc hexc pc))
                      · cases h
                    · cases h
                · split at h
                  · rename_i hkk
                    subst hkk
                    split at h
                    · cases h
                    · rename_i av rest ha
                      split at h
                      · rename_i hcc
                        obtain ⟨hd1, hsum⟩ := hcc
                        split at h
                        · rename_i v w1 hpr
                          split at h
                          · rename_i hm1
                            have hm2 := ip_ex_mono tb _ _ _ _ _ _ _ _ _ h
                            exact hP y p e R s m args below meth c n0 s0 _ k z na kc ci pc i av rest st lo v w w1 hC hM hci h3 ha hsum (by omega) (by omega) hn0 hs0 (by omega) (by omega) hpr (ih _ _ _ _ _ _ _ _ h p e R s m args below meth c n0 s0 hC hdR hdL (by omega) (by omega) hcells hslots)
                          · cases h
                        · cases h
                      · cases h
                  · cases h
/-- the meaning of a method that the interpreter runs to an outcome -/
theorem ip_means (hOK : ip_OK tb Ts cl b sc mN mB mR) (hEk : ip_Ek b Ev) (hS : ip_Sall l tb Ts Ev D cl aC b sc mN mB) (hP : ip_Pall l tb Ts Ev D cl aC b sc mN mB) {f d z n : Nat} {av : List Value} {w w2 : ip_W} {o : Outcome} (hz : ip_Zok tb Ts mN mB mR z n) (hav : (lg_sl av).length ≤ tL tb z) (h : ip_ex tb f d z 0 (lv_args 0 av) [] w = some (o, w2)) : ip_M l Ev Ts D cl aC b sc (mN z) (ip_rm d w w2) w av o w2 :=
  ip_enter hz hav (ip_ex_mono tb _ _ _ _ _ _ _ _ _ h) (ip_sound hOK hEk hS hP _ _ _ _ _ _ _ _ _ h)
end IPU
end
section
/-! part 14: the tables of the claim, printed by wip/whole/tools/gen15.py: classes, methods, links -/
def vt_cn : List String := ["VitalTwin", "VitalTwin$Code", "VitalTwin$Constants", "VitalTwin$Copy", "VitalTwin$Declarations", "VitalTwin$Expressions", "VitalTwin$Machine", "VitalTwin$Program", "VitalTwin$Reader", "VitalTwin$Run", "VitalTwin$Statements", "VitalTwin$Symbol", "VitalTwinModel", "java/lang/IllegalStateException", "java/lang/IllegalArgumentException", "java/lang/IndexOutOfBoundsException"]
def vt_f0 : List (String × String × String × Bool) := [("VitalTwin", "reader", "LVitalTwin$Reader;", true), ("VitalTwin", "machine", "LVitalTwin$Machine;", true), ("VitalTwin", "line", "[B", true), ("VitalTwin", "lineLength", "I", false), ("VitalTwin", "active", "LVitalTwin$Declarations;", false), ("VitalTwin", "waiting", "LVitalTwin$Declarations;", false)]
def vt_y0 : List (FieldType) := [(.object "VitalTwin$Reader"), (.object "VitalTwin$Machine"), (.array (.byte)), (.int), (.object "VitalTwin$Declarations"), (.object "VitalTwin$Declarations")]
def vt_f1 : List (String × String × String × Bool) := [("VitalTwin$Code", "ops", "[I", false), ("VitalTwin$Code", "firsts", "[I", false), ("VitalTwin$Code", "seconds", "[I", false), ("VitalTwin$Code", "lows", "[I", false), ("VitalTwin$Code", "highs", "[I", false), ("VitalTwin$Code", "homes", "[I", false), ("VitalTwin$Code", "size", "I", false), ("VitalTwin$Code", "bound", "I", false), ("VitalTwin$Code", "unit", "I", false), ("VitalTwin$Code", "locals", "I", false), ("VitalTwin$Code", "temps", "I", false), ("VitalTwin$Code", "mostTemps", "I", false), ("VitalTwin$Code", "deepest", "I", false), ("VitalTwin$Code", "unitLocals", "[I", true), ("VitalTwin$Code", "unitTemps", "[I", true), ("VitalTwin$Code", "tempLows", "[I", true), ("VitalTwin$Code", "tempHighs", "[I", true)]
def vt_y1 : List (FieldType) := [(.array (.int)), (.array (.int)), (.array (.int)), (.array (.int)), (.array (.int)), (.array (.int)), (.int), (.int), (.int), (.int), (.int), (.int), (.int), (.array (.int)), (.array (.int)), (.array (.int)), (.array (.int))]
def vt_f2 : List (String × String × String × Bool) := [("VitalTwin$Constants", "type", "I", false), ("VitalTwin$Constants", "value", "I", false), ("VitalTwin$Constants", "from", "I", false), ("VitalTwin$Constants", "reader", "LVitalTwin$Reader;", true), ("VitalTwin$Constants", "program", "LVitalTwin$Program;", true)]
def vt_y2 : List (FieldType) := [(.int), (.int), (.int), (.object "VitalTwin$Reader"), (.object "VitalTwin$Program")]
def vt_f3 : List (String × String × String × Bool) := [("VitalTwin$Copy", "a", "J", false), ("VitalTwin$Copy", "b", "J", false), ("VitalTwin$Copy", "next", "I", false), ("VitalTwin$Copy", "depth", "I", false), ("VitalTwin$Copy", "one", "J", true), ("VitalTwin$Copy", "cells", "[J", true), ("VitalTwin$Copy", "back", "[I", true)]
def vt_y3 : List (FieldType) := [(.long), (.long), (.int), (.int), (.long), (.array (.long)), (.array (.int))]
def vt_f4 : List (String × String × String × Bool) := [("VitalTwin$Declarations", "program", "LVitalTwin$Program;", true), ("VitalTwin$Declarations", "reader", "LVitalTwin$Reader;", true), ("VitalTwin$Declarations", "room", "I", true), ("VitalTwin$Declarations", "constants", "LVitalTwin$Constants;", true), ("VitalTwin$Declarations", "statements", "LVitalTwin$Statements;", true)]
def vt_y4 : List (FieldType) := [(.object "VitalTwin$Program"), (.object "VitalTwin$Reader"), (.int), (.object "VitalTwin$Constants"), (.object "VitalTwin$Statements")]
def vt_f5 : List (String × String × String × Bool) := [("VitalTwin$Expressions", "type", "I", false), ("VitalTwin$Expressions", "low", "I", false), ("VitalTwin$Expressions", "high", "I", false), ("VitalTwin$Expressions", "from", "I", false), ("VitalTwin$Expressions", "reader", "LVitalTwin$Reader;", true), ("VitalTwin$Expressions", "program", "LVitalTwin$Program;", true), ("VitalTwin$Expressions", "code", "LVitalTwin$Code;", true), ("VitalTwin$Expressions", "constants", "LVitalTwin$Constants;", true), ("VitalTwin$Expressions", "marks", "[I", true), ("VitalTwin$Expressions", "levels", "[I", true), ("VitalTwin$Expressions", "places", "[I", true), ("VitalTwin$Expressions", "types", "[I", true), ("VitalTwin$Expressions", "lows", "[I", true), ("VitalTwin$Expressions", "highs", "[I", true), ("VitalTwin$Expressions", "jumps", "[I", true), ("VitalTwin$Expressions", "pending", "I", false)]
def vt_y5 : List (FieldType) := [(.int), (.int), (.int), (.int), (.object "VitalTwin$Reader"), (.object "VitalTwin$Program"), (.object "VitalTwin$Code"), (.object "VitalTwin$Constants"), (.array (.int)), (.array (.int)), (.array (.int)), (.array (.int)), (.array (.int)), (.array (.int)), (.array (.int)), (.int)]
def vt_f6 : List (String × String × String × Bool) := [("VitalTwin$Machine", "run", "LVitalTwin$Run;", true), ("VitalTwin$Machine", "program", "LVitalTwin$Program;", false), ("VitalTwin$Machine", "loaded", "Z", false), ("VitalTwin$Machine", "latched", "I", false), ("VitalTwin$Machine", "emitted", "I", false), ("VitalTwin$Machine", "given", "[I", true), ("VitalTwin$Machine", "kept", "[I", false), ("VitalTwin$Machine", "flips", "[I", true), ("VitalTwin$Machine", "planned", "I", false), ("VitalTwin$Machine", "flipped", "I", false), ("VitalTwin$Machine", "trial", "LVitalTwin$Run;", true), ("VitalTwin$Machine", "mark", "LVitalTwin$Run;", true), ("VitalTwin$Machine", "expected", "[I", true)]
def vt_y6 : List (FieldType) := [(.object "VitalTwin$Run"), (.object "VitalTwin$Program"), (.boolean), (.int), (.int), (.array (.int)), (.array (.int)), (.array (.int)), (.int), (.int), (.object "VitalTwin$Run"), (.object "VitalTwin$Run"), (.array (.int))]
def vt_f7 : List (String × String × String × Bool) := [("VitalTwin$Program", "code", "LVitalTwin$Code;", true), ("VitalTwin$Program", "told", "I", false), ("VitalTwin$Program", "cells", "I", false), ("VitalTwin$Program", "start", "I", false), ("VitalTwin$Program", "bound", "I", false), ("VitalTwin$Program", "ins", "I", false), ("VitalTwin$Program", "outs", "I", false), ("VitalTwin$Program", "symbols", "[LVitalTwin$Symbol;", true), ("VitalTwin$Program", "names", "[B", true)]
def vt_y7 : List (FieldType) := [(.object "VitalTwin$Code"), (.int), (.int), (.int), (.int), (.int), (.int), (.array (.object "VitalTwin$Symbol")), (.array (.byte))]
def vt_f8 : List (String × String × String × Bool) := [("VitalTwin$Reader", "length", "I", false), ("VitalTwin$Reader", "token", "I", false), ("VitalTwin$Reader", "place", "I", false), ("VitalTwin$Reader", "tokenLength", "I", false), ("VitalTwin$Reader", "signs", "[B", true), ("VitalTwin$Reader", "nested", "I", false), ("VitalTwin$Reader", "fault", "I", false), ("VitalTwin$Reader", "tape", "[B", false), ("VitalTwin$Reader", "kinds", "[B", false), ("VitalTwin$Reader", "spots", "[I", false), ("VitalTwin$Reader", "many", "I", false), ("VitalTwin$Reader", "at", "I", false)]
def vt_y8 : List (FieldType) := [(.int), (.int), (.int), (.int), (.array (.byte)), (.int), (.int), (.array (.byte)), (.array (.byte)), (.array (.int)), (.int), (.int)]
def vt_f9 : List (String × String × String × Bool) := [("VitalTwin$Run", "running", "I", false), ("VitalTwin$Run", "done", "I", false), ("VitalTwin$Run", "outcome", "I", false), ("VitalTwin$Run", "doneByFirst", "I", false), ("VitalTwin$Run", "first", "LVitalTwin$Copy;", true), ("VitalTwin$Run", "second", "LVitalTwin$Copy;", true)]
def vt_y9 : List (FieldType) := [(.int), (.int), (.int), (.int), (.object "VitalTwin$Copy"), (.object "VitalTwin$Copy")]
def vt_f10 : List (String × String × String × Bool) := [("VitalTwin$Statements", "owner", "I", false), ("VitalTwin$Statements", "reader", "LVitalTwin$Reader;", true), ("VitalTwin$Statements", "program", "LVitalTwin$Program;", true), ("VitalTwin$Statements", "code", "LVitalTwin$Code;", true), ("VitalTwin$Statements", "constants", "LVitalTwin$Constants;", true), ("VitalTwin$Statements", "expressions", "LVitalTwin$Expressions;", true)]
def vt_y10 : List (FieldType) := [(.int), (.object "VitalTwin$Reader"), (.object "VitalTwin$Program"), (.object "VitalTwin$Code"), (.object "VitalTwin$Constants"), (.object "VitalTwin$Expressions")]
def vt_f11 : List (String × String × String × Bool) := [("VitalTwin$Symbol", "number", "I", true), ("VitalTwin$Symbol", "kind", "I", false), ("VitalTwin$Symbol", "type", "I", false), ("VitalTwin$Symbol", "low", "I", false), ("VitalTwin$Symbol", "high", "I", false), ("VitalTwin$Symbol", "cell", "I", false), ("VitalTwin$Symbol", "length", "I", false), ("VitalTwin$Symbol", "owner", "I", false), ("VitalTwin$Symbol", "value", "I", false), ("VitalTwin$Symbol", "bound", "I", false), ("VitalTwin$Symbol", "level", "I", false), ("VitalTwin$Symbol", "unit", "I", false), ("VitalTwin$Symbol", "array", "Z", false), ("VitalTwin$Symbol", "visible", "Z", false), ("VitalTwin$Symbol", "nameLength", "I", false)]
def vt_y11 : List (FieldType) := [(.int), (.int), (.int), (.int), (.int), (.int), (.int), (.int), (.int), (.int), (.int), (.int), (.boolean), (.boolean), (.int)]
def vt_f12_0 : List (String × String × String × Bool) := [("VitalTwinModel", "thrown", "I", false), ("VitalTwinModel", "tape", "[B", true), ("VitalTwinModel", "taped", "I", false), ("VitalTwinModel", "words", "[B", true), ("VitalTwinModel", "size", "I", false), ("VitalTwinModel", "tk", "I", false), ("VitalTwinModel", "from", "I", false), ("VitalTwinModel", "to", "I", false), ("VitalTwinModel", "value", "I", false), ("VitalTwinModel", "fault", "I", false), ("VitalTwinModel", "deep", "I", false), ("VitalTwinModel", "many", "I", false), ("VitalTwinModel", "sKind", "[I", true), ("VitalTwinModel", "sType", "[I", true), ("VitalTwinModel", "sLow", "[I", true), ("VitalTwinModel", "sHigh", "[I", true), ("VitalTwinModel", "sCell", "[I", true), ("VitalTwinModel", "sCount", "[I", true), ("VitalTwinModel", "sIsArray", "[Z", true), ("VitalTwinModel", "sFun", "[I", true), ("VitalTwinModel", "sValue", "[I", true), ("VitalTwinModel", "sBound", "[I", true), ("VitalTwinModel", "sCalls", "[I", true), ("VitalTwinModel", "sSize", "[I", true), ("VitalTwinModel", "sName", "[B", true), ("VitalTwinModel", "sVisible", "[Z", true), ("VitalTwinModel", "inFun", "I", false), ("VitalTwinModel", "cType", "I", false), ("VitalTwinModel", "cValue", "I", false), ("VitalTwinModel", "cPlace", "I", false), ("VitalTwinModel", "tType", "I", false), ("VitalTwinModel", "tLow", "I", false), ("VitalTwinModel", "tHigh", "I", false), ("VitalTwinModel", "nodes", "I", false), ("VitalTwinModel", "ndKind", "[B", true), ("VitalTwinModel", "ndType", "[I", true), ("VitalTwinModel", "ndA", "[I", true), ("VitalTwinModel", "ndB", "[I", true), ("VitalTwinModel", "ndC", "[I", true), ("VitalTwinModel", "ndLow", "[I", true), ("VitalTwinModel", "ndHigh", "[I", true), ("VitalTwinModel", "ndNext", "[I", true), ("VitalTwinModel", "least", "J", false), ("VitalTwinModel", "greatest", "J", false), ("VitalTwinModel", "called", "I", false), ("VitalTwinModel", "cycleBody", "I", false), ("VitalTwinModel", "inCells", "I", false), ("VitalTwinModel", "outCells", "I", false), ("VitalTwinModel", "cells", "I", false), ("VitalTwinModel", "codes", "I", false)]
def vt_f12_1 : List (String × String × String × Bool) := [("VitalTwinModel", "cycleAt", "I", false), ("VitalTwinModel", "cycleBound", "I", false), ("VitalTwinModel", "spines", "I", false), ("VitalTwinModel", "temps", "I", false), ("VitalTwinModel", "mostTemps", "I", false), ("VitalTwinModel", "mostCells", "I", false), ("VitalTwinModel", "funBody", "[I", true), ("VitalTwinModel", "funReturn", "[I", true), ("VitalTwinModel", "spine", "[I", true), ("VitalTwinModel", "cOp", "[I", true), ("VitalTwinModel", "cA", "[I", true), ("VitalTwinModel", "cB", "[I", true), ("VitalTwinModel", "cLow", "[J", true), ("VitalTwinModel", "cHigh", "[J", true), ("VitalTwinModel", "hasProgram", "Z", false), ("VitalTwinModel", "oldMany", "I", false), ("VitalTwinModel", "oldCodes", "I", false), ("VitalTwinModel", "oldSymbols", "[I", true), ("VitalTwinModel", "oldNames", "[B", true), ("VitalTwinModel", "oldCode", "[I", true), ("VitalTwinModel", "oldRange", "[J", true), ("VitalTwinModel", "mem", "[J", true), ("VitalTwinModel", "regA", "[J", true), ("VitalTwinModel", "regB", "[J", true), ("VitalTwinModel", "back", "[I", true), ("VitalTwinModel", "backs", "[I", true), ("VitalTwinModel", "given", "[I", true), ("VitalTwinModel", "phase", "I", false), ("VitalTwinModel", "pc", "I", false), ("VitalTwinModel", "steps", "I", false), ("VitalTwinModel", "ownSteps", "I", false), ("VitalTwinModel", "latched", "I", false), ("VitalTwinModel", "emitted", "I", false), ("VitalTwinModel", "flipsDone", "I", false), ("VitalTwinModel", "outs", "[I", true), ("VitalTwinModel", "planned", "I", false), ("VitalTwinModel", "plCopy", "[I", true), ("VitalTwinModel", "plWhere", "[I", true), ("VitalTwinModel", "plBit", "[I", true), ("VitalTwinModel", "plStep", "[I", true), ("VitalTwinModel", "spot", "I", false), ("VitalTwinModel", "kept", "[J", true), ("VitalTwinModel", "right", "[I", true), ("VitalTwinModel", "kept0", "[I", true), ("VitalTwinModel", "opWords", "[B", true), ("VitalTwinModel", "line", "[B", true), ("VitalTwinModel", "lineSize", "I", false)]
def vt_f12 : List (String × String × String × Bool) := vt_f12_0 ++ (vt_f12_1)
def vt_y12_0 : List (FieldType) := [(.int), (.array (.byte)), (.int), (.array (.byte)), (.int), (.int), (.int), (.int), (.int), (.int), (.int), (.int), (.array (.int)), (.array (.int)), (.array (.int)), (.array (.int)), (.array (.int)), (.array (.int)), (.array (.boolean)), (.array (.int)), (.array (.int)), (.array (.int)), (.array (.int)), (.array (.int)), (.array (.byte)), (.array (.boolean)), (.int), (.int), (.int), (.int), (.int), (.int), (.int), (.int), (.array (.byte)), (.array (.int)), (.array (.int)), (.array (.int)), (.array (.int)), (.array (.int)), (.array (.int)), (.array (.int)), (.long), (.long), (.int), (.int), (.int), (.int), (.int), (.int)]
def vt_y12_1 : List (FieldType) := [(.int), (.int), (.int), (.int), (.int), (.int), (.array (.int)), (.array (.int)), (.array (.int)), (.array (.int)), (.array (.int)), (.array (.int)), (.array (.long)), (.array (.long)), (.boolean), (.int), (.int), (.array (.int)), (.array (.byte)), (.array (.int)), (.array (.long)), (.array (.long)), (.array (.long)), (.array (.long)), (.array (.int)), (.array (.int)), (.array (.int)), (.int), (.int), (.int), (.int), (.int), (.int), (.int), (.array (.int)), (.int), (.array (.int)), (.array (.int)), (.array (.int)), (.array (.int)), (.int), (.array (.long)), (.array (.int)), (.array (.int)), (.array (.byte)), (.array (.byte)), (.int)]
def vt_y12 : List (FieldType) := vt_y12_0 ++ (vt_y12_1)
def vt_f13 : List (String × String × String × Bool) := [("java/lang/Throwable", "cause", "Ljava/lang/Throwable;", false), ("java/lang/Throwable", "stackTrace", "[Ljava/lang/StackTraceElement;", false), ("java/lang/Throwable", "suppressedExceptions", "Ljava/util/List;", false), ("java/lang/Throwable", "detailMessage", "Ljava/lang/String;", false), ("java/lang/Throwable", "backtrace", "Ljava/lang/Object;", false), ("java/lang/Throwable", "depth", "I", false)]
def vt_y13 : List (FieldType) := [(.object "java/lang/Throwable"), (.array (.object "java/lang/StackTraceElement")), (.object "java/util/List"), (.object "java/lang/String"), (.object "java/lang/Object"), (.int)]
def vt_f14 : List (String × String × String × Bool) := [("java/lang/Throwable", "cause", "Ljava/lang/Throwable;", false), ("java/lang/Throwable", "stackTrace", "[Ljava/lang/StackTraceElement;", false), ("java/lang/Throwable", "suppressedExceptions", "Ljava/util/List;", false), ("java/lang/Throwable", "detailMessage", "Ljava/lang/String;", false), ("java/lang/Throwable", "backtrace", "Ljava/lang/Object;", false), ("java/lang/Throwable", "depth", "I", false)]
def vt_y14 : List (FieldType) := [(.object "java/lang/Throwable"), (.array (.object "java/lang/StackTraceElement")), (.object "java/util/List"), (.object "java/lang/String"), (.object "java/lang/Object"), (.int)]
def vt_f15 : List (String × String × String × Bool) := [("java/lang/Throwable", "cause", "Ljava/lang/Throwable;", false), ("java/lang/Throwable", "stackTrace", "[Ljava/lang/StackTraceElement;", false), ("java/lang/Throwable", "suppressedExceptions", "Ljava/util/List;", false), ("java/lang/Throwable", "detailMessage", "Ljava/lang/String;", false), ("java/lang/Throwable", "backtrace", "Ljava/lang/Object;", false), ("java/lang/Throwable", "depth", "I", false)]
def vt_y15 : List (FieldType) := [(.object "java/lang/Throwable"), (.array (.object "java/lang/StackTraceElement")), (.object "java/util/List"), (.object "java/lang/String"), (.object "java/lang/Object"), (.int)]
def vt_T (l : List (String × String × String × Bool)) : u_T := fun k => l.getD k ("", "", "", false)
def vt_cl : List vw_C := [("VitalTwin", vt_T vt_f0, 6), ("VitalTwin$Code", vt_T vt_f1, 17), ("VitalTwin$Constants", vt_T vt_f2, 5), ("VitalTwin$Copy", vt_T vt_f3, 7), ("VitalTwin$Declarations", vt_T vt_f4, 5), ("VitalTwin$Expressions", vt_T vt_f5, 16), ("VitalTwin$Machine", vt_T vt_f6, 13), ("VitalTwin$Program", vt_T vt_f7, 9), ("VitalTwin$Reader", vt_T vt_f8, 12), ("VitalTwin$Run", vt_T vt_f9, 6), ("VitalTwin$Statements", vt_T vt_f10, 6), ("VitalTwin$Symbol", vt_T vt_f11, 15), ("VitalTwinModel", vt_T vt_f12, 97), ("java/lang/IllegalStateException", vt_T vt_f13, 6), ("java/lang/IllegalArgumentException", vt_T vt_f14, 6), ("java/lang/IndexOutOfBoundsException", vt_T vt_f15, 6)]
def vt_mn_0 : List (MethodName) := [⟨"VitalTwin", "<init>", "(I)V"⟩, ⟨"VitalTwin$Reader", "<init>", "()V"⟩, ⟨"VitalTwin$Declarations", "<init>", "(LVitalTwin$Reader;I)V"⟩, ⟨"VitalTwin$Program", "<init>", "()V"⟩, ⟨"VitalTwin$Code", "<init>", "()V"⟩, ⟨"VitalTwin$Constants", "<init>", "(LVitalTwin$Reader;LVitalTwin$Program;)V"⟩, ⟨"VitalTwin$Statements", "<init>", "(LVitalTwin$Reader;LVitalTwin$Program;LVitalTwin$Constants;)V"⟩, ⟨"VitalTwin$Expressions", "<init>", "(LVitalTwin$Reader;LVitalTwin$Program;LVitalTwin$Constants;)V"⟩, ⟨"VitalTwin$Machine", "<init>", "(ILVitalTwin$Program;)V"⟩, ⟨"VitalTwin$Run", "<init>", "(I)V"⟩, ⟨"VitalTwin$Copy", "<init>", "(IJ)V"⟩, ⟨"VitalTwin", "feed", "(JJ)I"⟩, ⟨"VitalTwin$Reader", "add", "(JJ)I"⟩, ⟨"VitalTwin$Reader", "signsOf", "(J)I"⟩, ⟨"VitalTwin$Reader", "makeRoom", "(I)V"⟩, ⟨"VitalTwin$Reader", "append", "(J)V"⟩, ⟨"VitalTwin$Declarations", "readProgram", "()V"⟩, ⟨"VitalTwin$Program", "clear", "()V"⟩, ⟨"VitalTwin$Code", "clear", "()V"⟩, ⟨"VitalTwin$Code", "beginUnit", "()V"⟩, ⟨"VitalTwin$Statements", "clear", "()V"⟩, ⟨"VitalTwin$Expressions", "clear", "()V"⟩, ⟨"VitalTwin$Reader", "begin", "()V"⟩, ⟨"VitalTwin$Reader", "behindToken", "(I)I"⟩, ⟨"VitalTwin$Reader", "signAt", "(I)I"⟩, ⟨"VitalTwin$Reader", "isLetter", "(I)Z"⟩, ⟨"VitalTwin$Reader", "isDigit", "(I)Z"⟩, ⟨"VitalTwin$Reader", "isComment", "(I)Z"⟩, ⟨"VitalTwin$Reader", "markOfTwo", "(II)I"⟩, ⟨"VitalTwin$Reader", "kindOf", "(II)I"⟩]
def vt_mn_1 : List (MethodName) := [⟨"VitalTwin$Reader", "wordOrName", "(II)I"⟩, ⟨"VitalTwin$Reader", "numberAt", "(II)J"⟩, ⟨"VitalTwin$Reader", "addToken", "(III)V"⟩, ⟨"VitalTwin$Reader", "next", "()V"⟩, ⟨"VitalTwin$Declarations", "constant", "()V"⟩, ⟨"VitalTwin$Program", "tell", "(IZLVitalTwin$Reader;)LVitalTwin$Symbol;"⟩, ⟨"VitalTwin$Reader", "fail", "(II)V"⟩, ⟨"VitalTwin$Program", "find", "(LVitalTwin$Reader;)LVitalTwin$Symbol;"⟩, ⟨"VitalTwin$Symbol", "<init>", "(I)V"⟩, ⟨"VitalTwin$Symbol", "begin", "(I)V"⟩, ⟨"VitalTwin$Reader", "expect", "(I)V"⟩, ⟨"VitalTwin$Constants", "read", "(I)I"⟩, ⟨"VitalTwin$Reader", "number", "()I"⟩, ⟨"VitalTwin$Symbol", "setType", "(III)V"⟩, ⟨"VitalTwin$Declarations", "type", "()V"⟩, ⟨"VitalTwin$Declarations", "port", "(I)V"⟩, ⟨"VitalTwin$Constants", "readLength", "(LVitalTwin$Symbol;)V"⟩, ⟨"VitalTwin$Reader", "open", "(I)V"⟩, ⟨"VitalTwin$Reader", "close", "(I)V"⟩, ⟨"VitalTwin$Constants", "readType", "(LVitalTwin$Symbol;)V"⟩, ⟨"VitalTwin$Constants", "askNotBelow", "(I)V"⟩, ⟨"VitalTwin$Constants", "readFor", "(LVitalTwin$Symbol;)I"⟩, ⟨"VitalTwin$Declarations", "function", "()V"⟩, ⟨"VitalTwin$Declarations", "parameter", "(LVitalTwin$Symbol;)V"⟩, ⟨"VitalTwin$Statements", "place", "(LVitalTwin$Symbol;)V"⟩, ⟨"VitalTwin$Statements", "block", "(ILVitalTwin$Symbol;)V"⟩, ⟨"VitalTwin$Statements", "statement", "()V"⟩, ⟨"VitalTwin$Statements", "variable", "()V"⟩, ⟨"VitalTwin$Program", "highOf", "(II)I"⟩, ⟨"VitalTwin$Code", "set", "(IIII)V"⟩]
def vt_mn_2 : List (MethodName) := [⟨"VitalTwin$Code", "put", "(IIIIII)V"⟩, ⟨"VitalTwin$Code", "grow", "()V"⟩, ⟨"VitalTwin$Expressions", "expression", "()V"⟩, ⟨"VitalTwin$Expressions", "readFronts", "()V"⟩, ⟨"VitalTwin$Expressions", "push", "(II)V"⟩, ⟨"VitalTwin$Expressions", "named", "()V"⟩, ⟨"VitalTwin$Expressions", "askUse", "(LVitalTwin$Symbol;I)V"⟩, ⟨"VitalTwin$Expressions", "call", "(LVitalTwin$Symbol;I)V"⟩, ⟨"VitalTwin$Program", "at", "(I)LVitalTwin$Symbol;"⟩, ⟨"VitalTwin$Expressions", "askToSuit", "(III)V"⟩, ⟨"VitalTwin$Code", "keep", "(II)I"⟩, ⟨"VitalTwin$Code", "homeOfTemps", "()I"⟩, ⟨"VitalTwin$Code", "pass", "(ILVitalTwin$Symbol;)V"⟩, ⟨"VitalTwin$Code", "homeOf", "(LVitalTwin$Symbol;)I"⟩, ⟨"VitalTwin$Code", "call", "(LVitalTwin$Symbol;)V"⟩, ⟨"VitalTwin$Code", "spend", "(J)V"⟩, ⟨"VitalTwin$Expressions", "set", "(III)V"⟩, ⟨"VitalTwin$Expressions", "index", "(LVitalTwin$Symbol;)V"⟩, ⟨"VitalTwin$Code", "loadElement", "(LVitalTwin$Symbol;)V"⟩, ⟨"VitalTwin$Code", "load", "(LVitalTwin$Symbol;II)V"⟩, ⟨"VitalTwin$Expressions", "operand", "()V"⟩, ⟨"VitalTwin$Expressions", "extreme", "(Z)V"⟩, ⟨"VitalTwin$Expressions", "askInts", "(II)V"⟩, ⟨"VitalTwin$Code", "combine", "(III)V"⟩, ⟨"VitalTwin$Expressions", "absolute", "()V"⟩, ⟨"VitalTwin$Expressions", "clamp", "()V"⟩, ⟨"VitalTwin$Expressions", "levelOfNext", "(I)I"⟩, ⟨"VitalTwin$Expressions", "levelOf", "(I)I"⟩, ⟨"VitalTwin$Expressions", "finish", "()V"⟩, ⟨"VitalTwin$Expressions", "askType", "(Z)V"⟩]
def vt_mn_3 : List (MethodName) := [⟨"VitalTwin$Expressions", "finishSum", "(IJJ)V"⟩, ⟨"VitalTwin$Expressions", "result", "(IJJ)J"⟩, ⟨"VitalTwin$Code", "land", "(I)V"⟩, ⟨"VitalTwin$Code", "has", "(I)Z"⟩, ⟨"VitalTwin$Expressions", "opOf", "(IZ)I"⟩, ⟨"VitalTwin$Expressions", "begin", "(I)V"⟩, ⟨"VitalTwin$Code", "add", "(II)I"⟩, ⟨"VitalTwin$Expressions", "choice", "()V"⟩, ⟨"VitalTwin$Code", "store", "(LVitalTwin$Symbol;I)V"⟩, ⟨"VitalTwin$Statements", "condition", "()V"⟩, ⟨"VitalTwin$Statements", "cases", "()V"⟩, ⟨"VitalTwin$Statements", "arm", "(II)I"⟩, ⟨"VitalTwin$Statements", "test", "(IIII)I"⟩, ⟨"VitalTwin$Code", "loadTemp", "(I)V"⟩, ⟨"VitalTwin$Code", "landAll", "(I)V"⟩, ⟨"VitalTwin$Statements", "ifs", "()V"⟩, ⟨"VitalTwin$Statements", "rounds", "()V"⟩, ⟨"VitalTwin$Statements", "beginning", "()LVitalTwin$Symbol;"⟩, ⟨"VitalTwin$Statements", "canBegin", "(I)Z"⟩, ⟨"VitalTwin$Statements", "assign", "(LVitalTwin$Symbol;)V"⟩, ⟨"VitalTwin$Code", "storeElement", "(LVitalTwin$Symbol;)V"⟩, ⟨"VitalTwin$Program", "hideFrom", "(I)V"⟩, ⟨"VitalTwin$Code", "endUnit", "()V"⟩, ⟨"VitalTwin$Declarations", "readCycle", "()V"⟩, ⟨"VitalTwin$Program", "placeLocals", "()V"⟩, ⟨"VitalTwin$Code", "settle", "(I)I"⟩, ⟨"VitalTwin$Reader", "clear", "()V"⟩, ⟨"VitalTwin$Machine", "load", "(LVitalTwin$Program;)V"⟩, ⟨"VitalTwin$Machine", "restart", "()V"⟩, ⟨"VitalTwin$Run", "clear", "(I)V"⟩]
def vt_mn_4 : List (MethodName) := [⟨"VitalTwin$Copy", "clear", "(I)V"⟩, ⟨"VitalTwin$Run", "hold", "(II)V"⟩, ⟨"VitalTwin$Copy", "hold", "(IJ)V"⟩, ⟨"VitalTwin$Copy", "write", "(IJ)V"⟩, ⟨"VitalTwin", "symbol", "(II)I"⟩, ⟨"VitalTwin$Symbol", "answer", "(I)I"⟩, ⟨"VitalTwin", "name", "(II)I"⟩, ⟨"VitalTwin$Program", "signOfName", "(II)I"⟩, ⟨"VitalTwin", "code", "(II)I"⟩, ⟨"VitalTwin", "text", "(III)I"⟩, ⟨"VitalTwin", "spell", "(IIIJ)V"⟩, ⟨"VitalTwin", "spellSign", "(C)V"⟩, ⟨"VitalTwin", "spellOperand", "(J)V"⟩, ⟨"VitalTwin", "input", "(II)Z"⟩, ⟨"VitalTwin$Machine", "give", "(II)Z"⟩, ⟨"VitalTwin$Program", "portOf", "(II)LVitalTwin$Symbol;"⟩, ⟨"VitalTwin$Program", "cellOf", "(II)I"⟩, ⟨"VitalTwin", "probe", "(IIII)I"⟩, ⟨"VitalTwin$Machine", "hasPlace", "(II)Z"⟩, ⟨"VitalTwin$Machine", "canProbe", "()Z"⟩, ⟨"VitalTwin$Machine", "tryBits", "(IIII)I"⟩, ⟨"VitalTwin$Run", "takeFrom", "(LVitalTwin$Run;I)V"⟩, ⟨"VitalTwin$Copy", "takeFrom", "(LVitalTwin$Copy;I)V"⟩, ⟨"VitalTwin$Machine", "begin", "(LVitalTwin$Run;)V"⟩, ⟨"VitalTwin$Run", "begin", "(I)V"⟩, ⟨"VitalTwin$Copy", "begin", "(I)V"⟩, ⟨"VitalTwin$Run", "step", "(LVitalTwin$Program;)V"⟩, ⟨"VitalTwin$Run", "of", "(I)LVitalTwin$Copy;"⟩, ⟨"VitalTwin$Copy", "step", "(LVitalTwin$Code;)I"⟩, ⟨"VitalTwin$Copy", "read", "(I)J"⟩]
def vt_mn_5 : List (MethodName) := [⟨"VitalTwin$Copy", "loadElement", "(II)I"⟩, ⟨"VitalTwin$Copy", "indexOf", "(JI)I"⟩, ⟨"VitalTwin$Copy", "storeElement", "(II)I"⟩, ⟨"VitalTwin$Copy", "go", "(II)I"⟩, ⟨"VitalTwin$Copy", "callTo", "(I)I"⟩, ⟨"VitalTwin$Copy", "comeBack", "()I"⟩, ⟨"VitalTwin$Copy", "work", "(I)I"⟩, ⟨"VitalTwin$Copy", "multiply", "()I"⟩, ⟨"VitalTwin$Copy", "divide", "(Z)I"⟩, ⟨"VitalTwin$Copy", "isTrue", "(I)Z"⟩, ⟨"VitalTwin$Run", "end", "(I)V"⟩, ⟨"VitalTwin$Run", "agrees", "(LVitalTwin$Program;)Z"⟩, ⟨"VitalTwin$Run", "agreesAbout", "(LVitalTwin$Symbol;)Z"⟩, ⟨"VitalTwin$Run", "finish", "(LVitalTwin$Program;)V"⟩, ⟨"VitalTwin$Machine", "copyOuts", "(LVitalTwin$Run;[II)V"⟩, ⟨"VitalTwin$Copy", "turn", "(II)V"⟩, ⟨"VitalTwin$Machine", "outcomeOfTrial", "()I"⟩, ⟨"VitalTwin", "flip", "(IIII)Z"⟩, ⟨"VitalTwin$Machine", "plan", "(IIII)Z"⟩, ⟨"VitalTwin", "power", "()Z"⟩, ⟨"VitalTwin", "count", "(I)I"⟩, ⟨"VitalTwin$Program", "answer", "(I)I"⟩, ⟨"VitalTwin$Machine", "answer", "(I)I"⟩, ⟨"VitalTwin", "range", "(II)J"⟩, ⟨"VitalTwin", "steps", "(I)I"⟩, ⟨"VitalTwin$Machine", "go", "(I)I"⟩, ⟨"VitalTwin$Machine", "turnPlanned", "()V"⟩, ⟨"VitalTwin$Machine", "endCycle", "()V"⟩, ⟨"VitalTwin", "cycle", "()I"⟩, ⟨"VitalTwin", "output", "(I)I"⟩]
def vt_mn_6 : List (MethodName) := [⟨"VitalTwin$Machine", "isPutOut", "(I)I"⟩, ⟨"VitalTwin$Machine", "wasPutOut", "(II)I"⟩, ⟨"VitalTwin", "past", "(II)I"⟩, ⟨"VitalTwin$Machine", "keeps", "(I)Z"⟩, ⟨"VitalTwin", "cell", "(II)J"⟩, ⟨"VitalTwin", "register", "(II)J"⟩, ⟨"VitalTwinModel", "thrown", "()I"⟩, ⟨"VitalTwinModel", "feed", "(JJ)I"⟩, ⟨"VitalTwinModel", "signAt", "(JJI)I"⟩, ⟨"VitalTwinModel", "<init>", "(I)V"⟩, ⟨"VitalTwinModel", "compile", "()I"⟩, ⟨"VitalTwinModel", "keep", "()V"⟩, ⟨"VitalTwinModel", "next", "()V"⟩, ⟨"VitalTwinModel", "at", "(I)I"⟩, ⟨"VitalTwinModel", "isLetter", "(I)Z"⟩, ⟨"VitalTwinModel", "isDigit", "(I)Z"⟩, ⟨"VitalTwinModel", "word", "()I"⟩, ⟨"VitalTwinModel", "sign", "(II)V"⟩, ⟨"VitalTwinModel", "declaration", "()V"⟩, ⟨"VitalTwinModel", "tell", "(II)I"⟩, ⟨"VitalTwinModel", "bad", "(II)V"⟩, ⟨"VitalTwinModel", "find", "()I"⟩, ⟨"VitalTwinModel", "isNamed", "(I)Z"⟩, ⟨"VitalTwinModel", "take", "(I)V"⟩, ⟨"VitalTwinModel", "constant", "()V"⟩, ⟨"VitalTwinModel", "members", "()V"⟩, ⟨"VitalTwinModel", "tooMany", "(I)V"⟩, ⟨"VitalTwinModel", "function", "()V"⟩, ⟨"VitalTwinModel", "enter", "(I)V"⟩, ⟨"VitalTwinModel", "type", "()V"⟩]
def vt_mn_7 : List (MethodName) := [⟨"VitalTwinModel", "constantOf", "(I)V"⟩, ⟨"VitalTwinModel", "setType", "(I)V"⟩, ⟨"VitalTwinModel", "leave", "(I)V"⟩, ⟨"VitalTwinModel", "list", "()I"⟩, ⟨"VitalTwinModel", "statement", "()I"⟩, ⟨"VitalTwinModel", "variable", "()I"⟩, ⟨"VitalTwinModel", "length", "(I)V"⟩, ⟨"VitalTwinModel", "fits", "(I)V"⟩, ⟨"VitalTwinModel", "node", "(IIJJIII)I"⟩, ⟨"VitalTwinModel", "termFor", "(IJJ)I"⟩, ⟨"VitalTwinModel", "term", "()I"⟩, ⟨"VitalTwinModel", "either", "()I"⟩, ⟨"VitalTwinModel", "both", "()I"⟩, ⟨"VitalTwinModel", "is", "()I"⟩, ⟨"VitalTwinModel", "sum", "()I"⟩, ⟨"VitalTwinModel", "product", "()I"⟩, ⟨"VitalTwinModel", "front", "()I"⟩, ⟨"VitalTwinModel", "first", "()I"⟩, ⟨"VitalTwinModel", "leastOf", "()I"⟩, ⟨"VitalTwinModel", "absolute", "()I"⟩, ⟨"VitalTwinModel", "clamped", "()I"⟩, ⟨"VitalTwinModel", "named", "()I"⟩, ⟨"VitalTwinModel", "behind", "()I"⟩, ⟨"VitalTwinModel", "call", "(I)I"⟩, ⟨"VitalTwinModel", "index", "(I)I"⟩, ⟨"VitalTwinModel", "reckoned", "(IIII)I"⟩, ⟨"VitalTwinModel", "ends", "(JJJJ)V"⟩, ⟨"VitalTwinModel", "logic", "(IIII)I"⟩, ⟨"VitalTwinModel", "truth", "()I"⟩, ⟨"VitalTwinModel", "choices", "()I"⟩]
def vt_mn_8 : List (MethodName) := [⟨"VitalTwinModel", "block", "()I"⟩, ⟨"VitalTwinModel", "hide", "(I)V"⟩, ⟨"VitalTwinModel", "choice", "()I"⟩, ⟨"VitalTwinModel", "loop", "()I"⟩, ⟨"VitalTwinModel", "plain", "()I"⟩, ⟨"VitalTwinModel", "make", "()V"⟩, ⟨"VitalTwinModel", "placeAll", "(I)V"⟩, ⟨"VitalTwinModel", "genList", "(II)J"⟩, ⟨"VitalTwinModel", "genStatement", "(II)J"⟩, ⟨"VitalTwinModel", "gen", "(II)J"⟩, ⟨"VitalTwinModel", "atom", "(II)J"⟩, ⟨"VitalTwinModel", "emit", "(IIIJJ)I"⟩, ⟨"VitalTwinModel", "plainly", "(III)I"⟩, ⟨"VitalTwinModel", "land", "(I)V"⟩, ⟨"VitalTwinModel", "bounded", "(J)J"⟩, ⟨"VitalTwinModel", "genCall", "(II)J"⟩, ⟨"VitalTwinModel", "temp", "(I)I"⟩, ⟨"VitalTwinModel", "load", "(II)V"⟩, ⟨"VitalTwinModel", "genCase", "(II)J"⟩, ⟨"VitalTwinModel", "test", "(IIIII)J"⟩, ⟨"VitalTwinModel", "landAll", "(I)V"⟩, ⟨"VitalTwinModel", "genIf", "(II)J"⟩, ⟨"VitalTwinModel", "genFor", "(II)J"⟩, ⟨"VitalTwinModel", "bringBack", "()V"⟩, ⟨"VitalTwinModel", "firstGiven", "()V"⟩, ⟨"VitalTwinModel", "anew", "()V"⟩, ⟨"VitalTwinModel", "steps", "(I)I"⟩, ⟨"VitalTwinModel", "cycleBegins", "()V"⟩, ⟨"VitalTwinModel", "copyBegins", "(I)V"⟩, ⟨"VitalTwinModel", "step", "()V"⟩]
def vt_mn_9 : List (MethodName) := [⟨"VitalTwinModel", "flipAll", "()V"⟩, ⟨"VitalTwinModel", "does", "(IIII)Z"⟩, ⟨"VitalTwinModel", "indexOf", "(IJI)I"⟩, ⟨"VitalTwinModel", "truth", "(IZ)J"⟩, ⟨"VitalTwinModel", "latch", "(I)V"⟩, ⟨"VitalTwinModel", "through", "()V"⟩, ⟨"VitalTwinModel", "gate", "()V"⟩, ⟨"VitalTwinModel", "agree", "()Z"⟩, ⟨"VitalTwinModel", "cycle", "()I"⟩, ⟨"VitalTwinModel", "whole", "()V"⟩, ⟨"VitalTwinModel", "input", "(II)Z"⟩, ⟨"VitalTwinModel", "symbolAt", "(II)I"⟩, ⟨"VitalTwinModel", "output", "(I)I"⟩, ⟨"VitalTwinModel", "past", "(II)I"⟩, ⟨"VitalTwinModel", "cell", "(II)J"⟩, ⟨"VitalTwinModel", "register", "(II)J"⟩, ⟨"VitalTwinModel", "flip", "(IIII)Z"⟩, ⟨"VitalTwinModel", "isPlace", "(II)Z"⟩, ⟨"VitalTwinModel", "power", "()Z"⟩, ⟨"VitalTwinModel", "probe", "(IIII)I"⟩, ⟨"VitalTwinModel", "keepAll", "()V"⟩, ⟨"VitalTwinModel", "bringAll", "(II)V"⟩, ⟨"VitalTwinModel", "symbol", "(II)I"⟩, ⟨"VitalTwinModel", "name", "(II)I"⟩, ⟨"VitalTwinModel", "code", "(II)I"⟩, ⟨"VitalTwinModel", "range", "(II)J"⟩, ⟨"VitalTwinModel", "text", "(III)I"⟩, ⟨"VitalTwinModel", "put", "(I)V"⟩, ⟨"VitalTwinModel", "putNumber", "(J)V"⟩, ⟨"VitalTwinModel", "count", "(I)I"⟩]
def vt_mn : List (MethodName) := vt_mn_0 ++ (vt_mn_1 ++ (vt_mn_2 ++ (vt_mn_3 ++ (vt_mn_4 ++ (vt_mn_5 ++ (vt_mn_6 ++ (vt_mn_7 ++ (vt_mn_8 ++ (vt_mn_9)))))))))
def vt_pr_0 : List (ByteArray × List (Nat × Instr × Nat)) := [(prog_1_method_1_code, vt_i0), (prog_9_method_1_code, vt_i1), (prog_5_method_1_code, vt_i2), (prog_8_method_1_code, vt_i3), (prog_2_method_1_code, vt_i4), (prog_3_method_1_code, vt_i5), (prog_11_method_1_code, vt_i6), (prog_6_method_1_code, vt_i7), (prog_7_method_1_code, vt_i8), (prog_10_method_1_code, vt_i9), (prog_4_method_1_code, vt_i10), (prog_1_method_2_code, vt_i11), (prog_9_method_2_code, vt_i12), (prog_9_method_3_code, vt_i13), (prog_9_method_4_code, vt_i14), (prog_9_method_5_code, vt_i15), (prog_5_method_2_code, vt_i16), (prog_8_method_2_code, vt_i17), (prog_2_method_2_code, vt_i18), (prog_2_method_3_code, vt_i19), (prog_11_method_2_code, vt_i20), (prog_6_method_2_code, vt_i21), (prog_9_method_7_code, vt_i22), (prog_9_method_13_code, vt_i23), (prog_9_method_9_code, vt_i24), (prog_9_method_10_code, vt_i25), (prog_9_method_11_code, vt_i26), (prog_9_method_12_code, vt_i27), (prog_9_method_16_code, vt_i28), (prog_9_method_14_code, vt_i29), (prog_9_method_15_code, vt_i30), (prog_9_method_17_code, vt_i31), (prog_9_method_8_code, vt_i32), (prog_9_method_19_code, vt_i33), (prog_5_method_4_code, vt_i34), (prog_8_method_7_code, vt_i35), (prog_9_method_20_code, vt_i36), (prog_8_method_5_code, vt_i37), (prog_12_method_1_code, vt_i38), (prog_12_method_2_code, vt_i39), (prog_9_method_21_code, vt_i40), (prog_3_method_2_code, vt_i41), (prog_9_method_18_code, vt_i42), (prog_12_method_3_code, vt_i43), (prog_5_method_5_code, vt_i44), (prog_5_method_6_code, vt_i45), (prog_3_method_5_code, vt_i46), (prog_9_method_22_code, vt_i47), (prog_9_method_23_code, vt_i48), (prog_3_method_6_code, vt_i49)]
def vt_pr_1 : List (ByteArray × List (Nat × Instr × Nat)) := [(prog_3_method_3_code, vt_i50), (prog_3_method_4_code, vt_i51), (prog_5_method_7_code, vt_i52), (prog_5_method_8_code, vt_i53), (prog_11_method_6_code, vt_i54), (prog_11_method_3_code, vt_i55), (prog_11_method_4_code, vt_i56), (prog_11_method_7_code, vt_i57), (prog_8_method_6_code, vt_i58), (prog_2_method_9_code, vt_i59), (prog_2_method_6_code, vt_i60), (prog_2_method_7_code, vt_i61), (prog_6_method_3_code, vt_i62), (prog_6_method_6_code, vt_i63), (prog_6_method_7_code, vt_i64), (prog_6_method_21_code, vt_i65), (prog_6_method_22_code, vt_i66), (prog_6_method_25_code, vt_i67), (prog_8_method_3_code, vt_i68), (prog_6_method_24_code, vt_i69), (prog_2_method_16_code, vt_i70), (prog_2_method_11_code, vt_i71), (prog_2_method_19_code, vt_i72), (prog_2_method_10_code, vt_i73), (prog_2_method_20_code, vt_i74), (prog_2_method_21_code, vt_i75), (prog_6_method_11_code, vt_i76), (prog_6_method_23_code, vt_i77), (prog_2_method_14_code, vt_i78), (prog_2_method_12_code, vt_i79), (prog_6_method_16_code, vt_i80), (prog_6_method_18_code, vt_i81), (prog_6_method_17_code, vt_i82), (prog_2_method_18_code, vt_i83), (prog_6_method_19_code, vt_i84), (prog_6_method_20_code, vt_i85), (prog_6_method_4_code, vt_i86), (prog_6_method_5_code, vt_i87), (prog_6_method_9_code, vt_i88), (prog_6_method_10_code, vt_i89), (prog_6_method_13_code, vt_i90), (prog_6_method_14_code, vt_i91), (prog_2_method_22_code, vt_i92), (prog_2_method_5_code, vt_i93), (prog_6_method_12_code, vt_i94), (prog_6_method_8_code, vt_i95), (prog_2_method_8_code, vt_i96), (prog_6_method_15_code, vt_i97), (prog_2_method_13_code, vt_i98), (prog_11_method_5_code, vt_i99)]
def vt_pr_2 : List (ByteArray × List (Nat × Instr × Nat)) := [(prog_11_method_12_code, vt_i100), (prog_11_method_13_code, vt_i101), (prog_11_method_14_code, vt_i102), (prog_2_method_17_code, vt_i103), (prog_2_method_23_code, vt_i104), (prog_11_method_11_code, vt_i105), (prog_11_method_15_code, vt_i106), (prog_11_method_8_code, vt_i107), (prog_11_method_9_code, vt_i108), (prog_11_method_10_code, vt_i109), (prog_2_method_15_code, vt_i110), (prog_8_method_8_code, vt_i111), (prog_2_method_4_code, vt_i112), (prog_5_method_3_code, vt_i113), (prog_8_method_9_code, vt_i114), (prog_2_method_24_code, vt_i115), (prog_9_method_6_code, vt_i116), (prog_7_method_2_code, vt_i117), (prog_7_method_3_code, vt_i118), (prog_10_method_3_code, vt_i119), (prog_4_method_2_code, vt_i120), (prog_10_method_5_code, vt_i121), (prog_4_method_7_code, vt_i122), (prog_4_method_6_code, vt_i123), (prog_1_method_4_code, vt_i124), (prog_12_method_4_code, vt_i125), (prog_1_method_5_code, vt_i126), (prog_8_method_4_code, vt_i127), (prog_1_method_6_code, vt_i128), (prog_1_method_8_code, vt_i129), (prog_1_method_20_code, vt_i130), (prog_1_method_22_code, vt_i131), (prog_1_method_21_code, vt_i132), (prog_1_method_9_code, vt_i133), (prog_7_method_4_code, vt_i134), (prog_8_method_11_code, vt_i135), (prog_8_method_10_code, vt_i136), (prog_1_method_14_code, vt_i137), (prog_7_method_5_code, vt_i138), (prog_7_method_15_code, vt_i139), (prog_7_method_16_code, vt_i140), (prog_10_method_4_code, vt_i141), (prog_4_method_4_code, vt_i142), (prog_7_method_8_code, vt_i143), (prog_10_method_6_code, vt_i144), (prog_4_method_3_code, vt_i145), (prog_10_method_7_code, vt_i146), (prog_10_method_2_code, vt_i147), (prog_4_method_9_code, vt_i148), (prog_4_method_5_code, vt_i149)]
def vt_pr_3 : List (ByteArray × List (Nat × Instr × Nat)) := [(prog_4_method_11_code, vt_i150), (prog_4_method_10_code, vt_i151), (prog_4_method_12_code, vt_i152), (prog_4_method_13_code, vt_i153), (prog_4_method_14_code, vt_i154), (prog_4_method_15_code, vt_i155), (prog_4_method_16_code, vt_i156), (prog_4_method_17_code, vt_i157), (prog_4_method_18_code, vt_i158), (prog_4_method_19_code, vt_i159), (prog_10_method_8_code, vt_i160), (prog_10_method_9_code, vt_i161), (prog_10_method_10_code, vt_i162), (prog_10_method_11_code, vt_i163), (prog_7_method_11_code, vt_i164), (prog_4_method_8_code, vt_i165), (prog_7_method_17_code, vt_i166), (prog_1_method_17_code, vt_i167), (prog_7_method_6_code, vt_i168), (prog_1_method_18_code, vt_i169), (prog_1_method_19_code, vt_i170), (prog_8_method_12_code, vt_i171), (prog_7_method_18_code, vt_i172), (prog_1_method_7_code, vt_i173), (prog_1_method_10_code, vt_i174), (prog_7_method_7_code, vt_i175), (prog_7_method_9_code, vt_i176), (prog_7_method_10_code, vt_i177), (prog_1_method_11_code, vt_i178), (prog_1_method_12_code, vt_i179), (prog_7_method_12_code, vt_i180), (prog_7_method_14_code, vt_i181), (prog_1_method_13_code, vt_i182), (prog_7_method_13_code, vt_i183), (prog_1_method_15_code, vt_i184), (prog_1_method_16_code, vt_i185), (prog_14_method_1_code, vt_i186), (prog_14_method_3_code, vt_i187), (prog_14_method_2_code, vt_i188), (prog_14_method_53_code, vt_i189), (prog_14_method_56_code, vt_i190), (prog_14_method_54_code, vt_i191), (prog_14_method_8_code, vt_i192), (prog_14_method_4_code, vt_i193), (prog_14_method_6_code, vt_i194), (prog_14_method_7_code, vt_i195), (prog_14_method_9_code, vt_i196), (prog_14_method_10_code, vt_i197), (prog_14_method_57_code, vt_i198), (prog_14_method_16_code, vt_i199)]
def vt_pr_4 : List (ByteArray × List (Nat × Instr × Nat)) := [(prog_14_method_5_code, vt_i200), (prog_14_method_15_code, vt_i201), (prog_14_method_14_code, vt_i202), (prog_14_method_11_code, vt_i203), (prog_14_method_17_code, vt_i204), (prog_14_method_59_code, vt_i205), (prog_14_method_58_code, vt_i206), (prog_14_method_60_code, vt_i207), (prog_14_method_12_code, vt_i208), (prog_14_method_19_code, vt_i209), (prog_14_method_18_code, vt_i210), (prog_14_method_20_code, vt_i211), (prog_14_method_13_code, vt_i212), (prog_14_method_44_code, vt_i213), (prog_14_method_47_code, vt_i214), (prog_14_method_48_code, vt_i215), (prog_14_method_22_code, vt_i216), (prog_14_method_21_code, vt_i217), (prog_14_method_23_code, vt_i218), (prog_14_method_25_code, vt_i219), (prog_14_method_27_code, vt_i220), (prog_14_method_28_code, vt_i221), (prog_14_method_29_code, vt_i222), (prog_14_method_31_code, vt_i223), (prog_14_method_32_code, vt_i224), (prog_14_method_33_code, vt_i225), (prog_14_method_36_code, vt_i226), (prog_14_method_37_code, vt_i227), (prog_14_method_38_code, vt_i228), (prog_14_method_39_code, vt_i229), (prog_14_method_40_code, vt_i230), (prog_14_method_41_code, vt_i231), (prog_14_method_24_code, vt_i232), (prog_14_method_43_code, vt_i233), (prog_14_method_42_code, vt_i234), (prog_14_method_35_code, vt_i235), (prog_14_method_34_code, vt_i236), (prog_14_method_30_code, vt_i237), (prog_14_method_26_code, vt_i238), (prog_14_method_52_code, vt_i239), (prog_14_method_46_code, vt_i240), (prog_14_method_45_code, vt_i241), (prog_14_method_50_code, vt_i242), (prog_14_method_51_code, vt_i243), (prog_14_method_49_code, vt_i244), (prog_14_method_78_code, vt_i245), (prog_14_method_77_code, vt_i246), (prog_14_method_70_code, vt_i247), (prog_14_method_71_code, vt_i248), (prog_14_method_67_code, vt_i249)]
def vt_pr_5 : List (ByteArray × List (Nat × Instr × Nat)) := [(prog_14_method_68_code, vt_i250), (prog_14_method_61_code, vt_i251), (prog_14_method_62_code, vt_i252), (prog_14_method_63_code, vt_i253), (prog_14_method_66_code, vt_i254), (prog_14_method_69_code, vt_i255), (prog_14_method_64_code, vt_i256), (prog_14_method_65_code, vt_i257), (prog_14_method_73_code, vt_i258), (prog_14_method_72_code, vt_i259), (prog_14_method_74_code, vt_i260), (prog_14_method_75_code, vt_i261), (prog_14_method_76_code, vt_i262), (prog_14_method_55_code, vt_i263), (prog_14_method_79_code, vt_i264), (prog_14_method_80_code, vt_i265), (prog_14_method_92_code, vt_i266), (prog_14_method_84_code, vt_i267), (prog_14_method_83_code, vt_i268), (prog_14_method_91_code, vt_i269), (prog_14_method_85_code, vt_i270), (prog_14_method_88_code, vt_i271), (prog_14_method_86_code, vt_i272), (prog_14_method_87_code, vt_i273), (prog_14_method_81_code, vt_i274), (prog_14_method_82_code, vt_i275), (prog_14_method_90_code, vt_i276), (prog_14_method_89_code, vt_i277), (prog_14_method_93_code, vt_i278), (prog_14_method_94_code, vt_i279), (prog_14_method_96_code, vt_i280), (prog_14_method_95_code, vt_i281), (prog_14_method_97_code, vt_i282), (prog_14_method_98_code, vt_i283), (prog_14_method_99_code, vt_i284), (prog_14_method_100_code, vt_i285), (prog_14_method_102_code, vt_i286), (prog_14_method_101_code, vt_i287), (prog_14_method_103_code, vt_i288), (prog_14_method_106_code, vt_i289), (prog_14_method_104_code, vt_i290), (prog_14_method_105_code, vt_i291), (prog_14_method_107_code, vt_i292), (prog_14_method_108_code, vt_i293), (prog_14_method_109_code, vt_i294), (prog_14_method_110_code, vt_i295), (prog_14_method_113_code, vt_i296), (prog_14_method_111_code, vt_i297), (prog_14_method_112_code, vt_i298), (prog_14_method_114_code, vt_i299)]
def vt_pr : List (ByteArray × List (Nat × Instr × Nat)) := vt_pr_0 ++ (vt_pr_1 ++ (vt_pr_2 ++ (vt_pr_3 ++ (vt_pr_4 ++ (vt_pr_5)))))
def vt_mr_0 : List (Option FieldType) := [none, none, none, none, none, none, none, none, none, none, none, (some .int), (some .int), (some .int), none, none, none, none, none, none, none, none, none, (some .int), (some .int), (some .boolean), (some .boolean), (some .boolean), (some .int), (some .int), (some .int), (some .long), none, none, none, (some (.object "VitalTwin$Symbol")), none, (some (.object "VitalTwin$Symbol")), none, none, none, (some .int), (some .int), none, none, none, none, none, none, none]
def vt_mr_1 : List (Option FieldType) := [none, (some .int), none, none, none, none, none, none, (some .int), none, none, none, none, none, none, none, none, none, (some (.object "VitalTwin$Symbol")), none, (some .int), (some .int), none, (some .int), none, none, none, none, none, none, none, none, none, none, none, none, (some .int), (some .int), none, none, none, (some .long), none, (some .boolean), (some .int), none, (some .int), none, none, none]
def vt_mr_2 : List (Option FieldType) := [none, (some .int), (some .int), none, none, none, none, (some (.object "VitalTwin$Symbol")), (some .boolean), none, none, none, none, none, none, (some .int), none, none, none, none, none, none, none, none, (some .int), (some .int), (some .int), (some .int), (some .int), (some .int), none, none, none, (some .boolean), (some .boolean), (some (.object "VitalTwin$Symbol")), (some .int), (some .int), (some .boolean), (some .boolean), (some .int), none, none, none, none, none, none, (some (.object "VitalTwin$Copy")), (some .int), (some .long)]
def vt_mr_3 : List (Option FieldType) := [(some .int), (some .int), (some .int), (some .int), (some .int), (some .int), (some .int), (some .int), (some .int), (some .boolean), none, (some .boolean), (some .boolean), none, none, none, (some .int), (some .boolean), (some .boolean), (some .boolean), (some .int), (some .int), (some .int), (some .long), (some .int), (some .int), none, none, (some .int), (some .int), (some .int), (some .int), (some .int), (some .boolean), (some .long), (some .long), (some .int), (some .int), (some .int), none, (some .int), none, none, (some .int), (some .boolean), (some .boolean), (some .int), none, none, (some .int)]
def vt_mr_4 : List (Option FieldType) := [none, (some .int), (some .boolean), none, none, none, none, none, none, none, none, none, none, (some .int), (some .int), (some .int), none, none, (some .int), (some .int), (some .int), (some .int), (some .int), (some .int), (some .int), (some .int), (some .int), (some .int), (some .int), (some .int), (some .int), (some .int), (some .int), (some .int), (some .int), (some .int), none, (some .int), (some .int), (some .int), (some .int), none, (some .int), (some .int), (some .int), none, none, (some .long), (some .long), (some .long)]
def vt_mr_5 : List (Option FieldType) := [(some .long), (some .int), (some .int), none, (some .long), (some .long), (some .int), none, (some .long), (some .long), none, (some .long), (some .long), none, none, none, (some .int), none, none, none, none, (some .boolean), (some .int), (some .long), none, none, none, (some .boolean), (some .int), none, (some .boolean), (some .int), (some .int), (some .int), (some .long), (some .long), (some .boolean), (some .boolean), (some .boolean), (some .int), none, none, (some .int), (some .int), (some .int), (some .long), (some .int), none, none, (some .int)]
def vt_mr : List (Option FieldType) := vt_mr_0 ++ (vt_mr_1 ++ (vt_mr_2 ++ (vt_mr_3 ++ (vt_mr_4 ++ (vt_mr_5)))))
def vt_ml_0 : List (Nat) := [5, 1, 5, 1, 1, 3, 4, 4, 3, 2, 4, 5, 7, 5, 2, 5, 2, 1, 1, 1, 1, 1, 4, 3, 2, 1, 1, 2, 2, 4, 8, 6, 4, 2, 2, 6, 3, 5, 2, 2, 2, 5, 3, 4, 6, 3, 2, 2, 2, 5]
def vt_ml_1 : List (Nat) := [2, 2, 4, 3, 2, 4, 3, 3, 4, 5, 8, 2, 7, 2, 3, 3, 5, 9, 2, 4, 4, 1, 4, 1, 2, 3, 4, 2, 2, 4, 2, 6, 3, 4, 4, 4, 4, 1, 3, 2, 20, 5, 2, 2, 2, 3, 3, 10, 3, 1]
def vt_ml_2 : List (Nat) := [8, 7, 5, 3, 5, 8, 10, 3, 1, 3, 2, 4, 1, 1, 3, 6, 1, 6, 4, 2, 3, 3, 4, 4, 4, 2, 3, 4, 4, 5, 8, 2, 8, 3, 5, 6, 6, 5, 3, 1, 8, 3, 3, 5, 2, 2, 3, 2, 5, 2]
def vt_ml_3 : List (Nat) := [4, 6, 4, 3, 2, 1, 2, 3, 2, 2, 2, 4, 5, 3, 8, 5, 5, 5, 5, 1, 2, 2, 2, 4, 2, 3, 2, 1, 1, 2, 3, 4, 3, 2, 3, 5, 1, 8, 5, 2, 7, 2, 6, 2, 1, 1, 6, 4, 3, 5]
def vt_ml_4 : List (Nat) := [3, 2, 4, 2, 3, 5, 4, 5, 2, 2, 2, 2, 2, 4, 2, 3, 2, 2, 11, 8, 5, 3, 3, 5, 4, 4, 4, 2, 9, 9, 9, 4, 3, 8, 3, 15, 9, 5, 3, 9, 3, 3, 6, 5, 7, 5, 3, 6, 7, 8]
def vt_ml_5 : List (Nat) := [18, 8, 4, 2, 2, 8, 2, 3, 15, 6, 4, 13, 12, 2, 4, 3, 3, 4, 2, 3, 4, 13, 7, 3, 2, 1, 4, 5, 1, 1, 4, 5, 3, 4, 4, 4, 5, 3, 1, 14, 2, 4, 3, 3, 3, 3, 6, 2, 7, 2]
def vt_ml : List (Nat) := vt_ml_0 ++ (vt_ml_1 ++ (vt_ml_2 ++ (vt_ml_3 ++ (vt_ml_4 ++ (vt_ml_5)))))
def vt_rc_0 : List (Nat) := [0, 0, 0, 0, 0, 0, 0, 0, 0, 0, 0, 1, 1, 1, 0, 0, 0, 0, 0, 0, 0, 0, 0, 1, 1, 2, 2, 2, 1, 1, 1, 3, 0, 0, 0, 4, 0, 4, 0, 0, 0, 1, 1, 0, 0, 0, 0, 0, 0, 0]
def vt_rc_1 : List (Nat) := [0, 1, 0, 0, 0, 0, 0, 0, 1, 0, 0, 0, 0, 0, 0, 0, 0, 0, 4, 0, 1, 1, 0, 1, 0, 0, 0, 0, 0, 0, 0, 0, 0, 0, 0, 0, 1, 1, 0, 0, 0, 3, 0, 2, 1, 0, 1, 0, 0, 0]
def vt_rc_2 : List (Nat) := [0, 1, 1, 0, 0, 0, 0, 4, 2, 0, 0, 0, 0, 0, 0, 1, 0, 0, 0, 0, 0, 0, 0, 0, 1, 1, 1, 1, 1, 1, 0, 0, 0, 2, 2, 4, 1, 1, 2, 2, 1, 0, 0, 0, 0, 0, 0, 4, 1, 3]
def vt_rc_3 : List (Nat) := [1, 1, 1, 1, 1, 1, 1, 1, 1, 2, 0, 2, 2, 0, 0, 0, 1, 2, 2, 2, 1, 1, 1, 3, 1, 1, 0, 0, 1, 1, 1, 1, 1, 2, 3, 3, 1, 1, 1, 0, 1, 0, 0, 1, 2, 2, 1, 0, 0, 1]
def vt_rc_4 : List (Nat) := [0, 1, 2, 0, 0, 0, 0, 0, 0, 0, 0, 0, 0, 1, 1, 1, 0, 0, 1, 1, 1, 1, 1, 1, 1, 1, 1, 1, 1, 1, 1, 1, 1, 1, 1, 1, 0, 1, 1, 1, 1, 0, 1, 1, 1, 0, 0, 3, 3, 3]
def vt_rc_5 : List (Nat) := [3, 1, 1, 0, 3, 3, 1, 0, 3, 3, 0, 3, 3, 0, 0, 0, 1, 0, 0, 0, 0, 2, 1, 3, 0, 0, 0, 2, 1, 0, 2, 1, 1, 1, 3, 3, 2, 2, 2, 1, 0, 0, 1, 1, 1, 3, 1, 0, 0, 1]
def vt_rc : List (Nat) := vt_rc_0 ++ (vt_rc_1 ++ (vt_rc_2 ++ (vt_rc_3 ++ (vt_rc_4 ++ (vt_rc_5)))))
def vt_oc_0 : List (Nat) := [0, 8, 4, 7, 1, 2, 10, 5, 6, 9, 3, 0, 8, 8, 8, 8, 4, 7, 1, 1, 10, 5, 8, 8, 8, 8, 8, 8, 8, 8, 8, 8, 8, 8, 4, 7, 8, 7, 11, 11, 8, 2, 8, 11, 4, 4, 2, 8, 8, 2]
def vt_oc_1 : List (Nat) := [2, 2, 4, 4, 10, 10, 10, 10, 7, 1, 1, 1, 5, 5, 5, 5, 5, 5, 7, 5, 1, 1, 1, 1, 1, 1, 5, 5, 1, 1, 5, 5, 5, 1, 5, 5, 5, 5, 5, 5, 5, 5, 1, 1, 5, 5, 1, 5, 1, 10]
def vt_oc_2 : List (Nat) := [10, 10, 10, 1, 1, 10, 10, 10, 10, 10, 1, 7, 1, 4, 7, 1, 8, 6, 6, 9, 3, 9, 3, 3, 0, 11, 0, 7, 0, 0, 0, 0, 0, 0, 6, 7, 7, 0, 6, 6, 6, 9, 3, 6, 9, 3, 9, 9, 3, 3]
def vt_oc_3 : List (Nat) := [3, 3, 3, 3, 3, 3, 3, 3, 3, 3, 9, 9, 9, 9, 6, 3, 6, 0, 6, 0, 0, 7, 6, 0, 0, 6, 6, 6, 0, 0, 6, 6, 0, 6, 0, 0, 12, 12, 12, 12, 12, 12, 12, 12, 12, 12, 12, 12, 12, 12]
def vt_oc_4 : List (Nat) := [12, 12, 12, 12, 12, 12, 12, 12, 12, 12, 12, 12, 12, 12, 12, 12, 12, 12, 12, 12, 12, 12, 12, 12, 12, 12, 12, 12, 12, 12, 12, 12, 12, 12, 12, 12, 12, 12, 12, 12, 12, 12, 12, 12, 12, 12, 12, 12, 12, 12]
def vt_oc_5 : List (Nat) := [12, 12, 12, 12, 12, 12, 12, 12, 12, 12, 12, 12, 12, 12, 12, 12, 12, 12, 12, 12, 12, 12, 12, 12, 12, 12, 12, 12, 12, 12, 12, 12, 12, 12, 12, 12, 12, 12, 12, 12, 12, 12, 12, 12, 12, 12, 12, 12, 12, 12]
def vt_oc : List (Nat) := vt_oc_0 ++ (vt_oc_1 ++ (vt_oc_2 ++ (vt_oc_3 ++ (vt_oc_4 ++ (vt_oc_5)))))
def vt_ji_0 : List (Option Nat) := [some 0, some 8, some 4, some 7, some 1, some 2, some 10, some 5, some 6, some 9, some 3, none, none, none, none, none, none, none, none, none, none, none, none, none, none, none, none, none, none, none, none, none, none, none, none, none, none, none, some 11, none, none, none, none, none, none, none, none, none, none, none]
def vt_ji_1 : List (Option Nat) := [none, none, none, none, none, none, none, none, none, none, none, none, none, none, none, none, none, none, none, none, none, none, none, none, none, none, none, none, none, none, none, none, none, none, none, none, none, none, none, none, none, none, none, none, none, none, none, none, none, none]
def vt_ji_2 : List (Option Nat) := [none, none, none, none, none, none, none, none, none, none, none, none, none, none, none, none, none, none, none, none, none, none, none, none, none, none, none, none, none, none, none, none, none, none, none, none, none, none, none, none, none, none, none, none, none, none, none, none, none, none]
def vt_ji_3 : List (Option Nat) := [none, none, none, none, none, none, none, none, none, none, none, none, none, none, none, none, none, none, none, none, none, none, none, none, none, none, none, none, none, none, none, none, none, none, none, none, none, none, none, some 12, none, none, none, none, none, none, none, none, none, none]
def vt_ji_4 : List (Option Nat) := [none, none, none, none, none, none, none, none, none, none, none, none, none, none, none, none, none, none, none, none, none, none, none, none, none, none, none, none, none, none, none, none, none, none, none, none, none, none, none, none, none, none, none, none, none, none, none, none, none, none]
def vt_ji_5 : List (Option Nat) := [none, none, none, none, none, none, none, none, none, none, none, none, none, none, none, none, none, none, none, none, none, none, none, none, none, none, none, none, none, none, none, none, none, none, none, none, none, none, none, none, none, none, none, none, none, none, none, none, none, none]
def vt_ji : List (Option Nat) := vt_ji_0 ++ (vt_ji_1 ++ (vt_ji_2 ++ (vt_ji_3 ++ (vt_ji_4 ++ (vt_ji_5)))))
def vt_FL0 : List (Nat × (Nat × Nat)) := [(24, (0, 0)), (30, (0, 4)), (34, (0, 5)), (39, (4, 0)), (46, (0, 1)), (50, (0, 2)), (89, (7, 0)), (99, (1, 0)), (103, (1, 1)), (106, (1, 2)), (116, (1, 3)), (119, (1, 4)), (128, (0, 3)), (141, (6, 2)), (152, (6, 3)), (155, (6, 1)), (156, (7, 6)), (185, (6, 0)), (203, (3, 0)), (207, (3, 1)), (210, (9, 0)), (213, (3, 2)), (218, (3, 3)), (228, (8, 0))]
def vt_FL1 : List (Nat × (Nat × Nat)) := [(9, (1, 0)), (15, (1, 1)), (18, (1, 2)), (21, (1, 3)), (24, (1, 4)), (27, (1, 5)), (30, (1, 13)), (33, (1, 14)), (36, (1, 15)), (39, (1, 16)), (42, (1, 6)), (46, (1, 8)), (52, (1, 7)), (55, (1, 9)), (58, (1, 10)), (61, (1, 11)), (64, (1, 12)), (90, (11, 11)), (93, (11, 5)), (100, (11, 6)), (103, (11, 3)), (106, (11, 4)), (113, (11, 10)), (116, (11, 9))]
def vt_FL2 : List (Nat × (Nat × Nat)) := [(9, (2, 3)), (15, (2, 4)), (19, (8, 2)), (25, (2, 2)), (28, (8, 1)), (34, (2, 0)), (41, (2, 1)), (50, (11, 1)), (59, (11, 2)), (60, (11, 8)), (65, (11, 3)), (68, (11, 4)), (75, (11, 12)), (79, (11, 6))]
def vt_FL3 : List (Nat × (Nat × Nat)) := [(9, (3, 6)), (15, (3, 5)), (19, (3, 4)), (23, (3, 0)), (26, (3, 1)), (29, (3, 2)), (33, (3, 3)), (65, (1, 1)), (68, (1, 0)), (71, (1, 2))]
def vt_FL4 : List (Nat × (Nat × Nat)) := [(17, (4, 1)), (23, (4, 2)), (27, (4, 0)), (31, (4, 3)), (40, (4, 4)), (54, (8, 1)), (70, (8, 2)), (83, (7, 0)), (87, (1, 6)), (92, (7, 3)), (95, (7, 1)), (106, (1, 7)), (109, (7, 4)), (116, (7, 2)), (131, (11, 8)), (136, (2, 0)), (142, (11, 13)), (146, (11, 6)), (149, (11, 0)), (159, (11, 5)), (162, (7, 5)), (169, (7, 6)), (172, (10, 0)), (184, (11, 2)), (185, (11, 9)), (186, (1, 12)), (189, (11, 10))]
def vt_FL5 : List (Nat × (Nat × Nat)) := [(11, (5, 8)), (15, (5, 9)), (18, (5, 10)), (21, (5, 11)), (24, (5, 12)), (27, (5, 13)), (30, (5, 14)), (33, (5, 4)), (37, (5, 5)), (41, (7, 0)), (47, (5, 6)), (48, (5, 7)), (52, (5, 15)), (56, (8, 2)), (65, (8, 1)), (87, (8, 5)), (94, (5, 1)), (97, (5, 2)), (114, (5, 3)), (130, (5, 0)), (174, (1, 7)), (220, (11, 1)), (229, (11, 2)), (233, (11, 12)), (241, (11, 3)), (242, (11, 4)), (246, (11, 8)), (256, (11, 6)), (262, (7, 3)), (265, (11, 10)), (268, (1, 10)), (271, (11, 0))]
def vt_FL6 : List (Nat × (Nat × Nat)) := [(9, (6, 6)), (15, (6, 7)), (23, (6, 0)), (27, (6, 10)), (30, (6, 11)), (33, (6, 5)), (36, (6, 12)), (39, (6, 1)), (43, (6, 2)), (47, (7, 6)), (53, (7, 1)), (60, (11, 1)), (65, (11, 3)), (68, (11, 4)), (71, (11, 5)), (74, (11, 6)), (80, (7, 2)), (86, (11, 8)), (93, (6, 3)), (96, (6, 4)), (99, (6, 8)), (102, (6, 9)), (113, (9, 0)), (116, (9, 1)), (133, (7, 3)), (147, (9, 2))]
def vt_FL7 : List (Nat × (Nat × Nat)) := [(12, (7, 0)), (20, (7, 7)), (24, (7, 8)), (31, (7, 1)), (35, (7, 2)), (38, (7, 3)), (41, (7, 4)), (44, (7, 5)), (47, (7, 6)), (54, (11, 14)), (57, (11, 0)), (60, (11, 13)), (64, (8, 3)), (69, (8, 4)), (72, (11, 4)), (75, (8, 1)), (78, (8, 2)), (111, (11, 11)), (114, (11, 5)), (117, (1, 13)), (121, (11, 1)), (124, (11, 6)), (130, (1, 6))]
def vt_FL8 : List (Nat × (Nat × Nat)) := [(9, (8, 4)), (15, (8, 7)), (18, (8, 8)), (21, (8, 9)), (29, (8, 0)), (54, (8, 10)), (68, (8, 5)), (71, (8, 6)), (74, (8, 11)), (128, (8, 3)), (131, (8, 1)), (134, (8, 2))]
def vt_FL9 : List (Nat × (Nat × Nat)) := [(14, (9, 4)), (22, (9, 5)), (25, (9, 0)), (29, (9, 1)), (32, (9, 3)), (35, (9, 2)), (56, (7, 0)), (69, (7, 4)), (72, (7, 3)), (79, (7, 1)), (86, (11, 1)), (95, (11, 5)), (98, (11, 6)), (105, (11, 3)), (108, (11, 4))]
def vt_FL10 : List (Nat × (Nat × Nat)) := [(9, (10, 1)), (15, (10, 2)), (19, (7, 0)), (25, (10, 3)), (26, (10, 4)), (35, (10, 5)), (39, (10, 0)), (53, (8, 1)), (65, (11, 2)), (70, (11, 3)), (73, (11, 4)), (110, (8, 2)), (117, (11, 1)), (132, (11, 7)), (133, (1, 8)), (136, (11, 11)), (137, (1, 9)), (140, (11, 5)), (143, (11, 6)), (160, (11, 12)), (178, (11, 13)), (192, (1, 10)), (198, (5, 1)), (199, (5, 2)), (209, (1, 7)), (212, (7, 1)), (230, (5, 0)), (231, (5, 3)), (251, (1, 6)), (258, (11, 0))]
def vt_FL11 : List (Nat × (Nat × Nat)) := [(9, (11, 0)), (15, (11, 1)), (18, (11, 2)), (21, (11, 3)), (24, (11, 4)), (27, (11, 5)), (30, (11, 6)), (33, (11, 7)), (36, (11, 8)), (39, (11, 9)), (42, (11, 10)), (45, (11, 11)), (48, (11, 12)), (52, (11, 13))]
def vt_FL12_0 : List (Nat × (Nat × Nat)) := [(3, (12, 0)), (11, (12, 2)), (15, (12, 1)), (19, (12, 4)), (22, (12, 9)), (25, (12, 5)), (28, (12, 7)), (35, (12, 6)), (53, (12, 8)), (62, (12, 3)), (72, (12, 10)), (79, (12, 23)), (83, (12, 24)), (86, (12, 11)), (89, (12, 25)), (99, (12, 12)), (102, (12, 13)), (105, (12, 14)), (108, (12, 15)), (111, (12, 16)), (114, (12, 17)), (117, (12, 18)), (120, (12, 19)), (123, (12, 26)), (126, (12, 20)), (129, (12, 21)), (132, (12, 22)), (135, (12, 29)), (138, (12, 27)), (141, (12, 28)), (147, (12, 30)), (150, (12, 31)), (153, (12, 32)), (165, (12, 33)), (169, (12, 34)), (172, (12, 35)), (175, (12, 39)), (178, (12, 40)), (181, (12, 36)), (184, (12, 37)), (187, (12, 38)), (190, (12, 41)), (237, (12, 42)), (243, (12, 43)), (284, (12, 44)), (337, (12, 56)), (340, (12, 57)), (343, (12, 58)), (346, (12, 59)), (349, (12, 60))]
def vt_FL12_1 : List (Nat × (Nat × Nat)) := [(352, (12, 61)), (355, (12, 62)), (359, (12, 63)), (362, (12, 67)), (365, (12, 68)), (368, (12, 69)), (371, (12, 70)), (374, (12, 71)), (377, (12, 72)), (380, (12, 73)), (383, (12, 74)), (386, (12, 75)), (389, (12, 76)), (392, (12, 84)), (395, (12, 86)), (398, (12, 87)), (401, (12, 88)), (404, (12, 89)), (407, (12, 91)), (410, (12, 92)), (413, (12, 93)), (416, (12, 94)), (419, (12, 95)), (422, (12, 55)), (425, (12, 65)), (428, (12, 49)), (431, (12, 66)), (437, (12, 48)), (440, (12, 46)), (443, (12, 47)), (446, (12, 50)), (449, (12, 51)), (455, (12, 45)), (464, (12, 64)), (487, (12, 54)), (490, (12, 53)), (498, (12, 52)), (573, (12, 77)), (576, (12, 78)), (579, (12, 79)), (582, (12, 80)), (585, (12, 81)), (588, (12, 82)), (591, (12, 83)), (594, (12, 85)), (637, (12, 90)), (658, (12, 96))]
def vt_FL12 : List (Nat × (Nat × Nat)) := vt_FL12_0 ++ (vt_FL12_1)
def vt_FL : List (List (Nat × (Nat × Nat))) := [vt_FL0, vt_FL1, vt_FL2, vt_FL3, vt_FL4, vt_FL5, vt_FL6, vt_FL7, vt_FL8, vt_FL9, vt_FL10, vt_FL11, vt_FL12]
def vt_CL0 : List (Nat × Value) := [(111, .retAddr 4), (122, .long 58659), (135, .int 200000), (138, .retAddr 5), (145, .retAddr 6), (151, .int 1000000), (159, .retAddr 7), (167, .retAddr 8), (183, .retAddr 9), (201, .retAddr 10), (216, .long (-1)), (233, .retAddr 3), (256, .long 10), (258, .long 48)]
def vt_CL1 : List (Nat × Value) := [(70, .int 400000), (121, .long 400000), (130, .int 1000000)]
def vt_CL2 : List (Nat × Value) := []
def vt_CL3 : List (Nat × Value) := []
def vt_CL4 : List (Nat × Value) := [(53, .int 1000000), (119, .int 100000)]
def vt_CL5 : List (Nat × Value) := [(61, .int 1000000), (170, .long (-2000000000)), (172, .long 2000000000)]
def vt_CL6 : List (Nat × Value) := [(170, .int 1000000)]
def vt_CL7 : List (Nat × Value) := []
def vt_CL8 : List (Nat × Value) := [(33, .int 65536), (106, .long 2000000000), (108, .retAddr 0), (115, .retAddr 1), (124, .long 10), (126, .long 48), (139, .retAddr 2)]
def vt_CL9 : List (Nat × Value) := [(20, .long 58659), (111, .int 1000000)]
def vt_CL10 : List (Nat × Value) := [(52, .int 1000000)]
def vt_CL11 : List (Nat × Value) := []
def vt_CL12 : List (Nat × Value) := [(14, .int 65536), (49, .long 10), (51, .long 48), (56, .long 2000000000), (168, .int 66000), (254, .long (-2000000000)), (496, .long 1000000000000000), (509, .long 4), (523, .long 2), (528, .long 3), (533, .long 6), (544, .long 5), (556, .long 11), (558, .long 7), (563, .long 400000), (565, .long 100000), (569, .long 2147483647), (571, .long 58659), (627, .int 200000), (643, .long (-1)), (664, .long 9)]
def vt_CL : List (List (Nat × Value)) := [vt_CL0, vt_CL1, vt_CL2, vt_CL3, vt_CL4, vt_CL5, vt_CL6, vt_CL7, vt_CL8, vt_CL9, vt_CL10, vt_CL11, vt_CL12]
def vt_NL0 : List (Nat × (Nat × List Value)) := [(16, (8, [.int 0, .int 0, .int 0, .int 0, .null, .int 0, .int 0, .null, .null, .null, .int 0, .int 0])), (19, (4, [.null, .null, .int 0, .null, .null])), (37, (6, [.null, .null, .int 0, .int 0, .int 0, .null, .null, .null, .int 0, .int 0, .null, .null, .null])), (61, (13, [.null, .null, .null, .null, .null, .int 0])), (109, (15, [.null, .null, .null, .null, .null, .int 0])), (136, (14, [.null, .null, .null, .null, .null, .int 0]))]
def vt_NL1 : List (Nat × (Nat × List Value)) := []
def vt_NL2 : List (Nat × (Nat × List Value)) := []
def vt_NL3 : List (Nat × (Nat × List Value)) := []
def vt_NL4 : List (Nat × (Nat × List Value)) := [(9, (7, [.null, .int 0, .int 0, .int 0, .int 0, .int 0, .int 0, .null, .null])), (12, (2, [.int 0, .int 0, .int 0, .null, .null])), (35, (10, [.int 0, .null, .null, .null, .null, .null]))]
def vt_NL5 : List (Nat × (Nat × List Value)) := []
def vt_NL6 : List (Nat × (Nat × List Value)) := [(18, (9, [.int 0, .int 0, .int 0, .int 0, .null, .null]))]
def vt_NL7 : List (Nat × (Nat × List Value)) := [(9, (1, [.null, .null, .null, .null, .null, .null, .int 0, .int 0, .int 0, .int 0, .int 0, .int 0, .int 0, .null, .null, .null, .null])), (18, (11, [.int 0, .int 0, .int 0, .int 0, .int 0, .int 0, .int 0, .int 0, .int 0, .int 0, .int 0, .int 0, .int 0, .int 0, .int 0]))]
def vt_NL8 : List (Nat × (Nat × List Value)) := [(137, (13, [.null, .null, .null, .null, .null, .int 0]))]
def vt_NL9 : List (Nat × (Nat × List Value)) := [(9, (3, [.long 0, .long 0, .int 0, .int 0, .long 0, .null, .null]))]
def vt_NL10 : List (Nat × (Nat × List Value)) := [(30, (5, [.int 0, .int 0, .int 0, .int 0, .null, .null, .null, .null, .null, .null, .null, .null, .null, .null, .null, .int 0]))]
def vt_NL11 : List (Nat × (Nat × List Value)) := []
def vt_NL12 : List (Nat × (Nat × List Value)) := []
def vt_NL : List (List (Nat × (Nat × List Value))) := [vt_NL0, vt_NL1, vt_NL2, vt_NL3, vt_NL4, vt_NL5, vt_NL6, vt_NL7, vt_NL8, vt_NL9, vt_NL10, vt_NL11, vt_NL12]
def vt_ML0 : List (Nat × (Nat × Nat × Nat × Nat)) := [(1, (0, 0, 3, 0)), (7, (0, 2, 4, 0)), (13, (1, 2, 4, 0)), (18, (1, 0, 2, 0)), (21, (2, 2, 2, 0)), (43, (8, 2, 2, 0)), (54, (12, 2, 1, 8)), (74, (68, 1, 1, 7)), (80, (125, 1, 1, 11)), (86, (127, 2, 1, 7)), (93, (93, 1, 1, 1)), (113, (15, 1, 6, 0)), (124, (130, 4, 1, 0)), (131, (134, 2, 1, 6)), (140, (14, 1, 6, 0)), (147, (13, 1, 6, 0)), (148, (175, 1, 1, 6)), (161, (180, 1, 1, 6)), (164, (183, 1, 1, 6)), (169, (181, 2, 1, 6)), (172, (138, 2, 1, 6)), (175, (139, 0, 1, 6)), (179, (140, 4, 1, 6)), (189, (147, 1, 1, 9)), (195, (149, 1, 1, 3)), (221, (168, 4, 1, 6)), (225, (118, 0, 1, 6)), (231, (171, 1, 1, 7)), (232, (172, 1, 1, 6)), (235, (10, 0, 5, 0)), (240, (11, 1, 5, 0)), (244, (131, 1, 1, 0)), (248, (132, 1, 1, 0)), (252, (6, 1, 4, 0))]
def vt_ML1 : List (Nat × (Nat × Nat × Nat × Nat)) := [(3, (0, 0, 3, 0)), (49, (19, 0, 1, 1)), (67, (61, 0, 1, 1)), (71, (0, 2, 4, 0)), (77, (1, 2, 4, 0)), (80, (8, 2, 4, 0)), (86, (60, 6, 1, 1)), (96, (73, 1, 0, 0)), (109, (71, 0, 1, 1)), (117, (75, 1, 1, 1)), (123, (4, 2, 4, 0)), (126, (93, 1, 1, 1))]
def vt_ML2 : List (Nat × (Nat × Nat × Nat × Nat)) := [(3, (0, 0, 3, 0)), (31, (33, 0, 1, 8)), (37, (42, 0, 1, 8)), (44, (37, 1, 1, 7)), (55, (36, 2, 1, 8)), (61, (41, 1, 1, 2)), (71, (47, 1, 1, 8)), (82, (48, 1, 1, 8)), (85, (43, 3, 1, 11)), (89, (40, 1, 1, 8)), (92, (50, 1, 1, 2))]
def vt_ML3 : List (Nat × (Nat × Nat × Nat × Nat)) := [(3, (0, 0, 3, 0)), (36, (9, 5, 4, 0)), (42, (0, 2, 4, 0)), (48, (1, 2, 4, 0)), (51, (123, 2, 1, 3)), (55, (149, 1, 1, 3)), (59, (93, 1, 1, 1)), (74, (150, 2, 1, 3)), (77, (152, 2, 1, 3)), (80, (5, 2, 4, 0)), (83, (4, 2, 4, 0)), (85, (153, 2, 1, 3)), (88, (156, 1, 1, 3)), (92, (151, 2, 1, 3)), (96, (154, 1, 1, 3)), (99, (155, 0, 1, 3)), (103, (157, 0, 1, 3)), (106, (158, 1, 1, 3)), (110, (159, 1, 1, 3))]
def vt_ML4 : List (Nat × (Nat × Nat × Nat × Nat)) := [(3, (0, 0, 3, 0)), (11, (3, 0, 2, 0)), (14, (5, 2, 2, 0)), (37, (6, 3, 2, 0)), (44, (17, 0, 1, 7)), (47, (20, 0, 1, 10)), (48, (22, 0, 1, 8)), (57, (34, 0, 1, 4)), (60, (44, 0, 1, 4)), (63, (45, 1, 1, 4)), (67, (52, 0, 1, 4)), (73, (36, 2, 1, 8)), (77, (113, 0, 1, 4)), (80, (40, 1, 1, 8)), (98, (55, 2, 1, 10)), (102, (96, 2, 1, 1)), (110, (112, 0, 1, 1)), (113, (114, 0, 1, 7)), (120, (33, 0, 1, 8)), (123, (35, 3, 1, 7)), (127, (41, 1, 1, 2)), (138, (43, 3, 1, 11)), (152, (46, 1, 1, 2)), (156, (49, 1, 1, 2)), (165, (51, 1, 1, 2)), (175, (47, 1, 1, 8)), (178, (53, 1, 1, 4)), (181, (48, 1, 1, 8)), (192, (54, 1, 1, 10))]
def vt_ML5 : List (Nat × (Nat × Nat × Nat × Nat)) := [(3, (0, 0, 3, 0)), (62, (63, 0, 1, 5)), (68, (65, 0, 1, 5)), (71, (80, 0, 1, 5)), (74, (86, 1, 1, 5)), (78, (88, 0, 1, 5)), (81, (92, 1, 1, 1)), (90, (94, 2, 0, 0)), (100, (59, 4, 1, 1)), (104, (83, 3, 1, 1)), (108, (95, 1, 1, 5)), (111, (97, 0, 1, 5)), (117, (87, 1, 0, 0)), (120, (64, 2, 1, 5)), (124, (47, 1, 1, 8)), (127, (36, 2, 1, 8)), (133, (96, 2, 1, 1)), (137, (70, 2, 1, 1)), (140, (33, 0, 1, 8)), (143, (89, 1, 1, 5)), (147, (76, 3, 1, 5)), (149, (90, 3, 1, 5)), (153, (91, 3, 0, 0)), (157, (4, 2, 4, 0)), (163, (5, 2, 4, 0)), (166, (6, 1, 4, 0)), (177, (62, 0, 1, 5)), (180, (40, 1, 1, 8)), (183, (0, 2, 4, 0)), (185, (1, 2, 4, 0)), (187, (42, 0, 1, 8)), (191, (48, 1, 1, 8)), (194, (81, 1, 1, 5)), (197, (84, 0, 1, 5)), (200, (85, 0, 1, 5)), (203, (82, 2, 1, 5)), (206, (2, 1, 4, 0)), (208, (41, 1, 1, 2)), (213, (50, 1, 1, 2)), (216, (37, 1, 1, 7)), (225, (66, 2, 1, 5)), (230, (67, 2, 1, 5)), (237, (77, 1, 1, 5)), (243, (78, 1, 1, 1)), (249, (58, 2, 1, 7)), (252, (79, 3, 1, 1)), (259, (69, 3, 1, 5)), (273, (68, 1, 1, 7)), (277, (72, 2, 1, 1)), (281, (74, 1, 1, 1))]
def vt_ML6 : List (Nat × (Nat × Nat × Nat × Nat)) := [(3, (0, 0, 3, 0)), (20, (9, 1, 2, 0)), (56, (68, 1, 1, 7)), (77, (118, 0, 1, 6)), (83, (119, 1, 1, 9)), (89, (121, 2, 1, 9)), (105, (135, 2, 1, 7)), (109, (136, 2, 1, 7)), (119, (143, 1, 1, 6)), (123, (176, 0, 1, 6)), (126, (146, 1, 1, 9)), (130, (177, 0, 1, 6)), (136, (144, 1, 1, 9)), (138, (147, 1, 1, 9)), (142, (165, 2, 1, 3)), (150, (164, 3, 1, 6)), (154, (149, 1, 1, 3)), (158, (181, 2, 1, 6)), (161, (3, 2, 4, 0)), (166, (141, 2, 1, 9)), (171, (163, 1, 1, 9)), (174, (166, 0, 1, 6))]
def vt_ML7 : List (Nat × (Nat × Nat × Nat × Nat)) := [(3, (0, 0, 3, 0)), (11, (4, 0, 2, 0)), (28, (18, 0, 1, 1)), (50, (68, 1, 1, 7)), (81, (36, 2, 1, 8)), (85, (37, 1, 1, 7)), (89, (38, 1, 2, 0)), (92, (39, 1, 1, 11)), (95, (0, 2, 4, 0)), (101, (33, 0, 1, 8)), (104, (1, 2, 4, 0)), (107, (115, 1, 1, 1)), (127, (136, 2, 1, 7))]
def vt_ML8 : List (Nat × (Nat × Nat × Nat × Nat)) := [(3, (0, 0, 3, 0)), (25, (13, 1, 0, 0)), (34, (14, 1, 1, 8)), (38, (15, 1, 1, 8)), (42, (1, 2, 4, 0)), (48, (7, 2, 4, 0)), (57, (23, 1, 1, 8)), (61, (29, 2, 1, 8)), (64, (32, 3, 1, 8)), (77, (33, 0, 1, 8)), (80, (0, 2, 4, 0)), (83, (24, 1, 1, 8)), (86, (25, 1, 0, 0)), (90, (26, 1, 0, 0)), (93, (27, 1, 1, 8)), (96, (28, 2, 0, 0)), (99, (30, 2, 1, 8)), (102, (31, 2, 1, 8)), (110, (12, 1, 5, 0)), (117, (10, 0, 5, 0)), (120, (11, 1, 5, 0)), (141, (13, 1, 6, 0)), (144, (36, 2, 1, 8))]
def vt_ML9 : List (Nat × (Nat × Nat × Nat × Nat)) := [(3, (0, 0, 3, 0)), (11, (10, 2, 2, 0)), (38, (120, 1, 1, 3)), (42, (142, 2, 1, 3)), (46, (122, 2, 1, 3)), (49, (145, 1, 1, 3)), (52, (147, 1, 1, 9)), (62, (148, 1, 1, 3)), (66, (160, 1, 1, 9)), (75, (161, 1, 1, 9)), (82, (68, 1, 1, 7)), (91, (162, 1, 1, 9)), (101, (149, 1, 1, 3)), (112, (146, 1, 1, 9))]
def vt_ML10 : List (Nat × (Nat × Nat × Nat × Nat)) := [(3, (0, 0, 3, 0)), (32, (7, 3, 2, 0)), (43, (21, 0, 1, 5)), (46, (47, 1, 1, 8)), (56, (56, 0, 1, 10)), (59, (40, 1, 1, 8)), (62, (62, 0, 1, 5)), (76, (69, 3, 1, 5)), (80, (48, 1, 1, 8)), (83, (111, 1, 1, 7)), (86, (57, 0, 1, 10)), (89, (33, 0, 1, 8)), (92, (99, 0, 1, 10)), (95, (96, 2, 1, 1)), (101, (100, 0, 1, 10)), (104, (105, 0, 1, 10)), (107, (106, 0, 1, 10)), (113, (107, 0, 1, 10)), (120, (67, 2, 1, 5)), (124, (109, 1, 1, 10)), (128, (36, 2, 1, 8)), (146, (35, 3, 1, 7)), (150, (46, 1, 1, 2)), (155, (49, 1, 1, 2)), (158, (54, 1, 1, 10)), (164, (51, 1, 1, 2)), (168, (58, 2, 1, 7)), (171, (59, 4, 1, 1)), (175, (98, 2, 1, 1)), (181, (37, 1, 1, 7)), (185, (108, 1, 0, 0)), (189, (66, 2, 1, 5)), (195, (77, 1, 1, 5)), (200, (70, 2, 1, 1)), (203, (103, 1, 1, 1)), (206, (110, 1, 1, 1)), (215, (55, 2, 1, 10)), (219, (1, 2, 4, 0)), (224, (92, 1, 1, 1)), (227, (104, 1, 1, 1)), (234, (101, 2, 1, 10)), (237, (41, 1, 1, 2)), (241, (102, 4, 1, 10)), (245, (50, 1, 1, 2)), (248, (43, 3, 1, 11)), (254, (79, 3, 1, 1)), (261, (75, 1, 1, 1))]
def vt_ML11 : List (Nat × (Nat × Nat × Nat × Nat)) := [(3, (0, 0, 3, 0))]
def vt_ML12_0 : List (Nat × (Nat × Nat × Nat × Nat)) := [(7, (188, 3, 0, 0)), (31, (193, 1, 1, 12)), (38, (194, 1, 0, 0)), (42, (195, 1, 0, 0)), (45, (196, 0, 1, 12)), (58, (197, 2, 1, 12)), (65, (200, 2, 1, 12)), (68, (192, 0, 1, 12)), (75, (203, 1, 1, 12)), (93, (202, 1, 1, 12)), (96, (201, 0, 1, 12)), (144, (204, 0, 1, 12)), (156, (210, 1, 1, 12)), (159, (208, 1, 1, 12)), (162, (212, 1, 1, 12)), (193, (220, 0, 1, 12)), (196, (221, 0, 1, 12)), (199, (0, 2, 4, 0)), (205, (1, 2, 4, 0)), (208, (218, 7, 1, 12)), (212, (222, 0, 1, 12)), (215, (237, 4, 1, 12)), (219, (223, 0, 1, 12)), (222, (224, 0, 1, 12)), (225, (225, 0, 1, 12)), (228, (235, 4, 1, 12)), (231, (226, 0, 1, 12)), (234, (4, 2, 4, 0)), (241, (5, 2, 4, 0)), (246, (236, 4, 1, 12)), (250, (6, 1, 4, 0)), (256, (227, 0, 1, 12)), (259, (228, 0, 1, 12)), (262, (229, 0, 1, 12)), (265, (230, 0, 1, 12)), (268, (231, 0, 1, 12)), (271, (232, 0, 1, 12)), (274, (233, 1, 1, 12)), (277, (234, 1, 1, 12)), (280, (219, 3, 1, 12)), (287, (214, 0, 1, 12)), (290, (213, 0, 1, 12)), (293, (241, 1, 1, 12)), (296, (215, 0, 1, 12)), (299, (238, 0, 1, 12)), (302, (239, 0, 1, 12)), (305, (242, 0, 1, 12)), (308, (243, 0, 1, 12)), (311, (244, 0, 1, 12)), (314, (199, 2, 1, 12))]
def vt_ML12_1 : List (Nat × (Nat × Nat × Nat × Nat)) := [(317, (216, 1, 1, 12)), (320, (209, 0, 1, 12)), (323, (211, 1, 1, 12)), (326, (217, 1, 1, 12)), (329, (240, 0, 1, 12)), (332, (0, 0, 3, 0)), (434, (191, 0, 1, 12)), (452, (198, 0, 1, 12)), (458, (245, 0, 1, 12)), (461, (263, 0, 1, 12)), (468, (264, 0, 1, 12)), (471, (265, 0, 1, 12)), (474, (205, 0, 1, 12)), (477, (207, 0, 1, 12)), (480, (206, 1, 1, 12)), (483, (251, 5, 1, 12)), (493, (256, 1, 1, 12)), (501, (250, 2, 1, 12)), (505, (252, 3, 1, 12)), (511, (249, 2, 1, 12)), (514, (257, 2, 1, 12)), (517, (253, 1, 1, 12)), (520, (254, 1, 0, 0)), (525, (255, 2, 1, 12)), (530, (248, 2, 1, 12)), (535, (258, 2, 1, 12)), (538, (261, 2, 1, 12)), (541, (262, 2, 1, 12)), (546, (259, 5, 1, 12)), (550, (247, 2, 1, 12)), (553, (260, 1, 1, 12)), (560, (246, 1, 1, 12)), (597, (275, 0, 1, 12)), (600, (268, 1, 1, 12)), (603, (272, 3, 1, 12)), (607, (273, 2, 1, 12)), (610, (277, 0, 1, 12)), (614, (274, 1, 1, 12)), (617, (270, 0, 1, 12)), (620, (271, 4, 1, 12)), (624, (276, 0, 1, 12)), (628, (267, 0, 1, 12)), (631, (269, 0, 1, 12)), (634, (279, 0, 1, 12)), (640, (281, 2, 1, 12)), (645, (287, 2, 1, 12)), (649, (290, 0, 1, 12)), (652, (291, 2, 1, 12)), (655, (286, 4, 1, 12)), (661, (297, 1, 1, 12))]
def vt_ML12_2 : List (Nat × (Nat × Nat × Nat × Nat)) := [(666, (298, 1, 1, 12))]
def vt_ML12 : List (Nat × (Nat × Nat × Nat × Nat)) := vt_ML12_0 ++ (vt_ML12_1 ++ (vt_ML12_2))
def vt_ML : List (List (Nat × (Nat × Nat × Nat × Nat))) := [vt_ML0, vt_ML1, vt_ML2, vt_ML3, vt_ML4, vt_ML5, vt_ML6, vt_ML7, vt_ML8, vt_ML9, vt_ML10, vt_ML11, vt_ML12]
def vt_AN : List (Nat × Nat) := [(7, 18)]
/-- the String constants: 0: VitalTwin$Reader 108; 1: VitalTwin$Reader 115; 2: VitalTwin$Reader 139; 3: VitalTwin 233; 4: VitalTwin 111; 5: VitalTwin 138; 6: VitalTwin 145; 7: VitalTwin 159; 8: VitalTwin 167; 9: VitalTwin 183; 10: VitalTwin 201 -/
def vt_sn : List (String × Nat × String) := [("VitalTwin$Reader", 108, "(){}[],;:?=+-*/%<>!"), ("VitalTwin$Reader", 115, "const type in out state var fun if else case for to assert return cycle bool true false min max abs clamp "), ("VitalTwin$Reader", 139, "the program has a fault"), ("VitalTwin", 233, "CONST LOAD  STORE MOVE  LOADX STOREXADD   SUB   MUL   DIV   REM   MIN   MAX   LT    LE    GT    GE    EQ    NE    NEG   ABS   NOT   LOW   HIGH  JUMP  JZ    JNZ   CALL  RET   HALT  CHECK "), ("VitalTwin", 111, "no such INSTRUCTION or what"), ("VitalTwin", 138, "n is not 1 .. 200000"), ("VitalTwin", 145, "no program"), ("VitalTwin", 159, "no such cell of out"), ("VitalTwin", 167, "no such CYCLE or cell of out"), ("VitalTwin", 183, "no such copy or cell"), ("VitalTwin", 201, "no such copy or what")]
abbrev vn_Vt_init : Nat := 0
abbrev vn_Reader_init : Nat := 1
abbrev vn_Declarations_init : Nat := 2
abbrev vn_Program_init : Nat := 3
abbrev vn_Code_init : Nat := 4
abbrev vn_Constants_init : Nat := 5
abbrev vn_Statements_init : Nat := 6
abbrev vn_Expressions_init : Nat := 7
abbrev vn_Machine_init : Nat := 8
abbrev vn_Run_init : Nat := 9
abbrev vn_Copy_init : Nat := 10
abbrev vn_Vt_feed : Nat := 11
abbrev vn_Reader_add : Nat := 12
abbrev vn_Reader_signsOf : Nat := 13
abbrev vn_Reader_makeRoom : Nat := 14
abbrev vn_Reader_append : Nat := 15
abbrev vn_Declarations_readProgram : Nat := 16
abbrev vn_Program_clear : Nat := 17
abbrev vn_Code_clear : Nat := 18
abbrev vn_Code_beginUnit : Nat := 19
abbrev vn_Statements_clear : Nat := 20
abbrev vn_Expressions_clear : Nat := 21
abbrev vn_Reader_begin : Nat := 22
abbrev vn_Reader_behindToken : Nat := 23
abbrev vn_Reader_signAt : Nat := 24
abbrev vn_Reader_isLetter : Nat := 25
abbrev vn_Reader_isDigit : Nat := 26
abbrev vn_Reader_isComment : Nat := 27
abbrev vn_Reader_markOfTwo : Nat := 28
abbrev vn_Reader_kindOf : Nat := 29
abbrev vn_Reader_wordOrName : Nat := 30
abbrev vn_Reader_numberAt : Nat := 31
abbrev vn_Reader_addToken : Nat := 32
abbrev vn_Reader_next : Nat := 33
abbrev vn_Declarations_constant : Nat := 34
abbrev vn_Program_tell : Nat := 35
abbrev vn_Reader_fail : Nat := 36
abbrev vn_Program_find : Nat := 37
abbrev vn_Symbol_init : Nat := 38
abbrev vn_Symbol_begin : Nat := 39
abbrev vn_Reader_expect : Nat := 40
abbrev vn_Constants_read : Nat := 41
abbrev vn_Reader_number : Nat := 42
abbrev vn_Symbol_setType : Nat := 43
abbrev vn_Declarations_type : Nat := 44
abbrev vn_Declarations_port : Nat := 45
abbrev vn_Constants_readLength : Nat := 46
abbrev vn_Reader_open : Nat := 47
abbrev vn_Reader_close : Nat := 48
abbrev vn_Constants_readType : Nat := 49
abbrev vn_Constants_askNotBelow : Nat := 50
abbrev vn_Constants_readFor : Nat := 51
abbrev vn_Declarations_function : Nat := 52
abbrev vn_Declarations_parameter : Nat := 53
abbrev vn_Statements_place : Nat := 54
abbrev vn_Statements_block : Nat := 55
abbrev vn_Statements_statement : Nat := 56
abbrev vn_Statements_variable : Nat := 57
abbrev vn_Program_highOf : Nat := 58
abbrev vn_Code_set : Nat := 59
abbrev vn_Code_put : Nat := 60
abbrev vn_Code_grow : Nat := 61
abbrev vn_Expressions_expression : Nat := 62
abbrev vn_Expressions_readFronts : Nat := 63
abbrev vn_Expressions_push : Nat := 64
abbrev vn_Expressions_named : Nat := 65
abbrev vn_Expressions_askUse : Nat := 66
abbrev vn_Expressions_call : Nat := 67
abbrev vn_Program_at : Nat := 68
abbrev vn_Expressions_askToSuit : Nat := 69
abbrev vn_Code_keep : Nat := 70
abbrev vn_Code_homeOfTemps : Nat := 71
abbrev vn_Code_pass : Nat := 72
abbrev vn_Code_homeOf : Nat := 73
abbrev vn_Code_call : Nat := 74
abbrev vn_Code_spend : Nat := 75
abbrev vn_Expressions_set : Nat := 76
abbrev vn_Expressions_index : Nat := 77
abbrev vn_Code_loadElement : Nat := 78
abbrev vn_Code_load : Nat := 79
abbrev vn_Expressions_operand : Nat := 80
abbrev vn_Expressions_extreme : Nat := 81
abbrev vn_Expressions_askInts : Nat := 82
abbrev vn_Code_combine : Nat := 83
abbrev vn_Expressions_absolute : Nat := 84
abbrev vn_Expressions_clamp : Nat := 85
abbrev vn_Expressions_levelOfNext : Nat := 86
abbrev vn_Expressions_levelOf : Nat := 87
abbrev vn_Expressions_finish : Nat := 88
abbrev vn_Expressions_askType : Nat := 89
abbrev vn_Expressions_finishSum : Nat := 90
abbrev vn_Expressions_result : Nat := 91
abbrev vn_Code_land : Nat := 92
abbrev vn_Code_has : Nat := 93
abbrev vn_Expressions_opOf : Nat := 94
abbrev vn_Expressions_begin : Nat := 95
abbrev vn_Code_add : Nat := 96
abbrev vn_Expressions_choice : Nat := 97
abbrev vn_Code_store : Nat := 98
abbrev vn_Statements_condition : Nat := 99
abbrev vn_Statements_cases : Nat := 100
abbrev vn_Statements_arm : Nat := 101
abbrev vn_Statements_test : Nat := 102
abbrev vn_Code_loadTemp : Nat := 103
abbrev vn_Code_landAll : Nat := 104
abbrev vn_Statements_ifs : Nat := 105
abbrev vn_Statements_rounds : Nat := 106
abbrev vn_Statements_beginning : Nat := 107
abbrev vn_Statements_canBegin : Nat := 108
abbrev vn_Statements_assign : Nat := 109
abbrev vn_Code_storeElement : Nat := 110
abbrev vn_Program_hideFrom : Nat := 111
abbrev vn_Code_endUnit : Nat := 112
abbrev vn_Declarations_readCycle : Nat := 113
abbrev vn_Program_placeLocals : Nat := 114
abbrev vn_Code_settle : Nat := 115
abbrev vn_Reader_clear : Nat := 116
abbrev vn_Machine_load : Nat := 117
abbrev vn_Machine_restart : Nat := 118
abbrev vn_Run_clear : Nat := 119
abbrev vn_Copy_clear : Nat := 120
abbrev vn_Run_hold : Nat := 121
abbrev vn_Copy_hold : Nat := 122
abbrev vn_Copy_write : Nat := 123
abbrev vn_Vt_symbol : Nat := 124
abbrev vn_Symbol_answer : Nat := 125
abbrev vn_Vt_name : Nat := 126
abbrev vn_Program_signOfName : Nat := 127
abbrev vn_Vt_code : Nat := 128
abbrev vn_Vt_text : Nat := 129
abbrev vn_Vt_spell : Nat := 130
abbrev vn_Vt_spellSign : Nat := 131
abbrev vn_Vt_spellOperand : Nat := 132
abbrev vn_Vt_input : Nat := 133
abbrev vn_Machine_give : Nat := 134
abbrev vn_Program_portOf : Nat := 135
abbrev vn_Program_cellOf : Nat := 136
abbrev vn_Vt_probe : Nat := 137
abbrev vn_Machine_hasPlace : Nat := 138
abbrev vn_Machine_canProbe : Nat := 139
abbrev vn_Machine_tryBits : Nat := 140
abbrev vn_Run_takeFrom : Nat := 141
abbrev vn_Copy_takeFrom : Nat := 142
abbrev vn_Machine_begin : Nat := 143
abbrev vn_Run_begin : Nat := 144
abbrev vn_Copy_begin : Nat := 145
abbrev vn_Run_step : Nat := 146
abbrev vn_Run_of : Nat := 147
abbrev vn_Copy_step : Nat := 148
abbrev vn_Copy_read : Nat := 149
abbrev vn_Copy_loadElement : Nat := 150
abbrev vn_Copy_indexOf : Nat := 151
abbrev vn_Copy_storeElement : Nat := 152
abbrev vn_Copy_go : Nat := 153
abbrev vn_Copy_callTo : Nat := 154
abbrev vn_Copy_comeBack : Nat := 155
abbrev vn_Copy_work : Nat := 156
abbrev vn_Copy_multiply : Nat := 157
abbrev vn_Copy_divide : Nat := 158
abbrev vn_Copy_isTrue : Nat := 159
abbrev vn_Run_end : Nat := 160
abbrev vn_Run_agrees : Nat := 161
abbrev vn_Run_agreesAbout : Nat := 162
abbrev vn_Run_finish : Nat := 163
abbrev vn_Machine_copyOuts : Nat := 164
abbrev vn_Copy_turn : Nat := 165
abbrev vn_Machine_outcomeOfTrial : Nat := 166
abbrev vn_Vt_flip : Nat := 167
abbrev vn_Machine_plan : Nat := 168
abbrev vn_Vt_power : Nat := 169
abbrev vn_Vt_count : Nat := 170
abbrev vn_Program_answer : Nat := 171
abbrev vn_Machine_answer : Nat := 172
abbrev vn_Vt_range : Nat := 173
abbrev vn_Vt_steps : Nat := 174
abbrev vn_Machine_go : Nat := 175
abbrev vn_Machine_turnPlanned : Nat := 176
abbrev vn_Machine_endCycle : Nat := 177
abbrev vn_Vt_cycle : Nat := 178
abbrev vn_Vt_output : Nat := 179
abbrev vn_Machine_isPutOut : Nat := 180
abbrev vn_Machine_wasPutOut : Nat := 181
abbrev vn_Vt_past : Nat := 182
abbrev vn_Machine_keeps : Nat := 183
abbrev vn_Vt_cell : Nat := 184
abbrev vn_Vt_register : Nat := 185
abbrev vn_Ref_thrown : Nat := 186
abbrev vn_Ref_feed : Nat := 187
abbrev vn_Ref_signAt : Nat := 188
abbrev vn_Ref_init : Nat := 189
abbrev vn_Ref_compile : Nat := 190
abbrev vn_Ref_keep : Nat := 191
abbrev vn_Ref_next : Nat := 192
abbrev vn_Ref_at : Nat := 193
abbrev vn_Ref_isLetter : Nat := 194
abbrev vn_Ref_isDigit : Nat := 195
abbrev vn_Ref_word : Nat := 196
abbrev vn_Ref_sign : Nat := 197
abbrev vn_Ref_declaration : Nat := 198
abbrev vn_Ref_tell : Nat := 199
abbrev vn_Ref_bad : Nat := 200
abbrev vn_Ref_find : Nat := 201
abbrev vn_Ref_isNamed : Nat := 202
abbrev vn_Ref_take : Nat := 203
abbrev vn_Ref_constant : Nat := 204
abbrev vn_Ref_members : Nat := 205
abbrev vn_Ref_tooMany : Nat := 206
abbrev vn_Ref_function : Nat := 207
abbrev vn_Ref_enter : Nat := 208
abbrev vn_Ref_type : Nat := 209
abbrev vn_Ref_constantOf : Nat := 210
abbrev vn_Ref_setType : Nat := 211
abbrev vn_Ref_leave : Nat := 212
abbrev vn_Ref_list : Nat := 213
abbrev vn_Ref_statement : Nat := 214
abbrev vn_Ref_variable : Nat := 215
abbrev vn_Ref_length : Nat := 216
abbrev vn_Ref_fits : Nat := 217
abbrev vn_Ref_node : Nat := 218
abbrev vn_Ref_termFor : Nat := 219
abbrev vn_Ref_term : Nat := 220
abbrev vn_Ref_either : Nat := 221
abbrev vn_Ref_both : Nat := 222
abbrev vn_Ref_is : Nat := 223
abbrev vn_Ref_sum : Nat := 224
abbrev vn_Ref_product : Nat := 225
abbrev vn_Ref_front : Nat := 226
abbrev vn_Ref_first : Nat := 227
abbrev vn_Ref_leastOf : Nat := 228
abbrev vn_Ref_absolute : Nat := 229
abbrev vn_Ref_clamped : Nat := 230
abbrev vn_Ref_named : Nat := 231
abbrev vn_Ref_behind : Nat := 232
abbrev vn_Ref_call : Nat := 233
abbrev vn_Ref_index : Nat := 234
abbrev vn_Ref_reckoned : Nat := 235
abbrev vn_Ref_ends : Nat := 236
abbrev vn_Ref_logic : Nat := 237
abbrev vn_Ref_truth_0 : Nat := 238
abbrev vn_Ref_choices : Nat := 239
abbrev vn_Ref_block : Nat := 240
abbrev vn_Ref_hide : Nat := 241
abbrev vn_Ref_choice : Nat := 242
abbrev vn_Ref_loop : Nat := 243
abbrev vn_Ref_plain : Nat := 244
abbrev vn_Ref_make : Nat := 245
abbrev vn_Ref_placeAll : Nat := 246
abbrev vn_Ref_genList : Nat := 247
abbrev vn_Ref_genStatement : Nat := 248
abbrev vn_Ref_gen : Nat := 249
abbrev vn_Ref_atom : Nat := 250
abbrev vn_Ref_emit : Nat := 251
abbrev vn_Ref_plainly : Nat := 252
abbrev vn_Ref_land : Nat := 253
abbrev vn_Ref_bounded : Nat := 254
abbrev vn_Ref_genCall : Nat := 255
abbrev vn_Ref_temp : Nat := 256
abbrev vn_Ref_load : Nat := 257
abbrev vn_Ref_genCase : Nat := 258
abbrev vn_Ref_test : Nat := 259
abbrev vn_Ref_landAll : Nat := 260
abbrev vn_Ref_genIf : Nat := 261
abbrev vn_Ref_genFor : Nat := 262
abbrev vn_Ref_bringBack : Nat := 263
abbrev vn_Ref_firstGiven : Nat := 264
abbrev vn_Ref_anew : Nat := 265
abbrev vn_Ref_steps : Nat := 266
abbrev vn_Ref_cycleBegins : Nat := 267
abbrev vn_Ref_copyBegins : Nat := 268
abbrev vn_Ref_step : Nat := 269
abbrev vn_Ref_flipAll : Nat := 270
abbrev vn_Ref_does : Nat := 271
abbrev vn_Ref_indexOf : Nat := 272
abbrev vn_Ref_truth_1 : Nat := 273
abbrev vn_Ref_latch : Nat := 274
abbrev vn_Ref_through : Nat := 275
abbrev vn_Ref_gate : Nat := 276
abbrev vn_Ref_agree : Nat := 277
abbrev vn_Ref_cycle : Nat := 278
abbrev vn_Ref_whole : Nat := 279
abbrev vn_Ref_input : Nat := 280
abbrev vn_Ref_symbolAt : Nat := 281
abbrev vn_Ref_output : Nat := 282
abbrev vn_Ref_past : Nat := 283
abbrev vn_Ref_cell : Nat := 284
abbrev vn_Ref_register : Nat := 285
abbrev vn_Ref_flip : Nat := 286
abbrev vn_Ref_isPlace : Nat := 287
abbrev vn_Ref_power : Nat := 288
abbrev vn_Ref_probe : Nat := 289
abbrev vn_Ref_keepAll : Nat := 290
abbrev vn_Ref_bringAll : Nat := 291
abbrev vn_Ref_symbol : Nat := 292
abbrev vn_Ref_name : Nat := 293
abbrev vn_Ref_code : Nat := 294
abbrev vn_Ref_range : Nat := 295
abbrev vn_Ref_text : Nat := 296
abbrev vn_Ref_put : Nat := 297
abbrev vn_Ref_putNumber : Nat := 298
abbrev vn_Ref_count : Nat := 299
def ip_lk {α : Type} (l : List (Nat × α)) (k : Nat) : Option α := match l with
  | [] => none
  | q :: r => if q.1 = k then some q.2 else ip_lk r k
theorem ip_lk_mem {α : Type} : ∀ (l : List (Nat × α)) (k : Nat) (v : α), ip_lk l k = some v → (k, v) ∈ l
  | [], k, v, h => by simp [ip_lk] at h
  | q :: r, k, v, h => by
    unfold ip_lk at h
    split at h
    · rename_i hq
      cases h
      subst hq
      exact List.mem_cons_self
    · exact List.mem_cons_of_mem _ (ip_lk_mem r k v h)
theorem vt_getD {α : Type} {P : α → Prop} {l : List α} {d : α} (hl : ∀ x ∈ l, P x) (hd : P d) (y : Nat) : P (l.getD y d) := by
  rw [List.getD_eq_getElem?_getD]
  cases h : l[y]? with
  | none => exact hd
  | some x => exact hl x (List.mem_of_getElem? h)
def vt_N (y : Nat) : MethodName := vt_mn.getD y ⟨"", "", ""⟩
def vt_B (y : Nat) : ByteArray := (vt_pr.getD y (⟨#[]⟩, [])).1
def vt_R (y : Nat) : Option FieldType := vt_mr.getD y none
def vt_O (y : Nat) : Nat := vt_oc.getD y 99
def vt_Ft (ci j : Nat) : Option (Nat × Bool) := match vt_cl[ci]? with
  | none => none
  | some (_, T, N) => if j < N then (match parseFieldDescriptor (T j).2.2.1 with
    | some .int => some (0, (T j).2.2.2)
    | some .long => some (1, (T j).2.2.2)
    | some .boolean => some (2, (T j).2.2.2)
    | some (.object _) => some (3, (T j).2.2.2)
    | some (.array _) => some (3, (T j).2.2.2)
    | _ => none) else none
/-- the tables, with what the library's members give -/
def vt_tb (P : Nat → List Value → ip_W → Option (Option Value × ip_W)) : ip_TB :=
  (fun y pc => ip_lk (vt_pr.getD y (⟨#[]⟩, [])).2 pc, fun y k => ip_lk (vt_FL.getD (vt_O y) []) k, vt_Ft, fun y k => ip_lk (vt_CL.getD (vt_O y) []) k, fun y k => ip_lk (vt_NL.getD (vt_O y) []) k, fun y k => ip_lk (vt_ML.getD (vt_O y) []) k, fun y => vt_ml.getD y 0, fun y => vt_ji.getD y none, fun y => vt_rc.getD y 0, P)
end
section
/-! part 15: what must hold of the tables, holds -/
def vt_ct (ci : Nat) : vw_C := vt_cl.getD ci ("", vt_T [], 0)
def vt_nst : List (Nat × Nat × String) := [(0, 18, "VitalTwin"), (4, 11, "VitalTwin"), (7, 11, "VitalTwin")]
def vt_c (o : Nat) : String := vt_cn.getD o ""
def vt_wF : List Cond := (List.range 13).flatMap fun o => (vt_FL.getD o []).map fun q => Cond.fieldLink (vt_c o) q.1 ((vt_ct q.2.1).2.1 q.2.2).1 ((vt_ct q.2.1).2.1 q.2.2).2.1 ((vt_ct q.2.1).2.1 q.2.2).2.2.1
def vt_wU : List Cond := vt_cl.flatMap fun r => u_ws r.1 r.2.1 r.2.2
def vt_wK : List Cond := (List.range 300).map fun z => Cond.code (vt_N z) (vt_B z) (vt_ml.getD z 0) (vt_R z)
def vt_ln (o k : Nat) (y : MethodName) : Cond := match vt_nst.find? (fun q => q.1 == o && q.2.1 == k) with
  | some q => .methodLinkNest (vt_c o) k y q.2.2
  | none => .methodLink (vt_c o) k y
def vt_wc (o : Nat) (q : Nat × (Nat × Nat × Nat × Nat)) : List Cond :=
  if q.2.2.2.1 = 0 then [.methodLink (vt_c o) q.1 (vt_N q.2.1), .static (vt_N q.2.1), .initialized (vt_N q.2.1).cls]
  else if q.2.2.2.1 = 1 then [.methodLink (vt_c o) q.1 (vt_N q.2.1), .instanceMethod (vt_N q.2.1), .selects (vt_ct q.2.2.2.2).1 (vt_N q.2.1) (vt_N q.2.1)]
  else if q.2.2.2.1 = 2 then [vt_ln o q.1 (vt_N q.2.1), .instanceMethod (vt_N q.2.1)]
  else if q.2.2.2.1 = 3 then [.methodLink (vt_c o) q.1 Lib.objectInit, .instanceMethod Lib.objectInit, .code Lib.objectInit ⟨#[0xb1]⟩ 1 none]
  else []
def vt_wM : List Cond := (List.range 13).flatMap fun o => (vt_ML.getD o []).flatMap (vt_wc o)
def vt_wN : List Cond := (List.range 13).flatMap fun o => (vt_NL.getD o []).flatMap fun q => [.classLink (vt_c o) q.1 (vt_ct q.2.1).1, .instantiable (vt_ct q.2.1).1 (vt_ct q.2.1).2.2, .initialized (vt_ct q.2.1).1]
def vt_wv (o : Nat) (q : Nat × Value) : List Cond := match q.2 with
  | .int x => [.constant (vt_c o) q.1 x]
  | .long x => [.constantLong (vt_c o) q.1 x]
  | _ => []
def vt_wV : List Cond := (List.range 13).flatMap fun o => (vt_CL.getD o []).flatMap (vt_wv o)
def vt_wA : List Cond := [.arrayClass .int, .arrayClass .byte, .arrayClass .long, .arrayClass .boolean, .arrayOver (.object "VitalTwin$Symbol")] ++ vt_AN.map fun q => .classLink (vt_c q.1) q.2 "VitalTwin$Symbol"
/-- the words that all methods need, and more ones -/
def vt_Ts (X : List Cond) : List Cond := vt_wF ++ (vt_wU ++ (vt_wK ++ (vt_wM ++ (vt_wN ++ (vt_wV ++ (vt_wA ++ X))))))
theorem vt_gF : vt_wF.all ip_gw = true := by decide +kernel
theorem vt_gU : vt_wU.all ip_gw = true := by decide +kernel
theorem vt_gK : vt_wK.all ip_gw = true := by decide +kernel
theorem vt_gM : vt_wM.all ip_gw = true := by decide +kernel
theorem vt_gN : vt_wN.all ip_gw = true := by decide +kernel
theorem vt_gV : vt_wV.all ip_gw = true := by decide +kernel
theorem vt_gA : vt_wA.all ip_gw = true := by decide +kernel
theorem vt_good {X : List Cond} (hX : ∀ w ∈ X, ip_gw w = true) : ∀ w ∈ vt_Ts X, ip_gw w = true := by
  intro w hw
  unfold vt_Ts at hw
  simp only [List.mem_append] at hw
  rcases hw with h | h | h | h | h | h | h | h
  · exact List.all_eq_true.mp vt_gF w h
  · exact List.all_eq_true.mp vt_gU w h
  · exact List.all_eq_true.mp vt_gK w h
  · exact List.all_eq_true.mp vt_gM w h
  · exact List.all_eq_true.mp vt_gN w h
  · exact List.all_eq_true.mp vt_gV w h
  · exact List.all_eq_true.mp vt_gA w h
  · exact hX w h
theorem vt_iF {X : List Cond} {w : Cond} (h : w ∈ vt_wF) : w ∈ vt_Ts X := List.mem_append_left _ h
theorem vt_iU {X : List Cond} {w : Cond} (h : w ∈ vt_wU) : w ∈ vt_Ts X := List.mem_append_right _ (List.mem_append_left _ h)
theorem vt_iK {X : List Cond} {w : Cond} (h : w ∈ vt_wK) : w ∈ vt_Ts X := List.mem_append_right _ (List.mem_append_right _ (List.mem_append_left _ h))
theorem vt_iM {X : List Cond} {w : Cond} (h : w ∈ vt_wM) : w ∈ vt_Ts X := List.mem_append_right _ (List.mem_append_right _ (List.mem_append_right _ (List.mem_append_left _ h)))
theorem vt_iN {X : List Cond} {w : Cond} (h : w ∈ vt_wN) : w ∈ vt_Ts X := List.mem_append_right _ (List.mem_append_right _ (List.mem_append_right _ (List.mem_append_right _ (List.mem_append_left _ h))))
theorem vt_iV {X : List Cond} {w : Cond} (h : w ∈ vt_wV) : w ∈ vt_Ts X := List.mem_append_right _ (List.mem_append_right _ (List.mem_append_right _ (List.mem_append_right _ (List.mem_append_right _ (List.mem_append_left _ h)))))
theorem vt_iA {X : List Cond} {w : Cond} (h : w ∈ vt_wA) : w ∈ vt_Ts X := List.mem_append_right _ (List.mem_append_right _ (List.mem_append_right _ (List.mem_append_right _ (List.mem_append_right _ (List.mem_append_right _ (List.mem_append_left _ h))))))
theorem vt_iX {X : List Cond} {w : Cond} (h : w ∈ X) : w ∈ vt_Ts X := List.mem_append_right _ (List.mem_append_right _ (List.mem_append_right _ (List.mem_append_right _ (List.mem_append_right _ (List.mem_append_right _ (List.mem_append_right _ h))))))
/-- checks by number -/
theorem vt_kO : (List.range 300).all (fun y => decide (vt_O y < 13) && ((vt_N y).cls == vt_c (vt_O y))) = true := by decide +kernel
theorem vt_kF : (List.range 13).all (fun o => (vt_FL.getD o []).all (fun q => decide (q.2.1 < 16) && decide (q.2.2 < (vt_ct q.2.1).2.2))) = true := by decide +kernel
def vt_cchk (r : vw_C) : Bool := (List.range r.2.2).all (fun a => (List.range r.2.2).all (fun b => a == b || ((r.2.1 a).2.1 != (r.2.1 b).2.1))) && (List.range r.2.2).all (fun k => (parseFieldDescriptor (r.2.1 k).2.2.1).isSome)
theorem vt_kC : vt_cl.all vt_cchk = true := by decide +kernel
theorem vt_kJ : (List.range 300).all (fun y => match vt_ji.getD y none with
  | none => true
  | some ci => ((vt_N y).name == "<init>") && (ci == vt_O y)) = true := by decide +kernel
theorem vt_kJ2 : (List.range 13).all (fun o => (List.range (vt_ct o).2.2).all (fun j => ((vt_ct o).2.1 j).1 == vt_c o)) = true := by decide +kernel
theorem vt_kV : (List.range 13).all (fun o => (vt_CL.getD o []).all (fun q => match q.2 with
  | .int _ => true
  | .long _ => true
  | .retAddr _ => true
  | _ => false)) = true := by decide +kernel
def vt_lchk (y : Nat) : Bool := (vt_pr.getD y (⟨#[]⟩, [])).2.all (fun r => match r.2.1 with
  | .ldc k => (match ip_lk (vt_CL.getD (vt_O y) []) k with
    | some (.long _) => false
    | _ => true)
  | .ldc_w k => (match ip_lk (vt_CL.getD (vt_O y) []) k with
    | some (.long _) => false
    | _ => true)
  | .ldc2_w k => (match ip_lk (vt_CL.getD (vt_O y) []) k with
    | some (.long _) => true
    | _ => false)
  | .anewarray k => vt_AN.contains (vt_O y, k)
  | _ => true)
theorem vt_kL : (List.range 300).all vt_lchk = true := by decide +kernel
def vt_nchk (q : Nat × (Nat × List Value)) : Bool := decide (q.2.1 < 16) && (q.2.2.length == (vt_ct q.2.1).2.2) && q.2.2.all (fun v => match v with
  | .int _ => true
  | .long _ => true
  | .null => true
  | _ => false) && (List.range q.2.2.length).all (fun j => decide (defaultValue ((parseFieldDescriptor ((vt_ct q.2.1).2.1 j).2.2.1).getD .int) = vp_V q.2.2 j))
theorem vt_kN : (List.range 13).all (fun o => (vt_NL.getD o []).all vt_nchk) = true := by decide +kernel
def vt_zchk (z n : Nat) : Bool := decide (z < 300) && decide (vt_ml.getD z 0 ≤ 29) && plainFor (vt_N z) && decide ((vt_N z).cls ≠ "java/lang/invoke/MethodHandle" ∧ (vt_N z).cls ≠ "java/lang/invoke/VarHandle") && decide ((parseMethodDescriptor (vt_N z).desc).map (fun d => d.parameters.length) = some n) && (match vt_R z with
  | none => vt_rc.getD z 0 == 0
  | some .int => vt_rc.getD z 0 == 1
  | some .boolean => vt_rc.getD z 0 == 2
  | some .long => vt_rc.getD z 0 == 3
  | some (.object _) => vt_rc.getD z 0 == 4
  | some (.array _) => vt_rc.getD z 0 == 4
  | _ => false)
def vt_mchk (q : Nat × (Nat × Nat × Nat × Nat)) : Bool := if q.2.2.2.1 < 3 then vt_zchk q.2.1 q.2.2.1 && (q.2.2.2.1 != 1 || decide (q.2.2.2.2 < 16)) && (q.2.2.2.1 != 2 || ((vt_N q.2.1).name == "<init>" && decide (vt_R q.2.1 = none))) else true
theorem vt_kM : (List.range 13).all (fun o => (vt_ML.getD o []).all vt_mchk) = true := by decide +kernel

theorem vt_a0 : ∀ q ∈ vt_pr_0, vt_chk q = true := List.forall_mem_cons.mpr ⟨vt_o0, List.forall_mem_cons.mpr ⟨vt_o1, List.forall_mem_cons.mpr ⟨vt_o2, List.forall_mem_cons.mpr ⟨vt_o3, List.forall_mem_cons.mpr ⟨vt_o4, List.forall_mem_cons.mpr ⟨vt_o5, List.forall_mem_cons.mpr ⟨vt_o6, List.forall_mem_cons.mpr ⟨vt_o7, List.forall_mem_cons.mpr ⟨vt_o8, List.forall_mem_cons.mpr ⟨vt_o9, List.forall_mem_cons.mpr ⟨vt_o10, List.forall_mem_cons.mpr ⟨vt_o11, List.forall_mem_cons.mpr ⟨vt_o12, List.forall_mem_cons.mpr ⟨vt_o13, List.forall_mem_cons.mpr ⟨vt_o14, List.forall_mem_cons.mpr ⟨vt_o15, List.forall_mem_cons.mpr ⟨vt_o16, List.forall_mem_cons.mpr ⟨vt_o17, List.forall_mem_cons.mpr ⟨vt_o18, List.forall_mem_cons.mpr ⟨vt_o19, List.forall_mem_cons.mpr ⟨vt_o20, List.forall_mem_cons.mpr ⟨vt_o21, List.forall_mem_cons.mpr ⟨vt_o22, List.forall_mem_cons.mpr ⟨vt_o23, List.forall_mem_cons.mpr ⟨vt_o24, List.forall_mem_cons.mpr ⟨vt_o25, List.forall_mem_cons.mpr ⟨vt_o26, List.forall_mem_cons.mpr ⟨vt_o27, List.forall_mem_cons.mpr ⟨vt_o28, List.forall_mem_cons.mpr ⟨vt_o29, List.forall_mem_cons.mpr ⟨vt_o30, List.forall_mem_cons.mpr ⟨vt_o31, List.forall_mem_cons.mpr ⟨vt_o32, List.forall_mem_cons.mpr ⟨vt_o33, List.forall_mem_cons.mpr ⟨vt_o34, List.forall_mem_cons.mpr ⟨vt_o35, List.forall_mem_cons.mpr ⟨vt_o36, List.forall_mem_cons.mpr ⟨vt_o37, List.forall_mem_cons.mpr ⟨vt_o38, List.forall_mem_cons.mpr ⟨vt_o39, List.forall_mem_cons.mpr ⟨vt_o40, List.forall_mem_cons.mpr ⟨vt_o41, List.forall_mem_cons.mpr ⟨vt_o42, List.forall_mem_cons.mpr ⟨vt_o43, List.forall_mem_cons.mpr ⟨vt_o44, List.forall_mem_cons.mpr ⟨vt_o45, List.forall_mem_cons.mpr ⟨vt_o46, List.forall_mem_cons.mpr ⟨vt_o47, List.forall_mem_cons.mpr ⟨vt_o48, List.forall_mem_cons.mpr ⟨vt_o49, (fun _ h => absurd h List.not_mem_nil)⟩⟩⟩⟩⟩⟩⟩⟩⟩⟩⟩⟩⟩⟩⟩⟩⟩⟩⟩⟩⟩⟩⟩⟩⟩⟩⟩⟩⟩⟩⟩⟩⟩⟩⟩⟩⟩⟩⟩⟩⟩⟩⟩⟩⟩⟩⟩⟩⟩⟩
theorem vt_a1 : ∀ q ∈ vt_pr_1, vt_chk q = true := List.forall_mem_cons.mpr ⟨vt_o50, List.forall_mem_cons.mpr ⟨vt_o51, List.forall_mem_cons.mpr ⟨vt_o52, List.forall_mem_cons.mpr ⟨vt_o53, List.forall_mem_cons.mpr ⟨vt_o54, List.forall_mem_cons.mpr ⟨vt_o55, List.forall_mem_cons.mpr ⟨vt_o56, List.forall_mem_cons.mpr ⟨vt_o57, List.forall_mem_cons.mpr ⟨vt_o58, List.forall_mem_cons.mpr ⟨vt_o59, List.forall_mem_cons.mpr ⟨vt_o60, List.forall_mem_cons.mpr ⟨vt_o61, List.forall_mem_cons.mpr ⟨vt_o62, List.forall_mem_cons.mpr ⟨vt_o63, List.forall_mem_cons.mpr ⟨vt_o64, List.forall_mem_cons.mpr ⟨vt_o65, List.forall_mem_cons.mpr ⟨vt_o66, List.forall_mem_cons.mpr ⟨vt_o67, List.forall_mem_cons.mpr ⟨vt_o68, List.forall_mem_cons.mpr ⟨vt_o69, List.forall_mem_cons.mpr ⟨vt_o70, List.forall_mem_cons.mpr ⟨vt_o71, List.forall_mem_cons.mpr ⟨vt_o72, List.forall_mem_cons.mpr ⟨vt_o73, List.forall_mem_cons.mpr ⟨vt_o74, List.forall_mem_cons.mpr ⟨vt_o75, List.forall_mem_cons.mpr ⟨vt_o76, List.forall_mem_cons.mpr ⟨vt_o77, List.forall_mem_cons.mpr ⟨vt_o78, List.forall_mem_cons.mpr ⟨vt_o79, List.forall_mem_cons.mpr ⟨vt_o80, List.forall_mem_cons.mpr ⟨vt_o81, List.forall_mem_cons.mpr ⟨vt_o82, List.forall_mem_cons.mpr ⟨vt_o83, List.forall_mem_cons.mpr ⟨vt_o84, List.forall_mem_cons.mpr ⟨vt_o85, List.forall_mem_cons.mpr ⟨vt_o86, List.forall_mem_cons.mpr ⟨vt_o87, List.forall_mem_cons.mpr ⟨vt_o88, List.forall_mem_cons.mpr ⟨vt_o89, List.forall_mem_cons.mpr ⟨vt_o90, List.forall_mem_cons.mpr ⟨vt_o91, List.forall_mem_cons.mpr ⟨vt_o92, List.forall_mem_cons.mpr ⟨vt_o93, List.forall_mem_cons.mpr ⟨vt_o94, List.forall_mem_cons.mpr ⟨vt_o95, List.forall_mem_cons.mpr ⟨vt_o96, List.forall_mem_cons.mpr ⟨vt_o97, List.forall_mem_cons.mpr ⟨vt_o98, List.forall_mem_cons.mpr ⟨vt_o99, (fun _ h => absurd h List.not_mem_nil)⟩⟩⟩⟩⟩⟩⟩⟩⟩⟩⟩⟩⟩⟩⟩⟩⟩⟩⟩⟩⟩⟩⟩⟩⟩⟩⟩⟩⟩⟩⟩⟩⟩⟩⟩⟩⟩⟩⟩⟩⟩⟩⟩⟩⟩⟩⟩⟩⟩⟩
theorem vt_a2 : ∀ q ∈ vt_pr_2, vt_chk q = true := List.forall_mem_cons.mpr ⟨vt_o100, List.forall_mem_cons.mpr ⟨vt_o101, List.forall_mem_cons.mpr ⟨vt_o102, List.forall_mem_cons.mpr ⟨vt_o103, List.forall_mem_cons.mpr ⟨vt_o104, List.forall_mem_cons.mpr ⟨vt_o105, List.forall_mem_cons.mpr ⟨vt_o106, List.forall_mem_cons.mpr ⟨vt_o107, List.forall_mem_cons.mpr ⟨vt_o108, List.forall_mem_cons.mpr ⟨vt_o109, List.forall_mem_cons.mpr ⟨vt_o110, List.forall_mem_cons.mpr ⟨vt_o111, List.forall_mem_cons.mpr ⟨vt_o112, List.forall_mem_cons.mpr ⟨vt_o113, List.forall_mem_cons.mpr ⟨vt_o114, List.forall_mem_cons.mpr ⟨vt_o115, List.forall_mem_cons.mpr ⟨vt_o116, List.forall_mem_cons.mpr ⟨vt_o117, List.forall_mem_cons.mpr ⟨vt_o118, List.forall_mem_cons.mpr ⟨vt_o119, List.forall_mem_cons.mpr ⟨vt_o120, List.forall_mem_cons.mpr ⟨vt_o121, List.forall_mem_cons.mpr ⟨vt_o122, List.forall_mem_cons.mpr ⟨vt_o123, List.forall_mem_cons.mpr ⟨vt_o124, List.forall_mem_cons.mpr ⟨vt_o125, List.forall_mem_cons.mpr ⟨vt_o126, List.forall_mem_cons.mpr ⟨vt_o127, List.forall_mem_cons.mpr ⟨vt_o128, List.forall_mem_cons.mpr ⟨vt_o129, List.forall_mem_cons.mpr ⟨vt_o130, List.forall_mem_cons.mpr ⟨vt_o131, List.forall_mem_cons.mpr ⟨vt_o132, List.forall_mem_cons.mpr ⟨vt_o133, List.forall_mem_cons.mpr ⟨vt_o134, List.forall_mem_cons.mpr ⟨vt_o135, List.forall_mem_cons.mpr ⟨vt_o136, List.forall_mem_cons.mpr ⟨vt_o137, List.forall_mem_cons.mpr ⟨vt_o138, List.forall_mem_cons.mpr ⟨vt_o139, List.forall_mem_cons.mpr ⟨vt_o140, List.forall_mem_cons.mpr ⟨vt_o141, List.forall_mem_cons.mpr ⟨vt_o142, List.forall_mem_cons.mpr ⟨vt_o143, List.forall_mem_cons.mpr ⟨vt_o144, List.forall_mem_cons.mpr ⟨vt_o145, List.forall_mem_cons.mpr ⟨vt_o146, List.forall_mem_cons.mpr ⟨vt_o147, List.forall_mem_cons.mpr ⟨vt_o148, List.forall_mem_cons.mpr ⟨vt_o149, (fun _ h => absurd h List.not_mem_nil)⟩⟩⟩⟩⟩⟩⟩⟩⟩⟩⟩⟩⟩⟩⟩⟩⟩⟩⟩⟩⟩⟩⟩⟩⟩⟩⟩⟩⟩⟩⟩⟩⟩⟩⟩⟩⟩⟩⟩⟩⟩⟩⟩⟩⟩⟩⟩⟩⟩⟩
theorem vt_a3 : ∀ q ∈ vt_pr_3, vt_chk q = true := List.forall_mem_cons.mpr ⟨vt_o150, List.forall_mem_cons.mpr ⟨vt_o151, List.forall_mem_cons.mpr ⟨vt_o152, List.forall_mem_cons.mpr ⟨vt_o153, List.forall_mem_cons.mpr ⟨vt_o154, List.forall_mem_cons.mpr ⟨vt_o155, List.forall_mem_cons.mpr ⟨vt_o156, List.forall_mem_cons.mpr ⟨vt_o157, List.forall_mem_cons.mpr ⟨vt_o158, List.forall_mem_cons.mpr ⟨vt_o159, List.forall_mem_cons.mpr ⟨vt_o160, List.forall_mem_cons.mpr ⟨vt_o161, List.forall_mem_cons.mpr ⟨vt_o162, List.forall_mem_cons.mpr ⟨vt_o163, List.forall_mem_cons.mpr ⟨vt_o164, List.forall_mem_cons.mpr ⟨vt_o165, List.forall_mem_cons.mpr ⟨vt_o166, List.forall_mem_cons.mpr ⟨vt_o167, List.forall_mem_cons.mpr ⟨vt_o168, List.forall_mem_cons.mpr ⟨vt_o169, List.forall_mem_cons.mpr ⟨vt_o170, List.forall_mem_cons.mpr ⟨vt_o171, List.forall_mem_cons.mpr ⟨vt_o172, List.forall_mem_cons.mpr ⟨vt_o173, List.forall_mem_cons.mpr ⟨vt_o174, List.forall_mem_cons.mpr ⟨vt_o175, List.forall_mem_cons.mpr ⟨vt_o176, List.forall_mem_cons.mpr ⟨vt_o177, List.forall_mem_cons.mpr ⟨vt_o178, List.forall_mem_cons.mpr ⟨vt_o179, List.forall_mem_cons.mpr ⟨vt_o180, List.forall_mem_cons.mpr ⟨vt_o181, List.forall_mem_cons.mpr ⟨vt_o182, List.forall_mem_cons.mpr ⟨vt_o183, List.forall_mem_cons.mpr ⟨vt_o184, List.forall_mem_cons.mpr ⟨vt_o185, List.forall_mem_cons.mpr ⟨vt_o186, List.forall_mem_cons.mpr ⟨vt_o187, List.forall_mem_cons.mpr ⟨vt_o188, List.forall_mem_cons.mpr ⟨vt_o189, List.forall_mem_cons.mpr ⟨vt_o190, List.forall_mem_cons.mpr ⟨vt_o191, List.forall_mem_cons.mpr ⟨vt_o192, List.forall_mem_cons.mpr ⟨vt_o193, List.forall_mem_cons.mpr ⟨vt_o194, List.forall_mem_cons.mpr ⟨vt_o195, List.forall_mem_cons.mpr ⟨vt_o196, List.forall_mem_cons.mpr ⟨vt_o197, List.forall_mem_cons.mpr ⟨vt_o198, List.forall_mem_cons.mpr ⟨vt_o199, (fun _ h => absurd h List.not_mem_nil)⟩⟩⟩⟩⟩⟩⟩⟩⟩⟩⟩⟩⟩⟩⟩⟩⟩⟩⟩⟩⟩⟩⟩⟩⟩⟩⟩⟩⟩⟩⟩⟩⟩⟩⟩⟩⟩⟩⟩⟩⟩⟩⟩⟩⟩⟩⟩⟩⟩⟩
theorem vt_a4 : ∀ q ∈ vt_pr_4, vt_chk q = true := List.forall_mem_cons.mpr ⟨vt_o200, List.forall_mem_cons.mpr ⟨vt_o201, List.forall_mem_cons.mpr ⟨vt_o202, List.forall_mem_cons.mpr ⟨vt_o203, List.forall_mem_cons.mpr ⟨vt_o204, List.forall_mem_cons.mpr ⟨vt_o205, List.forall_mem_cons.mpr ⟨vt_o206, List.forall_mem_cons.mpr ⟨vt_o207, List.forall_mem_cons.mpr ⟨vt_o208, List.forall_mem_cons.mpr ⟨vt_o209, List.forall_mem_cons.mpr ⟨vt_o210, List.forall_mem_cons.mpr ⟨vt_o211, List.forall_mem_cons.mpr ⟨vt_o212, List.forall_mem_cons.mpr ⟨vt_o213, List.forall_mem_cons.mpr ⟨vt_o214, List.forall_mem_cons.mpr ⟨vt_o215, List.forall_mem_cons.mpr ⟨vt_o216, List.forall_mem_cons.mpr ⟨vt_o217, List.forall_mem_cons.mpr ⟨vt_o218, List.forall_mem_cons.mpr ⟨vt_o219, List.forall_mem_cons.mpr ⟨vt_o220, List.forall_mem_cons.mpr ⟨vt_o221, List.forall_mem_cons.mpr ⟨vt_o222, List.forall_mem_cons.mpr ⟨vt_o223, List.forall_mem_cons.mpr ⟨vt_o224, List.forall_mem_cons.mpr ⟨vt_o225, List.forall_mem_cons.mpr ⟨vt_o226, List.forall_mem_cons.mpr ⟨vt_o227, List.forall_mem_cons.mpr ⟨vt_o228, List.forall_mem_cons.mpr ⟨vt_o229, List.forall_mem_cons.mpr ⟨vt_o230, List.forall_mem_cons.mpr ⟨vt_o231, List.forall_mem_cons.mpr ⟨vt_o232, List.forall_mem_cons.mpr ⟨vt_o233, List.forall_mem_cons.mpr ⟨vt_o234, List.forall_mem_cons.mpr ⟨vt_o235, List.forall_mem_cons.mpr ⟨vt_o236, List.forall_mem_cons.mpr ⟨vt_o237, List.forall_mem_cons.mpr ⟨vt_o238, List.forall_mem_cons.mpr ⟨vt_o239, List.forall_mem_cons.mpr ⟨vt_o240, List.forall_mem_cons.mpr ⟨vt_o241, List.forall_mem_cons.mpr ⟨vt_o242, List.forall_mem_cons.mpr ⟨vt_o243, List.forall_mem_cons.mpr ⟨vt_o244, List.forall_mem_cons.mpr ⟨vt_o245, List.forall_mem_cons.mpr ⟨vt_o246, List.forall_mem_cons.mpr ⟨vt_o247, List.forall_mem_cons.mpr ⟨vt_o248, List.forall_mem_cons.mpr ⟨vt_o249, (fun _ h => absurd h List.not_mem_nil)⟩⟩⟩⟩⟩⟩⟩⟩⟩⟩⟩⟩⟩⟩⟩⟩⟩⟩⟩⟩⟩⟩⟩⟩⟩⟩⟩⟩⟩⟩⟩⟩⟩⟩⟩⟩⟩⟩⟩⟩⟩⟩⟩⟩⟩⟩⟩⟩⟩⟩
theorem vt_a5 : ∀ q ∈ vt_pr_5, vt_chk q = true := List.forall_mem_cons.mpr ⟨vt_o250, List.forall_mem_cons.mpr ⟨vt_o251, List.forall_mem_cons.mpr ⟨vt_o252, List.forall_mem_cons.mpr ⟨vt_o253, List.forall_mem_cons.mpr ⟨vt_o254, List.forall_mem_cons.mpr ⟨vt_o255, List.forall_mem_cons.mpr ⟨vt_o256, List.forall_mem_cons.mpr ⟨vt_o257, List.forall_mem_cons.mpr ⟨vt_o258, List.forall_mem_cons.mpr ⟨vt_o259, List.forall_mem_cons.mpr ⟨vt_o260, List.forall_mem_cons.mpr ⟨vt_o261, List.forall_mem_cons.mpr ⟨vt_o262, List.forall_mem_cons.mpr ⟨vt_o263, List.forall_mem_cons.mpr ⟨vt_o264, List.forall_mem_cons.mpr ⟨vt_o265, List.forall_mem_cons.mpr ⟨vt_o266, List.forall_mem_cons.mpr ⟨vt_o267, List.forall_mem_cons.mpr ⟨vt_o268, List.forall_mem_cons.mpr ⟨vt_o269, List.forall_mem_cons.mpr ⟨vt_o270, List.forall_mem_cons.mpr ⟨vt_o271, List.forall_mem_cons.mpr ⟨vt_o272, List.forall_mem_cons.mpr ⟨vt_o273, List.forall_mem_cons.mpr ⟨vt_o274, List.forall_mem_cons.mpr ⟨vt_o275, List.forall_mem_cons.mpr ⟨vt_o276, List.forall_mem_cons.mpr ⟨vt_o277, List.forall_mem_cons.mpr ⟨vt_o278, List.forall_mem_cons.mpr ⟨vt_o279, List.forall_mem_cons.mpr ⟨vt_o280, List.forall_mem_cons.mpr ⟨vt_o281, List.forall_mem_cons.mpr ⟨vt_o282, List.forall_mem_cons.mpr ⟨vt_o283, List.forall_mem_cons.mpr ⟨vt_o284, List.forall_mem_cons.mpr ⟨vt_o285, List.forall_mem_cons.mpr ⟨vt_o286, List.forall_mem_cons.mpr ⟨vt_o287, List.forall_mem_cons.mpr ⟨vt_o288, List.forall_mem_cons.mpr ⟨vt_o289, List.forall_mem_cons.mpr ⟨vt_o290, List.forall_mem_cons.mpr ⟨vt_o291, List.forall_mem_cons.mpr ⟨vt_o292, List.forall_mem_cons.mpr ⟨vt_o293, List.forall_mem_cons.mpr ⟨vt_o294, List.forall_mem_cons.mpr ⟨vt_o295, List.forall_mem_cons.mpr ⟨vt_o296, List.forall_mem_cons.mpr ⟨vt_o297, List.forall_mem_cons.mpr ⟨vt_o298, List.forall_mem_cons.mpr ⟨vt_o299, (fun _ h => absurd h List.not_mem_nil)⟩⟩⟩⟩⟩⟩⟩⟩⟩⟩⟩⟩⟩⟩⟩⟩⟩⟩⟩⟩⟩⟩⟩⟩⟩⟩⟩⟩⟩⟩⟩⟩⟩⟩⟩⟩⟩⟩⟩⟩⟩⟩⟩⟩⟩⟩⟩⟩⟩⟩
theorem vt_all : ∀ q ∈ vt_pr, vt_chk q = true := (List.forall_mem_append.mpr ⟨vt_a0, (List.forall_mem_append.mpr ⟨vt_a1, (List.forall_mem_append.mpr ⟨vt_a2, (List.forall_mem_append.mpr ⟨vt_a3, (List.forall_mem_append.mpr ⟨vt_a4, vt_a5⟩)⟩)⟩)⟩)⟩)
end
section
/-! part 16: ip_OK of the claim's tables -/
theorem vt_lO : vt_oc.length = 300 := by decide +kernel
theorem vt_lJ : vt_ji.length = 300 := by decide +kernel
theorem vt_lP : vt_pr.length = 300 := by decide +kernel
theorem vt_lC : vt_cl.length = 16 := by decide +kernel
theorem vt_d {α : Type} {l : List α} {d : α} {y n : Nat} (hl : l.length = n) (h : n ≤ y) : l.getD y d = d := by
  rw [List.getD_eq_getElem?_getD, List.getElem?_eq_none (by omega)]
  rfl
theorem vt_O_of {y : Nat} (hy : y < 300) : vt_O y < 13 ∧ (vt_N y).cls = vt_c (vt_O y) := by
  have h := List.all_eq_true.mp vt_kO y (List.mem_range.mpr hy)
  simp only [Bool.and_eq_true, decide_eq_true_eq, beq_iff_eq] at h
  exact h
theorem vt_O_big {y : Nat} (hy : ¬ y < 300) : vt_O y = 99 := vt_d vt_lO (by omega)
theorem vt_ow {α : Type} {L : List (List (Nat × α))} (hL : L.length = 13) {y k : Nat} {v : α} (h : ip_lk (L.getD (vt_O y) []) k = some v) : vt_O y < 13 ∧ y < 300 ∧ (vt_N y).cls = vt_c (vt_O y) ∧ (k, v) ∈ L.getD (vt_O y) [] := by
  by_cases hy : y < 300
  · obtain ⟨h1, h2⟩ := vt_O_of hy
    exact ⟨h1, hy, h2, ip_lk_mem _ _ _ h⟩
  · rw [vt_O_big hy, vt_d hL (by omega)] at h
    simp [ip_lk] at h
theorem vt_ctc {ci : Nat} (h : ci < 16) : vt_cl[ci]? = some (vt_ct ci) := by
  have hl : ci < vt_cl.length := by rw [vt_lC]; exact h
  unfold vt_ct
  rw [List.getD_eq_getElem?_getD, List.getElem?_eq_getElem hl]
  rfl
theorem vt_ctd {ci : Nat} {r : vw_C} (h : vt_cl[ci]? = some r) : vt_ct ci = r := by
  unfold vt_ct
  rw [List.getD_eq_getElem?_getD, h]
  rfl
section VTK
variable {P : Nat → List Value → ip_W → Option (Option Value × ip_W)} {X : List Cond}
theorem vt_ok2 (y pc : Nat) (i : Instr) (n : Nat) (h : tI (vt_tb P) y pc = some (i, n)) : decode (vt_B y) pc = .ok (i, n) ∧ (n = ip_ln i ∨ ip_sw i = true) := by
  have hm : (pc, (i, n)) ∈ (vt_pr.getD y (⟨#[]⟩, [])).2 := ip_lk_mem _ _ _ h
  have hc : vt_chk (vt_pr.getD y (⟨#[]⟩, [])) = true := vt_getD (P := fun q => vt_chk q = true) vt_all rfl y
  have h1 := List.all_eq_true.mp hc _ hm
  dsimp only at h1
  unfold vt_B
  split at h1
  · rename_i x hx
    simp only [Bool.and_eq_true, decide_eq_true_eq, Bool.or_eq_true, beq_iff_eq] at h1
    rw [hx, h1.1]
    exact ⟨rfl, h1.2⟩
  · cases h1
theorem vt_ok3 (y k ci j : Nat) (h : tF (vt_tb P) y k = some (ci, j)) : ∃ (C : String) (T : u_T) (N : Nat), vt_cl[ci]? = some (C, T, N) ∧ j < N ∧ Cond.fieldLink (vt_N y).cls k (T j).1 (T j).2.1 (T j).2.2.1 ∈ vt_Ts X := by
  obtain ⟨ho, hy, hcls, hm⟩ := vt_ow (L := vt_FL) (by decide +kernel) h
  have h1 := List.all_eq_true.mp (List.all_eq_true.mp vt_kF _ (List.mem_range.mpr ho)) _ hm
  simp only [Bool.and_eq_true, decide_eq_true_eq] at h1
  refine ⟨(vt_ct ci).1, (vt_ct ci).2.1, (vt_ct ci).2.2, vt_ctc h1.1, h1.2, vt_iF ?_⟩
  rw [hcls]
  exact List.mem_flatMap.mpr ⟨vt_O y, List.mem_range.mpr ho, List.mem_map.mpr ⟨(k, (ci, j)), hm, rfl⟩⟩
theorem vt_ok4 (ci : Nat) (C : String) (T : u_T) (N : Nat) (h : vt_cl[ci]? = some (C, T, N)) : ip_Fok (vt_Ts X) C T N := by
  have hm : (C, T, N) ∈ vt_cl := List.mem_of_getElem? h
  have h1 := List.all_eq_true.mp vt_kC _ hm
  unfold vt_cchk at h1
  rw [Bool.and_eq_true] at h1
  refine ⟨fun w hw => vt_iU (List.mem_flatMap.mpr ⟨(C, T, N), hm, hw⟩), fun a ha b hb hab => ?_, fun k => (parseFieldDescriptor (T k).2.2.1).getD .int, fun k hk => ?_⟩
  · have h2 := List.all_eq_true.mp (List.all_eq_true.mp h1.1 a (List.mem_range.mpr ha)) b (List.mem_range.mpr hb)
    simp only [Bool.or_eq_true, beq_iff_eq, bne_iff_ne] at h2
    exact h2.resolve_left hab
  · have h2 := List.all_eq_true.mp h1.2 k (List.mem_range.mpr hk)
    cases hp : parseFieldDescriptor (T k).2.2.1 with
    | none => rw [hp] at h2; cases h2
    | some ty => simp [hp]
theorem vt_ok5 (ci j tc : Nat) (fin : Bool) (C : String) (T : u_T) (N : Nat) (h : tFt (vt_tb P) ci j = some (tc, fin)) (hc : vt_cl[ci]? = some (C, T, N)) (hj : j < N) : (T j).2.2.2 = fin ∧ ∃ ty, parseFieldDescriptor (T j).2.2.1 = some ty ∧ ip_ty tc ty := by
  have h : vt_Ft ci j = some (tc, fin) := h
  unfold vt_Ft at h
  rw [hc] at h
  dsimp only at h
  rw [if_pos hj] at h
  split at h
  · rename_i hp
    cases h
    exact ⟨rfl, _, hp, Or.inl ⟨rfl, rfl⟩⟩
  · rename_i hp
    cases h
    exact ⟨rfl, _, hp, Or.inr (Or.inl ⟨rfl, rfl⟩)⟩
  · rename_i hp
    cases h
    exact ⟨rfl, _, hp, Or.inr (Or.inr (Or.inl ⟨rfl, rfl⟩))⟩
  · rename_i hp
    cases h
    exact ⟨rfl, _, hp, Or.inr (Or.inr (Or.inr ⟨rfl, Or.inl ⟨_, rfl⟩⟩))⟩
  · rename_i hp
    cases h
    exact ⟨rfl, _, hp, Or.inr (Or.inr (Or.inr ⟨rfl, Or.inr ⟨_, rfl⟩⟩))⟩
  · cases h
theorem vt_ok6 (y ci : Nat) (C : String) (T : u_T) (N : Nat) (h : tJ (vt_tb P) y = some ci) (hc : vt_cl[ci]? = some (C, T, N)) : (vt_N y).name = "<init>" ∧ ∀ j, j < N → (T j).1 = (vt_N y).cls := by
  have h : vt_ji.getD y none = some ci := h
  by_cases hy : y < 300
  · have h1 := List.all_eq_true.mp vt_kJ y (List.mem_range.mpr hy)
    rw [h] at h1
    simp only [Bool.and_eq_true, beq_iff_eq] at h1
    obtain ⟨ho, hcls⟩ := vt_O_of hy
    refine ⟨h1.1, fun j hj => ?_⟩
    have hct := vt_ctd hc
    have h2 := List.all_eq_true.mp (List.all_eq_true.mp vt_kJ2 _ (List.mem_range.mpr ho)) j (by rw [← h1.2, hct]; exact List.mem_range.mpr hj)
    rw [← h1.2, hct] at h2
    simp only [beq_iff_eq] at h2
    rw [hcls, ← h1.2]
    exact h2
  · rw [vt_d vt_lJ (by omega)] at h
    cases h
theorem vt_ok7 (y k : Nat) (v : Value) (h : tC (vt_tb P) y k = some v) : ip_Cok (vt_Ts X) (vt_N y).cls k v := by
  obtain ⟨ho, hy, hcls, hm⟩ := vt_ow (L := vt_CL) (by decide +kernel) h
  have h1 := List.all_eq_true.mp (List.all_eq_true.mp vt_kV _ (List.mem_range.mpr ho)) _ hm
  have hw : ∀ x ∈ vt_wv (vt_O y) (k, v), x ∈ vt_Ts X := fun x hx => vt_iV (List.mem_flatMap.mpr ⟨vt_O y, List.mem_range.mpr ho, List.mem_flatMap.mpr ⟨(k, v), hm, hx⟩⟩)
  rw [hcls]
  cases v with
  | int x => exact Or.inl ⟨x, rfl, hw _ List.mem_cons_self⟩
  | long x => exact Or.inr (Or.inl ⟨x, rfl, hw _ List.mem_cons_self⟩)
  | retAddr j => exact Or.inr (Or.inr ⟨j, rfl⟩)
  | _ => cases h1
theorem vt_lm {y pc : Nat} {i : Instr} {n : Nat} (h : tI (vt_tb P) y pc = some (i, n)) : y < 300 ∧ vt_lchk y = true ∧ (pc, (i, n)) ∈ (vt_pr.getD y (⟨#[]⟩, [])).2 := by
  have hm : (pc, (i, n)) ∈ (vt_pr.getD y (⟨#[]⟩, [])).2 := ip_lk_mem _ _ _ h
  by_cases hy : y < 300
  · exact ⟨hy, List.all_eq_true.mp vt_kL y (List.mem_range.mpr hy), hm⟩
  · rw [vt_d vt_lP (by omega)] at hm
    cases hm
theorem vt_ok8 (y pc k n : Nat) (h : tI (vt_tb P) y pc = some (.ldc k, n) ∨ tI (vt_tb P) y pc = some (.ldc_w k, n)) (x : Int64) : tC (vt_tb P) y k ≠ some (.long x) := by
  intro hx
  have hx : ip_lk (vt_CL.getD (vt_O y) []) k = some (.long x) := hx
  rcases h with h | h
  all_goals
    obtain ⟨hy, hc, hm⟩ := vt_lm h
    have h1 := List.all_eq_true.mp hc _ hm
    dsimp only at h1
    rw [hx] at h1
    cases h1
theorem vt_ok9 (y pc k n : Nat) (h : tI (vt_tb P) y pc = some (.ldc2_w k, n)) : ∃ x, tC (vt_tb P) y k = some (.long x) ∧ Cond.constantLong (vt_N y).cls k x ∈ vt_Ts X := by
  obtain ⟨hy, hc, hm⟩ := vt_lm h
  have h1 := List.all_eq_true.mp hc _ hm
  dsimp only at h1
  split at h1
  · rename_i x hx
    have hx : tC (vt_tb P) y k = some (.long x) := hx
    refine ⟨x, hx, ?_⟩
    rcases vt_ok7 (X := X) y k _ hx with ⟨z, hz, -⟩ | ⟨z, hz, hw⟩ | ⟨j, hz⟩
    · cases hz
    · cases hz
      exact hw
    · cases hz
  · cases h1
theorem vt_ok12 (y pc k n : Nat) (h : tI (vt_tb P) y pc = some (.anewarray k, n)) : Cond.classLink (vt_N y).cls k "VitalTwin$Symbol" ∈ vt_Ts X := by
  obtain ⟨hy, hc, hm⟩ := vt_lm h
  have h1 := List.all_eq_true.mp hc _ hm
  dsimp only at h1
  have h2 : (vt_O y, k) ∈ vt_AN := List.contains_iff_mem.mp h1
  rw [(vt_O_of hy).2]
  exact vt_iA (List.mem_append_right _ (List.mem_map.mpr ⟨(vt_O y, k), h2, rfl⟩))
theorem vt_ok10 (b : Nat) (sc : Nat → Nat) (y k ci : Nat) (fs : List Value) (h : tN (vt_tb P) y k = some (ci, fs)) : ∃ (C : String) (T : u_T) (N : Nat) (ty : Nat → FieldType), vt_cl[ci]? = some (C, T, N) ∧ Cond.classLink (vt_N y).cls k C ∈ vt_Ts X ∧ Cond.instantiable C N ∈ vt_Ts X ∧ Cond.initialized C ∈ vt_Ts X ∧ N = fs.length ∧ (∀ k, k < N → parseFieldDescriptor (T k).2.2.1 = some (ty k)) ∧ ∀ j, j < N → defaultValue (ty j) = vp_V (fs.map (ip_v b sc)) j := by
  obtain ⟨ho, hy, hcls, hm⟩ := vt_ow (L := vt_NL) (by decide +kernel) h
  have h1 := List.all_eq_true.mp (List.all_eq_true.mp vt_kN _ (List.mem_range.mpr ho)) _ hm
  unfold vt_nchk at h1
  simp only [Bool.and_eq_true, decide_eq_true_eq, beq_iff_eq] at h1
  obtain ⟨⟨⟨h2, h3⟩, h4⟩, h5⟩ := h1
  have hw : ∀ x ∈ ([.classLink (vt_c (vt_O y)) k (vt_ct ci).1, .instantiable (vt_ct ci).1 (vt_ct ci).2.2, .initialized (vt_ct ci).1] : List Cond), x ∈ vt_Ts X := fun x hx => vt_iN (List.mem_flatMap.mpr ⟨vt_O y, List.mem_range.mpr ho, List.mem_flatMap.mpr ⟨(k, (ci, fs)), hm, hx⟩⟩)
  have hmap : fs.map (ip_v b sc) = fs := by
    have h7 : fs.map (ip_v b sc) = fs.map id := List.map_congr_left (fun v hv => by
      have h6 := List.all_eq_true.mp h4 v hv
      cases v <;> first | rfl | cases h6)
    rw [h7, List.map_id]
  have hcl := vt_ctc h2
  obtain ⟨-, -, ty0, hty0⟩ := vt_ok4 (X := X) ci (vt_ct ci).1 (vt_ct ci).2.1 (vt_ct ci).2.2 hcl
  refine ⟨(vt_ct ci).1, (vt_ct ci).2.1, (vt_ct ci).2.2, fun k => (parseFieldDescriptor ((vt_ct ci).2.1 k).2.2.1).getD .int, hcl, by rw [hcls]; exact hw _ List.mem_cons_self, hw _ (List.mem_cons_of_mem _ List.mem_cons_self), hw _ (List.mem_cons_of_mem _ (List.mem_cons_of_mem _ List.mem_cons_self)), h3.symm, fun k hk => by simp [hty0 k hk], fun j hj => ?_⟩
  rw [hmap]
  have h6 := List.all_eq_true.mp h5 j (List.mem_range.mpr (by rw [h3]; exact hj))
  simpa using h6
theorem vt_zok {z n : Nat} (h : vt_zchk z n = true) : ip_Zok (vt_tb P) (vt_Ts X) vt_N vt_B vt_R z n := by
  unfold vt_zchk at h
  simp only [Bool.and_eq_true, decide_eq_true_eq] at h
  obtain ⟨⟨⟨⟨⟨h1, h2⟩, h3⟩, h4⟩, h5⟩, h6⟩ := h
  refine ⟨vt_iK (List.mem_map.mpr ⟨z, List.mem_range.mpr h1, rfl⟩), h2, h3, h4, h5, ?_⟩
  show ip_rc (vt_rc.getD z 0) (vt_R z)
  split at h6
  all_goals rename_i hR
  · exact Or.inl ⟨by simpa using h6, hR⟩
  · exact Or.inr (Or.inl ⟨by simpa using h6, hR⟩)
  · exact Or.inr (Or.inr (Or.inl ⟨by simpa using h6, hR⟩))
  · exact Or.inr (Or.inr (Or.inr (Or.inl ⟨by simpa using h6, hR⟩)))
  · exact Or.inr (Or.inr (Or.inr (Or.inr ⟨by simpa using h6, _, hR, Or.inl ⟨_, rfl⟩⟩)))
  · exact Or.inr (Or.inr (Or.inr (Or.inr ⟨by simpa using h6, _, hR, Or.inr ⟨_, rfl⟩⟩)))
  · cases h6
theorem vt_ok15 (y k z n kc ci : Nat) (h : tM (vt_tb P) y k = some (z, n, kc, ci)) : ip_Mok (vt_tb P) (vt_Ts X) vt_cl vt_N vt_B vt_R y k z n kc ci := by
  obtain ⟨ho, hy, hcls, hm⟩ := vt_ow (L := vt_ML) (by decide +kernel) h
  have h1 := List.all_eq_true.mp (List.all_eq_true.mp vt_kM _ (List.mem_range.mpr ho)) _ hm
  unfold vt_mchk at h1
  dsimp only at h1
  have hw : ∀ x ∈ vt_wc (vt_O y) (k, (z, n, kc, ci)), x ∈ vt_Ts X := fun x hx => vt_iM (List.mem_flatMap.mpr ⟨vt_O y, List.mem_range.mpr ho, List.mem_flatMap.mpr ⟨_, hm, hx⟩⟩)
  unfold vt_wc at hw
  dsimp only at hw
  refine ⟨fun hk => ?_, fun hk => ?_, fun hk => ?_, fun hk => ?_⟩
  · subst hk
    rw [if_pos (by decide)] at h1
    simp only [Bool.and_eq_true] at h1
    rw [if_pos rfl] at hw
    rw [hcls]
    exact ⟨vt_zok h1.1.1, hw _ List.mem_cons_self, hw _ (List.mem_cons_of_mem _ List.mem_cons_self), hw _ (List.mem_cons_of_mem _ (List.mem_cons_of_mem _ List.mem_cons_self))⟩
  · subst hk
    rw [if_pos (by decide)] at h1
    simp only [Bool.and_eq_true] at h1
    have h2 : ci < 16 := by simpa using h1.1.2
    rw [if_neg (by decide), if_pos rfl] at hw
    rw [hcls]
    exact ⟨vt_zok h1.1.1, hw _ List.mem_cons_self, hw _ (List.mem_cons_of_mem _ List.mem_cons_self), vt_ct ci, vt_ctc h2, hw _ (List.mem_cons_of_mem _ (List.mem_cons_of_mem _ List.mem_cons_self))⟩
  · subst hk
    rw [if_pos (by decide)] at h1
    simp only [Bool.and_eq_true] at h1
    have h2 : (vt_N z).name = "<init>" ∧ vt_R z = none := by simpa using h1.2
    rw [if_neg (by decide), if_neg (by decide), if_pos rfl] at hw
    rw [hcls]
    refine ⟨vt_zok h1.1.1, ?_, hw _ (List.mem_cons_of_mem _ List.mem_cons_self), h2.1, h2.2⟩
    have h3 := hw _ List.mem_cons_self
    unfold vt_ln at h3
    split at h3
    · exact Or.inr ⟨_, h3⟩
    · exact Or.inl h3
  · subst hk
    rw [if_neg (by decide), if_neg (by decide), if_neg (by decide), if_pos rfl] at hw
    rw [hcls]
    exact ⟨hw _ List.mem_cons_self, hw _ (List.mem_cons_of_mem _ List.mem_cons_self), hw _ (List.mem_cons_of_mem _ (List.mem_cons_of_mem _ List.mem_cons_self))⟩
/-- THE TABLES ARE RIGHT -/
theorem vt_OK (hX : ∀ w ∈ X, ip_gw w = true) (b : Nat) (sc : Nat → Nat) : ip_OK (vt_tb P) (vt_Ts X) vt_cl b sc vt_N vt_B vt_R :=
  ⟨vt_good hX, vt_ok2, vt_ok3, vt_ok4, vt_ok5, vt_ok6, vt_ok7, vt_ok8, vt_ok9, vt_ok10 b sc,
    ⟨vt_iA (by decide +kernel), vt_iA (by decide +kernel), vt_iA (by decide +kernel), vt_iA (by decide +kernel)⟩, vt_ok12, vt_iA (by decide +kernel), ⟨vt_ct 11, vt_ctc (by decide), rfl⟩, vt_ok15⟩
end VTK
end
