/-! part 00: lengths of instructions, the check of a list of instructions (stands first, so that the printed lists behind it needn't compile again) -/
def ip_ln (i : Instr) : Nat := match i with
  | .bipush _ => 2
  | .iload _ => 2
  | .lload _ => 2
  | .aload _ => 2
  | .istore _ => 2
  | .lstore _ => 2
  | .astore _ => 2
  | .ldc _ => 2
  | .newarray _ => 2
  | .sipush _ => 3
  | .getfield _ => 3
  | .putfield _ => 3
  | .ifCond _ _ => 3
  | .if_icmp _ _ => 3
  | .ifnull _ => 3
  | .ifnonnull _ => 3
  | .goto _ => 3
  | .invokevirtual _ => 3
  | .invokestatic _ => 3
  | .invokespecial _ => 3
  | .new _ => 3
  | .anewarray _ => 3
  | .iinc _ _ => 3
  | .ldc_w _ => 3
  | .ldc2_w _ => 3
  | _ => 1
def ip_sw (i : Instr) : Bool := match i with
  | .lookupswitch _ _ => true
  | .tableswitch _ _ _ _ => true
  | _ => false
/-- a method's instructions are what its bytes decode to -/
def vt_chk (q : ByteArray × List (Nat × Instr × Nat)) : Bool := q.2.all (fun r => match decode q.1 r.1 with
  | .ok x => decide (x = (r.2.1, r.2.2)) && (r.2.2 == ip_ln r.2.1 || ip_sw r.2.1)
  | .error _ => false)
theorem vt_app {b : ByteArray} {l1 l2 : List (Nat × Instr × Nat)} (h1 : vt_chk (b, l1) = true) (h2 : vt_chk (b, l2) = true) : vt_chk (b, l1 ++ l2) = true := by
  unfold vt_chk at h1 h2 ⊢
  rw [List.all_append, h1, h2]
  rfl
