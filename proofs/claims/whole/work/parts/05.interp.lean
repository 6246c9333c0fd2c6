/-! part 05: the pure interpreter: one simple step, and the run of a method -/
def ip_tg (pc : Nat) (off : Int) : Option Nat := if 0 ≤ (pc : Int) + off then some ((pc : Int) + off).toNat else none
def ip_b1 (c : ClassFile.Cond) (x : Int32) (t f : Nat) : Nat := match c with
  | .eq => if x = 0 then t else f
  | .ne => if x ≠ 0 then t else f
  | .lt => if x < 0 then t else f
  | .ge => if 0 ≤ x then t else f
  | .gt => if 0 < x then t else f
  | .le => if x ≤ 0 then t else f
def ip_b2 (c : ClassFile.Cond) (x y : Int32) (t f : Nat) : Nat := match c with
  | .eq => if x = y then t else f
  | .ne => if x ≠ y then t else f
  | .lt => if x < y then t else f
  | .ge => if y ≤ x then t else f
  | .gt => if y < x then t else f
  | .le => if x ≤ y then t else f
def ip_isR (v : Value) : Bool := match v with
  | .ref _ => true
  | .retAddr _ => true
  | .null => true
  | _ => false
/-- a field's type: 0 int, 1 long, 2 boolean, 3 a reference -/
def ip_fok (tc : Nat) (v : Value) : Bool := match v with
  | .int x => tc == 0 || (tc == 2 && (x == 0 || x == 1))
  | .long _ => tc == 1
  | .ref _ => tc == 3
  | .retAddr _ => tc == 3
  | .null => tc == 3
  | _ => false
def ip_in (i : Int32) (n : Nat) : Bool := decide (¬ i < 0) && decide (i.toNatClampNeg < n)
/-- the tables of one method: fields (class, place), their types and finality, constants, classes that it makes (number, fields at first) -/
abbrev ip_R : Type := Nat × List (Nat × Value) × List Value × ip_W
def ip_atk (t : ArrayType) : Option (Nat × ip_A × Nat) := match t with
  | .int => some (0, .inl (fun _ => 0), 4)
  | .byte => some (1, .inl (fun _ => 0), 1)
  | .long => some (2, .inr (.inl (fun _ => 0)), 8)
  | .boolean => some (3, .inl (fun _ => 0), 1)
  | _ => none
def ip_st (Fd : Nat → Option (Nat × Nat)) (Ft : Nat → Nat → Option (Nat × Bool)) (Cn : Nat → Option Value) (Nw : Nat → Option (Nat × List Value)) (nL : Nat) (ini : Option Nat) (i : Instr) (pc : Nat) (lo : List (Nat × Value)) (st : List Value) (w : ip_W) : Option ip_R := match i with
  | .iconst k => some (pc + 1, lo, .int (Int32.ofInt k) :: st, w)
  | .bipush k => some (pc + 2, lo, .int (Int8.ofInt k).toInt32 :: st, w)
  | .sipush k => some (pc + 3, lo, .int (Int16.ofInt k).toInt32 :: st, w)
  | .lconst k => some (pc + 1, lo, .long (Int64.ofNat (k : Nat)) :: st, w)
  | .aconst_null => some (pc + 1, lo, .null :: st, w)
  | .iload_n k => (match ip_get lo k with
    | some (.int x) => some (pc + 1, lo, .int x :: st, w)
    | _ => none)
  | .iload k => (match ip_get lo k with
    | some (.int x) => some (pc + 2, lo, .int x :: st, w)
    | _ => none)
  | .lload_n k => (match ip_get lo k with
    | some (.long x) => some (pc + 1, lo, .long x :: st, w)
    | _ => none)
  | .lload k => (match ip_get lo k with
    | some (.long x) => some (pc + 2, lo, .long x :: st, w)
    | _ => none)
  | .aload_n k => (match ip_get lo k with
    | some x => if ip_isR x = true then some (pc + 1, lo, x :: st, w) else none
    | none => none)
  | .aload k => (match ip_get lo k with
    | some x => if ip_isR x = true then some (pc + 2, lo, x :: st, w) else none
    | none => none)
  | .istore_n k => (match st with
    | .int x :: r => if (k : Nat) < nL then some (pc + 1, ip_set1 lo k (.int x), r, w) else none
    | _ => none)
  | .istore k => (match st with
    | .int x :: r => if (k : Nat) < nL then some (pc + 2, ip_set1 lo k (.int x), r, w) else none
    | _ => none)
  | .lstore_n k => (match st with
    | .long x :: r => if (k : Nat) + 1 < nL then some (pc + 1, ip_set2 lo k (.long x), r, w) else none
    | _ => none)
  | .lstore k => (match st with
    | .long x :: r => if (k : Nat) + 1 < nL then some (pc + 2, ip_set2 lo k (.long x), r, w) else none
    | _ => none)
  | .astore_n k => (match st with
    | x :: r => if (k : Nat) < nL ∧ ip_isR x = true then some (pc + 1, ip_set1 lo k x, r, w) else none
    | _ => none)
  | .astore k => (match st with
    | x :: r => if (k : Nat) < nL ∧ ip_isR x = true then some (pc + 2, ip_set1 lo k x, r, w) else none
    | _ => none)
  | .iinc k z => (match ip_get lo k with
    | some (.int x) => if k < nL then some (pc + 3, ip_set1 lo k (.int (x + Int32.ofInt z)), st, w) else none
    | _ => none)
  | .iadd => (match st with
    | .int y :: .int x :: r => some (pc + 1, lo, .int (x + y) :: r, w)
    | _ => none)
  | .isub => (match st with
    | .int y :: .int x :: r => some (pc + 1, lo, .int (x - y) :: r, w)
    | _ => none)
  | .imul => (match st with
    | .int y :: .int x :: r => some (pc + 1, lo, .int (x * y) :: r, w)
    | _ => none)
  | .iand => (match st with
    | .int y :: .int x :: r => some (pc + 1, lo, .int (x &&& y) :: r, w)
    | _ => none)
  | .ixor => (match st with
    | .int y :: .int x :: r => some (pc + 1, lo, .int (x ^^^ y) :: r, w)
    | _ => none)
  | .ladd => (match st with
    | .long y :: .long x :: r => some (pc + 1, lo, .long (x + y) :: r, w)
    | _ => none)
  | .lsub => (match st with
    | .long y :: .long x :: r => some (pc + 1, lo, .long (x - y) :: r, w)
    | _ => none)
  | .lmul => (match st with
    | .long y :: .long x :: r => some (pc + 1, lo, .long (x * y) :: r, w)
    | _ => none)
  | .land => (match st with
    | .long y :: .long x :: r => some (pc + 1, lo, .long (x &&& y) :: r, w)
    | _ => none)
  | .lor => (match st with
    | .long y :: .long x :: r => some (pc + 1, lo, .long (x ||| y) :: r, w)
    | _ => none)
  | .lxor => (match st with
    | .long y :: .long x :: r => some (pc + 1, lo, .long (x ^^^ y) :: r, w)
    | _ => none)
  | .idiv => (match st with
    | .int y :: .int x :: r => if ¬ y = 0 then some (pc + 1, lo, .int (x / y) :: r, w) else none
    | _ => none)
  | .irem => (match st with
    | .int y :: .int x :: r => if ¬ y = 0 then some (pc + 1, lo, .int (x - x / y * y) :: r, w) else none
    | _ => none)
  | .ldiv => (match st with
    | .long y :: .long x :: r => if ¬ y = 0 then some (pc + 1, lo, .long (x / y) :: r, w) else none
    | _ => none)
  | .lrem => (match st with
    | .long y :: .long x :: r => if ¬ y = 0 then some (pc + 1, lo, .long (x - x / y * y) :: r, w) else none
    | _ => none)
  | .ineg => (match st with
    | .int x :: r => some (pc + 1, lo, .int (-x) :: r, w)
    | _ => none)
  | .lneg => (match st with
    | .long x :: r => some (pc + 1, lo, .long (-x) :: r, w)
    | _ => none)
  | .i2l => (match st with
    | .int x :: r => some (pc + 1, lo, .long (x.toInt64) :: r, w)
    | _ => none)
  | .l2i => (match st with
    | .long x :: r => some (pc + 1, lo, .int (x.toInt32) :: r, w)
    | _ => none)
  | .i2b => (match st with
    | .int x :: r => some (pc + 1, lo, .int (x.toInt8.toInt32) :: r, w)
    | _ => none)
  | .i2c => (match st with
    | .int x :: r => some (pc + 1, lo, .int ((x.toUInt32 % 65536).toInt32) :: r, w)
    | _ => none)
  | .lshl => (match st with
    | .int y :: .long x :: r => some (pc + 1, lo, .long (x <<< (y.toInt64 &&& 63)) :: r, w)
    | _ => none)
  | .lshr => (match st with
    | .int y :: .long x :: r => some (pc + 1, lo, .long (x >>> (y.toInt64 &&& 63)) :: r, w)
    | _ => none)
  | .lushr => (match st with
    | .int y :: .long x :: r => some (pc + 1, lo, .long ((x.toUInt64 >>> (y.toInt64.toUInt64 &&& Int64.toUInt64 63)).toInt64) :: r, w)
    | _ => none)
  | .lcmp => (match st with
    | .long y :: .long x :: r => some (pc + 1, lo, .int (lg_cmp x y) :: r, w)
    | _ => none)
  | .dup => (match st with
    | v :: r => if v.category = 1 then some (pc + 1, lo, v :: v :: r, w) else none
    | _ => none)
  | .pop => (match st with
    | v :: r => if v.category = 1 then some (pc + 1, lo, r, w) else none
    | _ => none)
  | .dup2 => (match st with
    | v :: r => if v.category = 2 then some (pc + 1, lo, v :: v :: r, w) else (match r with
      | u :: r2 => if v.category = 1 ∧ u.category = 1 then some (pc + 1, lo, v :: u :: v :: u :: r2, w) else none
      | _ => none)
    | _ => none)
  | .ifCond c off => (match st with
    | .int x :: r => (match ip_tg pc off with
      | some t => some (ip_b1 c x t (pc + 3), lo, r, w)
      | none => none)
    | _ => none)
  | .if_icmp c off => (match st with
    | .int y :: .int x :: r => (match ip_tg pc off with
      | some t => some (ip_b2 c x y t (pc + 3), lo, r, w)
      | none => none)
    | _ => none)
  | .goto off => (match ip_tg pc off with
    | some t => some (t, lo, st, w)
    | none => none)
  | .ifnull off => (match st with
    | .ref _ :: r => some (pc + 3, lo, r, w)
    | .null :: r => (match ip_tg pc off with
      | some t => some (t, lo, r, w)
      | none => none)
    | _ => none)
  | .ifnonnull off => (match st with
    | .null :: r => some (pc + 3, lo, r, w)
    | .ref _ :: r => (match ip_tg pc off with
      | some t => some (t, lo, r, w)
      | none => none)
    | _ => none)
  | .lookupswitch d ps => (match st with
    | .int x :: r => if (ps.toList.zip (ps.toList.drop 1)).all (fun (a, next) => a.1 < next.1) = true then (match ip_tg pc (Op.lookupswitch.offset ps.toList d x.toInt) with
      | some t => some (t, lo, r, w)
      | none => none) else none
    | _ => none)
  | .tableswitch d lw hi offs => (match st with
    | .int x :: r => if x.toInt < lw ∨ hi < x.toInt then (match ip_tg pc d with
      | some t => some (t, lo, r, w)
      | none => none) else (match offs[(x.toInt - lw).toNat]? with
      | some off => (match ip_tg pc off with
        | some t => some (t, lo, r, w)
        | none => none)
      | none => none)
    | _ => none)
  | .ldc k => (match Cn k with
    | some v => some (pc + 2, lo, v :: st, w)
    | none => none)
  | .ldc_w k => (match Cn k with
    | some v => some (pc + 3, lo, v :: st, w)
    | none => none)
  | .ldc2_w k => (match Cn k with
    | some v => some (pc + 3, lo, v :: st, w)
    | none => none)
  | .getfield k => (match st with
    | .ref a :: r => (match Fd k, w.2.2 a with
      | some (ci, j), some (.inr (ci2, fs)) => if ci = ci2 then (match fs[j]? with
        | some v => some (pc + 3, lo, v :: r, w)
        | none => none) else none
      | _, _ => none)
    | _ => none)
  | .putfield k => (match st with
    | v :: .ref a :: r => (match Fd k, w.2.2 a with
      | some (ci, j), some (.inr (ci2, fs)) => (match Ft ci j with
        | some (tc, fin) => if ci = ci2 ∧ ip_fok tc v = true ∧ j < fs.length ∧ (fin = true → ini = some ci) then some (pc + 3, lo, r, (w.1, w.2.1, va_up w.2.2 a (some (.inr (ci, fs.set j v))))) else none
        | none => none)
      | _, _ => none)
    | _ => none)
  | .arraylength => (match st with
    | .ref a :: r => (match w.2.2 a with
      | some (.inl (kd, n, _)) => if kd < 5 then some (pc + 1, lo, .int (Int32.ofNat n) :: r, w) else none
      | _ => none)
    | _ => none)
  | .iaload => (match st with
    | .int i :: .ref a :: r => (match w.2.2 a with
      | some (.inl (0, n, .inl f)) => if ip_in i n = true then some (pc + 1, lo, .int (f i.toNatClampNeg) :: r, w) else none
      | _ => none)
    | _ => none)
  | .baload => (match st with
    | .int i :: .ref a :: r => (match w.2.2 a with
      | some (.inl (1, n, .inl f)) => if ip_in i n = true then some (pc + 1, lo, .int (f i.toNatClampNeg) :: r, w) else none
      | some (.inl (3, n, .inl f)) => if ip_in i n = true then some (pc + 1, lo, .int (f i.toNatClampNeg) :: r, w) else none
      | _ => none)
    | _ => none)
  | .laload => (match st with
    | .int i :: .ref a :: r => (match w.2.2 a with
      | some (.inl (2, n, .inr (.inl f))) => if ip_in i n = true then some (pc + 1, lo, .long (f i.toNatClampNeg) :: r, w) else none
      | _ => none)
    | _ => none)
  | .aaload => (match st with
    | .int i :: .ref a :: r => (match w.2.2 a with
      | some (.inl (4, n, .inr (.inr f))) => if ip_in i n = true then some (pc + 1, lo, ip_r (f i.toNatClampNeg) :: r, w) else none
      | _ => none)
    | _ => none)
  | .iastore => (match st with
    | .int x :: .int i :: .ref a :: r => (match w.2.2 a with
      | some (.inl (0, n, .inl f)) => if ip_in i n = true then some (pc + 1, lo, r, (w.1, w.2.1, va_up w.2.2 a (some (.inl (0, n, .inl (upd f i.toNatClampNeg x)))))) else none
      | _ => none)
    | _ => none)
  | .bastore => (match st with
    | .int x :: .int i :: .ref a :: r => (match w.2.2 a with
      | some (.inl (1, n, .inl f)) => if ip_in i n = true then some (pc + 1, lo, r, (w.1, w.2.1, va_up w.2.2 a (some (.inl (1, n, .inl (upd f i.toNatClampNeg (vp_nar .byte x))))))) else none
      | some (.inl (3, n, .inl f)) => if ip_in i n = true then some (pc + 1, lo, r, (w.1, w.2.1, va_up w.2.2 a (some (.inl (3, n, .inl (upd f i.toNatClampNeg (vp_nar .boolean x))))))) else none
      | _ => none)
    | _ => none)
  | .lastore => (match st with
    | .long x :: .int i :: .ref a :: r => (match w.2.2 a with
      | some (.inl (2, n, .inr (.inl f))) => if ip_in i n = true then some (pc + 1, lo, r, (w.1, w.2.1, va_up w.2.2 a (some (.inl (2, n, .inr (.inl (vp_updL f i.toNatClampNeg x))))))) else none
      | _ => none)
    | _ => none)
  | .aastore => (match st with
    | .ref v :: .int i :: .ref a :: r => (match w.2.2 a, w.2.2 v with
      | some (.inl (4, n, .inr (.inr f))), some (.inr (11, _)) => if ip_in i n = true then some (pc + 1, lo, r, (w.1, w.2.1, va_up w.2.2 a (some (.inl (4, n, .inr (.inr (va_up f i.toNatClampNeg (some v)))))))) else none
      | _, _ => none)
    | _ => none)
  | .new k => (match Nw k with
    | some (ci, fs) => some (pc + 3, lo, .ref w.1 :: st, (w.1 + 1, w.2.1 + fs.length, va_up w.2.2 w.1 (some (.inr (ci, fs)))))
    | none => none)
  | .newarray t => (match st with
    | .int n :: r => (match ip_atk t with
      | some (kd, x0, _) => if ¬ n < 0 ∧ n.toNatClampNeg ≤ 1000000 then some (pc + 2, lo, .ref w.1 :: r, (w.1 + 1, w.2.1 + n.toNatClampNeg, va_up w.2.2 w.1 (some (.inl (kd, n.toNatClampNeg, x0))))) else none
      | none => none)
    | _ => none)
  | .anewarray _ => (match st with
    | .int n :: r => if ¬ n < 0 ∧ n.toNatClampNeg ≤ 1000000 then some (pc + 3, lo, .ref w.1 :: r, (w.1 + 1, w.2.1 + n.toNatClampNeg, va_up w.2.2 w.1 (some (.inl (4, n.toNatClampNeg, .inr (.inr (fun _ => none))))))) else none
    | _ => none)
  | _ => none
