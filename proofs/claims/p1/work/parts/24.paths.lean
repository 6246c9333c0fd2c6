/-! part 24: runs along a path: worlds as lists, choices at branches given ahead, what must hold of numbers collected: so that a path is a computation -/
abbrev il_W : Type := List ip_E × Nat
def il_w (v : il_W) : ip_W := (v.1.length, v.2, fun q => v.1[q]?)
/-- pc, locals, stack, world, choices left, what must hold -/
abbrev il_R : Type := Nat × List (Nat × Value) × List Value × il_W × List Nat × List Prop
def il_c1 (c : ClassFile.Cond) (x : Int32) : Prop := match c with
  | .eq => x = 0
  | .ne => x ≠ 0
  | .lt => x < 0
  | .ge => 0 ≤ x
  | .gt => 0 < x
  | .le => x ≤ 0
def il_c2 (c : ClassFile.Cond) (x y : Int32) : Prop := match c with
  | .eq => x = y
  | .ne => x ≠ y
  | .lt => x < y
  | .ge => y ≤ x
  | .gt => y < x
  | .le => x ≤ y
theorem il_b1 (c : ClassFile.Cond) (x : Int32) (t f : Nat) : (il_c1 c x → ip_b1 c x t f = t) ∧ (¬ il_c1 c x → ip_b1 c x t f = f) := by
  cases c <;> exact ⟨fun h => if_pos h, fun h => if_neg h⟩
theorem il_b2 (c : ClassFile.Cond) (x y : Int32) (t f : Nat) : (il_c2 c x y → ip_b2 c x y t f = t) ∧ (¬ il_c2 c x y → ip_b2 c x y t f = f) := by
  cases c <;> exact ⟨fun h => if_pos h, fun h => if_neg h⟩
/-- a simple step; choices: a branch 0 not taken, 1 taken; a switch 0 default, k + 1 its row k -/
def il_st (Fd : Nat → Option (Nat × Nat)) (Ft : Nat → Nat → Option (Nat × Bool)) (Cn : Nat → Option Value) (Nw : Nat → Option (Nat × List Value)) (nL : Nat) (ini : Option Nat) (Ro : Nat → Option (Nat × Nat × (Nat → Int32))) (i : Instr) (pc : Nat) (lo : List (Nat × Value)) (st : List Value) (v : il_W) (bs : List Nat) (cs : List Prop) : Option il_R := match i with
  | .ifCond c off => (match st, bs with
    | .int x :: r, 0 :: bs => some (pc + 3, lo, r, v, bs, (¬ il_c1 c x ∧ (ip_tg pc off).isSome = true) :: cs)
    | .int x :: r, _ :: bs => (match ip_tg pc off with
      | some t => some (t, lo, r, v, bs, il_c1 c x :: cs)
      | none => none)
    | _, _ => none)
  | .if_icmp c off => (match st, bs with
    | .int y :: .int x :: r, 0 :: bs => some (pc + 3, lo, r, v, bs, (¬ il_c2 c x y ∧ (ip_tg pc off).isSome = true) :: cs)
    | .int y :: .int x :: r, _ :: bs => (match ip_tg pc off with
      | some t => some (t, lo, r, v, bs, il_c2 c x y :: cs)
      | none => none)
    | _, _ => none)
  | .lookupswitch d ps => (match st, bs with
    | .int x :: r, k :: bs => if (ps.toList.zip (ps.toList.drop 1)).all (fun (a, next) => a.1 < next.1) = true then (match k with
      | 0 => (match ip_tg pc d with
        | some t => some (t, lo, r, v, bs, (Op.lookupswitch.offset ps.toList d x.toInt = d) :: cs)
        | none => none)
      | k + 1 => (match ps.toList[k]? with
        | some q => (match ip_tg pc q.2 with
          | some t => some (t, lo, r, v, bs, (Op.lookupswitch.offset ps.toList d x.toInt = q.2) :: cs)
          | none => none)
        | none => none)) else none
    | _, _ => none)
  | .tableswitch d lw hi offs => (match st, bs with
    | .int x :: r, 0 :: bs => (match ip_tg pc d with
      | some t => some (t, lo, r, v, bs, (x.toInt < lw ∨ hi < x.toInt) :: cs)
      | none => none)
    | .int x :: r, (k + 1) :: bs => (match offs.toList[k]? with
      | some off => (match ip_tg pc off with
        | some t => some (t, lo, r, v, bs, (x.toInt = lw + k ∧ lw + k ≤ hi) :: cs)
        | none => none)
      | none => none)
    | _, _ => none)
  | .idiv => (match st with
    | .int y :: .int x :: r => some (pc + 1, lo, .int (x / y) :: r, v, bs, (¬ y = 0) :: cs)
    | _ => none)
  | .irem => (match st with
    | .int y :: .int x :: r => some (pc + 1, lo, .int (x - x / y * y) :: r, v, bs, (¬ y = 0) :: cs)
    | _ => none)
  | .ldiv => (match st with
    | .long y :: .long x :: r => some (pc + 1, lo, .long (x / y) :: r, v, bs, (¬ y = 0) :: cs)
    | _ => none)
  | .lrem => (match st with
    | .long y :: .long x :: r => some (pc + 1, lo, .long (x - x / y * y) :: r, v, bs, (¬ y = 0) :: cs)
    | _ => none)
  | .getfield k => (match st with
    | .ref a :: r => (match Fd k, v.1[a]? with
      | some (ci, j), some (.inr (ci2, fs)) => if ci = ci2 then (match fs[j]? with
        | some x => some (pc + 3, lo, x :: r, v, bs, cs)
        | none => none) else none
      | _, _ => none)
    | _ => none)
  | .putfield k => (match st with
    | x :: .ref a :: r => (match Fd k, v.1[a]? with
      | some (ci, j), some (.inr (ci2, fs)) => (match Ft ci j with
        | some (tc, fin) => if ci = ci2 ∧ j < fs.length ∧ (fin = true → ini = some ci) then some (pc + 3, lo, r, (v.1.set a (.inr (ci, fs.set j x)), v.2), bs, (ip_fok tc x = true) :: cs) else none
        | none => none)
      | _, _ => none)
    | _ => none)
  | .arraylength => (match st with
    | .ref a :: r => (match v.1[a]? with
      | some (.inl (kd, n, _)) => if kd < 5 then some (pc + 1, lo, .int (Int32.ofNat n) :: r, v, bs, cs) else none
      | _ => none)
    | .retAddr j :: r => (match Ro j with
      | some (_, n, _) => some (pc + 1, lo, .int (Int32.ofNat n) :: r, v, bs, cs)
      | none => none)
    | _ => none)
  | .iaload => (match st with
    | .int i :: .ref a :: r => (match v.1[a]? with
      | some (.inl (0, n, .inl f)) => some (pc + 1, lo, .int (f i.toNatClampNeg) :: r, v, bs, (ip_in i n = true) :: cs)
      | _ => none)
    | .int i :: .retAddr j :: r => (match Ro j with
      | some (0, n, f) => some (pc + 1, lo, .int (f i.toNatClampNeg) :: r, v, bs, (ip_in i n = true) :: cs)
      | _ => none)
    | _ => none)
  | .baload => (match st with
    | .int i :: .ref a :: r => (match v.1[a]? with
      | some (.inl (1, n, .inl f)) => some (pc + 1, lo, .int (f i.toNatClampNeg) :: r, v, bs, (ip_in i n = true) :: cs)
      | some (.inl (3, n, .inl f)) => some (pc + 1, lo, .int (f i.toNatClampNeg) :: r, v, bs, (ip_in i n = true) :: cs)
      | _ => none)
    | _ => none)
  | .laload => (match st with
    | .int i :: .ref a :: r => (match v.1[a]? with
      | some (.inl (2, n, .inr (.inl f))) => some (pc + 1, lo, .long (f i.toNatClampNeg) :: r, v, bs, (ip_in i n = true) :: cs)
      | _ => none)
    | _ => none)
  | .aaload => (match st with
    | .int i :: .ref a :: r => (match v.1[a]? with
      | some (.inl (4, n, .inr (.inr f))) => some (pc + 1, lo, ip_r (f i.toNatClampNeg) :: r, v, bs, (ip_in i n = true) :: cs)
      | _ => none)
    | _ => none)
  | .iastore => (match st with
    | .int x :: .int i :: .ref a :: r => (match v.1[a]? with
      | some (.inl (0, n, .inl f)) => some (pc + 1, lo, r, (v.1.set a (.inl (0, n, .inl (upd f i.toNatClampNeg x))), v.2), bs, (ip_in i n = true) :: cs)
      | _ => none)
    | _ => none)
  | .bastore => (match st with
    | .int x :: .int i :: .ref a :: r => (match v.1[a]? with
      | some (.inl (1, n, .inl f)) => some (pc + 1, lo, r, (v.1.set a (.inl (1, n, .inl (upd f i.toNatClampNeg (vp_nar .byte x)))), v.2), bs, (ip_in i n = true) :: cs)
      | some (.inl (3, n, .inl f)) => some (pc + 1, lo, r, (v.1.set a (.inl (3, n, .inl (upd f i.toNatClampNeg (vp_nar .boolean x)))), v.2), bs, (ip_in i n = true) :: cs)
      | _ => none)
    | _ => none)
  | .lastore => (match st with
    | .long x :: .int i :: .ref a :: r => (match v.1[a]? with
      | some (.inl (2, n, .inr (.inl f))) => some (pc + 1, lo, r, (v.1.set a (.inl (2, n, .inr (.inl (vp_updL f i.toNatClampNeg x)))), v.2), bs, (ip_in i n = true) :: cs)
      | _ => none)
    | _ => none)
  | .aastore => (match st with
    | .ref x :: .int i :: .ref a :: r => (match v.1[a]?, v.1[x]? with
      | some (.inl (4, n, .inr (.inr f))), some (.inr (11, _)) => some (pc + 1, lo, r, (v.1.set a (.inl (4, n, .inr (.inr (va_up f i.toNatClampNeg (some x))))), v.2), bs, (ip_in i n = true) :: cs)
      | _, _ => none)
    | _ => none)
  | .new k => (match Nw k with
    | some (ci, fs) => some (pc + 3, lo, .ref v.1.length :: st, (v.1 ++ [.inr (ci, fs)], v.2 + fs.length), bs, cs)
    | none => none)
  | .newarray t => (match st with
    | .int n :: r => (match ip_atk t with
      | some (kd, x0, _) => some (pc + 2, lo, .ref v.1.length :: r, (v.1 ++ [.inl (kd, n.toNatClampNeg, x0)], v.2 + n.toNatClampNeg), bs, (¬ n < 0 ∧ n.toNatClampNeg ≤ 1000000) :: cs)
      | none => none)
    | _ => none)
  | .anewarray _ => (match st with
    | .int n :: r => some (pc + 3, lo, .ref v.1.length :: r, (v.1 ++ [.inl (4, n.toNatClampNeg, .inr (.inr (fun _ => none)))], v.2 + n.toNatClampNeg), bs, (¬ n < 0 ∧ n.toNatClampNeg ≤ 1000000) :: cs)
    | _ => none)
  | i => (match ip_st Fd Ft Cn Nw nL ini i pc lo st (0, 0, fun _ => none) with
    | some r => some (r.1, r.2.1, r.2.2.1, v, bs, cs)
    | none => none)
/-- a library member -/
def il_P (z : Nat) (av : List Value) (v : il_W) : Option (Option Value × il_W × Prop) := match z, av with
  | 0, [.int x, .int y] => some (some (.int (if y < x then y else x)), v, True)
  | 1, [.int x, .int y] => some (some (.int (if x < y then y else x)), v, True)
  | 2, [.int x] => some (some (.int (if 0 ≤ x then x else 0 - x)), v, True)
  | 3, [.long x, .long y] => some (some (.long (if y < x then y else x)), v, True)
  | 4, [.long x, .long y] => some (some (.long (if y < x then x else y)), v, True)
  | 5, [.long x] => some (some (.long (if 0 < x then x else -x)), v, True)
  | 6, [.ref a0, .int sp, .ref a1, .int dp, .int n] => (match v.1[a0]?, v.1[a1]? with
    | some (.inl (0, m0, .inl f)), some (.inl (0, m1, .inl g)) => some (none, (v.1.set a1 (.inl (0, m1, .inl (va_cpy f g sp.toNatClampNeg dp.toNatClampNeg n.toNatClampNeg))), v.2), (¬ sp < 0 ∧ ¬ dp < 0 ∧ ¬ n < 0) ∧ sp.toNatClampNeg + n.toNatClampNeg ≤ m0 ∧ dp.toNatClampNeg + n.toNatClampNeg ≤ m1)
    | some (.inl (2, m0, .inr (.inl f))), some (.inl (2, m1, .inr (.inl g))) => some (none, (v.1.set a1 (.inl (2, m1, .inr (.inl (va_cpy f g sp.toNatClampNeg dp.toNatClampNeg n.toNatClampNeg)))), v.2), (¬ sp < 0 ∧ ¬ dp < 0 ∧ ¬ n < 0) ∧ sp.toNatClampNeg + n.toNatClampNeg ≤ m0 ∧ dp.toNatClampNeg + n.toNatClampNeg ≤ m1)
    | _, _ => none)
  | _, _ => none
def il_end (rc : Nat) (i : Instr) (st : List Value) : Option (Outcome × Prop) := match i with
  | .ireturn => (match st with
    | [.int x] => if rc = 1 then some (.returned (some (.int x)), True) else if rc = 2 then some (.returned (some (.int x)), x = 0 ∨ x = 1) else none
    | _ => none)
  | .lreturn => (match st with
    | [.long x] => if rc = 3 then some (.returned (some (.long x)), True) else none
    | _ => none)
  | .areturn => (match st with
    | [.ref a] => if rc = 4 then some (.returned (some (.ref a)), True) else none
    | [.null] => if rc = 4 then some (.returned (some .null), True) else none
    | _ => none)
  | .return_ => (match st with
    | [] => if rc = 0 then some (.returned none, True) else none
    | _ => none)
  | _ => none
def il_ex (tb : ip_TB) : Nat → Nat → Nat → Nat → List (Nat × Value) → List Value → il_W → List Nat → List Prop → Option (Outcome × il_W × List Nat × List Prop)
  | 0, _, _, _, _, _, _, _, _ => none
  | f + 1, d, y, pc, lo, st, v, bs, cs => match tI tb y pc with
    | none => none
    | some (i, _) => if ip_ck i = 0 then (match ip_tw (tN tb y) i with
        | some ci => if 6 ≤ d ∧ (tH tb y).isEmpty = true ∧ (st.map fun v => v.category).sum ≤ 8 then some (.threw v.1.length, (v.1 ++ [.inr (ci + 3, [])], v.2 + 6), bs, cs) else none
        | none => (match il_st (tF tb y) (tFt tb) (tC tb y) (tN tb y) (tL tb y) (tJ tb y) (tO tb) i pc lo st v bs cs with
          | some r => il_ex tb f d y r.1 r.2.1 r.2.2.1 r.2.2.2.1 r.2.2.2.2.1 r.2.2.2.2.2
          | none => none))
      else if ip_ck i = 2 then (match il_end (tR tb y) i st with
        | some r => some (r.1, v, bs, r.2 :: cs)
        | none => none)
      else (match ip_ci i with
        | none => none
        | some (kc, k) => (match tM tb y k with
          | none => none
          | some (z, n, kc2, ci) => if kc2 = 3 then (match st with
              | .ref _ :: r => if kc = 2 ∧ 1 ≤ d ∧ (r.map fun v => v.category).sum ≤ 8 then il_ex tb f d y (pc + 3) lo r v bs cs else none
              | _ => none)
            else if kc2 = kc then (match ip_arg kc n ci st (il_w v) with
              | none => none
              | some (av, rest) => if 1 ≤ d ∧ (rest.map fun v => v.category).sum ≤ 8 ∧ (lg_sl av).length ≤ tL tb z then (match il_ex tb f (d - 1) z 0 (lv_args 0 av) [] v bs cs with
                | some (.returned x, v2, bs2, cs2) => il_ex tb f d y (pc + 3) lo (x.toList ++ rest) v2 bs2 cs2
                | some (.threw a, v2, bs2, cs2) => if (tH tb y).isEmpty = true then some (.threw a, v2, bs2, cs2) else (match ip_hd (tX tb y pc) (il_w v2) a with
                  | some h => il_ex tb f d y h lo [.ref a] v2 bs2 cs2
                  | none => none)
                | none => none) else none)
            else if kc2 = kc + 4 then (match ip_argP kc n st with
              | none => none
              | some (av, rest) => if 4 ≤ d ∧ (rest.map fun v => v.category).sum ≤ 8 then (match il_P z av v with
                | some (x, v2, c) => il_ex tb f d y (pc + 3) lo (x.toList ++ rest) v2 bs (c :: cs)
                | none => none) else none)
            else none))
/-- n steps of a method -/
def il_go (tb : ip_TB) (F d y : Nat) : Nat → Nat → List (Nat × Value) → List Value → il_W → List Nat → List Prop → Option il_R
  | 0, pc, lo, st, v, bs, cs => some (pc, lo, st, v, bs, cs)
  | n + 1, pc, lo, st, v, bs, cs => match tI tb y pc with
    | none => none
    | some (i, _) => if ip_ck i = 0 then (match ip_tw (tN tb y) i with
        | some _ => none
        | none => (match il_st (tF tb y) (tFt tb) (tC tb y) (tN tb y) (tL tb y) (tJ tb y) (tO tb) i pc lo st v bs cs with
          | some r => il_go tb F d y n r.1 r.2.1 r.2.2.1 r.2.2.2.1 r.2.2.2.2.1 r.2.2.2.2.2
          | none => none))
      else if ip_ck i = 2 then none
      else (match ip_ci i with
        | none => none
        | some (kc, k) => (match tM tb y k with
          | none => none
          | some (z, m, kc2, ci) => if kc2 = 3 then (match st with
              | .ref _ :: r => if kc = 2 ∧ 1 ≤ d ∧ (r.map fun v => v.category).sum ≤ 8 then il_go tb F d y n (pc + 3) lo r v bs cs else none
              | _ => none)
            else if kc2 = kc then (match ip_arg kc m ci st (il_w v) with
              | none => none
              | some (av, rest) => if 1 ≤ d ∧ (rest.map fun v => v.category).sum ≤ 8 ∧ (lg_sl av).length ≤ tL tb z then (match il_ex tb F (d - 1) z 0 (lv_args 0 av) [] v bs cs with
                | some (.returned x, v2, bs2, cs2) => il_go tb F d y n (pc + 3) lo (x.toList ++ rest) v2 bs2 cs2
                | some (.threw a, v2, bs2, cs2) => if (tH tb y).isEmpty = true then none else (match ip_hd (tX tb y pc) (il_w v2) a with
                  | some h => il_go tb F d y n h lo [.ref a] v2 bs2 cs2
                  | none => none)
                | none => none) else none)
            else if kc2 = kc + 4 then (match ip_argP kc m st with
              | none => none
              | some (av, rest) => if 4 ≤ d ∧ (rest.map fun v => v.category).sum ≤ 8 then (match il_P z av v with
                | some (x, v2, c) => il_go tb F d y n (pc + 3) lo (x.toList ++ rest) v2 bs (c :: cs)
                | none => none) else none)
            else none))
