/-! part 28: the run with symbols -/
/-- pc, locals, stack, world, places to go at branches, the next number, what is asked -/
abbrev sx_R : Type := Nat × List (Nat × sx_v) × List sx_v × sx_W × List Nat × Nat × List sx_c
def sx_i0 : Instr := .nop
/-- is an index in? none: no; some true: yes; some false: it is asked -/
def sx_inb (x : sx_v) (n : Nat ⊕ sx_v) : Option Bool := match x, n with
  | .inl (.int x), .inl n => if ip_in x n = true then some true else none
  | x, _ => if sx_isI x = true then some false else none
def sx_ask (b : Bool) (c : sx_c) (cs : List sx_c) : List sx_c := if b = true then cs else c :: cs
def sx_kok (a : sx_a) (v : sx_v) : Bool := if a.1 = 2 then sx_isL v else sx_isI v
/-- an element of an array of ints (kinds 0, 1, 3) or of longs (2): the value, the next number, what is asked -/
def sx_elt (a : sx_a) (x : sx_v) (k : Nat) (cs : List sx_c) : sx_v × Nat × List sx_c :=
  match x with
  | .inl (.int y) => (match sx_find a.2.2.2 y.toNatClampNeg with
    | some (some v) => if sx_kok a v = true then (v, k, cs) else (.inr (decide (a.1 = 2), k), k + 1, (2, sx_i0, 0, [x], 0, [.inr (decide (a.1 = 2), k)], a) :: cs)
    | some none => if a.2.2.1 = 0 then (.inl (if a.1 = 2 then .long 0 else .int 0), k, cs) else (.inr (decide (a.1 = 2), k), k + 1, (2, sx_i0, 0, [x], 0, [.inr (decide (a.1 = 2), k)], a) :: cs)
    | none => (.inr (decide (a.1 = 2), k), k + 1, (2, sx_i0, 0, [x], 0, [.inr (decide (a.1 = 2), k)], a) :: cs))
  | _ => (.inr (decide (a.1 = 2), k), k + 1, (2, sx_i0, 0, [x], 0, [.inr (decide (a.1 = 2), k)], a) :: cs)
/-- a byte or boolean to be stored -/
def sx_nar (kd : Nat) (x : sx_v) (k : Nat) (cs : List sx_c) : sx_v × Nat × List sx_c :=
  if kd = 1 then (match x with
    | .inl (.int y) => (.inl (.int (vp_nar .byte y)), k, cs)
    | _ => (.inr (false, k), k + 1, (6, sx_i0, 0, [x], 0, [.inr (false, k)], sx_a0) :: cs))
  else if kd = 3 then (match x with
    | .inl (.int y) => (.inl (.int (vp_nar .boolean y)), k, cs)
    | _ => (.inr (false, k), k + 1, (7, sx_i0, 0, [x], 0, [.inr (false, k)], sx_a0) :: cs))
  else (x, k, cs)
def sx_len (x : sx_v) : Option (Bool × (Nat ⊕ sx_v)) := match x with
  | .inl (.int n) => if ¬ n < 0 ∧ n.toNatClampNeg ≤ 1000000 then some (true, .inl n.toNatClampNeg) else none
  | .inr (false, k) => some (false, .inr (.inr (false, k)))
  | _ => none
def sx_more (W : sx_W) (e : sx_e) (n : Nat ⊕ sx_v) : sx_W := match n with
  | .inl n => (W.1 ++ [e], W.2.1 + n, W.2.2)
  | .inr v => (W.1 ++ [e], W.2.1, v :: W.2.2)
/-- may a field of this type hold it? as sx_inb -/
def sx_fok (tc : Nat) (v : sx_v) : Option Bool := match v with
  | .inl x => if ip_fok tc x = true then some true else none
  | .inr (false, _) => if tc = 0 then some true else if tc = 2 then some false else none
  | .inr (true, _) => if tc = 1 then some true else none
def sx_st (Fd : Nat → Option (Nat × Nat)) (Ft : Nat → Nat → Option (Nat × Bool)) (Cn : Nat → Option Value) (Nw : Nat → Option (Nat × List Value)) (nL : Nat) (ini : Option Nat) (i : Instr) (pc : Nat) (lo : List (Nat × sx_v)) (st : List sx_v) (W : sx_W) (ps : List Nat) (k : Nat) (cs : List sx_c) : Option sx_R :=
  match sx_ar i with
  | some (m, kd) => if m ≤ st.length then (match sx_allc (st.take m) with
    | some cv => (match ip_st (fun _ => none) (fun _ _ => none) Cn (fun _ => none) 0 none i pc [] cv sx_w0 with
      | some q => some (q.1, lo, q.2.2.1.map .inl ++ st.drop m, W, ps, k, cs)
      | none => none)
    | none => (match kd with
      | 0 => (match ps with
        | t :: p => some (t, lo, st.drop m, W, p, k, (0, i, pc, st.take m, t, [], sx_a0) :: cs)
        | [] => none)
      | 1 => some (pc + 1, lo, .inr (false, k) :: st.drop m, W, ps, k + 1, (0, i, pc, st.take m, pc + 1, [.inr (false, k)], sx_a0) :: cs)
      | 2 => some (pc + 1, lo, .inr (true, k) :: st.drop m, W, ps, k + 1, (0, i, pc, st.take m, pc + 1, [.inr (true, k)], sx_a0) :: cs)
      | _ => none)) else none
  | none => (match i with
    | .iload_n j => (match sx_get lo j with
      | some x => if sx_isI x = true then some (pc + 1, lo, x :: st, W, ps, k, cs) else none
      | none => none)
    | .iload j => (match sx_get lo j with
      | some x => if sx_isI x = true then some (pc + 2, lo, x :: st, W, ps, k, cs) else none
      | none => none)
    | .lload_n j => (match sx_get lo j with
      | some x => if sx_isL x = true then some (pc + 1, lo, x :: st, W, ps, k, cs) else none
      | none => none)
    | .lload j => (match sx_get lo j with
      | some x => if sx_isL x = true then some (pc + 2, lo, x :: st, W, ps, k, cs) else none
      | none => none)
    | .aload_n j => (match sx_get lo j with
      | some (.inl x) => if ip_isR x = true then some (pc + 1, lo, .inl x :: st, W, ps, k, cs) else none
      | _ => none)
    | .aload j => (match sx_get lo j with
      | some (.inl x) => if ip_isR x = true then some (pc + 2, lo, .inl x :: st, W, ps, k, cs) else none
      | _ => none)
    | .istore_n j => (match st with
      | x :: r => if sx_isI x = true ∧ (j : Nat) < nL then some (pc + 1, sx_set1 lo j x, r, W, ps, k, cs) else none
      | _ => none)
    | .istore j => (match st with
      | x :: r => if sx_isI x = true ∧ j < nL then some (pc + 2, sx_set1 lo j x, r, W, ps, k, cs) else none
      | _ => none)
    | .lstore_n j => (match st with
      | x :: r => if sx_isL x = true ∧ (j : Nat) + 1 < nL then some (pc + 1, sx_set2 lo j x, r, W, ps, k, cs) else none
      | _ => none)
    | .lstore j => (match st with
      | x :: r => if sx_isL x = true ∧ j + 1 < nL then some (pc + 2, sx_set2 lo j x, r, W, ps, k, cs) else none
      | _ => none)
    | .astore_n j => (match st with
      | .inl x :: r => if (j : Nat) < nL ∧ ip_isR x = true then some (pc + 1, sx_set1 lo j (.inl x), r, W, ps, k, cs) else none
      | _ => none)
    | .astore j => (match st with
      | .inl x :: r => if j < nL ∧ ip_isR x = true then some (pc + 2, sx_set1 lo j (.inl x), r, W, ps, k, cs) else none
      | _ => none)
    | .iinc j z => (match sx_get lo j with
      | some (.inl (.int x)) => if j < nL then some (pc + 3, sx_set1 lo j (.inl (.int (x + Int32.ofInt z))), st, W, ps, k, cs) else none
      | some (.inr (false, q)) => if j < nL then some (pc + 3, sx_set1 lo j (.inr (false, k)), st, W, ps, k + 1, (0, .iadd, 0, [.inl (.int (Int32.ofInt z)), .inr (false, q)], 1, [.inr (false, k)], sx_a0) :: cs) else none
      | _ => none)
    | .dup => (match st with
      | x :: r => if sx_cat x = 1 then some (pc + 1, lo, x :: x :: r, W, ps, k, cs) else none
      | _ => none)
    | .pop => (match st with
      | x :: r => if sx_cat x = 1 then some (pc + 1, lo, r, W, ps, k, cs) else none
      | _ => none)
    | .dup2 => (match st with
      | x :: r => if sx_cat x = 2 then some (pc + 1, lo, x :: x :: r, W, ps, k, cs) else (match r with
        | y :: r2 => if sx_cat x = 1 ∧ sx_cat y = 1 then some (pc + 1, lo, x :: y :: x :: y :: r2, W, ps, k, cs) else none
        | _ => none)
      | _ => none)
    | .getfield j => (match st with
      | .inl (.ref a) :: r => (match Fd j, W.1[a]? with
        | some (ci, q), some (.inr (ci2, fs)) => if ci = ci2 then (match fs[q]? with
          | some x => some (pc + 3, lo, x :: r, W, ps, k, cs)
          | none => none) else none
        | _, _ => none)
      | _ => none)
    | .putfield j => (match st with
      | x :: .inl (.ref a) :: r => (match Fd j, W.1[a]? with
        | some (ci, q), some (.inr (ci2, fs)) => (match Ft ci q with
          | some (tc, fin) => if ci = ci2 ∧ q < fs.length ∧ (fin = true → ini = some ci) then (match sx_fok tc x with
            | some b => some (pc + 3, lo, r, (W.1.set a (.inr (ci, fs.set q x)), W.2), ps, k, sx_ask b (4, sx_i0, tc, [x], 0, [], sx_a0) cs)
            | none => none) else none
          | none => none)
        | _, _ => none)
      | _ => none)
    | .arraylength => (match st with
      | .inl (.ref a) :: r => (match W.1[a]? with
        | some (.inl e) => if e.1 < 5 then (match e.2.1 with
          | .inl n => some (pc + 1, lo, .inl (.int (Int32.ofNat n)) :: r, W, ps, k, cs)
          | .inr _ => some (pc + 1, lo, .inr (false, k) :: r, W, ps, k + 1, (14, sx_i0, 0, [], 0, [.inr (false, k)], e) :: cs)) else none
        | _ => none)
      | .inl (.retAddr 100) :: r => some (pc + 1, lo, .inr (false, 0) :: r, W, ps, k, cs)
      | _ => none)
    | .iaload => (match st with
      | x :: .inl (.ref a) :: r => (match W.1[a]? with
        | some (.inl e) => if e.1 = 0 then (match sx_inb x e.2.1 with
          | some b => some (pc + 1, lo, (sx_elt e x k (sx_ask b (1, sx_i0, 0, [x], 0, [], e) cs)).1 :: r, W, ps, (sx_elt e x k (sx_ask b (1, sx_i0, 0, [x], 0, [], e) cs)).2.1, (sx_elt e x k (sx_ask b (1, sx_i0, 0, [x], 0, [], e) cs)).2.2)
          | none => none) else none
        | _ => none)
      | x :: .inl (.retAddr 100) :: r => (match sx_inb x sx_scr.2.1 with
          | some b => some (pc + 1, lo, (sx_elt sx_scr x k (sx_ask b (1, sx_i0, 0, [x], 0, [], sx_scr) cs)).1 :: r, W, ps, (sx_elt sx_scr x k (sx_ask b (1, sx_i0, 0, [x], 0, [], sx_scr) cs)).2.1, (sx_elt sx_scr x k (sx_ask b (1, sx_i0, 0, [x], 0, [], sx_scr) cs)).2.2)
          | none => none)
      | _ => none)
    | .baload => (match st with
      | x :: .inl (.ref a) :: r => (match W.1[a]? with
        | some (.inl e) => if e.1 = 1 ∨ e.1 = 3 then (match sx_inb x e.2.1 with
          | some b => some (pc + 1, lo, (sx_elt e x k (sx_ask b (1, sx_i0, 0, [x], 0, [], e) cs)).1 :: r, W, ps, (sx_elt e x k (sx_ask b (1, sx_i0, 0, [x], 0, [], e) cs)).2.1, (sx_elt e x k (sx_ask b (1, sx_i0, 0, [x], 0, [], e) cs)).2.2)
          | none => none) else none
        | _ => none)
      | _ => none)
    | .laload => (match st with
      | x :: .inl (.ref a) :: r => (match W.1[a]? with
        | some (.inl e) => if e.1 = 2 then (match sx_inb x e.2.1 with
          | some b => some (pc + 1, lo, (sx_elt e x k (sx_ask b (1, sx_i0, 0, [x], 0, [], e) cs)).1 :: r, W, ps, (sx_elt e x k (sx_ask b (1, sx_i0, 0, [x], 0, [], e) cs)).2.1, (sx_elt e x k (sx_ask b (1, sx_i0, 0, [x], 0, [], e) cs)).2.2)
          | none => none) else none
        | _ => none)
      | _ => none)
    | .iastore => (match st with
      | x :: y :: .inl (.ref a) :: r => (match W.1[a]? with
        | some (.inl e) => if e.1 = 0 ∧ sx_isI x = true then (match sx_inb y e.2.1 with
          | some b => some (pc + 1, lo, r, (W.1.set a (.inl (e.1, e.2.1, e.2.2.1, (y, x) :: e.2.2.2)), W.2), ps, k, sx_ask b (1, sx_i0, 0, [y], 0, [], e) cs)
          | none => none) else none
        | _ => none)
      | _ => none)
    | .bastore => (match st with
      | x :: y :: .inl (.ref a) :: r => (match W.1[a]? with
        | some (.inl e) => if (e.1 = 1 ∨ e.1 = 3) ∧ sx_isI x = true then (match sx_inb y e.2.1 with
          | some b => some (pc + 1, lo, r, (W.1.set a (.inl (e.1, e.2.1, e.2.2.1, (y, (sx_nar e.1 x k (sx_ask b (1, sx_i0, 0, [y], 0, [], e) cs)).1) :: e.2.2.2)), W.2), ps, (sx_nar e.1 x k (sx_ask b (1, sx_i0, 0, [y], 0, [], e) cs)).2.1, (sx_nar e.1 x k (sx_ask b (1, sx_i0, 0, [y], 0, [], e) cs)).2.2)
          | none => none) else none
        | _ => none)
      | _ => none)
    | .lastore => (match st with
      | x :: y :: .inl (.ref a) :: r => (match W.1[a]? with
        | some (.inl e) => if e.1 = 2 ∧ sx_isL x = true then (match sx_inb y e.2.1 with
          | some b => some (pc + 1, lo, r, (W.1.set a (.inl (e.1, e.2.1, e.2.2.1, (y, x) :: e.2.2.2)), W.2), ps, k, sx_ask b (1, sx_i0, 0, [y], 0, [], e) cs)
          | none => none) else none
        | _ => none)
      | _ => none)
    | .new j => (match Nw j with
      | some (ci, fs) => some (pc + 3, lo, .inl (.ref W.1.length) :: st, (W.1 ++ [.inr (ci, fs.map .inl)], W.2.1 + fs.length, W.2.2), ps, k, cs)
      | none => none)
    | .newarray t => (match st with
      | x :: r => (match ip_atk t, sx_len x with
        | some (kd, _, _), some (b, n) => some (pc + 2, lo, .inl (.ref W.1.length) :: r, sx_more W (.inl (kd, n, 0, [])) n, ps, k, sx_ask b (3, sx_i0, 0, [x], 0, [], sx_a0) cs)
        | _, _ => none)
      | _ => none)
    | .anewarray _ => (match st with
      | x :: r => (match sx_len x with
        | some (b, n) => some (pc + 3, lo, .inl (.ref W.1.length) :: r, sx_more W (.inl (4, n, 0, [])) n, ps, k, sx_ask b (3, sx_i0, 0, [x], 0, [], sx_a0) cs)
        | none => none)
      | _ => none)
    | _ => none)
/-- a library member: the value, the next number, what is asked -/
def sx_P (z : Nat) (av : List sx_v) (k : Nat) (cs : List sx_c) : Option (sx_v × Nat × List sx_c) := match sx_allc av with
  | some cv => if z < 6 then (match vt_P z cv sx_w0 with
    | some (some x, _) => some (.inl x, k, cs)
    | _ => none) else none
  | none => (match z, av with
    | 0, [x, y] => if sx_isI x = true ∧ sx_isI y = true then some (.inr (false, k), k + 1, (8, sx_i0, 0, [x, y], 0, [.inr (false, k)], sx_a0) :: cs) else none
    | 1, [x, y] => if sx_isI x = true ∧ sx_isI y = true then some (.inr (false, k), k + 1, (9, sx_i0, 0, [x, y], 0, [.inr (false, k)], sx_a0) :: cs) else none
    | 2, [x] => if sx_isI x = true then some (.inr (false, k), k + 1, (10, sx_i0, 0, [x], 0, [.inr (false, k)], sx_a0) :: cs) else none
    | 3, [x, y] => if sx_isL x = true ∧ sx_isL y = true then some (.inr (true, k), k + 1, (11, sx_i0, 0, [x, y], 0, [.inr (true, k)], sx_a0) :: cs) else none
    | 4, [x, y] => if sx_isL x = true ∧ sx_isL y = true then some (.inr (true, k), k + 1, (12, sx_i0, 0, [x, y], 0, [.inr (true, k)], sx_a0) :: cs) else none
    | 5, [x] => if sx_isL x = true then some (.inr (true, k), k + 1, (13, sx_i0, 0, [x], 0, [.inr (true, k)], sx_a0) :: cs) else none
    | _, _ => none)
/-- an end: returned a value or none, or threw -/
abbrev sx_o : Type := Option sx_v ⊕ Nat
def sx_od (N : sx_N) (o : sx_o) : Outcome := match o with
  | .inl v => .returned (v.map (sx_d N))
  | .inr a => .threw a
def sx_end (rc : Nat) (i : Instr) (st : List sx_v) (cs : List sx_c) : Option (sx_o × List sx_c) := match i with
  | .ireturn => (match st with
    | [.inl (.int x)] => if rc = 1 ∨ (rc = 2 ∧ (x = 0 ∨ x = 1)) then some (.inl (some (.inl (.int x))), cs) else none
    | [.inr (false, k)] => if rc = 1 then some (.inl (some (.inr (false, k))), cs) else if rc = 2 then some (.inl (some (.inr (false, k))), (5, sx_i0, 0, [.inr (false, k)], 0, [], sx_a0) :: cs) else none
    | _ => none)
  | .lreturn => (match st with
    | [x] => if rc = 3 ∧ sx_isL x = true then some (.inl (some x), cs) else none
    | _ => none)
  | .areturn => (match st with
    | [.inl (.ref a)] => if rc = 4 then some (.inl (some (.inl (.ref a))), cs) else none
    | [.inl .null] => if rc = 4 then some (.inl (some (.inl .null)), cs) else none
    | _ => none)
  | .return_ => (match st with
    | [] => if rc = 0 then some (.inl none, cs) else none
    | _ => none)
  | _ => none
def sx_args (i : Nat) (av : List sx_v) : List (Nat × sx_v) := match av with
  | [] => []
  | v :: vs => (i, v) :: sx_args (if sx_cat v = 2 then i + 2 else i + 1) vs
def sx_take (n : Nat) (st : List sx_v) : Option (List sx_v × List sx_v) := if n ≤ st.length then some ((st.take n).reverse, st.drop n) else none
def sx_arg (kc n ci : Nat) (st : List sx_v) (W : sx_W) : Option (List sx_v × List sx_v) := match sx_take n st with
  | none => none
  | some (av, rest) => if kc = 0 then some (av, rest) else (match rest with
    | .inl (.ref a) :: r => if kc = 2 then some (.inl (.ref a) :: av, r) else (match W.1[a]? with
      | some (.inr (cj, _)) => if cj = ci then some (.inl (.ref a) :: av, r) else none
      | _ => none)
    | _ => none)
def sx_hd (X : Nat → Option Nat) (W : sx_W) (a : Nat) : Option Nat := match W.1[a]? with
  | some (.inr (ci, _)) => X ci
  | _ => none
/-- a call's end: the state where its caller goes on, or the caller's own end -/
abbrev sx_F : Type := sx_o × sx_W × List Nat × Nat × List sx_c
def sx_ex (tb : ip_TB) : Nat → Nat → Nat → Nat → List (Nat × sx_v) → List sx_v → sx_W → List Nat → Nat → List sx_c → Option sx_F
  | 0, _, _, _, _, _, _, _, _, _ => none
  | f + 1, d, y, pc, lo, st, W, ps, k, cs => match tI tb y pc with
    | none => none
    | some (i, _) => if ip_ck i = 0 then (match ip_tw (tN tb y) i with
        | some ci => if 6 ≤ d ∧ (tH tb y).isEmpty = true ∧ (st.map sx_cat).sum ≤ 8 then some (.inr W.1.length, (W.1 ++ [.inr (ci + 3, [])], W.2.1 + 6, W.2.2), ps, k, cs) else none
        | none => (match sx_st (tF tb y) (tFt tb) (tC tb y) (tN tb y) (tL tb y) (tJ tb y) i pc lo st W ps k cs with
          | some r => sx_ex tb f d y r.1 r.2.1 r.2.2.1 r.2.2.2.1 r.2.2.2.2.1 r.2.2.2.2.2.1 r.2.2.2.2.2.2
          | none => none))
      else if ip_ck i = 2 then (match sx_end (tR tb y) i st cs with
        | some r => some (r.1, W, ps, k, r.2)
        | none => none)
      else (match ip_ci i with
        | none => none
        | some (kc, j) => (match tM tb y j with
          | none => none
          | some (z, n, kc2, ci) => if kc2 = 3 then (match st with
              | .inl (.ref _) :: r => if kc = 2 ∧ 1 ≤ d ∧ (r.map sx_cat).sum ≤ 8 then sx_ex tb f d y (pc + 3) lo r W ps k cs else none
              | _ => none)
            else if kc2 = kc then (match sx_arg kc n ci st W with
              | none => none
              | some (av, rest) => if 1 ≤ d ∧ (rest.map sx_cat).sum ≤ 8 ∧ (av.map sx_cat).sum ≤ tL tb z then (match sx_ex tb f (d - 1) z 0 (sx_args 0 av) [] W ps k cs with
                | some (.inl x, W2, ps2, k2, cs2) => sx_ex tb f d y (pc + 3) lo (x.toList ++ rest) W2 ps2 k2 cs2
                | some (.inr a, W2, ps2, k2, cs2) => if (tH tb y).isEmpty = true then some (.inr a, W2, ps2, k2, cs2) else (match sx_hd (tX tb y pc) W2 a with
                  | some h => sx_ex tb f d y h lo [.inl (.ref a)] W2 ps2 k2 cs2
                  | none => none)
                | none => none) else none)
            else if kc2 = kc + 4 then (match sx_take (if kc = 0 then n else n + 1) st with
              | none => none
              | some (av, rest) => if 4 ≤ d ∧ (rest.map sx_cat).sum ≤ 8 then (match sx_P z av k cs with
                | some (x, k2, cs2) => sx_ex tb f d y (pc + 3) lo (x :: rest) W ps k2 cs2
                | none => none) else none)
            else none))
/-- n steps of a method -/
def sx_go (tb : ip_TB) (F d y : Nat) : Nat → Nat → List (Nat × sx_v) → List sx_v → sx_W → List Nat → Nat → List sx_c → Option sx_R
  | 0, pc, lo, st, W, ps, k, cs => some (pc, lo, st, W, ps, k, cs)
  | n + 1, pc, lo, st, W, ps, k, cs => match tI tb y pc with
    | none => none
    | some (i, _) => if ip_ck i = 0 then (match ip_tw (tN tb y) i with
        | some _ => none
        | none => (match sx_st (tF tb y) (tFt tb) (tC tb y) (tN tb y) (tL tb y) (tJ tb y) i pc lo st W ps k cs with
          | some r => sx_go tb F d y n r.1 r.2.1 r.2.2.1 r.2.2.2.1 r.2.2.2.2.1 r.2.2.2.2.2.1 r.2.2.2.2.2.2
          | none => none))
      else if ip_ck i = 2 then none
      else (match ip_ci i with
        | none => none
        | some (kc, j) => (match tM tb y j with
          | none => none
          | some (z, m, kc2, ci) => if kc2 = 3 then (match st with
              | .inl (.ref _) :: r => if kc = 2 ∧ 1 ≤ d ∧ (r.map sx_cat).sum ≤ 8 then sx_go tb F d y n (pc + 3) lo r W ps k cs else none
              | _ => none)
            else if kc2 = kc then (match sx_arg kc m ci st W with
              | none => none
              | some (av, rest) => if 1 ≤ d ∧ (rest.map sx_cat).sum ≤ 8 ∧ (av.map sx_cat).sum ≤ tL tb z then (match sx_ex tb F (d - 1) z 0 (sx_args 0 av) [] W ps k cs with
                | some (.inl x, W2, ps2, k2, cs2) => sx_go tb F d y n (pc + 3) lo (x.toList ++ rest) W2 ps2 k2 cs2
                | some (.inr a, W2, ps2, k2, cs2) => if (tH tb y).isEmpty = true then none else (match sx_hd (tX tb y pc) W2 a with
                  | some h => sx_go tb F d y n h lo [.inl (.ref a)] W2 ps2 k2 cs2
                  | none => none)
                | none => none) else none)
            else if kc2 = kc + 4 then (match sx_take (if kc = 0 then m else m + 1) st with
              | none => none
              | some (av, rest) => if 4 ≤ d ∧ (rest.map sx_cat).sum ≤ 8 then (match sx_P z av k cs with
                | some (x, k2, cs2) => sx_go tb F d y n (pc + 3) lo (x :: rest) W ps k2 cs2
                | none => none) else none)
            else none))
/-- the tables without a script: what a method's run takes of them is the same -/
def sx_tb : ip_TB := vt_tb vt_P (fun _ => none)
