/-! part 27: runs with symbols, as closed computations: a value is a Value, or the number of an int (false) or a long (true) of an environment; what is asked of the environment is collected as data -/
abbrev sx_v : Type := Value ⊕ (Bool × Nat)
/-- an array: kind, length (a number, or that of an int), base (0 zeros, k + 1 row k of the environment), what was stored since, the latest first -/
abbrev sx_a : Type := Nat × (Nat ⊕ sx_v) × Nat × List (sx_v × sx_v)
abbrev sx_e : Type := sx_a ⊕ (Nat × List sx_v)
/-- cells; slots: a number and lengths -/
abbrev sx_W : Type := List sx_e × Nat × List sx_v
/-- ints, longs, rows of ints, of longs, of references -/
abbrev sx_N : Type := (Nat → Int32) × (Nat → Int64) × (Nat → Nat → Int32) × (Nat → Nat → Int64) × (Nat → Nat → Option Nat)
/-- asked: 0 an instruction on these values, from a place to a place, gives these; 1 an index is in; 2 an array's element; 3 a length is right; 4 a field's type takes it; 5 an end's type takes it -/
abbrev sx_c : Type := Nat × Instr × Nat × List sx_v × Nat × List sx_v × sx_a
def sx_d (N : sx_N) (v : sx_v) : Value := match v with
  | .inl v => v
  | .inr (false, k) => .int (N.1 k)
  | .inr (true, k) => .long (N.2.1 k)
def sx_i (N : sx_N) (v : sx_v) : Int32 := match v with
  | .inl (.int x) => x
  | .inr (false, k) => N.1 k
  | _ => 0
def sx_l (N : sx_N) (v : sx_v) : Int64 := match v with
  | .inl (.long x) => x
  | .inr (true, k) => N.2.1 k
  | _ => 0
def sx_r (v : sx_v) : Option Nat := match v with
  | .inl (.ref a) => some a
  | _ => none
def sx_n (N : sx_N) (n : Nat ⊕ sx_v) : Nat := match n with
  | .inl n => n
  | .inr v => (sx_i N v).toNatClampNeg
def sx_fi (N : sx_N) (b : Nat) (us : List (sx_v × sx_v)) : Nat → Int32 := match us with
  | [] => (match b with
    | 0 => fun _ => 0
    | k + 1 => N.2.2.1 k)
  | u :: us => upd (sx_fi N b us) (sx_i N u.1).toNatClampNeg (sx_i N u.2)
def sx_fl (N : sx_N) (b : Nat) (us : List (sx_v × sx_v)) : Nat → Int64 := match us with
  | [] => (match b with
    | 0 => fun _ => 0
    | k + 1 => N.2.2.2.1 k)
  | u :: us => vp_updL (sx_fl N b us) (sx_i N u.1).toNatClampNeg (sx_l N u.2)
def sx_fr (N : sx_N) (b : Nat) (us : List (sx_v × sx_v)) : Nat → Option Nat := match us with
  | [] => (match b with
    | 0 => fun _ => none
    | k + 1 => N.2.2.2.2 k)
  | u :: us => va_up (sx_fr N b us) (sx_i N u.1).toNatClampNeg (sx_r u.2)
def sx_ad (N : sx_N) (a : sx_a) : ip_A := if a.1 = 2 then .inr (.inl (sx_fl N a.2.2.1 a.2.2.2)) else if a.1 = 4 then .inr (.inr (sx_fr N a.2.2.1 a.2.2.2)) else .inl (sx_fi N a.2.2.1 a.2.2.2)
def sx_ed (N : sx_N) (e : sx_e) : ip_E := match e with
  | .inl a => .inl (a.1, sx_n N a.2.1, sx_ad N a)
  | .inr o => .inr (o.1, o.2.map (sx_d N))
def sx_wd (N : sx_N) (W : sx_W) : il_W := (W.1.map (sx_ed N), W.2.1 + (W.2.2.map fun v => (sx_i N v).toNatClampNeg).sum)
def sx_ld (N : sx_N) (lo : List (Nat × sx_v)) : List (Nat × Value) := lo.map fun q => (q.1, sx_d N q.2)
def sx_w0 : ip_W := (0, 0, fun _ => none)
/-- what an asked thing means -/
def sx_h (N : sx_N) (c : sx_c) : Prop := match c with
  | (0, i, pc, av, pc2, rs, _) => ip_st (fun _ => none) (fun _ _ => none) (fun _ => none) (fun _ => none) 0 none i pc [] (av.map (sx_d N)) sx_w0 = some (pc2, [], rs.map (sx_d N), sx_w0)
  | (1, _, _, [x], _, _, a) => ip_in (sx_i N x) (sx_n N a.2.1) = true
  | (2, _, _, [x], _, [r], a) => (if a.1 = 2 then sx_l N r = sx_fl N a.2.2.1 a.2.2.2 (sx_i N x).toNatClampNeg else sx_i N r = sx_fi N a.2.2.1 a.2.2.2 (sx_i N x).toNatClampNeg)
  | (3, _, _, [x], _, _, _) => ¬ sx_i N x < 0 ∧ (sx_i N x).toNatClampNeg ≤ 1000000
  | (4, _, tc, [x], _, _, _) => ip_fok tc (sx_d N x) = true
  | (5, _, _, [x], _, _, _) => sx_i N x = 0 ∨ sx_i N x = 1
  | (6, _, _, [x], _, [r], _) => sx_i N r = vp_nar .byte (sx_i N x)
  | (7, _, _, [x], _, [r], _) => sx_i N r = vp_nar .boolean (sx_i N x)
  | (8, _, _, [x, y], _, [r], _) => sx_i N r = (if sx_i N y < sx_i N x then sx_i N y else sx_i N x)
  | (9, _, _, [x, y], _, [r], _) => sx_i N r = (if sx_i N x < sx_i N y then sx_i N y else sx_i N x)
  | (10, _, _, [x], _, [r], _) => sx_i N r = (if 0 ≤ sx_i N x then sx_i N x else 0 - sx_i N x)
  | (11, _, _, [x, y], _, [r], _) => sx_l N r = (if sx_l N y < sx_l N x then sx_l N y else sx_l N x)
  | (12, _, _, [x, y], _, [r], _) => sx_l N r = (if sx_l N y < sx_l N x then sx_l N x else sx_l N y)
  | (13, _, _, [x], _, [r], _) => sx_l N r = (if 0 < sx_l N x then sx_l N x else -sx_l N x)
  | (14, _, _, [], _, [r], a) => sx_i N r = Int32.ofNat (sx_n N a.2.1)
  | _ => False
def sx_a0 : sx_a := (0, .inl 0, 0, [])
/-- how many values an instruction takes that leaves locals and cells alone, and what it gives (0 nothing, 1 an int, 2 a long, 3 something fixed) -/
def sx_ar (i : Instr) : Option (Nat × Nat) := match i with
  | .iconst _ => some (0, 3)
  | .bipush _ => some (0, 3)
  | .sipush _ => some (0, 3)
  | .lconst _ => some (0, 3)
  | .aconst_null => some (0, 3)
  | .ldc _ => some (0, 3)
  | .ldc_w _ => some (0, 3)
  | .ldc2_w _ => some (0, 3)
  | .iadd => some (2, 1)
  | .isub => some (2, 1)
  | .imul => some (2, 1)
  | .iand => some (2, 1)
  | .ladd => some (2, 2)
  | .lsub => some (2, 2)
  | .lmul => some (2, 2)
  | .land => some (2, 2)
  | .lor => some (2, 2)
  | .lxor => some (2, 2)
  | .idiv => some (2, 1)
  | .irem => some (2, 1)
  | .ldiv => some (2, 2)
  | .lrem => some (2, 2)
  | .ineg => some (1, 1)
  | .lneg => some (1, 2)
  | .i2l => some (1, 2)
  | .l2i => some (1, 1)
  | .i2b => some (1, 1)
  | .i2c => some (1, 1)
  | .lshl => some (2, 2)
  | .lshr => some (2, 2)
  | .lushr => some (2, 2)
  | .lcmp => some (2, 1)
  | .ifCond _ _ => some (1, 0)
  | .if_icmp _ _ => some (2, 0)
  | .goto _ => some (0, 0)
  | .ifnull _ => some (1, 0)
  | .ifnonnull _ => some (1, 0)
  | .lookupswitch _ _ => some (1, 0)
  | .tableswitch _ _ _ _ => some (1, 0)
  | _ => none
theorem sx_frame {Fd : Nat → Option (Nat × Nat)} {Ft : Nat → Nat → Option (Nat × Bool)} {Cn C0 : Nat → Option Value} {Nw : Nat → Option (Nat × List Value)} {nL : Nat} {ini : Option Nat} {i : Instr} {pc pc2 m k : Nat} {lo : List (Nat × Value)} {av rs st : List Value} {w : ip_W} (ha : sx_ar i = some (m, k)) (hm : av.length = m) (hC : C0 = Cn ∨ 1 ≤ m) (h : ip_st (fun _ => none) (fun _ _ => none) C0 (fun _ => none) 0 none i pc [] av sx_w0 = some (pc2, [], rs, sx_w0)) : ip_st Fd Ft Cn Nw nL ini i pc lo (av ++ st) w = some (pc2, lo, rs ++ st, w) := by
  cases i <;> simp only [sx_ar] at ha <;> first | (cases ha; done) | skip
  case lookupswitch d ps =>
    cases ha
    rcases av with _ | ⟨a, _ | ⟨b, t⟩⟩
    · cases hm
    · cases a <;> simp only [ip_st, sx_w0, List.nil_append, List.cons_append] at h ⊢ <;> first | (cases h; done) | skip
      split at h
      · rename_i hs
        rw [if_pos hs]
        split at h
        · rename_i t ht
          cases h
          simp only [ht, List.nil_append]
        · cases h
      · cases h
    · simp only [List.length_cons] at hm
      omega
  case tableswitch d lw hi offs =>
    cases ha
    rcases av with _ | ⟨a, _ | ⟨b, t⟩⟩
    · cases hm
    · cases a <;> simp only [ip_st, sx_w0, List.nil_append, List.cons_append] at h ⊢ <;> first | (cases h; done) | skip
      split at h
      · rename_i hs
        rw [if_pos hs]
        split at h
        · rename_i t ht
          cases h
          simp only [ht, List.nil_append]
        · cases h
      · rename_i hs
        rw [if_neg hs]
        split at h
        · rename_i off hoff
          try simp only [hoff]
          split at h
          · rename_i t ht
            cases h
            simp only [ht, List.nil_append]
          · cases h
        · cases h
    · simp only [List.length_cons] at hm
      omega
  all_goals
    simp only [Option.some.injEq, Prod.mk.injEq] at ha
    obtain ⟨rfl, rfl⟩ := ha
    rcases av with _ | ⟨a, _ | ⟨b, _ | ⟨c, t⟩⟩⟩
  all_goals (try simp only [List.length_cons, List.length_nil] at hm)
  all_goals (try omega)
  case ldc.nil | ldc_w.nil | ldc2_w.nil =>
    obtain rfl := hC.resolve_right (by omega)
    simp only [ip_st, sx_w0, List.nil_append, List.cons_append] at h ⊢
    split at h
    · rename_i v hv
      cases h
      simp only [hv, List.nil_append, List.cons_append]
    · cases h
  all_goals
    simp only [ip_st, sx_w0, List.nil_append, List.cons_append] at h ⊢
    (repeat' split at h) <;> first | (cases h; done) | (cases h; simp_all; done) | (cases h; rfl)
/-- such an instruction leaves locals and cells alone -/
theorem sx_keep {Fd : Nat → Option (Nat × Nat)} {Ft : Nat → Nat → Option (Nat × Bool)} {Cn : Nat → Option Value} {Nw : Nat → Option (Nat × List Value)} {nL : Nat} {ini : Option Nat} {i : Instr} {pc : Nat} {lo : List (Nat × Value)} {st : List Value} {w : ip_W} {m k : Nat} {r : ip_R} (ha : sx_ar i = some (m, k)) (h : ip_st Fd Ft Cn Nw nL ini i pc lo st w = some r) : r.2.1 = lo ∧ r.2.2.2 = w := by
  cases i <;> simp only [sx_ar] at ha <;> first | (cases ha; done) | skip
  all_goals
    simp only [ip_st] at h
    (repeat' split at h) <;> first | (cases h; done) | (cases h; exact ⟨rfl, rfl⟩)
def sx_cv (v : sx_v) : Option Value := match v with
  | .inl x => some x
  | .inr _ => none
def sx_allc (av : List sx_v) : Option (List Value) := match av with
  | [] => some []
  | v :: r => (match sx_cv v, sx_allc r with
    | some x, some l => some (x :: l)
    | _, _ => none)
theorem sx_allc_of (N : sx_N) : ∀ (av : List sx_v) (l : List Value), sx_allc av = some l → av.map (sx_d N) = l
  | [], l, h => by cases h; rfl
  | v :: r, l, h => by
    unfold sx_allc at h
    split at h
    · rename_i x l2 hx hl
      cases h
      rw [List.map_cons, sx_allc_of N r l2 hl]
      cases v with
      | inl y => cases hx; rfl
      | inr y => cases hx
    · cases h
def sx_cat (v : sx_v) : Nat := match v with
  | .inl v => v.category
  | .inr (false, _) => 1
  | .inr (true, _) => 2
theorem sx_cat_d (N : sx_N) (v : sx_v) : (sx_d N v).category = sx_cat v := by
  rcases v with v | ⟨b, k⟩
  · rfl
  · cases b <;> rfl
def sx_isI (v : sx_v) : Bool := match v with
  | .inl (.int _) => true
  | .inr (false, _) => true
  | _ => false
def sx_isL (v : sx_v) : Bool := match v with
  | .inl (.long _) => true
  | .inr (true, _) => true
  | _ => false
theorem sx_isI_d {N : sx_N} {v : sx_v} (h : sx_isI v = true) : sx_d N v = .int (sx_i N v) := by
  rcases v with v | ⟨b, k⟩
  · cases v <;> first | rfl | cases h
  · cases b
    · rfl
    · cases h
theorem sx_isL_d {N : sx_N} {v : sx_v} (h : sx_isL v = true) : sx_d N v = .long (sx_l N v) := by
  rcases v with v | ⟨b, k⟩
  · cases v <;> first | rfl | cases h
  · cases b
    · cases h
    · rfl
def sx_get (lo : List (Nat × sx_v)) (i : Nat) : Option sx_v := match lo with
  | [] => none
  | q :: r => if q.1 = i then some q.2 else sx_get r i
theorem sx_get_d (N : sx_N) : ∀ (lo : List (Nat × sx_v)) (i : Nat), ip_get (sx_ld N lo) i = (sx_get lo i).map (sx_d N)
  | [], i => rfl
  | q :: r, i => by
    have h := sx_get_d N r i
    show (if q.1 = i then some (sx_d N q.2) else ip_get (sx_ld N r) i) = Option.map (sx_d N) (if q.1 = i then some q.2 else sx_get r i)
    by_cases hq : q.1 = i
    · rw [if_pos hq, if_pos hq]; rfl
    · rw [if_neg hq, if_neg hq, h]
def sx_set1 (lo : List (Nat × sx_v)) (i : Nat) (v : sx_v) : List (Nat × sx_v) := (i, v) :: lo.filter (fun q => !(q.1 == i) && !(q.1 + 1 == i && sx_cat q.2 == 2))
def sx_set2 (lo : List (Nat × sx_v)) (i : Nat) (v : sx_v) : List (Nat × sx_v) := (i, v) :: lo.filter (fun q => !(q.1 == i) && (!(q.1 == i + 1) && !(q.1 + 1 == i && sx_cat q.2 == 2)))
theorem sx_set1_d (N : sx_N) (lo : List (Nat × sx_v)) (i : Nat) (v : sx_v) : sx_ld N (sx_set1 lo i v) = ip_set1 (sx_ld N lo) i (sx_d N v) := by
  simp only [sx_ld, sx_set1, ip_set1, List.map_cons, List.filter_map, Function.comp_def, sx_cat_d]
theorem sx_set2_d (N : sx_N) (lo : List (Nat × sx_v)) (i : Nat) (v : sx_v) : sx_ld N (sx_set2 lo i v) = ip_set2 (sx_ld N lo) i (sx_d N v) := by
  simp only [sx_ld, sx_set2, ip_set2, List.map_cons, List.filter_map, Function.comp_def, sx_cat_d]
/-- the script, as an array: its length is int 0, its contents row 0 of the environment -/
def sx_scr : sx_a := (0, .inr (.inr (false, 0)), 1, [])
def sx_find (us : List (sx_v × sx_v)) (x : Nat) : Option (Option sx_v) := match us with
  | [] => some none
  | u :: t => (match u.1 with
    | .inl (.int y) => if y.toNatClampNeg = x then some (some u.2) else sx_find t x
    | _ => none)
