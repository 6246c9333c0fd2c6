/-! part 08: the run of a method, by calls too; its tables and what must hold of them -/
/-- the tables: instructions; fields; their types; constants; classes made; calls (callee, arguments, kind, the receiver's class); locals; the class whose constructor it is; return types (0 none, 1 int, 2 boolean, 3 long, 4 a reference); what the library's own members give; handlers as the code has them; where a thrown one of a class is caught; arrays that were there before and are read alone -/
abbrev ip_TB : Type := (Nat → Nat → Option (Instr × Nat)) × (Nat → Nat → Option (Nat × Nat)) × (Nat → Nat → Option (Nat × Bool)) × (Nat → Nat → Option Value) × (Nat → Nat → Option (Nat × List Value)) × (Nat → Nat → Option (Nat × Nat × Nat × Nat)) × (Nat → Nat) × (Nat → Option Nat) × (Nat → Nat) × (Nat → List Value → ip_W → Option (Option Value × ip_W)) × (Nat → List (Nat × Nat × Nat × Nat)) × (Nat → Nat → Nat → Option Nat) × (Nat → Option (Nat × Nat × (Nat → Int32)))
def tI (tb : ip_TB) : Nat → Nat → Option (Instr × Nat) := tb.1
def tF (tb : ip_TB) : Nat → Nat → Option (Nat × Nat) := tb.2.1
def tFt (tb : ip_TB) : Nat → Nat → Option (Nat × Bool) := tb.2.2.1
def tC (tb : ip_TB) : Nat → Nat → Option Value := tb.2.2.2.1
def tN (tb : ip_TB) : Nat → Nat → Option (Nat × List Value) := tb.2.2.2.2.1
def tM (tb : ip_TB) : Nat → Nat → Option (Nat × Nat × Nat × Nat) := tb.2.2.2.2.2.1
def tL (tb : ip_TB) : Nat → Nat := tb.2.2.2.2.2.2.1
def tJ (tb : ip_TB) : Nat → Option Nat := tb.2.2.2.2.2.2.2.1
def tR (tb : ip_TB) : Nat → Nat := tb.2.2.2.2.2.2.2.2.1
def tP (tb : ip_TB) : Nat → List Value → ip_W → Option (Option Value × ip_W) := tb.2.2.2.2.2.2.2.2.2.1
def tH (tb : ip_TB) : Nat → List (Nat × Nat × Nat × Nat) := tb.2.2.2.2.2.2.2.2.2.2.1
def tX (tb : ip_TB) : Nat → Nat → Nat → Option Nat := tb.2.2.2.2.2.2.2.2.2.2.2.1
def tO (tb : ip_TB) : Nat → Option (Nat × Nat × (Nat → Int32)) := tb.2.2.2.2.2.2.2.2.2.2.2.2
/-- 0 a simple instruction, 1 a call, 2 an end -/
def ip_ck (i : Instr) : Nat := match i with
  | .invokevirtual _ => 1
  | .invokestatic _ => 1
  | .invokespecial _ => 1
  | .ireturn => 2
  | .lreturn => 2
  | .areturn => 2
  | .return_ => 2
  | .athrow => 2
  | _ => 0
def ip_ci (i : Instr) : Option (Nat × Nat) := match i with
  | .invokestatic k => some (0, k)
  | .invokevirtual k => some (1, k)
  | .invokespecial k => some (2, k)
  | _ => none
/-- n arguments off the stack, the first one first -/
def ip_take (n : Nat) (st : List Value) : Option (List Value × List Value) := if n ≤ st.length then some ((st.take n).reverse, st.drop n) else none
theorem ip_take_of {n : Nat} {st av rest : List Value} (h : ip_take n st = some (av, rest)) : st = av.reverse ++ rest ∧ av.length = n := by
  unfold ip_take at h
  split at h
  · rename_i hn
    cases h
    constructor
    · rw [List.reverse_reverse, List.take_append_drop]
    · rw [List.length_reverse, List.length_take]
      omega
  · cases h
def ip_end (rc : Nat) (i : Instr) (st : List Value) (w : ip_W) : Option (Outcome × ip_W) := match i with
  | .ireturn => (match st with
    | [.int v] => if rc = 1 ∨ (rc = 2 ∧ (v = 0 ∨ v = 1)) then some (.returned (some (.int v)), w) else none
    | _ => none)
  | .lreturn => (match st with
    | [.long v] => if rc = 3 then some (.returned (some (.long v)), w) else none
    | _ => none)
  | .areturn => (match st with
    | [.ref a] => if rc = 4 then some (.returned (some (.ref a)), w) else none
    | [.null] => if rc = 4 then some (.returned (some .null), w) else none
    | _ => none)
  | .return_ => (match st with
    | [] => if rc = 0 then some (.returned none, w) else none
    | _ => none)
  | _ => none
/-- a call's arguments, with the receiver, and what stays on the stack -/
def ip_arg (kc n ci : Nat) (st : List Value) (w : ip_W) : Option (List Value × List Value) := match ip_take n st with
  | none => none
  | some (av, rest) => if kc = 0 then some (av, rest) else (match rest with
    | .ref a :: r => if kc = 2 then some (.ref a :: av, r) else (match w.2.2 a with
      | some (.inr (cj, _)) => if cj = ci then some (.ref a :: av, r) else none
      | _ => none)
    | _ => none)
/-- a library member's arguments, with the receiver -/
def ip_argP (kc n : Nat) (st : List Value) : Option (List Value × List Value) := ip_take (if kc = 0 then n else n + 1) st
/-- what is read of arrays that were there before -/
def ip_rd (Ro : Nat → Option (Nat × Nat × (Nat → Int32))) (i : Instr) (st : List Value) : Option (List Value) := match i with
  | .arraylength => (match st with
    | .retAddr j :: r => (match Ro j with
      | some (_, n, _) => some (.int (Int32.ofNat n) :: r)
      | none => none)
    | _ => none)
  | .iaload => (match st with
    | .int x :: .retAddr j :: r => (match Ro j with
      | some (0, n, f) => if ip_in x n = true then some (.int (f x.toNatClampNeg) :: r) else none
      | _ => none)
    | _ => none)
  | .baload => (match st with
    | .int x :: .retAddr j :: r => (match Ro j with
      | some (1, n, f) => if ip_in x n = true then some (.int (f x.toNatClampNeg) :: r) else none
      | _ => none)
    | _ => none)
  | _ => none
/-- is an exception made here (to be thrown at once)? its class -/
def ip_tw (Nw : Nat → Option (Nat × List Value)) (i : Instr) : Option Nat := match i with
  | .new k => (match Nw k with
    | some (ci, _) => if 13 ≤ ci then some ci else none
    | none => none)
  | _ => none
/-- the world with the thrown one; of a thrown one no field is known: its class has the number ci + 3 -/
def ip_thw (w : ip_W) (ci : Nat) : ip_W := (w.1 + 1, w.2.1 + 6, va_up w.2.2 w.1 (some (.inr (ci + 3, []))))
/-- where a thrown one is caught -/
def ip_hd (X : Nat → Option Nat) (w : ip_W) (a : Nat) : Option Nat := match w.2.2 a with
  | some (.inr (ci, _)) => X ci
  | _ => none
def ip_ex (tb : ip_TB) : Nat → Nat → Nat → Nat → List (Nat × Value) → List Value → ip_W → Option (Outcome × ip_W)
  | 0, _, _, _, _, _, _ => none
  | f + 1, d, y, pc, lo, st, w => match tI tb y pc with
    | none => none
    | some (i, _) => if ip_ck i = 0 then (match ip_tw (tN tb y) i with
        | some ci => if 6 ≤ d ∧ (tH tb y).isEmpty = true ∧ (st.map fun v => v.category).sum ≤ 8 then some (.threw w.1, ip_thw w ci) else none
        | none => (match ip_st (tF tb y) (tFt tb) (tC tb y) (tN tb y) (tL tb y) (tJ tb y) i pc lo st w with
          | some r => ip_ex tb f d y r.1 r.2.1 r.2.2.1 r.2.2.2
          | none => (match ip_rd (tO tb) i st with
            | some st2 => ip_ex tb f d y (pc + 1) lo st2 w
            | none => none)))
      else if ip_ck i = 2 then ip_end (tR tb y) i st w
      else (match ip_ci i with
        | none => none
        | some (kc, k) => (match tM tb y k with
          | none => none
          | some (z, n, kc2, ci) => if kc2 = 3 then (match st with
              | .ref _ :: r => if kc = 2 ∧ 1 ≤ d ∧ (r.map fun v => v.category).sum ≤ 8 then ip_ex tb f d y (pc + 3) lo r w else none
              | _ => none)
            else if kc2 = kc then (match ip_arg kc n ci st w with
              | none => none
              | some (av, rest) => if 1 ≤ d ∧ (rest.map fun v => v.category).sum ≤ 8 ∧ (lg_sl av).length ≤ tL tb z then (match ip_ex tb f (d - 1) z 0 (lv_args 0 av) [] w with
                | some (.returned v, w2) => ip_ex tb f d y (pc + 3) lo (v.toList ++ rest) w2
                | some (.threw a, w2) => if (tH tb y).isEmpty = true then some (.threw a, w2) else (match ip_hd (tX tb y pc) w2 a with
                  | some h => ip_ex tb f d y h lo [.ref a] w2
                  | none => none)
                | none => none) else none)
            else if kc2 = kc + 4 then (match ip_argP kc n st with
              | none => none
              | some (av, rest) => if 4 ≤ d ∧ (rest.map fun v => v.category).sum ≤ 8 then (match tP tb z av w with
                | some (v, w2) => if w.1 ≤ w2.1 ∧ w.2.1 ≤ w2.2.1 then ip_ex tb f d y (pc + 3) lo (v.toList ++ rest) w2 else none
                | none => none) else none)
            else none))
/-- worlds only grow -/
theorem ip_st_mono {Fd : Nat → Option (Nat × Nat)} {Ft : Nat → Nat → Option (Nat × Bool)} {Cn : Nat → Option Value} {Nw : Nat → Option (Nat × List Value)} {nL : Nat} {ini : Option Nat} {i : Instr} {pc : Nat} {lo : List (Nat × Value)} {st : List Value} {w : ip_W} {r : ip_R} (h : ip_st Fd Ft Cn Nw nL ini i pc lo st w = some r) : w.1 ≤ r.2.2.2.1 ∧ w.2.1 ≤ r.2.2.2.2.1 := by
  cases i
  all_goals simp only [ip_st] at h
  all_goals (repeat' split at h)
  all_goals first | (cases h; done) | (cases h; exact ⟨Nat.le_refl _, Nat.le_refl _⟩) | (cases h; exact ⟨Nat.le_add_right _ _, Nat.le_add_right _ _⟩)
theorem ip_end_mono {rc : Nat} {i : Instr} {st : List Value} {w : ip_W} {o : Outcome} {w2 : ip_W} (h : ip_end rc i st w = some (o, w2)) : w2 = w := by
  cases i
  all_goals simp only [ip_end] at h
  all_goals (repeat' split at h)
  all_goals first | (cases h; done) | (cases h; rfl)
theorem ip_ex_mono (tb : ip_TB) : ∀ (f d y pc : Nat) (lo : List (Nat × Value)) (st : List Value) (w : ip_W) (o : Outcome) (w2 : ip_W), ip_ex tb f d y pc lo st w = some (o, w2) → w.1 ≤ w2.1 ∧ w.2.1 ≤ w2.2.1 := by
  intro f
  induction f with
  | zero => intro d y pc lo st w o w2 h; simp [ip_ex] at h
  | succ f ih =>
    intro d y pc lo st w o w2 h
    unfold ip_ex at h
    split at h
    · cases h
    · split at h
      · split at h
        · split at h
          · cases h
            exact ⟨Nat.le_succ _, Nat.le_add_right _ _⟩
          · cases h
        · split at h
          · rename_i hst
            have h1 := ip_st_mono hst
            have h2 := ih _ _ _ _ _ _ _ _ h
            omega
          · split at h
            · exact ih _ _ _ _ _ _ _ _ h
            · cases h
      · split at h
        · rw [ip_end_mono h]
          exact ⟨Nat.le_refl _, Nat.le_refl _⟩
        · split at h
          · cases h
          · split at h
            · cases h
            · split at h
              · split at h
                · split at h
                  · exact ih _ _ _ _ _ _ _ _ h
                  · cases h
                · cases h
              · split at h
                · split at h
                  · cases h
                  · split at h
                    · split at h
                      · rename_i hc
                        have h1 := ih _ _ _ _ _ _ _ _ hc
                        have h2 := ih _ _ _ _ _ _ _ _ h
                        omega
                      · rename_i hc
                        have h1 := ih _ _ _ _ _ _ _ _ hc
                        split at h
                        · cases h
                          exact h1
                        · split at h
                          · have h2 := ih _ _ _ _ _ _ _ _ h
                            omega
                          · cases h
                      · cases h
                    · cases h
                · split at h
                  · split at h
                    · cases h
                    · split at h
                      · split at h
                        · split at h
                          · rename_i hw
                            have h2 := ih _ _ _ _ _ _ _ _ h
                            omega
                          · cases h
                        · cases h
                      · cases h
                  · cases h
