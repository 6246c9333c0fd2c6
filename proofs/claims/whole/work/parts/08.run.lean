/-! part 08: the run of a method, by calls too; its tables and what must hold of them -/
/-- the tables: instructions; fields; their types; constants; classes made; calls (callee, arguments, kind, the receiver's class); locals; the class whose constructor it is; return types (0 none, 1 int, 2 boolean, 3 long, 4 a reference); what the library's own members give -/
abbrev ip_TB : Type := (Nat → Nat → Option (Instr × Nat)) × (Nat → Nat → Option (Nat × Nat)) × (Nat → Nat → Option (Nat × Bool)) × (Nat → Nat → Option Value) × (Nat → Nat → Option (Nat × List Value)) × (Nat → Nat → Option (Nat × Nat × Nat × Nat)) × (Nat → Nat) × (Nat → Option Nat) × (Nat → Nat) × (Nat → List Value → ip_W → Option (Option Value × ip_W))
def tI (tb : ip_TB) : Nat → Nat → Option (Instr × Nat) := tb.1
def tF (tb : ip_TB) : Nat → Nat → Option (Nat × Nat) := tb.2.1
def tFt (tb : ip_TB) : Nat → Nat → Option (Nat × Bool) := tb.2.2.1
def tC (tb : ip_TB) : Nat → Nat → Option Value := tb.2.2.2.1
def tN (tb : ip_TB) : Nat → Nat → Option (Nat × List Value) := tb.2.2.2.2.1
def tM (tb : ip_TB) : Nat → Nat → Option (Nat × Nat × Nat × Nat) := tb.2.2.2.2.2.1
def tL (tb : ip_TB) : Nat → Nat := tb.2.2.2.2.2.2.1
def tJ (tb : ip_TB) : Nat → Option Nat := tb.2.2.2.2.2.2.2.1
def tR (tb : ip_TB) : Nat → Nat := tb.2.2.2.2.2.2.2.2.1
def tP (tb : ip_TB) : Nat → List Value → ip_W → Option (Option Value × ip_W) := tb.2.2.2.2.2.2.2.2.2
/-- 0 a simple instruction, 1 a call, 2 an end -/
def ip_ck (i : Instr) : Nat := match i with
  | .invokevirtual _ => 1
  | .invokestatic _ => 1
  | .invokespecial _ => 1
  | .ireturn => 2
  | .lreturn => 2
  | .areturn => 2
  | .return_ => 2
  | .athrow => 2
  | _ => 0
def ip_ci (i : Instr) : Option (Nat × Nat) := match i with
  | .invokestatic k => some (0, k)
  | .invokevirtual k => some (1, k)
  | .invokespecial k => some (2, k)
  | _ => none
/-- n arguments off the stack, the first one first -/
def ip_take (n : Nat) (st : List Value) : Option (List Value × List Value) := if n ≤ st.length then some ((st.take n).reverse, st.drop n) else none
theorem ip_take_of {n : Nat} {st av rest : List Value} (h : ip_take n st = some (av, rest)) : st = av.reverse ++ rest ∧ av.length = n := by
  unfold ip_take at h
  split at h
  · rename_i hn
    cases h
    constructor
    · rw [List.reverse_reverse, List.take_append_drop]
    · rw [List.length_reverse, List.length_take]
      omega
  · cases h
def ip_end (rc : Nat) (i : Instr) (st : List Value) (w : ip_W) : Option (Outcome × ip_W) := match i with
  | .ireturn => (match st with
    | [.int v] => if rc = 1 ∨ (rc = 2 ∧ (v = 0 ∨ v = 1)) then some (.returned (some (.int v)), w) else none
    | _ => none)
  | .lreturn => (match st with
    | [.long v] => if rc = 3 then some (.returned (some (.long v)), w) else none
    | _ => none)
  | .areturn => (match st with
    | [.ref a] => if rc = 4 then some (.returned (some (.ref a)), w) else none
    | [.null] => if rc = 4 then some (.returned (some .null), w) else none
    | _ => none)
  | .return_ => (match st with
    | [] => if rc = 0 then some (.returned none, w) else none
    | _ => none)
  | .athrow => (match st with
    | .ref a :: _ => some (.threw a, w)
    | _ => none)
  | _ => none
/-- a call's arguments, with the receiver, and what stays on the stack -/
def ip_arg (kc n ci : Nat) (st : List Value) (w : ip_W) : Option (List Value × List Value) := match ip_take n st with
  | none => none
  | some (av, rest) => if kc = 0 then some (av, rest) else (match rest with
    | .ref a :: r => if kc = 2 then some (.ref a :: av, r) else (match w.2.2 a with
      | some (.inr (cj, _)) => if cj = ci then some (.ref a :: av, r) else none
      | _ => none)
    | _ => none)
def ip_ex (tb : ip_TB) : Nat → Nat → Nat → Nat → List (Nat × Value) → List Value → ip_W → Option (Outcome × ip_W)
  | 0, _, _, _, _, _, _ => none
  | f + 1, d, y, pc, lo, st, w => match tI tb y pc with
    | none => none
    | some (i, _) => if ip_ck i = 0 then (match ip_st (tF tb y) (tFt tb) (tC tb y) (tN tb y) (tL tb y) (tJ tb y) i pc lo st w with
        | some r => ip_ex tb f d y r.1 r.2.1 r.2.2.1 r.2.2.2
        | none => none)
      else if ip_ck i = 2 then ip_end (tR tb y) i st w
      else (match ip_ci i with
        | none => none
        | some (kc, k) => (match tM tb y k with
          | none => none
          | some (z, n, kc2, ci) => if kc2 = 3 then (match st with
              | .ref _ :: r => if kc = 2 ∧ 1 ≤ d ∧ (r.map fun v => v.category).sum ≤ 8 then ip_ex tb f d y (pc + 3) lo r w else none
              | _ => none)
            else if kc2 = kc then (match ip_arg kc n ci st w with
              | none => none
              | some (av, rest) => if 1 ≤ d ∧ (rest.map fun v => v.category).sum ≤ 8 ∧ (lg_sl av).length ≤ tL tb z then (match ip_ex tb f (d - 1) z 0 (lv_args 0 av) [] w with
                | some (.returned v, w2) => ip_ex tb f d y (pc + 3) lo (v.toList ++ rest) w2
                | some (.threw a, w2) => some (.threw a, w2)
                | none => none) else none)
            else if kc2 = kc + 4 then (match ip_arg kc n ci st w with
              | none => none
              | some (av, rest) => if 4 ≤ d ∧ (rest.map fun v => v.category).sum ≤ 8 then (match tP tb z av w with
                | some (v, w2) => if w.1 ≤ w2.1 ∧ w.2.1 ≤ w2.2.1 then ip_ex tb f d y (pc + 3) lo (v.toList ++ rest) w2 else none
                | none => none) else none)
            else none))
/-- worlds only grow -/
theorem ip_st_mono {Fd : Nat → Option (Nat × Nat)} {Ft : Nat → Nat → Option (Nat × Bool)} {Cn : Nat → Option Value} {Nw : Nat → Option (Nat × List Value)} {nL : Nat} {ini : Option Nat} {i : Instr} {pc : Nat} {lo : List (Nat × Value)} {st : List Value} {w : ip_W} {r : ip_R} (h : ip_st Fd Ft Cn Nw nL ini i pc lo st w = some r) : w.1 ≤ r.2.2.2.1 ∧ w.2.1 ≤ r.2.2.2.2.1 := by
  cases i
  all_goals simp only [ip_st] at h
  all_goals (repeat' split at h)
  all_goals first | (cases h; done) | (cases h; exact ⟨Nat.le_refl _, Nat.le_refl _⟩) | (cases h; exact ⟨Nat.le_add_right _ _, Nat.le_add_right _ _⟩)
theorem ip_end_mono {rc : Nat} {i : Instr} {st : List Value} {w : ip_W} {o : Outcome} {w2 : ip_W} (h : ip_end rc i st w = some (o, w2)) : w2 = w := by
  cases i
  all_goals simp only [ip_end] at h
  all_goals (repeat' split at h)
  all_goals first | (cases h; done) | (cases h; rfl)
theorem ip_ex_mono (tb : ip_TB) : ∀ (f d y pc : Nat) (lo : List (Nat × Value)) (st : List Value) (w : ip_W) (o : Outcome) (w2 : ip_W), ip_ex tb f d y pc lo st w = some (o, w2) → w.1 ≤ w2.1 ∧ w.2.1 ≤ w2.2.1 := by
  intro f
  induction f with
  | zero => intro d y pc lo st w o w2 h; simp [ip_ex] at h
  | succ f ih =>
    intro d y pc lo st w o w2 h
    unfold ip_ex at h
    split at h
    · cases h
    · split at h
      · split at h
        · rename_i hst
          have h1 := ip_st_mono hst
          have h2 := ih _ _ _ _ _ _ _ _ h
          omega
        · cases h
      · split at h
        · rw [ip_end_mono h]
          exact ⟨Nat.le_refl _, Nat.le_refl _⟩
        · split at h
          · cases h
          · split at h
            · cases h
            · split at h
              · split at h
                · split at h
                  · exact ih _ _ _ _ _ _ _ _ h
                  · cases h
                · cases h
              · split at h
                · split at h
                  · cases h
                  · split at h
                    · split at h
                      · rename_i hc
                        have h1 := ih _ _ _ _ _ _ _ _ hc
                        have h2 := ih _ _ _ _ _ _ _ _ h
                        omega
                      · rename_i hc
                        have h1 := ih _ _ _ _ _ _ _ _ hc
                        cases h
                        exact h1
                      · cases h
                    · cases h
                · split at h
                  · split at h
                    · cases h
                    · split at h
                      · split at h
                        · split at h
                          · rename_i hw
                            have h2 := ih _ _ _ _ _ _ _ _ h
                            omega
                          · cases h
                        · cases h
                      · cases h
                  · cases h
