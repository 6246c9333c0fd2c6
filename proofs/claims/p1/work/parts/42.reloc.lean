/-! part 42: a run that makes nothing is the same run with its cells elsewhere, and over more cells -/
def re_v (φ : Nat → Nat) (v : Value) : Value := match v with
  | .ref a => .ref (φ a)
  | v => v
def re_e (φ : Nat → Nat) (x : ip_E) : ip_E := match x with
  | .inl (k, n, .inl f) => .inl (k, n, .inl f)
  | .inl (k, n, .inr (.inl f)) => .inl (k, n, .inr (.inl f))
  | .inl (k, n, .inr (.inr f)) => .inl (k, n, .inr (.inr (fun j => (f j).map φ)))
  | .inr (ci, fs) => .inr (ci, fs.map (re_v φ))
/-- w's cells, each at φ of its place, over u; u's counts -/
def re_w (φ : Nat → Nat) (ψ : Nat → Option Nat) (w u : ip_W) : ip_W := (u.1, u.2.1, fun q => match (ψ q).bind w.2.2 with
  | some x => some (re_e φ x)
  | none => u.2.2 q)
def re_l (φ : Nat → Nat) (lo : List (Nat × Value)) : List (Nat × Value) := lo.map fun q => (q.1, re_v φ q.2)
def re_o (φ : Nat → Nat) (o : Outcome) : Outcome := match o with
  | .returned v => .returned (v.map (re_v φ))
  | .threw a => .threw (φ a)
/-- ψ undoes φ -/
def re_ok (φ : Nat → Nat) (ψ : Nat → Option Nat) : Prop := (∀ a, ψ (φ a) = some a) ∧ ∀ q b, ψ q = some b → φ b = q
section RE
variable {φ : Nat → Nat} {ψ : Nat → Option Nat} {w u : ip_W}
theorem re_cat (φ : Nat → Nat) (v : Value) : (re_v φ v).category = v.category := by cases v <;> rfl
theorem re_isR (φ : Nat → Nat) (v : Value) : ip_isR (re_v φ v) = ip_isR v := by cases v <;> rfl
theorem re_fok (φ : Nat → Nat) (tc : Nat) (v : Value) : ip_fok tc (re_v φ v) = ip_fok tc v := by cases v <;> rfl
theorem re_at (hr : re_ok φ ψ) {a : Nat} {x : ip_E} (h : w.2.2 a = some x) : (re_w φ ψ w u).2.2 (φ a) = some (re_e φ x) := by
  show (match (ψ (φ a)).bind w.2.2 with
    | some x => some (re_e φ x)
    | none => u.2.2 (φ a)) = some (re_e φ x)
  rw [hr.1 a]
  show (match w.2.2 a with
    | some x => some (re_e φ x)
    | none => u.2.2 (φ a)) = some (re_e φ x)
  rw [h]
theorem re_up (hr : re_ok φ ψ) {a : Nat} {x y : ip_E} (_ : w.2.2 a = some y) : ((re_w φ ψ w u).1, (re_w φ ψ w u).2.1, va_up (re_w φ ψ w u).2.2 (φ a) (some (re_e φ x))) = re_w φ ψ (w.1, w.2.1, va_up w.2.2 a (some x)) u := by
  show (u.1, u.2.1, va_up (fun q => match (ψ q).bind w.2.2 with
    | some x => some (re_e φ x)
    | none => u.2.2 q) (φ a) (some (re_e φ x))) = (u.1, u.2.1, fun q => match (ψ q).bind (va_up w.2.2 a (some x)) with
    | some x => some (re_e φ x)
    | none => u.2.2 q)
  congr 2
  funext q
  by_cases hq : q = φ a
  · subst hq
    simp [va_up, hr.1]
  · cases hp : ψ q with
    | none => simp [va_up, hq, hp]
    | some b =>
      have hb : b ≠ a := fun e => hq (by rw [← hr.2 q b hp, e])
      simp [va_up, hq, hp, hb]
theorem re_get (φ : Nat → Nat) : ∀ (lo : List (Nat × Value)) (i : Nat), ip_get (re_l φ lo) i = (ip_get lo i).map (re_v φ)
  | [], i => rfl
  | q :: r, i => by
    have h := re_get φ r i
    show (if q.1 = i then some (re_v φ q.2) else ip_get (re_l φ r) i) = Option.map (re_v φ) (if q.1 = i then some q.2 else ip_get r i)
    by_cases hq : q.1 = i
    · rw [if_pos hq, if_pos hq]; rfl
    · rw [if_neg hq, if_neg hq, h]
theorem re_set1 (φ : Nat → Nat) (lo : List (Nat × Value)) (i : Nat) (v : Value) : re_l φ (ip_set1 lo i v) = ip_set1 (re_l φ lo) i (re_v φ v) := by
  simp only [re_l, ip_set1, List.map_cons, List.filter_map, Function.comp_def, re_cat]
theorem re_set2 (φ : Nat → Nat) (lo : List (Nat × Value)) (i : Nat) (v : Value) : re_l φ (ip_set2 lo i v) = ip_set2 (re_l φ lo) i (re_v φ v) := by
  simp only [re_l, ip_set2, List.map_cons, List.filter_map, Function.comp_def, re_cat]
theorem re_r (φ : Nat → Nat) (r : Option Nat) : re_v φ (ip_r r) = ip_r (r.map φ) := by cases r <;> rfl
theorem re_upf {f : Nat → Option Nat} {i v : Nat} : (fun j => (va_up f i (some v) j).map φ) = va_up (fun j => (f j).map φ) i (some (φ v)) := by
  funext j
  by_cases hj : j = i
  · subst hj
    simp [va_up]
  · simp [va_up, hj]
set_option maxHeartbeats 4000000 in
theorem ip_st_re (hr : re_ok φ ψ) {Fd : Nat → Option (Nat × Nat)} {Ft : Nat → Nat → Option (Nat × Bool)} {Cn : Nat → Option Value} {Nw : Nat → Option (Nat × List Value)} {nL : Nat} {ini : Option Nat} {i : Instr} {pc : Nat} {lo : List (Nat × Value)} {st : List Value} {r : ip_R} (hC : ∀ k v, Cn k = some v → re_v φ v = v) (h : ip_st Fd Ft Cn Nw nL ini i pc lo st w = some r) (hn : r.2.2.2.1 = w.1) : ip_st Fd Ft Cn Nw nL ini i pc (re_l φ lo) (st.map (re_v φ)) (re_w φ ψ w u) = some (r.1, re_l φ r.2.1, r.2.2.1.map (re_v φ), re_w φ ψ r.2.2.2 u) := by
  cases i
  case iload_n | iload | lload_n | lload =>
    simp only [ip_st] at h ⊢
    split at h
    · rename_i x hx
      cases h
      simp only [re_get, hx, Option.map_some, re_v, List.map_cons]
    · cases h
  case aload_n | aload =>
    simp only [ip_st] at h ⊢
    split at h
    · rename_i x hx
      split at h
      · rename_i hk
        cases h
        simp only [re_get, hx, Option.map_some, List.map_cons, re_isR]
        rw [if_pos hk]
      · cases h
    · cases h
  case iinc =>
    simp only [ip_st] at h ⊢
    split at h
    · rename_i x hx
      split at h
      · rename_i hk
        cases h
        simp only [re_get, hx, Option.map_some, re_set1]
        simp only [re_v]
        rw [if_pos hk]
      · cases h
    · cases h
  case istore_n | istore =>
    simp only [ip_st] at h
    split at h
    · split at h
      · rename_i hk
        cases h
        simp only [ip_st, List.map_cons, re_v, re_set1]
        rw [if_pos hk]
      · cases h
    · cases h
  case lstore_n | lstore =>
    simp only [ip_st] at h
    split at h
    · split at h
      · rename_i hk
        cases h
        simp only [ip_st, List.map_cons, re_v, re_set2]
        rw [if_pos hk]
      · cases h
    · cases h
  case astore_n | astore =>
    simp only [ip_st] at h
    split at h
    · split at h
      · rename_i hk
        cases h
        simp only [ip_st, List.map_cons, re_isR, re_set1]
        rw [if_pos hk]
      · cases h
    · cases h
  case ldc | ldc_w | ldc2_w =>
    simp only [ip_st] at h ⊢
    split at h
    · rename_i v hv
      cases h
      simp only [hv, List.map_cons, hC _ _ hv]
    · cases h
  case dup | pop =>
    simp only [ip_st] at h
    split at h
    · split at h
      · rename_i hk
        cases h
        simp only [ip_st, List.map_cons, re_cat]
        rw [if_pos hk]
      · cases h
    · cases h
  case dup2 =>
    simp only [ip_st] at h
    split at h
    · split at h
      · rename_i hk
        cases h
        simp only [ip_st, List.map_cons, re_cat]
        rw [if_pos hk]
      · rename_i hk
        split at h
        · split at h
          · rename_i hk2
            cases h
            simp only [ip_st, List.map_cons, re_cat]
            rw [if_neg hk, if_pos hk2]
          · cases h
        · cases h
    · cases h
  case getfield k =>
    simp only [ip_st] at h
    split at h
    · split at h
      · rename_i hF hw
        split at h
        · rename_i hc
          split at h
          · rename_i x hx
            cases h
            simp only [ip_st, List.map_cons]
            rw [show ∀ a, re_v φ (.ref a) = .ref (φ a) from fun _ => rfl]
            simp only [hF, re_at (u := u) hr hw, re_e]
            rw [if_pos hc]
            simp only [List.getElem?_map, hx, Option.map_some]
          · cases h
        · cases h
      · cases h
    · cases h
  case putfield k =>
    simp only [ip_st] at h
    split at h
    · split at h
      · rename_i hF hw
        split at h
        · rename_i hFt
          split at h
          · rename_i hc
            cases h
            simp only [ip_st, List.map_cons]
            rw [show ∀ a, re_v φ (.ref a) = .ref (φ a) from fun _ => rfl]
            simp only [hF, re_at (u := u) hr hw, re_e, hFt, re_fok]
            rw [if_pos ⟨hc.1, hc.2.1, by rw [List.length_map]; exact hc.2.2.1, hc.2.2.2⟩, ← re_up hr hw, ← List.map_set]
            rfl
          · cases h
        · cases h
      · cases h
    · cases h
  case arraylength =>
    simp only [ip_st] at h
    split at h
    · split at h
      · rename_i kd n x hw
        split at h
        · rename_i hc
          cases h
          simp only [ip_st, List.map_cons]
          rw [show ∀ a, re_v φ (.ref a) = .ref (φ a) from fun _ => rfl]
          simp only [re_at (u := u) hr hw]
          obtain f | f | f := x <;> simp only [re_e, if_pos hc] <;> rfl
        · cases h
      · cases h
    · cases h
  case iaload | laload =>
    simp only [ip_st] at h
    split at h
    · split at h
      · rename_i hw
        split at h
        · rename_i hc
          cases h
          simp only [ip_st, List.map_cons, re_v]
          rw [re_at (u := u) hr hw]
          simp only [re_e]
          rw [if_pos hc]
        · cases h
      · cases h
    · cases h
  case aaload =>
    simp only [ip_st] at h
    split at h
    · split at h
      · rename_i hw
        split at h
        · rename_i hc
          cases h
          simp only [ip_st, List.map_cons, re_r]
          rw [show ∀ a, re_v φ (.ref a) = .ref (φ a) from fun _ => rfl, show ∀ a, re_v φ (.int a) = .int a from fun _ => rfl]
          simp only [re_at (u := u) hr hw, re_e]
          rw [if_pos hc]
        · cases h
      · cases h
    · cases h
  case baload =>
    simp only [ip_st] at h
    split at h
    · split at h
      · rename_i hw
        split at h
        · rename_i hc
          cases h
          simp only [ip_st, List.map_cons, re_v]
          rw [re_at (u := u) hr hw]
          simp only [re_e]
          rw [if_pos hc]
        · cases h
      · rename_i hw
        split at h
        · rename_i hc
          cases h
          simp only [ip_st, List.map_cons, re_v]
          rw [re_at (u := u) hr hw]
          simp only [re_e]
          rw [if_pos hc]
        · cases h
      · cases h
    · cases h
  case iastore | lastore =>
    simp only [ip_st] at h
    split at h
    · split at h
      · rename_i hw
        split at h
        · rename_i hc
          cases h
          simp only [ip_st, List.map_cons, re_v]
          rw [re_at (u := u) hr hw]
          simp only [re_e]
          rw [if_pos hc, ← re_up hr hw]
          rfl
        · cases h
      · cases h
    · cases h
  case bastore =>
    simp only [ip_st] at h
    split at h
    · split at h
      · rename_i hw
        split at h
        · rename_i hc
          cases h
          simp only [ip_st, List.map_cons, re_v]
          rw [re_at (u := u) hr hw]
          simp only [re_e]
          rw [if_pos hc, ← re_up hr hw]
          rfl
        · cases h
      · rename_i hw
        split at h
        · rename_i hc
          cases h
          simp only [ip_st, List.map_cons, re_v]
          rw [re_at (u := u) hr hw]
          simp only [re_e]
          rw [if_pos hc, ← re_up hr hw]
          rfl
        · cases h
      · cases h
    · cases h
  case aastore =>
    simp only [ip_st] at h
    split at h
    · split at h
      · rename_i hw hv
        split at h
        · rename_i hc
          cases h
          simp only [ip_st, List.map_cons, re_v]
          rw [re_at (u := u) hr hw, re_at (u := u) hr hv]
          simp only [re_e]
          rw [if_pos hc, ← re_up hr hw]
          simp only [re_e, re_upf]
        · cases h
      · cases h
    · cases h
  case new k =>
    simp only [ip_st] at h
    split at h
    · cases h
      simp only at hn
      omega
    · cases h
  case newarray t =>
    simp only [ip_st] at h
    split at h
    · split at h
      · split at h
        · cases h
          simp only at hn
          omega
        · cases h
      · cases h
    · cases h
  case anewarray t =>
    simp only [ip_st] at h
    split at h
    · split at h
      · cases h
        simp only at hn
        omega
      · cases h
    · cases h
  case lookupswitch d ps =>
    simp only [ip_st] at h
    split at h
    · split at h
      · rename_i hs
        split at h
        · rename_i t ht
          cases h
          simp only [ip_st, List.map_cons, re_v]
          rw [if_pos hs]
          simp only [ht]
        · cases h
      · cases h
    · cases h
  case tableswitch d lw hi offs =>
    simp only [ip_st] at h
    split at h
    · split at h
      · rename_i hs
        split at h
        · rename_i t ht
          cases h
          simp only [ip_st, List.map_cons, re_v]
          rw [if_pos hs]
          simp only [ht]
        · cases h
      · rename_i hs
        split at h
        · rename_i off hoff
          split at h
          · rename_i t ht
            cases h
            simp only [ip_st, List.map_cons, re_v]
            rw [if_neg hs]
            simp only [hoff, ht]
          · cases h
        · cases h
    · cases h
  all_goals
    simp only [ip_st] at h
    (repeat' split at h) <;> first | (cases h; done) | (cases h; simp_all [ip_st, re_v]; done) | (cases h; rfl)
theorem re_sum (st : List Value) : ((st.map (re_v φ)).map fun v => v.category).sum = (st.map fun v => v.category).sum := by
  rw [List.map_map]
  congr 1
  exact List.map_congr_left (fun v _ => re_cat φ v)
theorem re_sl : ∀ av : List Value, (lg_sl (av.map (re_v φ))).length = (lg_sl av).length
  | [] => rfl
  | v :: vs => by
    have h := re_sl vs
    simp only [lg_sl, List.map_cons, List.flatMap_cons, List.length_append] at h ⊢
    rw [h, re_cat]
    split <;> rfl
theorem re_args (φ : Nat → Nat) : ∀ (av : List Value) (i : Nat), re_l φ (lv_args i av) = lv_args i (av.map (re_v φ))
  | [], i => rfl
  | v :: vs, i => by
    show (i, re_v φ v) :: re_l φ (lv_args (if v.category = 2 then i + 2 else i + 1) vs) = (i, re_v φ v) :: lv_args (if (re_v φ v).category = 2 then i + 2 else i + 1) (vs.map (re_v φ))
    rw [re_args φ vs, re_cat]
theorem re_take {n : Nat} {st av rest : List Value} (h : ip_take n st = some (av, rest)) : ip_take n (st.map (re_v φ)) = some (av.map (re_v φ), rest.map (re_v φ)) := by
  unfold ip_take at h ⊢
  split at h
  · rename_i hn
    cases h
    rw [if_pos (by rw [List.length_map]; exact hn), ← List.map_take, ← List.map_drop, ← List.map_reverse]
  · cases h
theorem re_arg (hr : re_ok φ ψ) {kc n ci : Nat} {st av rest : List Value} (h : ip_arg kc n ci st w = some (av, rest)) : ip_arg kc n ci (st.map (re_v φ)) (re_w φ ψ w u) = some (av.map (re_v φ), rest.map (re_v φ)) := by
  unfold ip_arg at h ⊢
  split at h
  · cases h
  · rename_i av2 rest2 ht
    rw [re_take ht]
    simp only
    split at h
    · rename_i hk
      cases h
      rw [if_pos hk]
    · rename_i hk
      rw [if_neg hk]
      split at h
      · rename_i a rr
        simp only [List.map_cons]
        rw [show re_v φ (.ref a) = .ref (φ a) from rfl]
        simp only
        split at h
        · rename_i hk2
          cases h
          rw [if_pos hk2]
          rfl
        · rename_i hk2
          rw [if_neg hk2]
          split at h
          · rename_i cj fs hw
            split at h
            · rename_i hcj
              cases h
              simp only [re_at (u := u) hr hw, re_e]
              rw [if_pos hcj]
              rfl
            · cases h
          · cases h
      · cases h
theorem re_hd (hr : re_ok φ ψ) {X : Nat → Option Nat} {a h : Nat} (hh : ip_hd X w a = some h) : ip_hd X (re_w φ ψ w u) (φ a) = some h := by
  unfold ip_hd at hh ⊢
  split at hh
  · rename_i ci fs hw
    simp only [re_at (u := u) hr hw, re_e]
    exact hh
  · cases hh
theorem re_P (hr : re_ok φ ψ) {z : Nat} {av : List Value} {w2 : ip_W} {v : Option Value} (h : vt_P z av w = some (v, w2)) : vt_P z (av.map (re_v φ)) (re_w φ ψ w u) = some (v.map (re_v φ), re_w φ ψ w2 u) ∧ w2.1 = w.1 ∧ w2.2.1 = w.2.1 := by
  unfold vt_P at h
  split at h
  case h_7 a0 sp a1 dp n =>
    split at h
    · rename_i hc
      split at h
      · rename_i m0 f m1 g h0 h1
        split at h
        · rename_i hq
          cases h
          refine ⟨?_, rfl, rfl⟩
          simp only [vt_P, List.map_cons, List.map_nil, re_v]
          rw [if_pos hc]
          simp only [re_at (u := u) hr h0, re_at (u := u) hr h1, re_e]
          rw [if_pos hq, ← re_up hr h1]
          rfl
        · cases h
      · rename_i m0 f m1 g h0 h1
        split at h
        · rename_i hq
          cases h
          refine ⟨?_, rfl, rfl⟩
          simp only [vt_P, List.map_cons, List.map_nil, re_v]
          rw [if_pos hc]
          simp only [re_at (u := u) hr h0, re_at (u := u) hr h1, re_e]
          rw [if_pos hq, ← re_up hr h1]
          rfl
        · cases h
      · cases h
    · cases h
  case h_8 => cases h
  all_goals
    cases h
    exact ⟨rfl, rfl, rfl⟩
theorem re_end {rc : Nat} {i : Instr} {st : List Value} {o : Outcome} (h : ip_end rc i st w = some (o, w)) {w2 : ip_W} : ip_end rc i (st.map (re_v φ)) w2 = some (re_o φ o, w2) := by
  cases i <;> simp only [ip_end] at h <;> first | (cases h; done) | skip
  all_goals
    (repeat' split at h) <;> first | (cases h; done) | skip
  all_goals
    rename_i hk
    cases h
    simp only [ip_end, List.map_cons, List.map_nil, re_v, re_o, Option.map_some, Option.map_none]
    rw [if_pos hk]
end RE
