/-! part 61: the limit of the runs; locals as a list; the judgement js_J -/
section JSL
variable {tb : ip_TB} {d d2 y y2 pc pc2 : Nat} {lo lo2 : List (Nat × Value)} {st st2 : List Value} {w w2 : ip_W}
theorem js_ev (tb : ip_TB) (d y pc : Nat) (lo : List (Nat × Value)) (st : List Value) (w : ip_W) : ∃ o : Option (Outcome × ip_W), ∃ F : Nat, ∀ f, F ≤ f → ip_ex tb f d y pc lo st w = o := by
  by_cases h : ∃ (f : Nat) (r : Outcome × ip_W), ip_ex tb f d y pc lo st w = some r
  · obtain ⟨f, r, hr⟩ := h
    exact ⟨some r, f, fun f2 h2 => ip_ex_up tb f f2 d d y pc lo st w r hr h2 (Nat.le_refl _)⟩
  · refine ⟨none, 0, fun f _ => ?_⟩
    cases hc : ip_ex tb f d y pc lo st w with
    | none => rfl
    | some r => exact absurd ⟨f, r, hc⟩ h
noncomputable def js_li (tb : ip_TB) (d y pc : Nat) (lo : List (Nat × Value)) (st : List Value) (w : ip_W) : Option (Outcome × ip_W) := Classical.choose (js_ev tb d y pc lo st w)
theorem js_li_of (tb : ip_TB) (d y pc : Nat) (lo : List (Nat × Value)) (st : List Value) (w : ip_W) : ∃ F : Nat, ∀ f, F ≤ f → ip_ex tb f d y pc lo st w = js_li tb d y pc lo st w := Classical.choose_spec (js_ev tb d y pc lo st w)
theorem js_step (h : ∀ f, ip_ex tb (f + 1) d y pc lo st w = ip_ex tb f d2 y2 pc2 lo2 st2 w2) : js_li tb d y pc lo st w = js_li tb d2 y2 pc2 lo2 st2 w2 := by
  obtain ⟨F, hF⟩ := js_li_of tb d y pc lo st w
  obtain ⟨G, hG⟩ := js_li_of tb d2 y2 pc2 lo2 st2 w2
  rw [← hF (F + G + 1) (by omega), ← hG (F + G) (by omega)]
  exact h _
theorem js_const {o : Option (Outcome × ip_W)} (h : ∀ f, ip_ex tb (f + 1) d y pc lo st w = o) : js_li tb d y pc lo st w = o := by
  obtain ⟨F, hF⟩ := js_li_of tb d y pc lo st w
  rw [← hF (F + 1) (by omega)]
  exact h _
theorem js_li_rn {o : Outcome} (h : js_li tb d y pc lo st w = some (o, w2)) : ip_rn tb d y pc lo st w o w2 := by
  obtain ⟨F, hF⟩ := js_li_of tb d y pc lo st w
  exact ⟨F, by rw [hF F (Nat.le_refl _), h]⟩
theorem js_li_lo (h1 : ip_le lo lo2) (h2 : ip_le lo2 lo) : js_li tb d y pc lo st w = js_li tb d y pc lo2 st w := by
  obtain ⟨F, hF⟩ := js_li_of tb d y pc lo st w
  obtain ⟨G, hG⟩ := js_li_of tb d y pc lo2 st w
  rw [← hF (F + G) (by omega), ← hG (F + G) (by omega)]
  cases h3 : ip_ex tb (F + G) d y pc lo st w with
  | some r => exact (ip_ex_lo tb _ _ _ _ _ _ _ _ _ h1 h3).symm
  | none =>
    cases h4 : ip_ex tb (F + G) d y pc lo2 st w with
    | none => rfl
    | some r =>
      have := ip_ex_lo tb _ _ _ _ _ _ _ _ _ h2 h4
      rw [h3] at this
      cases this
/-- a simple instruction -/
theorem js_si {i : Instr} {n : Nat} {r : ip_R} (hI : tI tb y pc = some (i, n)) (hk : ip_ck i = 0) (hw : ip_tw (tN tb y) i = none) (hs : ip_st (tF tb y) (tFt tb) (tC tb y) (tN tb y) (tL tb y) (tJ tb y) i pc lo st w = some r) : js_li tb d y pc lo st w = js_li tb d y r.1 r.2.1 r.2.2.1 r.2.2.2 := by
  refine js_step fun f => ?_
  conv => lhs; unfold ip_ex
  simp only [hI, hk, if_true, hw, hs]
/-- a simple instruction that can't be done -/
theorem js_sn {i : Instr} {n : Nat} (hI : tI tb y pc = some (i, n)) (hk : ip_ck i = 0) (hw : ip_tw (tN tb y) i = none) (hs : ip_st (tF tb y) (tFt tb) (tC tb y) (tN tb y) (tL tb y) (tJ tb y) i pc lo st w = none) (hr : ip_rd (tO tb) i st = none) : js_li tb d y pc lo st w = none := by
  refine js_const fun f => ?_
  conv => lhs; unfold ip_ex
  simp only [hI, hk, if_true, hw, hs, hr]
/-- what is read of the script -/
theorem js_srd {i : Instr} {n : Nat} (hI : tI tb y pc = some (i, n)) (hk : ip_ck i = 0) (hw : ip_tw (tN tb y) i = none) (hs : ip_st (tF tb y) (tFt tb) (tC tb y) (tN tb y) (tL tb y) (tJ tb y) i pc lo st w = none) (hr : ip_rd (tO tb) i st = some st2) : js_li tb d y pc lo st w = js_li tb d y (pc + 1) lo st2 w := by
  refine js_step fun f => ?_
  conv => lhs; unfold ip_ex
  simp only [hI, hk, if_true, hw, hs, hr]
theorem js_send {i : Instr} {n : Nat} (hI : tI tb y pc = some (i, n)) (hk : ip_ck i = 2) : js_li tb d y pc lo st w = ip_end (tR tb y) i st w := by
  refine js_const fun f => ?_
  conv => lhs; unfold ip_ex
  simp only [hI, hk]
  rfl
theorem js_sthrow {i : Instr} {n ci : Nat} (hI : tI tb y pc = some (i, n)) (hk : ip_ck i = 0) (hw : ip_tw (tN tb y) i = some ci) (hd : 6 ≤ d) (hh : (tH tb y).isEmpty = true) (hs : (st.map fun v => v.category).sum ≤ 8) : js_li tb d y pc lo st w = some (.threw w.1, ip_thw w ci) := by
  refine js_const fun f => ?_
  conv => lhs; unfold ip_ex
  simp only [hI, hk, if_true, hw]
  rw [if_pos ⟨hd, hh, hs⟩]
/-- a call of a method of ours that returns -/
theorem js_scall {i : Instr} {n kc k z na ci : Nat} {av rest : List Value} {v : Option Value} (hI : tI tb y pc = some (i, n)) (hc : ip_ci i = some (kc, k)) (hk : ip_ck i = 1) (hM : tM tb y k = some (z, na, kc, ci)) (h3 : kc ≠ 3) (ha : ip_arg kc na ci st w = some (av, rest)) (hd : 1 ≤ d) (hs : (rest.map fun v => v.category).sum ≤ 8) (hl : (lg_sl av).length ≤ tL tb z) (hz : js_li tb (d - 1) z 0 (lv_args 0 av) [] w = some (.returned v, w2)) : js_li tb d y pc lo st w = js_li tb d y (pc + 3) lo (v.toList ++ rest) w2 := by
  obtain ⟨F, hF⟩ := js_li_of tb d y pc lo st w
  obtain ⟨G, hG⟩ := js_li_of tb (d - 1) z 0 (lv_args 0 av) [] w
  obtain ⟨K, hK⟩ := js_li_of tb d y (pc + 3) lo (v.toList ++ rest) w2
  rw [← hF (F + G + K + 1) (by omega), ← hK (F + G + K) (by omega)]
  conv => lhs; unfold ip_ex
  have hG2 := hG (F + G + K) (by omega)
  rw [hz] at hG2
  simp only [hI, hk, hc, hM, h3, if_false, if_true, ha, hG2]
  rw [if_neg (by decide), if_neg (by decide), if_pos ⟨hd, hs, hl⟩]
/-- a call that throws, in a method that catches nothing -/
theorem js_scallT {i : Instr} {n kc k z na ci a : Nat} {av rest : List Value} (hI : tI tb y pc = some (i, n)) (hc : ip_ci i = some (kc, k)) (hk : ip_ck i = 1) (hM : tM tb y k = some (z, na, kc, ci)) (h3 : kc ≠ 3) (ha : ip_arg kc na ci st w = some (av, rest)) (hd : 1 ≤ d) (hs : (rest.map fun v => v.category).sum ≤ 8) (hl : (lg_sl av).length ≤ tL tb z) (hh : (tH tb y).isEmpty = true) (hz : js_li tb (d - 1) z 0 (lv_args 0 av) [] w = some (.threw a, w2)) : js_li tb d y pc lo st w = some (.threw a, w2) := by
  obtain ⟨F, hF⟩ := js_li_of tb d y pc lo st w
  obtain ⟨G, hG⟩ := js_li_of tb (d - 1) z 0 (lv_args 0 av) [] w
  rw [← hF (F + G + 1) (by omega)]
  conv => lhs; unfold ip_ex
  have hG2 := hG (F + G) (by omega)
  rw [hz] at hG2
  simp only [hI, hk, hc, hM, h3, if_false, if_true, ha, hG2, hh]
  rw [if_neg (by decide), if_neg (by decide), if_pos ⟨hd, hs, hl⟩]
/-- a call that throws, caught here -/
theorem js_scallC {i : Instr} {n kc k z na ci a h : Nat} {av rest : List Value} (hI : tI tb y pc = some (i, n)) (hc : ip_ci i = some (kc, k)) (hk : ip_ck i = 1) (hM : tM tb y k = some (z, na, kc, ci)) (h3 : kc ≠ 3) (ha : ip_arg kc na ci st w = some (av, rest)) (hd : 1 ≤ d) (hs : (rest.map fun v => v.category).sum ≤ 8) (hl : (lg_sl av).length ≤ tL tb z) (hh : (tH tb y).isEmpty = false) (hz : js_li tb (d - 1) z 0 (lv_args 0 av) [] w = some (.threw a, w2)) (hx : ip_hd (tX tb y pc) w2 a = some h) : js_li tb d y pc lo st w = js_li tb d y h lo [.ref a] w2 := by
  obtain ⟨F, hF⟩ := js_li_of tb d y pc lo st w
  obtain ⟨G, hG⟩ := js_li_of tb (d - 1) z 0 (lv_args 0 av) [] w
  obtain ⟨K, hK⟩ := js_li_of tb d y h lo [.ref a] w2
  rw [← hF (F + G + K + 1) (by omega), ← hK (F + G + K) (by omega)]
  conv => lhs; unfold ip_ex
  have hG2 := hG (F + G + K) (by omega)
  rw [hz] at hG2
  simp only [hI, hk, hc, hM, h3, if_false, if_true, ha, hG2, hh, hx]
  rw [if_neg (by decide), if_neg (by decide), if_pos ⟨hd, hs, hl⟩]
  rfl
/-- Object's constructor -/
theorem js_sobj {i : Instr} {n k z na ci a : Nat} {rest : List Value} (hI : tI tb y pc = some (i, n)) (hc : ip_ci i = some (2, k)) (hk : ip_ck i = 1) (hM : tM tb y k = some (z, na, 3, ci)) (hd : 1 ≤ d) (hs : (rest.map fun v => v.category).sum ≤ 8) : js_li tb d y pc lo (.ref a :: rest) w = js_li tb d y (pc + 3) lo rest w := by
  refine js_step fun f => ?_
  conv => lhs; unfold ip_ex
  simp only [hI, hk, hc, hM, if_true]
  rw [if_neg (by decide), if_neg (by decide), if_pos ⟨trivial, hd, hs⟩]
/-- a member of the library -/
theorem js_slib {i : Instr} {n kc k z na ci : Nat} {av rest : List Value} {v : Option Value} (hI : tI tb y pc = some (i, n)) (hc : ip_ci i = some (kc, k)) (hk : ip_ck i = 1) (hM : tM tb y k = some (z, na, kc + 4, ci)) (ha : ip_argP kc na st = some (av, rest)) (hd : 4 ≤ d) (hs : (rest.map fun v => v.category).sum ≤ 8) (hP : tP tb z av w = some (v, w2)) (hw : w.1 ≤ w2.1 ∧ w.2.1 ≤ w2.2.1) : js_li tb d y pc lo st w = js_li tb d y (pc + 3) lo (v.toList ++ rest) w2 := by
  refine js_step fun f => ?_
  conv => lhs; unfold ip_ex
  have h3 : ¬ kc + 4 = 3 := by omega
  have h4 : ¬ kc + 4 = kc := by omega
  simp only [hI, hk, hc, hM, h3, h4, if_false, if_true, ha, hP]
  rw [if_neg (by decide), if_neg (by decide), if_pos ⟨hd, hs⟩, if_pos hw]
end JSL
def js_L : List js_v → Nat → List (Nat × Value)
  | [], _ => []
  | v :: r, k => if v.1 = 9 then js_L r (k + 1) else (k, js_V v) :: js_L r (k + 1)
theorem js_L_keys : ∀ (ls : List js_v) (j k : Nat), k ∈ (js_L ls j).map Prod.fst → j ≤ k
  | [], j, k, h => by simp [js_L] at h
  | v :: r, j, k, h => by
    unfold js_L at h
    split at h
    · have := js_L_keys r (j + 1) k h
      omega
    · simp only [List.map_cons, List.mem_cons] at h
      rcases h with h | h
      · omega
      · have := js_L_keys r (j + 1) k h
        omega
theorem js_L_nodup : ∀ (ls : List js_v) (j : Nat), ((js_L ls j).map Prod.fst).Nodup
  | [], j => by simp [js_L]
  | v :: r, j => by
    unfold js_L
    split
    · exact js_L_nodup r (j + 1)
    · rw [List.map_cons, List.nodup_cons]
      refine ⟨fun h => ?_, js_L_nodup r (j + 1)⟩
      have := js_L_keys r (j + 1) _ h
      omega
theorem js_L_get : ∀ (ls : List js_v) (j k : Nat), ip_get (js_L ls j) (j + k) = (ls[k]?).bind (fun v => if v.1 = 9 then none else some (js_V v))
  | [], j, k => by simp [js_L, ip_get]
  | v :: r, j, 0 => by
    simp only [js_L, List.getElem?_cons_zero, Option.bind_some, Nat.add_zero]
    split
    · refine ip_get_none _ _ fun h => ?_
      have := js_L_keys r (j + 1) _ h
      omega
    · simp [ip_get]
  | v :: r, j, k + 1 => by
    simp only [js_L, List.getElem?_cons_succ]
    have e : j + (k + 1) = (j + 1) + k := by omega
    split
    · rw [e, js_L_get r (j + 1) k]
    · rw [show ip_get ((j, js_V v) :: js_L r (j + 1)) (j + (k + 1)) = ip_get (js_L r (j + 1)) (j + (k + 1)) from if_neg (by show ¬ j = j + (k + 1); omega), e, js_L_get r (j + 1) k]
theorem js_L_at {ls : List js_v} {k : Nat} {v : js_v} (h : ls[k]? = some v) (h9 : v.1 ≠ 9) : ip_get (js_L ls 0) k = some (js_V v) := by
  have := js_L_get ls 0 k
  rw [Nat.zero_add, h] at this
  rw [this]
  exact if_neg h9
/-- a long that begins at the place ahead of k is no more, once k is set -/
def js_kl (ls : List js_v) (k : Nat) : List js_v := match k with
  | 0 => ls
  | j + 1 => (match ls[j]? with
    | some (1, _) => ls.set j (9, 0)
    | _ => ls)
def js_s1 (ls : List js_v) (k : Nat) (v : js_v) : List js_v := (js_kl ls k).set k v
def js_s2 (ls : List js_v) (k : Nat) (v : js_v) : List js_v := ((js_kl ls k).set k v).set (k + 1) (9, 0)
theorem js_cat (v : js_v) : (js_V v).category = 2 ↔ v.1 = 1 := by
  obtain ⟨t, x⟩ := v
  match t with
  | 0 => simp [js_V, Value.category]
  | 1 => simp [js_V, Value.category]
  | 2 =>
    simp only [js_V, js_rf]
    split <;> simp [Value.category]
  | n + 3 => simp [js_V, Value.category]
theorem js_kl_get (ls : List js_v) (k i : Nat) : (js_kl ls k)[i]? = if i + 1 = k ∧ (ls[i]?).map Prod.fst = some 1 then some (9, 0) else ls[i]? := by
  unfold js_kl
  match k with
  | 0 => simp
  | j + 1 =>
    simp only
    split
    · rename_i x hx
      rw [List.getElem?_set]
      by_cases hi : j = i
      · subst hi
        have hl : j < ls.length := (List.getElem?_eq_some_iff.mp hx).1
        rw [if_pos rfl, if_pos hl, if_pos ⟨rfl, by rw [hx]; rfl⟩]
      · rw [if_neg hi, if_neg (fun h => hi (by omega))]
    · rename_i hx
      rw [if_neg]
      rintro ⟨h1, h2⟩
      have : j = i := by omega
      subst this
      cases h3 : ls[j]? with
      | none => rw [h3] at h2; cases h2
      | some u =>
        rw [h3] at h2
        simp only [Option.map_some, Option.some.injEq] at h2
        exact hx u.2 (by rw [h3, ← h2])
theorem js_kl_len (ls : List js_v) (k : Nat) : (js_kl ls k).length = ls.length := by
  unfold js_kl
  match k with
  | 0 => rfl
  | j + 1 =>
    simp only
    split
    · exact List.length_set
    · rfl
/-- what a place holds, as the locals of the picture -/
def js_o (o : Option js_v) : Option Value := o.bind (fun v => if v.1 = 9 then none else some (js_V v))
theorem js_s1_get {ls : List js_v} {k : Nat} {v : js_v} (h9 : v.1 ≠ 9) (hk : k < ls.length) (i : Nat) : ip_get (ip_set1 (js_L ls 0) k (js_V v)) i = ip_get (js_L (js_s1 ls k v) 0) i := by
  have g1 : ip_get (js_L (js_s1 ls k v) 0) i = js_o (js_s1 ls k v)[i]? := by
    have := js_L_get (js_s1 ls k v) 0 i
    rw [Nat.zero_add] at this
    exact this
  have g2 : ip_get (js_L ls 0) i = js_o ls[i]? := by
    have := js_L_get ls 0 i
    rw [Nat.zero_add] at this
    exact this
  rw [g1]
  unfold ip_set1 js_s1
  rw [List.getElem?_set]
  unfold ip_get
  by_cases hi : k = i
  · subst hi
    rw [if_pos rfl, if_pos rfl, if_pos (by rw [js_kl_len]; exact hk)]
    show _ = (if v.1 = 9 then none else some (js_V v))
    rw [if_neg h9]
  · rw [if_neg hi, if_neg hi, ip_get_filter _ _ _ (js_L_nodup ls 0), g2, js_kl_get]
    cases hl : ls[i]? with
    | none => simp [js_o]
    | some u =>
      simp only [js_o, Option.bind_some, Option.map_some, Option.some.injEq]
      have hik : ¬ i = k := fun h => hi h.symm
      by_cases h2 : u.1 = 9
      · have h3 : ¬ (i + 1 = k ∧ u.1 = 1) := fun h => by omega
        rw [if_pos h2, if_neg h3, Option.bind_some, if_pos h2]
      · rw [if_neg h2]
        by_cases h1 : i + 1 = k ∧ u.1 = 1
        · have hc : (js_V u).category = 2 := (js_cat u).mpr h1.2
          rw [if_pos h1]
          simp [h1.1, hc]
        · have hc : ¬ (i + 1 = k ∧ (js_V u).category = 2) := fun h => h1 ⟨h.1, (js_cat u).mp h.2⟩
          rw [if_neg h1, Option.bind_some, if_neg h2]
          simp [hik]
          exact fun h3 h4 => hc ⟨h3, h4⟩
theorem js_s2_get {ls : List js_v} {k : Nat} {v : js_v} (h9 : v.1 ≠ 9) (hk : k < ls.length) (i : Nat) : ip_get (ip_set2 (js_L ls 0) k (js_V v)) i = ip_get (js_L (js_s2 ls k v) 0) i := by
  have g1 : ip_get (js_L (js_s2 ls k v) 0) i = js_o (js_s2 ls k v)[i]? := by
    have := js_L_get (js_s2 ls k v) 0 i
    rw [Nat.zero_add] at this
    exact this
  have g2 : ip_get (js_L ls 0) i = js_o ls[i]? := by
    have := js_L_get ls 0 i
    rw [Nat.zero_add] at this
    exact this
  rw [g1]
  unfold ip_set2 js_s2
  rw [List.getElem?_set, List.getElem?_set]
  unfold ip_get
  by_cases hi : k = i
  · subst hi
    rw [if_pos rfl, if_neg (by omega), if_pos rfl, if_pos (by rw [js_kl_len]; exact hk)]
    show _ = (if v.1 = 9 then none else some (js_V v))
    rw [if_neg h9]
  · rw [if_neg hi, if_neg hi, ip_get_filter _ _ _ (js_L_nodup ls 0), g2, js_kl_get, List.length_set, js_kl_len]
    by_cases hi2 : k + 1 = i
    · subst hi2
      rw [if_pos rfl]
      cases hl : ls[k + 1]? with
      | none =>
        simp only [js_o, Option.bind_none]
        split <;> rfl
      | some u =>
        have hl2 : k + 1 < ls.length := (List.getElem?_eq_some_iff.mp hl).1
        rw [if_pos hl2]
        simp only [js_o, Option.bind_some]
        by_cases h2 : u.1 = 9
        · simp [h2]
        · simp [h2]
    · rw [if_neg hi2]
      cases hl : ls[i]? with
      | none => simp [js_o]
      | some u =>
        simp only [js_o, Option.bind_some, Option.map_some, Option.some.injEq]
        have hik : ¬ i = k := fun h => hi h.symm
        have hik2 : ¬ i = k + 1 := fun h => hi2 h.symm
        by_cases h2 : u.1 = 9
        · have h3 : ¬ (i + 1 = k ∧ u.1 = 1) := fun h => by omega
          rw [if_pos h2, if_neg h3, Option.bind_some, if_pos h2]
        · rw [if_neg h2]
          by_cases h1 : i + 1 = k ∧ u.1 = 1
          · have hc : (js_V u).category = 2 := (js_cat u).mpr h1.2
            rw [if_pos h1]
            simp [h1.1, hc]
          · have hc : ¬ (i + 1 = k ∧ (js_V u).category = 2) := fun h => h1 ⟨h.1, (js_cat u).mp h.2⟩
            rw [if_neg h1, Option.bind_some, if_neg h2]
            simp [hik, hik2]
            exact fun h3 h4 => hc ⟨h3, h4⟩
theorem js_le_of {lo lo2 : List (Nat × Value)} (h1 : (lo.map Prod.fst).Nodup) (h2 : (lo2.map Prod.fst).Nodup) (h : ∀ i, ip_get lo i = ip_get lo2 i) : ip_le lo lo2 ∧ ip_le lo2 lo :=
  ⟨⟨h1, h2, fun k v hk => by rw [← h k]; exact hk⟩, ⟨h2, h1, fun k v hk => by rw [h k]; exact hk⟩⟩
theorem js_nd1 (lo : List (Nat × Value)) (k : Nat) (v : Value) (h : (lo.map Prod.fst).Nodup) : ((ip_set1 lo k v).map Prod.fst).Nodup := by
  unfold ip_set1
  rw [List.map_cons, List.nodup_cons]
  refine ⟨fun hm => ?_, ip_nodup_filter h⟩
  obtain ⟨q, hq, hk⟩ := List.mem_map.mp hm
  have := (List.mem_filter.mp hq).2
  simp at this
  exact this.1 hk
theorem js_nd2 (lo : List (Nat × Value)) (k : Nat) (v : Value) (h : (lo.map Prod.fst).Nodup) : ((ip_set2 lo k v).map Prod.fst).Nodup := by
  unfold ip_set2
  rw [List.map_cons, List.nodup_cons]
  refine ⟨fun hm => ?_, ip_nodup_filter h⟩
  obtain ⟨q, hq, hk⟩ := List.mem_map.mp hm
  have := (List.mem_filter.mp hq).2
  simp at this
  exact this.1 hk
theorem js_li_s1 {tb : ip_TB} {d y pc : Nat} {st : List Value} {w : ip_W} {ls : List js_v} {k : Nat} {v : js_v} (h9 : v.1 ≠ 9) (hk : k < ls.length) : js_li tb d y pc (ip_set1 (js_L ls 0) k (js_V v)) st w = js_li tb d y pc (js_L (js_s1 ls k v) 0) st w := by
  have h := js_le_of (js_nd1 _ k (js_V v) (js_L_nodup ls 0)) (js_L_nodup (js_s1 ls k v) 0) (js_s1_get h9 hk)
  exact js_li_lo h.1 h.2
theorem js_li_s2 {tb : ip_TB} {d y pc : Nat} {st : List Value} {w : ip_W} {ls : List js_v} {k : Nat} {v : js_v} (h9 : v.1 ≠ 9) (hk : k < ls.length) : js_li tb d y pc (ip_set2 (js_L ls 0) k (js_V v)) st w = js_li tb d y pc (js_L (js_s2 ls k v) 0) st w := by
  have h := js_le_of (js_nd2 _ k (js_V v) (js_L_nodup ls 0)) (js_L_nodup (js_s2 ls k v) 0) (js_s2_get h9 hk)
  exact js_li_lo h.1 h.2
/-- the run of method y from pc on, over a store: locals, stack, store -/
noncomputable def js_J (E : js_E) (d y pc : Nat) (ls st : List js_v) (σ : js_S) : Option (Outcome × ip_W) := js_li (vt_tb vt_P (vt_Ro E.2.1 E.2.2)) d y pc (js_L ls 0) (st.map js_V) (js_wd E.1 σ)
/-- it returned: a value; nothing; it threw -/
def js_r (E : js_E) (v : js_v) (σ : js_S) : Option (Outcome × ip_W) := some (.returned (some (js_V v)), js_wd E.1 σ)
def js_r0 (E : js_E) (σ : js_S) : Option (Outcome × ip_W) := some (.returned none, js_wd E.1 σ)
def js_t (E : js_E) (a : Int) (σ : js_S) : Option (Outcome × ip_W) := some (.threw a.toNat, js_wd E.1 σ)
def js_I (y pc : Nat) : Option (Instr × Nat) := ip_lk (vt_pr.getD y (⟨#[]⟩, [])).2 pc
def js_F (y k : Nat) : Option (Nat × Nat) := ip_lk (vt_FL.getD (vt_O y) []) k
def js_C (y k : Nat) : Option Value := ip_lk (vt_CL.getD (vt_O y) []) k
def js_N (y k : Nat) : Option (Nat × List Value) := ip_lk (vt_NL.getD (vt_O y) []) k
def js_M (y k : Nat) : Option (Nat × Nat × Nat × Nat) := ip_lk (vt_ML.getD (vt_O y) []) k
