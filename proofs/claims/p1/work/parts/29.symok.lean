/-! part 29: a step with symbols is sound -/
section SXS
variable {N : sx_N}
theorem sx_at (W : sx_W) (a : Nat) : (il_w (sx_wd N W)).2.2 a = (W.1[a]?).map (sx_ed N) := by
  show (W.1.map (sx_ed N))[a]? = _
  rw [List.getElem?_map]
theorem sx_wset {W : sx_W} {a : Nat} {e e2 : sx_e} (h : W.1[a]? = some e2) : ((il_w (sx_wd N W)).1, (il_w (sx_wd N W)).2.1, va_up (il_w (sx_wd N W)).2.2 a (some (sx_ed N e))) = il_w (sx_wd N (W.1.set a e, W.2)) := by
  rw [il_wset (y := sx_ed N e2) (by show (W.1.map (sx_ed N))[a]? = _; rw [List.getElem?_map, h]; rfl)]
  congr 1
  show ((W.1.map (sx_ed N)).set a (sx_ed N e), _) = ((W.1.set a e).map (sx_ed N), _)
  rw [List.map_set]
  rfl
theorem sx_wlen (W : sx_W) : (il_w (sx_wd N W)).1 = W.1.length := by
  show (W.1.map (sx_ed N)).length = _
  rw [List.length_map]
theorem sx_wpush {W : sx_W} {e : sx_e} {n : Nat ⊕ sx_v} : ((il_w (sx_wd N W)).1 + 1, (il_w (sx_wd N W)).2.1 + sx_n N n, va_up (il_w (sx_wd N W)).2.2 (il_w (sx_wd N W)).1 (some (sx_ed N e))) = il_w (sx_wd N (sx_more W e n)) := by
  rw [il_wpush]
  congr 1
  cases n with
  | inl n =>
    show (W.1.map (sx_ed N) ++ [sx_ed N e], W.2.1 + (W.2.2.map fun v => (sx_i N v).toNatClampNeg).sum + n) = ((W.1 ++ [e]).map (sx_ed N), W.2.1 + n + (W.2.2.map fun v => (sx_i N v).toNatClampNeg).sum)
    rw [List.map_append]
    congr 1
    omega
  | inr v =>
    show (W.1.map (sx_ed N) ++ [sx_ed N e], W.2.1 + (W.2.2.map fun v => (sx_i N v).toNatClampNeg).sum + (sx_i N v).toNatClampNeg) = ((W.1 ++ [e]).map (sx_ed N), W.2.1 + ((v :: W.2.2).map fun v => (sx_i N v).toNatClampNeg).sum)
    simp only [List.map_append, List.map_cons, List.map_nil, List.sum_cons]
    congr 1
    omega
theorem sx_ask_of {b : Bool} {c : sx_c} {cs : List sx_c} (h : ∀ q ∈ sx_ask b c cs, sx_h N q) : (b = true ∨ sx_h N c) ∧ ∀ q ∈ cs, sx_h N q := by
  unfold sx_ask at h
  split at h
  · rename_i hb
    exact ⟨Or.inl hb, h⟩
  · exact ⟨Or.inr (h _ List.mem_cons_self), fun q hq => h q (List.mem_cons_of_mem _ hq)⟩
theorem sx_inb_of {x : sx_v} {n : Nat ⊕ sx_v} {b : Bool} {e : sx_a} (h : sx_inb x n = some b) (hn : e.2.1 = n) (hb : b = true ∨ sx_h N (1, sx_i0, 0, [x], 0, [], e)) : sx_isI x = true ∧ ip_in (sx_i N x) (sx_n N n) = true := by
  subst hn
  unfold sx_inb at h
  split at h
  · rename_i x0 n0 hn0
    split at h
    · rename_i hin
      rw [hn0]
      exact ⟨rfl, hin⟩
    · cases h
  · split at h
    · rename_i hI
      cases h
      rcases hb with hb | hb
      · cases hb
      · exact ⟨hI, hb⟩
    · cases h
theorem sx_find_i {b : Nat} : ∀ (us : List (sx_v × sx_v)) (x : Nat) (r : Option sx_v), sx_find us x = some r → (∀ v, r = some v → sx_fi N b us x = sx_i N v) ∧ (r = none → sx_fi N b us x = sx_fi N b [] x)
  | [], x, r, h => by
    cases h
    exact ⟨fun v hv => (by cases hv), fun _ => rfl⟩
  | u :: t, x, r, h => by
    unfold sx_find at h
    split at h
    · rename_i y hy
      have hi : sx_i N u.1 = y := by rw [hy]; rfl
      split at h
      · rename_i hxy
        cases h
        refine ⟨fun v hv => ?_, fun hv => (by cases hv)⟩
        cases hv
        show upd (sx_fi N b t) (sx_i N u.1).toNatClampNeg (sx_i N u.2) x = _
        rw [hi, hxy]
        simp [upd]
      · rename_i hxy
        obtain ⟨h1, h2⟩ := sx_find_i (b := b) t x r h
        have e1 : sx_fi N b (u :: t) x = sx_fi N b t x := by
          show upd (sx_fi N b t) (sx_i N u.1).toNatClampNeg (sx_i N u.2) x = _
          rw [hi]
          simp [upd, Ne.symm hxy]
        rw [e1]
        exact ⟨h1, h2⟩
    · cases h
theorem sx_find_l {b : Nat} : ∀ (us : List (sx_v × sx_v)) (x : Nat) (r : Option sx_v), sx_find us x = some r → (∀ v, r = some v → sx_fl N b us x = sx_l N v) ∧ (r = none → sx_fl N b us x = sx_fl N b [] x)
  | [], x, r, h => by
    cases h
    exact ⟨fun v hv => (by cases hv), fun _ => rfl⟩
  | u :: t, x, r, h => by
    unfold sx_find at h
    split at h
    · rename_i y hy
      have hi : sx_i N u.1 = y := by rw [hy]; rfl
      split at h
      · rename_i hxy
        cases h
        refine ⟨fun v hv => ?_, fun hv => (by cases hv)⟩
        cases hv
        show vp_updL (sx_fl N b t) (sx_i N u.1).toNatClampNeg (sx_l N u.2) x = _
        rw [hi, hxy]
        simp [vp_updL]
      · rename_i hxy
        obtain ⟨h1, h2⟩ := sx_find_l (b := b) t x r h
        have e1 : sx_fl N b (u :: t) x = sx_fl N b t x := by
          show vp_updL (sx_fl N b t) (sx_i N u.1).toNatClampNeg (sx_l N u.2) x = _
          rw [hi]
          simp [vp_updL, Ne.symm hxy]
        rw [e1]
        exact ⟨h1, h2⟩
    · cases h
theorem sx_elt_of {a : sx_a} {x : sx_v} {k : Nat} {cs : List sx_c} (hx : sx_isI x = true) (h : ∀ c ∈ (sx_elt a x k cs).2.2, sx_h N c) : (∀ c ∈ cs, sx_h N c) ∧ (a.1 = 2 → sx_d N (sx_elt a x k cs).1 = .long (sx_fl N a.2.2.1 a.2.2.2 (sx_i N x).toNatClampNeg)) ∧ (a.1 ≠ 2 → sx_d N (sx_elt a x k cs).1 = .int (sx_fi N a.2.2.1 a.2.2.2 (sx_i N x).toNatClampNeg)) := by
  have key : (∀ c ∈ (2, sx_i0, 0, [x], 0, [.inr (decide (a.1 = 2), k)], a) :: cs, sx_h N c) → (∀ c ∈ cs, sx_h N c) ∧ (a.1 = 2 → sx_d N (.inr (decide (a.1 = 2), k)) = .long (sx_fl N a.2.2.1 a.2.2.2 (sx_i N x).toNatClampNeg)) ∧ (a.1 ≠ 2 → sx_d N (.inr (decide (a.1 = 2), k)) = .int (sx_fi N a.2.2.1 a.2.2.2 (sx_i N x).toNatClampNeg)) := by
    intro h
    have h0 : (if a.1 = 2 then sx_l N (.inr (decide (a.1 = 2), k)) = sx_fl N a.2.2.1 a.2.2.2 (sx_i N x).toNatClampNeg else sx_i N (.inr (decide (a.1 = 2), k)) = sx_fi N a.2.2.1 a.2.2.2 (sx_i N x).toNatClampNeg) := h _ List.mem_cons_self
    refine ⟨fun c hc => h c (List.mem_cons_of_mem _ hc), fun h2 => ?_, fun h2 => ?_⟩
    · rw [if_pos h2] at h0
      rw [← h0, decide_eq_true h2]
      rfl
    · rw [if_neg h2] at h0
      rw [← h0, decide_eq_false h2]
      rfl
  unfold sx_elt at h ⊢
  split at h
  · rename_i y
    split at h
    · rename_i v hv
      split at h
      · rename_i hk
        simp only [hv, if_pos hk]
        unfold sx_kok at hk
        refine ⟨h, fun h2 => ?_, fun h2 => ?_⟩
        · rw [if_pos h2] at hk
          rw [sx_isL_d hk, ← (sx_find_l (N := N) (b := a.2.2.1) _ _ _ hv).1 v rfl]
          rfl
        · rw [if_neg h2] at hk
          rw [sx_isI_d hk, ← (sx_find_i (N := N) (b := a.2.2.1) _ _ _ hv).1 v rfl]
          rfl
      · rename_i hk
        simp only [hv, if_neg hk]
        exact key h
    · rename_i hv
      split at h
      · rename_i hb
        simp only [hv, if_pos hb]
        refine ⟨h, fun h2 => ?_, fun h2 => ?_⟩
        · rw [if_pos h2]
          have h3 := (sx_find_l (N := N) (b := a.2.2.1) _ _ _ hv).2 rfl
          rw [hb] at h3 ⊢
          show Value.long 0 = .long (sx_fl N 0 a.2.2.2 y.toNatClampNeg)
          rw [h3]
          rfl
        · rw [if_neg h2]
          have h3 := (sx_find_i (N := N) (b := a.2.2.1) _ _ _ hv).2 rfl
          rw [hb] at h3 ⊢
          show Value.int 0 = .int (sx_fi N 0 a.2.2.2 y.toNatClampNeg)
          rw [h3]
          rfl
      · rename_i hb
        simp only [hv, if_neg hb]
        exact key h
    · rename_i hv
      simp only [hv]
      exact key h
  · exact key h
theorem sx_nar_of {kd : Nat} {x : sx_v} {k : Nat} {cs : List sx_c} (hx : sx_isI x = true) (h : ∀ c ∈ (sx_nar kd x k cs).2.2, sx_h N c) : (∀ c ∈ cs, sx_h N c) ∧ (kd = 1 → sx_i N (sx_nar kd x k cs).1 = vp_nar .byte (sx_i N x)) ∧ (kd = 3 → sx_i N (sx_nar kd x k cs).1 = vp_nar .boolean (sx_i N x)) := by
  unfold sx_nar at h ⊢
  split at h
  · rename_i h1
    rw [if_pos h1]
    split at h
    · exact ⟨h, fun _ => rfl, fun h3 => by omega⟩
    · exact ⟨fun c hc => h c (List.mem_cons_of_mem _ hc), fun _ => h _ List.mem_cons_self, fun h3 => by omega⟩
  · rename_i h1
    rw [if_neg h1]
    split at h
    · rename_i h3
      rw [if_pos h3]
      split at h
      · exact ⟨h, fun h1 => by omega, fun _ => rfl⟩
      · exact ⟨fun c hc => h c (List.mem_cons_of_mem _ hc), fun h1 => by omega, fun _ => h _ List.mem_cons_self⟩
    · rename_i h3
      rw [if_neg h3]
      exact ⟨h, fun h => absurd h h1, fun h => absurd h h3⟩
theorem sx_len_of {x : sx_v} {b : Bool} {n : Nat ⊕ sx_v} (h : sx_len x = some (b, n)) (hb : b = true ∨ sx_h N (3, sx_i0, 0, [x], 0, [], sx_a0)) : sx_isI x = true ∧ sx_n N n = (sx_i N x).toNatClampNeg ∧ (¬ sx_i N x < 0 ∧ (sx_i N x).toNatClampNeg ≤ 1000000) := by
  unfold sx_len at h
  split at h
  · split at h
    · rename_i hn
      cases h
      exact ⟨rfl, rfl, hn⟩
    · cases h
  · cases h
    rcases hb with hb | hb
    · cases hb
    · exact ⟨rfl, rfl, hb⟩
  · cases h
theorem sx_fok_of {tc : Nat} {v : sx_v} {b : Bool} (h : sx_fok tc v = some b) (hb : b = true ∨ sx_h N (4, sx_i0, tc, [v], 0, [], sx_a0)) : ip_fok tc (sx_d N v) = true := by
  unfold sx_fok at h
  split at h
  · split at h
    · rename_i hv
      exact hv
    · cases h
  · split at h
    · rename_i h0
      subst h0
      rfl
    · split at h
      · cases h
        rcases hb with hb | hb
        · cases hb
        · exact hb
      · cases h
  · split at h
    · rename_i h0
      subst h0
      rfl
    · cases h
end SXS
