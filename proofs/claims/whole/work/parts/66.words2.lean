/-! part 66: words for the class's block equations (printed by wip/whole/tools/gen70.py) -/
theorem js_ds {M : Int} {σ : js_S} {s a i x : Int} {D : js_D} (h : js_desc M σ s = some D) (h0 : 0 ≤ a) (h1 : 137 ≤ a → i ≠ 15) : js_desc M (js_up σ a i x) s = some D := by
  rw [js_desc_up h0 h1]
  exact h
theorem js_No {y o k : Nat} {q : Nat × List Value} (h : vt_O y = o) (h2 : ip_lk (vt_NL.getD o []) k = some q) : js_N y k = some q := by subst h; exact h2
set_option maxRecDepth 20000 in
theorem js_nosym (M : Int) : (js_tab M).all (fun D => !(D.1 == 0 && D.2.1 == 11)) = true := rfl
theorem js_sym_ge {M : Int} {σ : js_S} {s : Int} {fs : List (Nat × Int)} (h : js_desc M σ s = some (0, 11, fs)) : 137 ≤ s := by
  by_cases hs : s < 137
  · have h0 := js_desc_nn h
    unfold js_desc at h
    rw [if_pos h0, if_pos hs] at h
    have := List.all_eq_true.mp (js_nosym M) _ (List.mem_of_getElem? h)
    cases this
  · omega
/-- a Copy at a, whose 1 is o: its places to come back to at a + 1, its cells at a + 2 -/
def js_isC (M a o : Int) : Prop := ∀ σ : js_S, js_desc M σ a = some (0, 3, [(1, 0), (1, 0), (0, 0), (0, 0), (6, o), (4, a + 2), (4, a + 1)]) ∧ js_desc M σ (a + 1) = some (1, 16, []) ∧ js_desc M σ (a + 2) = some (3, M, [])
theorem j_ixor {E : js_E} {d y pc : Nat} {ls st : List js_v} {σ : js_S} {a b : Int} (hI : js_I y pc = some (.ixor, 1)) : js_J E d y pc ls ((0, b) :: (0, a) :: st) σ = js_J E d y (pc + 1) ls ((0, js_ixor a b) :: st) σ := by
  refine js_si (r := (pc + 1, js_L ls 0, List.map js_V ((0, js_ixor a b) :: st), js_wd E.1 σ)) hI rfl rfl ?_
  show some (pc + 1, _, Value.int (Int32.ofInt a ^^^ Int32.ofInt b) :: _, _) = some (pc + 1, _, Value.int (Int32.ofInt (js_ixor a b)) :: _, _)
  unfold js_ixor
  rw [Int32.ofInt_toInt]
theorem j_sloadi {E : js_E} {d y pc : Nat} {ls st : List js_v} {σ : js_S} {x i : Int} (hI : js_I y pc = some (.iaload, 1)) (hx : x = 100) : js_J E d y pc ls ((0, i) :: (3, x) :: st) σ = if 0 ≤ js_w i ∧ js_w i < (E.2.1 : Int) then js_J E d y (pc + 1) ls ((0, (E.2.2 (js_w i).toNat).toInt) :: st) σ else none := by
  by_cases h : 0 ≤ js_w i ∧ js_w i < (E.2.1 : Int)
  · rw [if_pos h]
    exact j_sload hI hx h
  · rw [if_neg h]
    subst hx
    refine js_sn hI rfl rfl rfl ?_
    show (if ip_in (Int32.ofInt i) E.2.1 = true then _ else none) = none
    refine if_neg fun hh => h ?_
    have h2 := (js_in i (E.2.1 : Int)).mp (by rw [Int.toNat_natCast]; exact hh)
    exact h2
theorem j_putIF {E : js_E} {d y pc : Nat} {ls st : List js_v} {σ : js_S} {a ci x ji t : Int} {fs : List (Nat × Int)} {k c j : Nat} (hI : js_I y pc = some (.putfield k, 3)) (hF : js_F y k = some (c, j)) (hT : js_ftt c j = some (0, true)) (ho : js_desc E.1 σ a = some (0, ci, fs)) (hc : c = ci.toNat) (hj : fs[j]? = some (0, t)) (hji : (j : Int) = ji) (hn : vt_ji.getD y none = some c) : js_J E d y pc ls ((0, x) :: (2, a) :: st) σ = js_J E d y (pc + 3) ls st (js_up σ a ji x) := by
  subst hji
  have h0 := js_desc_nn ho
  have hlt : j < fs.length := (List.getElem?_eq_some_iff.mp hj).1
  refine js_si (r := (pc + 3, js_L ls 0, List.map js_V st, js_wd E.1 (js_up σ a j x))) hI rfl rfl ?_
  show ip_st (js_F y) vt_Ft _ _ _ (vt_ji.getD y none) (.putfield k) pc _ (js_V (0, x) :: js_rf a :: _) _ = _
  rw [js_rf_of h0, js_put ho hj]
  have hT2 := js_ft hT
  rw [hc] at hT2 hn
  simp only [ip_st, hF, js_at_o ho, hc, hT2, hn]
  rw [if_pos ⟨trivial, rfl, by rw [js_fs_len]; exact hlt, fun _ => trivial⟩]
  rfl
/-- what arraycopy does -/
def js_cp (σ : js_S) (s sp t dp n : Int) : js_S := fun b j => if b = t ∧ dp ≤ j ∧ j < dp + n then σ s (sp + (j - dp)) else σ b j
theorem js_wd_cp {M : Int} {σ : js_S} {t s sp dp n m1 : Int} {k : Nat} (ht : js_desc M σ t = some (k + 1, m1, [])) : js_wd M (js_cp σ s sp t dp n) = ((js_wd M σ).1, (js_wd M σ).2.1, va_up (js_wd M σ).2.2 t.toNat (some (.inl (k, m1.toNat, js_ar k [] (js_cp σ s sp t dp n t))))) := by
  have h0 := js_desc_nn ht
  have ht7 : t < 137 := by
    by_cases h : t < 137
    · exact h
    · unfold js_desc at ht
      rw [if_pos h0, if_neg h] at ht
      split at ht
      · split at ht <;> cases ht
      · cases ht
  have e0 : js_cp σ s sp t dp n (-1) 0 = σ (-1) 0 := if_neg (fun h => by omega)
  have e1 : js_cp σ s sp t dp n (-1) 1 = σ (-1) 1 := if_neg (fun h => by omega)
  have ed : ∀ b : Int, js_desc M (js_cp σ s sp t dp n) b = js_desc M σ b := by
    intro b
    unfold js_desc
    rw [e0]
    by_cases hb : b < 137
    · simp only [hb, if_true]
    · rw [show js_cp σ s sp t dp n b 15 = σ b 15 from if_neg (fun h => by omega)]
  have e2 : js_cell M (js_cp σ s sp t dp n) = va_up (js_cell M σ) t.toNat (some (.inl (k, m1.toNat, js_ar k [] (js_cp σ s sp t dp n t)))) := by
    funext q
    unfold va_up
    split
    · rename_i hq
      rw [hq]
      unfold js_cell
      rw [Int.toNat_of_nonneg h0, ed, ht]
    · rename_i hq
      have hne : (q : Int) ≠ t := fun h => hq (by omega)
      have e3 : js_cp σ s sp t dp n (q : Int) = σ (q : Int) := by
        funext j
        exact if_neg (fun h => hne h.1)
      unfold js_cell
      rw [ed, e3]
  simp only [js_wd]
  rw [e0, e1, e2]
theorem js_P6 {E : js_E} {σ : js_S} {s t sp dp n m0 m1 : Int} {k : Nat} (hk : k = 0 ∨ k = 2) (hs : js_desc E.1 σ s = some (k + 1, m0, [])) (ht : js_desc E.1 σ t = some (k + 1, m1, [])) (h : 0 ≤ js_w sp ∧ 0 ≤ js_w dp ∧ 0 ≤ js_w n ∧ js_w sp + js_w n ≤ m0 ∧ js_w dp + js_w n ≤ m1) : vt_P 6 (List.map js_V [(2, s), (0, sp), (2, t), (0, dp), (0, n)]) (js_wd E.1 σ) = some (none, js_wd E.1 (js_cp σ s (js_w sp) t (js_w dp) (js_w n))) := by
  have h0 := js_desc_nn hs
  have h1 := js_desc_nn ht
  have a0 := js_at_a hs
  have a1 := js_at_a ht
  rw [js_wd_cp ht]
  have n1 : ¬ Int32.ofInt sp < 0 := fun hh => by have := (js_w_lt sp 0).mp hh; have e : js_w 0 = 0 := rfl; omega
  have n2 : ¬ Int32.ofInt dp < 0 := fun hh => by have := (js_w_lt dp 0).mp hh; have e : js_w 0 = 0 := rfl; omega
  have n3 : ¬ Int32.ofInt n < 0 := fun hh => by have := (js_w_lt n 0).mp hh; have e : js_w 0 = 0 := rfl; omega
  have c1 : (Int32.ofInt sp).toNatClampNeg = (js_w sp).toNat := rfl
  have c2 : (Int32.ofInt dp).toNatClampNeg = (js_w dp).toNat := rfl
  have c3 : (Int32.ofInt n).toNatClampNeg = (js_w n).toNat := rfl
  show vt_P 6 [js_rf s, .int (Int32.ofInt sp), js_rf t, .int (Int32.ofInt dp), .int (Int32.ofInt n)] _ = _
  rw [js_rf_of h0, js_rf_of h1]
  have cpy : ∀ {α : Type} (F : Int → α), va_cpy (fun q : Nat => F (σ s q)) (fun q : Nat => F (σ t q)) (js_w sp).toNat (js_w dp).toNat (js_w n).toNat = fun q : Nat => F (js_cp σ s (js_w sp) t (js_w dp) (js_w n) t q) := by
    intro α F
    funext q
    unfold va_cpy js_cp
    by_cases hq : (js_w dp).toNat ≤ q ∧ q < (js_w dp).toNat + (js_w n).toNat
    · rw [if_pos hq, if_pos ⟨rfl, by omega, by omega⟩]
      have e : (((js_w sp).toNat + (q - (js_w dp).toNat) : Nat) : Int) = js_w sp + ((q : Int) - js_w dp) := by omega
      rw [← e]
    · rw [if_neg hq, if_neg (by omega)]
  rcases hk with rfl | rfl
  · simp only [vt_P]
    rw [if_pos ⟨n1, n2, n3⟩]
    simp only [a0, a1]
    show (if _ then some (none, (_, _, va_up _ t.toNat (some (Sum.inl (0, m1.toNat, Sum.inl (va_cpy (fun q : Nat => Int32.ofInt (σ s q)) (fun q : Nat => Int32.ofInt (σ t q)) _ _ _)))))) else none) = _
    rw [if_pos (by rw [c1, c2, c3]; omega), c1, c2, c3, cpy]
    rfl
  · simp only [vt_P]
    rw [if_pos ⟨n1, n2, n3⟩]
    simp only [a0, a1]
    show (if _ then some (none, (_, _, va_up _ t.toNat (some (Sum.inl (2, m1.toNat, Sum.inr (Sum.inl (va_cpy (fun q : Nat => Int64.ofInt (σ s q)) (fun q : Nat => Int64.ofInt (σ t q)) _ _ _))))))) else none) = _
    rw [if_pos (by rw [c1, c2, c3]; omega), c1, c2, c3, cpy]
    rfl
theorem js_acp {E : js_E} {d y pc : Nat} {ls st : List js_v} {σ : js_S} {s t sp dp n m0 m1 : Int} {k k2 ci : Nat} (hk : k = 0 ∨ k = 2) (hc : js_cl y pc 0 k2 6 5 ci) (hs : js_desc E.1 σ s = some (k + 1, m0, [])) (ht : js_desc E.1 σ t = some (k + 1, m1, [])) (hsum : js_sum st ≤ 8) (hd : 4 ≤ d) (h : 0 ≤ js_w sp ∧ 0 ≤ js_w dp ∧ 0 ≤ js_w n ∧ js_w sp + js_w n ≤ m0 ∧ js_w dp + js_w n ≤ m1) : js_J E d y pc ls ((0, n) :: (0, dp) :: (2, t) :: (0, sp) :: (2, s) :: st) σ = js_J E d y (pc + 3) ls st (js_cp σ s (js_w sp) t (js_w dp) (js_w n)) := by
  obtain ⟨i, n9, hI, hci, hck, hM⟩ := hc
  have hw := js_wd_cp (M := E.1) (σ := σ) (s := s) (sp := js_w sp) (dp := js_w dp) (n := js_w n) ht
  refine js_slib (tb := js_tb E) (av := List.map js_V [(2, s), (0, sp), (2, t), (0, dp), (0, n)]) (rest := st.map js_V) (v := none) (w2 := js_wd E.1 (js_cp σ s (js_w sp) t (js_w dp) (js_w n))) hI hci hck hM ?_ hd (by rw [js_sum_eq]; exact hsum) (js_P6 hk hs ht h) ?_
  · exact js_take [(2, s), (0, sp), (2, t), (0, dp), (0, n)] st
  · rw [hw]
    exact ⟨Nat.le_refl _, Nat.le_refl _⟩
theorem j_acpI {E : js_E} {d y pc : Nat} {ls st : List js_v} {σ : js_S} {s t sp dp n m0 m1 : Int} {k2 ci : Nat} (hc : js_cl y pc 0 k2 6 5 ci) (hs : js_desc E.1 σ s = some (1, m0, [])) (ht : js_desc E.1 σ t = some (1, m1, [])) (hsum : js_sum st ≤ 8) (hd : 4 ≤ d) (h : 0 ≤ js_w sp ∧ 0 ≤ js_w dp ∧ 0 ≤ js_w n ∧ js_w sp + js_w n ≤ m0 ∧ js_w dp + js_w n ≤ m1) : js_J E d y pc ls ((0, n) :: (0, dp) :: (2, t) :: (0, sp) :: (2, s) :: st) σ = js_J E d y (pc + 3) ls st (js_cp σ s (js_w sp) t (js_w dp) (js_w n)) := js_acp (Or.inl rfl) hc hs ht hsum hd h
theorem j_acpL {E : js_E} {d y pc : Nat} {ls st : List js_v} {σ : js_S} {s t sp dp n m0 m1 : Int} {k2 ci : Nat} (hc : js_cl y pc 0 k2 6 5 ci) (hs : js_desc E.1 σ s = some (3, m0, [])) (ht : js_desc E.1 σ t = some (3, m1, [])) (hsum : js_sum st ≤ 8) (hd : 4 ≤ d) (h : 0 ≤ js_w sp ∧ 0 ≤ js_w dp ∧ 0 ≤ js_w n ∧ js_w sp + js_w n ≤ m0 ∧ js_w dp + js_w n ≤ m1) : js_J E d y pc ls ((0, n) :: (0, dp) :: (2, t) :: (0, sp) :: (2, s) :: st) σ = js_J E d y (pc + 3) ls st (js_cp σ s (js_w sp) t (js_w dp) (js_w n)) := js_acp (Or.inr rfl) hc hs ht hsum hd h
theorem js_o6b {E : js_E} {σ : js_S} {b : Int} (hb : b = 0 ∨ b = 25) : js_desc E.1 σ (6 + b) = some (0, 4, [(4, 7 + b), (4, 1), (5, E.1), (4, 21 + b), (4, 22 + b)]) := by rcases hb with rfl | rfl <;> rfl
theorem js_o7b {E : js_E} {σ : js_S} {b : Int} (hb : b = 0 ∨ b = 25) : js_desc E.1 σ (7 + b) = some (0, 7, [(4, 8 + b), (0, 0), (0, 0), (0, 0), (0, 0), (0, 0), (0, 0), (4, 19 + b), (4, 20 + b)]) := by rcases hb with rfl | rfl <;> rfl
theorem js_o8b {E : js_E} {σ : js_S} {b : Int} (hb : b = 0 ∨ b = 25) : js_desc E.1 σ (8 + b) = some (0, 1, [(4, 9 + b), (4, 10 + b), (4, 11 + b), (4, 12 + b), (4, 13 + b), (4, 14 + b), (0, 0), (0, 0), (0, 0), (0, 0), (0, 0), (0, 0), (0, 0), (4, 15 + b), (4, 16 + b), (4, 17 + b), (4, 18 + b)]) := by rcases hb with rfl | rfl <;> rfl
theorem js_o9b {E : js_E} {σ : js_S} {b : Int} (hb : b = 0 ∨ b = 25) : js_desc E.1 σ (9 + b) = some (1, 8192, []) := by rcases hb with rfl | rfl <;> rfl
theorem js_o10b {E : js_E} {σ : js_S} {b : Int} (hb : b = 0 ∨ b = 25) : js_desc E.1 σ (10 + b) = some (1, 8192, []) := by rcases hb with rfl | rfl <;> rfl
theorem js_o11b {E : js_E} {σ : js_S} {b : Int} (hb : b = 0 ∨ b = 25) : js_desc E.1 σ (11 + b) = some (1, 8192, []) := by rcases hb with rfl | rfl <;> rfl
theorem js_o12b {E : js_E} {σ : js_S} {b : Int} (hb : b = 0 ∨ b = 25) : js_desc E.1 σ (12 + b) = some (1, 8192, []) := by rcases hb with rfl | rfl <;> rfl
theorem js_o13b {E : js_E} {σ : js_S} {b : Int} (hb : b = 0 ∨ b = 25) : js_desc E.1 σ (13 + b) = some (1, 8192, []) := by rcases hb with rfl | rfl <;> rfl
theorem js_o14b {E : js_E} {σ : js_S} {b : Int} (hb : b = 0 ∨ b = 25) : js_desc E.1 σ (14 + b) = some (1, 8192, []) := by rcases hb with rfl | rfl <;> rfl
theorem js_o15b {E : js_E} {σ : js_S} {b : Int} (hb : b = 0 ∨ b = 25) : js_desc E.1 σ (15 + b) = some (1, 401, []) := by rcases hb with rfl | rfl <;> rfl
theorem js_o16b {E : js_E} {σ : js_S} {b : Int} (hb : b = 0 ∨ b = 25) : js_desc E.1 σ (16 + b) = some (1, 401, []) := by rcases hb with rfl | rfl <;> rfl
theorem js_o17b {E : js_E} {σ : js_S} {b : Int} (hb : b = 0 ∨ b = 25) : js_desc E.1 σ (17 + b) = some (1, 1024, []) := by rcases hb with rfl | rfl <;> rfl
theorem js_o18b {E : js_E} {σ : js_S} {b : Int} (hb : b = 0 ∨ b = 25) : js_desc E.1 σ (18 + b) = some (1, 1024, []) := by rcases hb with rfl | rfl <;> rfl
theorem js_o19b {E : js_E} {σ : js_S} {b : Int} (hb : b = 0 ∨ b = 25) : js_desc E.1 σ (19 + b) = some (5, 400, []) := by rcases hb with rfl | rfl <;> rfl
theorem js_o20b {E : js_E} {σ : js_S} {b : Int} (hb : b = 0 ∨ b = 25) : js_desc E.1 σ (20 + b) = some (2, 8000, []) := by rcases hb with rfl | rfl <;> rfl
theorem js_o21b {E : js_E} {σ : js_S} {b : Int} (hb : b = 0 ∨ b = 25) : js_desc E.1 σ (21 + b) = some (0, 2, [(0, 0), (0, 0), (0, 0), (4, 1), (4, 7 + b)]) := by rcases hb with rfl | rfl <;> rfl
theorem js_o22b {E : js_E} {σ : js_S} {b : Int} (hb : b = 0 ∨ b = 25) : js_desc E.1 σ (22 + b) = some (0, 10, [(0, 0), (4, 1), (4, 7 + b), (4, 8 + b), (4, 21 + b), (4, 23 + b)]) := by rcases hb with rfl | rfl <;> rfl
theorem js_o23b {E : js_E} {σ : js_S} {b : Int} (hb : b = 0 ∨ b = 25) : js_desc E.1 σ (23 + b) = some (0, 5, [(0, 0), (0, 0), (0, 0), (0, 0), (4, 1), (4, 7 + b), (4, 8 + b), (4, 21 + b), (4, 24 + b), (4, 25 + b), (4, 26 + b), (4, 27 + b), (4, 28 + b), (4, 29 + b), (4, 30 + b), (0, 0)]) := by rcases hb with rfl | rfl <;> rfl
theorem js_o24b {E : js_E} {σ : js_S} {b : Int} (hb : b = 0 ∨ b = 25) : js_desc E.1 σ (24 + b) = some (1, 512, []) := by rcases hb with rfl | rfl <;> rfl
theorem js_o25b {E : js_E} {σ : js_S} {b : Int} (hb : b = 0 ∨ b = 25) : js_desc E.1 σ (25 + b) = some (1, 512, []) := by rcases hb with rfl | rfl <;> rfl
theorem js_o26b {E : js_E} {σ : js_S} {b : Int} (hb : b = 0 ∨ b = 25) : js_desc E.1 σ (26 + b) = some (1, 512, []) := by rcases hb with rfl | rfl <;> rfl
theorem js_o27b {E : js_E} {σ : js_S} {b : Int} (hb : b = 0 ∨ b = 25) : js_desc E.1 σ (27 + b) = some (1, 512, []) := by rcases hb with rfl | rfl <;> rfl
theorem js_o28b {E : js_E} {σ : js_S} {b : Int} (hb : b = 0 ∨ b = 25) : js_desc E.1 σ (28 + b) = some (1, 512, []) := by rcases hb with rfl | rfl <;> rfl
theorem js_o29b {E : js_E} {σ : js_S} {b : Int} (hb : b = 0 ∨ b = 25) : js_desc E.1 σ (29 + b) = some (1, 512, []) := by rcases hb with rfl | rfl <;> rfl
theorem js_o30b {E : js_E} {σ : js_S} {b : Int} (hb : b = 0 ∨ b = 25) : js_desc E.1 σ (30 + b) = some (1, 512, []) := by rcases hb with rfl | rfl <;> rfl
theorem js_o58r {E : js_E} {σ : js_S} {r : Int} (hr : r = 0 ∨ r = 7 ∨ r = 14) : js_desc E.1 σ (58 + r) = some (0, 9, [(0, 0), (0, 0), (0, 0), (0, 0), (4, 59 + r), (4, 62 + r)]) := by rcases hr with rfl | rfl | rfl <;> rfl
theorem js_o59r {E : js_E} {σ : js_S} {r : Int} (hr : r = 0 ∨ r = 7 ∨ r = 14) : js_desc E.1 σ (59 + r) = some (0, 3, [(1, 0), (1, 0), (0, 0), (0, 0), (6, 1), (4, 61 + r), (4, 60 + r)]) := by rcases hr with rfl | rfl | rfl <;> rfl
theorem js_o60r {E : js_E} {σ : js_S} {r : Int} (hr : r = 0 ∨ r = 7 ∨ r = 14) : js_desc E.1 σ (60 + r) = some (1, 16, []) := by rcases hr with rfl | rfl | rfl <;> rfl
theorem js_o61r {E : js_E} {σ : js_S} {r : Int} (hr : r = 0 ∨ r = 7 ∨ r = 14) : js_desc E.1 σ (61 + r) = some (3, E.1, []) := by rcases hr with rfl | rfl | rfl <;> rfl
theorem js_o62r {E : js_E} {σ : js_S} {r : Int} (hr : r = 0 ∨ r = 7 ∨ r = 14) : js_desc E.1 σ (62 + r) = some (0, 3, [(1, 0), (1, 0), (0, 0), (0, 0), (6, 58659), (4, 64 + r), (4, 63 + r)]) := by rcases hr with rfl | rfl | rfl <;> rfl
theorem js_o63r {E : js_E} {σ : js_S} {r : Int} (hr : r = 0 ∨ r = 7 ∨ r = 14) : js_desc E.1 σ (63 + r) = some (1, 16, []) := by rcases hr with rfl | rfl | rfl <;> rfl
theorem js_o64r {E : js_E} {σ : js_S} {r : Int} (hr : r = 0 ∨ r = 7 ∨ r = 14) : js_desc E.1 σ (64 + r) = some (3, E.1, []) := by rcases hr with rfl | rfl | rfl <;> rfl
