/-! part 99.q: the class's Code: what its methods do -/
def sh_P (x : Int) : Int := if x < 0 then 0 else 2 * x + 1
/-- the INSTRUCTION at i of compiler b is I, of unit u -/
def ci_P (σ : js_S) (b u i : Int) (I : xt_I) : Prop := σ (9 + b) i = I.1 ∧ σ (11 + b) i = I.2.2.2.2.1 ∧ σ (12 + b) i = I.2.2.2.2.2.1 ∧ σ (13 + b) i = I.2.2.2.2.2.2 ∧ (if I.2.1 = 0 then σ (10 + b) i = I.2.2.1 ∧ σ (14 + b) i = 0 else if I.2.1 = 1 then (0 ≤ I.2.2.1 ∧ I.2.2.1 < σ (7 + b) 1) ∧ σ (10 + b) i = σ (σ (19 + b) I.2.2.1) 5 + I.2.2.2.1 ∧ σ (14 + b) i = sh_P (σ (σ (19 + b) I.2.2.1) 11) else if I.2.1 = 2 then σ (10 + b) i = I.2.2.1 ∧ σ (14 + b) i = 2 * u + 2 else (0 ≤ I.2.2.1 ∧ I.2.2.1 < σ (7 + b) 1) ∧ σ (10 + b) i = σ (σ (19 + b) I.2.2.1) 5 ∧ σ (14 + b) i = 0)
theorem ci_P_of {σ σ' : js_S} {b u i : Int} {I : xt_I} (h : ci_P σ b u i I) (h1 : ∀ a : Int, 9 + b ≤ a → a ≤ 14 + b → σ' a i = σ a i) (h2 : σ (7 + b) 1 ≤ σ' (7 + b) 1) (h3 : ∀ s : Int, 0 ≤ s → s < σ (7 + b) 1 → σ' (19 + b) s = σ (19 + b) s) (h4 : ∀ s k : Int, 0 ≤ s → s < σ (7 + b) 1 → (k = 5 ∨ k = 11) → σ' (σ (19 + b) s) k = σ (σ (19 + b) s) k) : ci_P σ' b u i I := by
  obtain ⟨a1, a2, a3, a4, a5⟩ := h
  refine ⟨by rw [h1 _ (by omega) (by omega)]; exact a1, by rw [h1 _ (by omega) (by omega)]; exact a2, by rw [h1 _ (by omega) (by omega)]; exact a3, by rw [h1 _ (by omega) (by omega)]; exact a4, ?_⟩
  rw [h1 (10 + b) (by omega) (by omega), h1 (14 + b) (by omega) (by omega)]
  by_cases q0 : I.2.1 = 0
  · rw [if_pos q0] at a5 ⊢
    exact a5
  rw [if_neg q0] at a5 ⊢
  by_cases q1 : I.2.1 = 1
  · rw [if_pos q1] at a5 ⊢
    obtain ⟨⟨b1, b2⟩, b3, b4⟩ := a5
    rw [h3 _ b1 b2, h4 _ _ b1 b2 (Or.inl rfl), h4 _ _ b1 b2 (Or.inr rfl)]
    exact ⟨⟨b1, by omega⟩, b3, b4⟩
  rw [if_neg q1] at a5 ⊢
  by_cases q2 : I.2.1 = 2
  · rw [if_pos q2] at a5 ⊢
    exact a5
  rw [if_neg q2] at a5 ⊢
  obtain ⟨⟨b1, b2⟩, b3, b4⟩ := a5
  rw [h3 _ b1 b2, h4 _ _ b1 b2 (Or.inl rfl)]
  exact ⟨⟨b1, by omega⟩, b3, b4⟩
/-- one INSTRUCTION more -/
def em_R (b : Int) (σ σ' : js_S) (op f s lo hi h : Int) : Prop := σ' (8 + b) 6 = σ (8 + b) 6 + 1 ∧ σ' (8 + b) 7 = min 400000 (σ (8 + b) 7 + 1) ∧ (σ (8 + b) 6 < 8192 → σ' (9 + b) (σ (8 + b) 6) = op ∧ σ' (10 + b) (σ (8 + b) 6) = f ∧ σ' (11 + b) (σ (8 + b) 6) = s ∧ σ' (12 + b) (σ (8 + b) 6) = lo ∧ σ' (13 + b) (σ (8 + b) 6) = hi ∧ σ' (14 + b) (σ (8 + b) 6) = h) ∧ (∀ a i : Int, ¬ (a = 8 + b ∧ (i = 6 ∨ i = 7)) → ¬ (9 + b ≤ a ∧ a ≤ 14 + b ∧ i = σ (8 + b) 6) → σ' a i = σ a i)
theorem em_ci0 {b u : Int} {σ σ' : js_S} {op f s lo hi : Int} (h : em_R b σ σ' op f s lo hi 0) (hs : σ (8 + b) 6 < 8192) : ci_P σ' b u (σ (8 + b) 6) (op, 0, f, 0, s, lo, hi) := by
  obtain ⟨a1, a2, a3, a4, a5, a6⟩ := h.2.2.1 hs
  refine ⟨a1, a3, a4, a5, ?_⟩
  rw [if_pos rfl]
  exact ⟨a2, a6⟩
theorem em_ci2 {b u : Int} {σ σ' : js_S} {op f s lo hi : Int} (h : em_R b σ σ' op f s lo hi (2 * u + 2)) (hs : σ (8 + b) 6 < 8192) : ci_P σ' b u (σ (8 + b) 6) (op, 2, f, 0, s, lo, hi) := by
  obtain ⟨a1, a2, a3, a4, a5, a6⟩ := h.2.2.1 hs
  refine ⟨a1, a3, a4, a5, ?_⟩
  rw [if_neg (show ¬ (2 : Int) = 0 by decide), if_neg (show ¬ (2 : Int) = 1 by decide), if_pos rfl]
  exact ⟨a2, a6⟩
theorem em_ci1 {b u : Int} {σ σ' : js_S} {op y s lo hi x : Int} (hb : b = 0 ∨ b = 25) (h : em_R b σ σ' op (σ (σ (19 + b) x) 5 + y) s lo hi (sh_P (σ (σ (19 + b) x) 11))) (hs : σ (8 + b) 6 < 8192) (hx : 0 ≤ x) (hx2 : x < σ (7 + b) 1) (hg : 137 ≤ σ (19 + b) x) : ci_P σ' b u (σ (8 + b) 6) (op, 1, x, y, s, lo, hi) := by
  obtain ⟨a1, a2, a3, a4, a5, a6⟩ := h.2.2.1 hs
  have o := h.2.2.2
  have e19 : σ' (19 + b) x = σ (19 + b) x := o _ _ (by omega) (by omega)
  have e7 : σ' (7 + b) 1 = σ (7 + b) 1 := o _ _ (by omega) (by omega)
  refine ⟨a1, a3, a4, a5, ?_⟩
  rw [if_neg (show ¬ (1 : Int) = 0 by decide), if_pos rfl]
  show (0 ≤ x ∧ x < σ' (7 + b) 1) ∧ σ' (10 + b) (σ (8 + b) 6) = σ' (σ' (19 + b) x) 5 + y ∧ σ' (14 + b) (σ (8 + b) 6) = sh_P (σ' (σ' (19 + b) x) 11)
  rw [e19, e7, o _ 5 (by omega) (by omega), o _ 11 (by omega) (by omega)]
  exact ⟨⟨hx, hx2⟩, a2, a6⟩
theorem em_ci3 {b u : Int} {σ σ' : js_S} {op s lo hi x : Int} (hb : b = 0 ∨ b = 25) (h : em_R b σ σ' op (σ (σ (19 + b) x) 5) s lo hi 0) (hs : σ (8 + b) 6 < 8192) (hx : 0 ≤ x) (hx2 : x < σ (7 + b) 1) (hg : 137 ≤ σ (19 + b) x) : ci_P σ' b u (σ (8 + b) 6) (op, 3, x, 0, s, lo, hi) := by
  obtain ⟨a1, a2, a3, a4, a5, a6⟩ := h.2.2.1 hs
  have o := h.2.2.2
  have e19 : σ' (19 + b) x = σ (19 + b) x := o _ _ (by omega) (by omega)
  have e7 : σ' (7 + b) 1 = σ (7 + b) 1 := o _ _ (by omega) (by omega)
  refine ⟨a1, a3, a4, a5, ?_⟩
  rw [if_neg (show ¬ (3 : Int) = 0 by decide), if_neg (show ¬ (3 : Int) = 1 by decide), if_neg (show ¬ (3 : Int) = 2 by decide)]
  show (0 ≤ x ∧ x < σ' (7 + b) 1) ∧ σ' (10 + b) (σ (8 + b) 6) = σ' (σ' (19 + b) x) 5 ∧ σ' (14 + b) (σ (8 + b) 6) = 0
  rw [e19, e7, o _ 5 (by omega) (by omega)]
  exact ⟨⟨hx, hx2⟩, a2, a6⟩
/-- size and bound of the code within what ints hold -/
def cz_R (σ : js_S) (b : Int) : Prop := 0 ≤ σ (8 + b) 6 ∧ σ (8 + b) 6 < 100000000 ∧ 0 ≤ σ (8 + b) 7 ∧ σ (8 + b) 7 ≤ 400000
section CO
variable {E : js_E} {d : Nat} {σ : js_S} {b : Int}
theorem c_put (hb : b = 0 ∨ b = 25) (hz : cz_R σ b) (hd : 4 ≤ d) {x1 x2 x3 x4 x5 x6 : Int} : ∃ σ' : js_S, js_J E d 60 0 [(2, 8 + b), (0, x1), (0, x2), (0, x3), (0, x4), (0, x5), (0, x6), (9, 0)] [] σ = js_r0 E σ' ∧ em_R b σ σ' x1 x2 x3 x4 x5 x6 := by
  obtain ⟨z1, z2, z3, z4⟩ := hz
  have w : js_w 400000 = 400000 := by decide
  rw [b_60_0 hb, js_w_of (x := σ (8 + b) 6) (by omega) (by omega)]
  by_cases q : σ (8 + b) 6 < 8192
  · rw [if_pos q, if_pos ⟨z1, q⟩, b_60_67 hd hb]
    have o : ∀ a i : Int, ¬ (9 + b ≤ a ∧ a ≤ 14 + b ∧ i = σ (8 + b) 6) → js_up (js_up (js_up (js_up (js_up (js_up σ (9 + b) (σ (8 + b) 6) x1) (10 + b) (σ (8 + b) 6) x2) (11 + b) (σ (8 + b) 6) x3) (12 + b) (σ (8 + b) 6) x4) (13 + b) (σ (8 + b) 6) x5) (14 + b) (σ (8 + b) 6) x6 a i = σ a i := fun a i h => by
      rw [js_up_ne _ (by omega), js_up_ne _ (by omega), js_up_ne _ (by omega), js_up_ne _ (by omega), js_up_ne _ (by omega), js_up_ne _ (by omega)]
    have r1 : js_up (js_up (js_up (js_up (js_up (js_up σ (9 + b) (σ (8 + b) 6) x1) (10 + b) (σ (8 + b) 6) x2) (11 + b) (σ (8 + b) 6) x3) (12 + b) (σ (8 + b) 6) x4) (13 + b) (σ (8 + b) 6) x5) (14 + b) (σ (8 + b) 6) x6 (9 + b) (σ (8 + b) 6) = x1 := by
      rw [js_up_na _ (by omega), js_up_na _ (by omega), js_up_na _ (by omega), js_up_na _ (by omega), js_up_na _ (by omega), js_up_same]
    have r2 : js_up (js_up (js_up (js_up (js_up (js_up σ (9 + b) (σ (8 + b) 6) x1) (10 + b) (σ (8 + b) 6) x2) (11 + b) (σ (8 + b) 6) x3) (12 + b) (σ (8 + b) 6) x4) (13 + b) (σ (8 + b) 6) x5) (14 + b) (σ (8 + b) 6) x6 (10 + b) (σ (8 + b) 6) = x2 := by
      rw [js_up_na _ (by omega), js_up_na _ (by omega), js_up_na _ (by omega), js_up_na _ (by omega), js_up_same]
    have r3 : js_up (js_up (js_up (js_up (js_up (js_up σ (9 + b) (σ (8 + b) 6) x1) (10 + b) (σ (8 + b) 6) x2) (11 + b) (σ (8 + b) 6) x3) (12 + b) (σ (8 + b) 6) x4) (13 + b) (σ (8 + b) 6) x5) (14 + b) (σ (8 + b) 6) x6 (11 + b) (σ (8 + b) 6) = x3 := by
      rw [js_up_na _ (by omega), js_up_na _ (by omega), js_up_na _ (by omega), js_up_same]
    have r4 : js_up (js_up (js_up (js_up (js_up (js_up σ (9 + b) (σ (8 + b) 6) x1) (10 + b) (σ (8 + b) 6) x2) (11 + b) (σ (8 + b) 6) x3) (12 + b) (σ (8 + b) 6) x4) (13 + b) (σ (8 + b) 6) x5) (14 + b) (σ (8 + b) 6) x6 (12 + b) (σ (8 + b) 6) = x4 := by
      rw [js_up_na _ (by omega), js_up_na _ (by omega), js_up_same]
    have r5 : js_up (js_up (js_up (js_up (js_up (js_up σ (9 + b) (σ (8 + b) 6) x1) (10 + b) (σ (8 + b) 6) x2) (11 + b) (σ (8 + b) 6) x3) (12 + b) (σ (8 + b) 6) x4) (13 + b) (σ (8 + b) 6) x5) (14 + b) (σ (8 + b) 6) x6 (13 + b) (σ (8 + b) 6) = x5 := by
      rw [js_up_na _ (by omega), js_up_same]
    have r6 : js_up (js_up (js_up (js_up (js_up (js_up σ (9 + b) (σ (8 + b) 6) x1) (10 + b) (σ (8 + b) 6) x2) (11 + b) (σ (8 + b) 6) x3) (12 + b) (σ (8 + b) 6) x4) (13 + b) (σ (8 + b) 6) x5) (14 + b) (σ (8 + b) 6) x6 (14 + b) (σ (8 + b) 6) = x6 := js_up_same _ _ _ _
    rw [o (8 + b) 6 (by omega), o (8 + b) 7 (by omega), w, js_w_of (x := σ (8 + b) 7 + 1) (by omega) (by omega)]
    generalize js_up (js_up (js_up (js_up (js_up (js_up σ (9 + b) (σ (8 + b) 6) x1) (10 + b) (σ (8 + b) 6) x2) (11 + b) (σ (8 + b) 6) x3) (12 + b) (σ (8 + b) 6) x4) (13 + b) (σ (8 + b) 6) x5) (14 + b) (σ (8 + b) 6) x6 = τ at o r1 r2 r3 r4 r5 r6
    refine ⟨_, rfl, ?_, ?_, fun _ => ?_, fun a i h1 h2 => ?_⟩
    · rw [js_up_ni _ (by decide), js_up_same]
    · rw [js_up_same]
      split <;> omega
    · rw [js_up_na _ (by omega), js_up_na _ (by omega), js_up_na _ (by omega), js_up_na _ (by omega), js_up_na _ (by omega), js_up_na _ (by omega), js_up_na _ (by omega), js_up_na _ (by omega), js_up_na _ (by omega), js_up_na _ (by omega), js_up_na _ (by omega), js_up_na _ (by omega)]
      exact ⟨r1, r2, r3, r4, r5, r6⟩
    · rw [js_up_ne _ (by omega), js_up_ne _ (by omega), o a i h2]
  · rw [if_neg q, b_60_67 hd hb, w, js_w_of (x := σ (8 + b) 7 + 1) (by omega) (by omega)]
    refine ⟨_, rfl, ?_, ?_, fun h => absurd h q, fun a i h1 h2 => ?_⟩
    · rw [js_up_ni _ (by decide), js_up_same]
    · rw [js_up_same]
      split <;> omega
    · rw [js_up_ne _ (by omega), js_up_ne _ (by omega)]
theorem c_set (hb : b = 0 ∨ b = 25) (hz : cz_R σ b) (hd : 5 ≤ d) {op x lo hi : Int} : ∃ σ' : js_S, js_J E d 59 0 [(2, 8 + b), (0, op), (0, x), (0, lo), (0, hi)] [] σ = js_r0 E σ' ∧ em_R b σ σ' op x 0 lo hi 0 := by
  obtain ⟨σ', e1, h1⟩ := c_put (E := E) (d := d - 1) hb hz (by omega) (x1 := op) (x2 := x) (x3 := 0) (x4 := lo) (x5 := hi) (x6 := 0)
  exact ⟨σ', by rw [b_59_0, k_59_8 hb (by omega) e1, b_59_11], h1⟩
theorem c_add (hb : b = 0 ∨ b = 25) (hz : cz_R σ b) (hd : 5 ≤ d) {op x : Int} : ∃ σ' : js_S, js_J E d 95 0 [(2, 8 + b), (0, op), (0, x)] [] σ = js_r E (0, σ (8 + b) 6) σ' ∧ em_R b σ σ' op x 0 1 0 0 := by
  obtain ⟨σ', e1, h1⟩ := c_put (E := E) (d := d - 1) hb hz (by omega) (x1 := op) (x2 := x) (x3 := 0) (x4 := 1) (x5 := 0) (x6 := 0)
  refine ⟨σ', ?_, h1⟩
  have e : σ (8 + b) 6 + 1 - 1 = σ (8 + b) 6 := by omega
  rw [b_95_0, k_95_7 hb (by omega) e1, b_95_10 hb, h1.1, e]
theorem c_homeOf {x : Int} (hx : js_desc E.1 σ x = some (0, 11, js_sym)) (h1 : -1 ≤ σ x 11) (h2 : σ x 11 < 1000) : js_J E d 72 0 [(2, x)] [] σ = js_r E (0, sh_P (σ x 11)) σ := by
  rw [b_72_0 hx, js_w_of (x := σ x 11) (by omega) (by omega)]
  unfold sh_P
  by_cases q : σ x 11 < 0
  · rw [if_pos q, if_pos q]
  · rw [if_neg q, if_neg q]
theorem c_load (hb : b = 0 ∨ b = 25) (hz : cz_R σ b) (hd : 5 ≤ d) {x lo hi : Int} (hx : js_desc E.1 σ x = some (0, 11, js_sym)) (h1 : -1 ≤ σ x 11) (h2 : σ x 11 < 1000) : ∃ σ' : js_S, js_J E d 78 0 [(2, 8 + b), (2, x), (0, lo), (0, hi)] [] σ = js_r0 E σ' ∧ em_R b σ σ' 1 (σ x 5) 0 lo hi (sh_P (σ x 11)) := by
  obtain ⟨σ', e1, h3⟩ := c_put (E := E) (d := d - 1) hb hz (by omega) (x1 := 1) (x2 := σ x 5) (x3 := 0) (x4 := lo) (x5 := hi) (x6 := sh_P (σ x 11))
  exact ⟨σ', by rw [b_78_0 hx, k_78_10 (by omega) (c_homeOf hx h1 h2), k_78_13 hb (by omega) e1, b_78_16], h3⟩
theorem c_loadE (hb : b = 0 ∨ b = 25) (hz : cz_R σ b) (hd : 5 ≤ d) {x : Int} (hx : js_desc E.1 σ x = some (0, 11, js_sym)) (h1 : -1 ≤ σ x 11) (h2 : σ x 11 < 1000) : ∃ σ' : js_S, js_J E d 77 0 [(2, 8 + b), (2, x)] [] σ = js_r0 E σ' ∧ em_R b σ σ' 4 (σ x 5) (σ x 6) (σ x 3) (σ x 4) (sh_P (σ x 11)) := by
  obtain ⟨σ', e1, h3⟩ := c_put (E := E) (d := d - 1) hb hz (by omega) (x1 := 4) (x2 := σ x 5) (x3 := σ x 6) (x4 := σ x 3) (x5 := σ x 4) (x6 := sh_P (σ x 11))
  exact ⟨σ', by rw [b_77_0 hx, k_77_19 (by omega) (c_homeOf hx h1 h2), k_77_22 hb (by omega) e1, b_77_25], h3⟩
theorem c_store (hb : b = 0 ∨ b = 25) (hz : cz_R σ b) (hd : 5 ≤ d) {x y : Int} (hx : js_desc E.1 σ x = some (0, 11, js_sym)) (h1 : -1 ≤ σ x 11) (h2 : σ x 11 < 1000) : ∃ σ' : js_S, js_J E d 97 0 [(2, 8 + b), (2, x), (0, y)] [] σ = js_r0 E σ' ∧ em_R b σ σ' 2 (σ x 5 + y) 0 1 0 (sh_P (σ x 11)) := by
  obtain ⟨σ', e1, h3⟩ := c_put (E := E) (d := d - 1) hb hz (by omega) (x1 := 2) (x2 := σ x 5 + y) (x3 := 0) (x4 := 1) (x5 := 0) (x6 := sh_P (σ x 11))
  exact ⟨σ', by rw [b_97_0 hx, k_97_12 (by omega) (c_homeOf hx h1 h2), k_97_15 hb (by omega) e1, b_97_18], h3⟩
theorem c_storeE (hb : b = 0 ∨ b = 25) (hz : cz_R σ b) (hd : 5 ≤ d) {x : Int} (hx : js_desc E.1 σ x = some (0, 11, js_sym)) (h1 : -1 ≤ σ x 11) (h2 : σ x 11 < 1000) : ∃ σ' : js_S, js_J E d 109 0 [(2, 8 + b), (2, x)] [] σ = js_r0 E σ' ∧ em_R b σ σ' 5 (σ x 5) (σ x 6) 1 0 (sh_P (σ x 11)) := by
  obtain ⟨σ', e1, h3⟩ := c_put (E := E) (d := d - 1) hb hz (by omega) (x1 := 5) (x2 := σ x 5) (x3 := σ x 6) (x4 := 1) (x5 := 0) (x6 := sh_P (σ x 11))
  exact ⟨σ', by rw [b_109_0 hx, k_109_13 (by omega) (c_homeOf hx h1 h2), k_109_16 hb (by omega) e1, b_109_19], h3⟩
/-- into the lowest TEMP that is free -/
def kp_R (b : Int) (σ σ' : js_S) (lo hi : Int) : Prop := (σ' (8 + b) 10 = σ (8 + b) 10 + 1 ∧ σ' (8 + b) 11 = max (σ (8 + b) 11) (σ (8 + b) 10 + 1) ∧ σ' (17 + b) (σ (8 + b) 10) = lo ∧ σ' (18 + b) (σ (8 + b) 10) = hi) ∧ σ' (8 + b) 6 = σ (8 + b) 6 + 1 ∧ σ' (8 + b) 7 = min 400000 (σ (8 + b) 7 + 1) ∧ (σ (8 + b) 6 < 8192 → ci_P σ' b (σ (8 + b) 8) (σ (8 + b) 6) (2, 2, σ (8 + b) 10, 0, 0, 1, 0)) ∧ (∀ a i : Int, ¬ (a = 8 + b ∧ (i = 6 ∨ i = 7 ∨ i = 10 ∨ i = 11)) → ¬ (9 + b ≤ a ∧ a ≤ 14 + b ∧ i = σ (8 + b) 6) → ¬ (17 + b ≤ a ∧ a ≤ 18 + b ∧ i = σ (8 + b) 10) → σ' a i = σ a i)
theorem c_keep (hb : b = 0 ∨ b = 25) (hz : cz_R σ b) (hd : 5 ≤ d) (ht : 0 ≤ σ (8 + b) 10) (ht2 : σ (8 + b) 10 < 1024) (hm : 0 ≤ σ (8 + b) 11) (hm2 : σ (8 + b) 11 < 10000) {lo hi : Int} : ∃ σ' : js_S, js_J E d 69 0 [(2, 8 + b), (0, lo), (0, hi), (9, 0)] [] σ = js_r E (0, σ (8 + b) 10) σ' ∧ kp_R b σ σ' lo hi := by
  have ex : ∀ m : Int, m = (if js_w (σ (8 + b) 11) < js_w (σ (8 + b) 10 + 1) then σ (8 + b) 10 + 1 else σ (8 + b) 11) → m = max (σ (8 + b) 11) (σ (8 + b) 10 + 1) := fun m h => by
    rw [h, js_w_of (x := σ (8 + b) 11) (by omega) (by omega), js_w_of (x := σ (8 + b) 10 + 1) (by omega) (by omega)]
    split <;> omega
  rw [b_69_0 (by omega) hb]
  generalize hmm : (if js_w (σ (8 + b) 11) < js_w (σ (8 + b) 10 + 1) then σ (8 + b) 10 + 1 else σ (8 + b) 11) = m
  have em := ex m hmm.symm
  clear ex hmm
  rw [js_w_of (x := σ (8 + b) 10) (by omega) (by omega), if_pos ht2, if_pos ⟨ht, ht2⟩, b_69_51]
  have g10 : js_up (js_up (js_up (js_up σ (8 + b) 10 (σ (8 + b) 10 + 1)) (8 + b) 11 m) (17 + b) (σ (8 + b) 10) lo) (18 + b) (σ (8 + b) 10) hi (8 + b) 10 = σ (8 + b) 10 + 1 := by rw [js_up_na _ (by omega), js_up_na _ (by omega), js_up_ni _ (by decide), js_up_same]
  have g11 : js_up (js_up (js_up (js_up σ (8 + b) 10 (σ (8 + b) 10 + 1)) (8 + b) 11 m) (17 + b) (σ (8 + b) 10) lo) (18 + b) (σ (8 + b) 10) hi (8 + b) 11 = m := by rw [js_up_na _ (by omega), js_up_na _ (by omega), js_up_same]
  have g17 : js_up (js_up (js_up (js_up σ (8 + b) 10 (σ (8 + b) 10 + 1)) (8 + b) 11 m) (17 + b) (σ (8 + b) 10) lo) (18 + b) (σ (8 + b) 10) hi (17 + b) (σ (8 + b) 10) = lo := by rw [js_up_na _ (by omega), js_up_same]
  have g18 : js_up (js_up (js_up (js_up σ (8 + b) 10 (σ (8 + b) 10 + 1)) (8 + b) 11 m) (17 + b) (σ (8 + b) 10) lo) (18 + b) (σ (8 + b) 10) hi (18 + b) (σ (8 + b) 10) = hi := js_up_same _ _ _ _
  have gO : ∀ a i : Int, ¬ (a = 8 + b ∧ (i = 10 ∨ i = 11)) → ¬ (17 + b ≤ a ∧ a ≤ 18 + b ∧ i = σ (8 + b) 10) → js_up (js_up (js_up (js_up σ (8 + b) 10 (σ (8 + b) 10 + 1)) (8 + b) 11 m) (17 + b) (σ (8 + b) 10) lo) (18 + b) (σ (8 + b) 10) hi a i = σ a i := fun a i h1 h2 => by rw [js_up_ne _ (by omega), js_up_ne _ (by omega), js_up_ne _ (by omega), js_up_ne _ (by omega)]
  generalize js_up (js_up (js_up (js_up σ (8 + b) 10 (σ (8 + b) 10 + 1)) (8 + b) 11 m) (17 + b) (σ (8 + b) 10) lo) (18 + b) (σ (8 + b) 10) hi = τ at g10 g11 g17 g18 gO ⊢
  have e6 : τ (8 + b) 6 = σ (8 + b) 6 := gO _ _ (by omega) (by omega)
  have e7 : τ (8 + b) 7 = σ (8 + b) 7 := gO _ _ (by omega) (by omega)
  have e8 : τ (8 + b) 8 = σ (8 + b) 8 := gO _ _ (by omega) (by omega)
  have hz' : cz_R τ b := by unfold cz_R; rw [e6, e7]; exact hz
  obtain ⟨σ', e1, h3⟩ := c_put (E := E) (d := d - 1) hb hz' (by omega) (x1 := 2) (x2 := σ (8 + b) 10) (x3 := 0) (x4 := 1) (x5 := 0) (x6 := 2 * τ (8 + b) 8 + 2)
  have hc := fun hs => em_ci2 (u := τ (8 + b) 8) h3 hs
  obtain ⟨h4, h5, h6, h7⟩ := h3
  rw [e6] at hc h4 h7
  rw [e7] at h5
  rw [e8] at hc
  refine ⟨σ', ?_, ⟨by rw [h7 _ _ (by omega) (by omega)]; exact g10, by rw [h7 _ _ (by omega) (by omega), g11]; exact em, by rw [h7 _ _ (by omega) (by omega)]; exact g17, by rw [h7 _ _ (by omega) (by omega)]; exact g18⟩, h4, h5, hc, fun a i g1 g2 g3 => ?_⟩
  · rw [k_69_58 hb (by omega) (b_70_0 hb), k_69_61 hb (by omega) e1, b_69_64]
  · rw [h7 a i (by omega) g2, gO a i (by omega) g3]
/-- LOAD of a TEMP -/
theorem c_loadT (hb : b = 0 ∨ b = 25) (hz : cz_R σ b) (hd : 5 ≤ d) {t : Int} (ht : 0 ≤ t) (ht2 : t < 1024) : ∃ σ' : js_S, js_J E d 102 0 [(2, 8 + b), (0, t), (9, 0)] [] σ = js_r0 E σ' ∧ em_R b σ σ' 1 t 0 (σ (17 + b) t) (σ (18 + b) t) (2 * σ (8 + b) 8 + 2) := by
  obtain ⟨σ', e1, h3⟩ := c_put (E := E) (d := d - 1) hb hz (by omega) (x1 := 1) (x2 := t) (x3 := 0) (x4 := σ (17 + b) t) (x5 := σ (18 + b) t) (x6 := 2 * σ (8 + b) 8 + 2)
  refine ⟨σ', ?_, h3⟩
  rw [b_102_0, js_w_of (x := t) (by omega) (by omega), if_neg (by omega), if_pos ht2, b_102_16 hb, if_neg (show ¬ js_w 1 = 0 by decide), js_w_of (x := t) (by omega) (by omega), if_pos ⟨ht, ht2⟩, b_102_35 hb, if_neg (show ¬ js_w 1 = 0 by decide), js_w_of (x := t) (by omega) (by omega), if_pos ⟨ht, ht2⟩, b_102_49, k_102_50 hb (by omega) (b_70_0 hb), k_102_53 hb (by omega) e1, b_102_56]
theorem cz_em {σ' : js_S} {op f s lo hi h : Int} (hz : cz_R σ b) (h2 : σ (8 + b) 6 + 1 < 100000000) (he : em_R b σ σ' op f s lo hi h) : cz_R σ' b := by
  obtain ⟨z1, z2, z3, z4⟩ := hz
  refine ⟨by rw [he.1]; omega, by rw [he.1]; exact h2, by rw [he.2.1]; omega, by rw [he.2.1]; omega⟩
/-- MOVE, LOAD T, the OP -/
def cb_R (b : Int) (σ σ' : js_S) (op lo hi : Int) : Prop := σ' (8 + b) 10 = σ (8 + b) 10 - 1 ∧ σ' (8 + b) 6 = σ (8 + b) 6 + 3 ∧ σ' (8 + b) 7 = min 400000 (σ (8 + b) 7 + 3) ∧ (σ (8 + b) 6 + 3 ≤ 8192 → ci_P σ' b (σ (8 + b) 8) (σ (8 + b) 6) (3, 0, 0, 0, 0, 1, 0) ∧ ci_P σ' b (σ (8 + b) 8) (σ (8 + b) 6 + 1) (1, 2, σ (8 + b) 10 - 1, 0, 0, σ (17 + b) (σ (8 + b) 10 - 1), σ (18 + b) (σ (8 + b) 10 - 1)) ∧ ci_P σ' b (σ (8 + b) 8) (σ (8 + b) 6 + 2) (op, 0, 0, 0, 0, lo, hi)) ∧ (∀ a i : Int, ¬ (a = 8 + b ∧ (i = 6 ∨ i = 7 ∨ i = 10)) → ¬ (9 + b ≤ a ∧ a ≤ 14 + b ∧ σ (8 + b) 6 ≤ i ∧ i < σ (8 + b) 6 + 3) → σ' a i = σ a i)
theorem c_combine (hb : b = 0 ∨ b = 25) (hz : cz_R σ b) (h2 : σ (8 + b) 6 + 3 < 100000000) (hd : 5 ≤ d) (ht : 1 ≤ σ (8 + b) 10) (ht2 : σ (8 + b) 10 ≤ 1024) (hg : ∀ s : Int, 0 ≤ s → s < σ (7 + b) 1 → 137 ≤ σ (19 + b) s) {op lo hi : Int} : ∃ σ' : js_S, js_J E d 82 0 [(2, 8 + b), (0, op), (0, lo), (0, hi)] [] σ = js_r0 E σ' ∧ cb_R b σ σ' op lo hi := by
  obtain ⟨σ1, e1, h3⟩ := c_put (E := E) (d := d - 1) hb hz (by omega) (x1 := 3) (x2 := 0) (x3 := 0) (x4 := 1) (x5 := 0) (x6 := 0)
  have hz1 := cz_em hz (by omega) h3
  have hc1 := fun hs => em_ci0 (u := σ (8 + b) 8) h3 hs
  obtain ⟨p1, p2, p3, p4⟩ := h3
  have t1 : σ1 (8 + b) 10 = σ (8 + b) 10 := p4 _ _ (by omega) (by omega)
  have w4 : js_w 1024 = 1024 := by decide
  have w0 : js_w 0 = 0 := rfl
  have ew : (if js_w 0 < js_w ((if js_w (σ1 (8 + b) 10) < js_w 1024 then σ1 (8 + b) 10 else 1024) - 1) then (if js_w (σ1 (8 + b) 10) < js_w 1024 then σ1 (8 + b) 10 else 1024) - 1 else 0) = σ (8 + b) 10 - 1 := by
    rw [t1, w4, w0, js_w_of (x := σ (8 + b) 10) (by omega) (by omega)]
    have e : (if σ (8 + b) 10 < 1024 then σ (8 + b) 10 else 1024) = σ (8 + b) 10 := by split <;> omega
    rw [e, js_w_of (x := σ (8 + b) 10 - 1) (by omega) (by omega)]
    split <;> omega
  rw [b_82_0, k_82_7 hb (by omega) e1, b_82_10 (by omega) hb, ew, js_w_of (x := σ (8 + b) 10 - 1) (by omega) (by omega), if_pos (show 0 ≤ σ (8 + b) 10 - 1 ∧ σ (8 + b) 10 - 1 < 1024 by omega)]
  have q10 : js_up σ1 (8 + b) 10 (σ (8 + b) 10 - 1) (8 + b) 10 = σ (8 + b) 10 - 1 := js_up_same _ _ _ _
  have qO : ∀ a i : Int, ¬ (a = 8 + b ∧ i = 10) → js_up σ1 (8 + b) 10 (σ (8 + b) 10 - 1) a i = σ1 a i := fun a i h => js_up_ne _ h
  have e17 : σ1 (17 + b) (σ (8 + b) 10 - 1) = σ (17 + b) (σ (8 + b) 10 - 1) := p4 _ _ (by omega) (by omega)
  have e18 : σ1 (18 + b) (σ (8 + b) 10 - 1) = σ (18 + b) (σ (8 + b) 10 - 1) := p4 _ _ (by omega) (by omega)
  rw [e17, e18]
  generalize js_up σ1 (8 + b) 10 (σ (8 + b) 10 - 1) = σ2 at q10 qO ⊢
  have s6 : σ2 (8 + b) 6 = σ (8 + b) 6 + 1 := by rw [qO _ _ (by omega)]; exact p1
  have s7 : σ2 (8 + b) 7 = min 400000 (σ (8 + b) 7 + 1) := by rw [qO _ _ (by omega)]; exact p2
  have s8 : σ2 (8 + b) 8 = σ (8 + b) 8 := by rw [qO _ _ (by omega), p4 _ _ (by omega) (by omega)]
  have hz2 : cz_R σ2 b := by unfold cz_R; rw [qO _ _ (by omega), qO _ _ (by omega)]; exact hz1
  obtain ⟨σ3, e3, h5⟩ := c_put (E := E) (d := d - 1) hb hz2 (by omega) (x1 := 1) (x2 := σ (8 + b) 10 - 1) (x3 := 0) (x4 := σ (17 + b) (σ (8 + b) 10 - 1)) (x5 := σ (18 + b) (σ (8 + b) 10 - 1)) (x6 := 2 * σ2 (8 + b) 8 + 2)
  have hz3 := cz_em hz2 (by omega) h5
  have hc3 := fun hs => em_ci2 (u := σ2 (8 + b) 8) h5 hs
  obtain ⟨r1, r2, r3, r4⟩ := h5
  obtain ⟨σ4, e4, h6⟩ := c_put (E := E) (d := d - 1) hb hz3 (by omega) (x1 := op) (x2 := 0) (x3 := 0) (x4 := lo) (x5 := hi) (x6 := 0)
  have hc4 := fun hs => em_ci0 (u := σ (8 + b) 8) h6 hs
  obtain ⟨v1, v2, v3, v4⟩ := h6
  rw [s6] at r1 r4 hc3
  rw [s7] at r2
  rw [s8] at hc3
  rw [r1] at v1 v4 hc4
  rw [r2] at v2
  have o24 : ∀ a i : Int, ¬ (a = 8 + b) → ¬ (9 + b ≤ a ∧ a ≤ 14 + b ∧ σ (8 + b) 6 < i ∧ i < σ (8 + b) 6 + 3) → σ4 a i = σ1 a i := fun a i g1 g2 => by rw [v4 a i (by omega) (by omega), r4 a i (by omega) (by omega), qO a i (by omega)]
  have o34 : ∀ a i : Int, ¬ (a = 8 + b) → ¬ (9 + b ≤ a ∧ a ≤ 14 + b ∧ i = σ (8 + b) 6 + 2) → σ4 a i = σ3 a i := fun a i g1 g2 => v4 a i (by omega) (by omega)
  refine ⟨σ4, by rw [k_82_56 hb (by omega) (b_70_0 hb), k_82_59 hb (by omega) e3, b_82_62, k_82_69 hb (by omega) e4, b_82_72], ?_, by rw [v1]; omega, by rw [v2]; omega, fun hs => ⟨?_, ?_, ?_⟩, fun a i g1 g2 => ?_⟩
  · rw [v4 _ _ (by omega) (by omega), r4 _ _ (by omega) (by omega)]
    exact q10
  · have e7 : σ1 (7 + b) 1 = σ (7 + b) 1 := p4 _ _ (by omega) (by omega)
    refine ci_P_of (hc1 (by omega)) (fun a g1 g2 => o24 _ _ (by omega) (by omega)) (by rw [o24 _ _ (by omega) (by omega)]; exact Int.le_refl _) (fun s g1 g2 => o24 _ _ (by omega) (by omega)) (fun s k g1 g2 g3 => ?_)
    rw [e7] at g2
    have := hg s g1 g2
    have e19 : σ1 (19 + b) s = σ (19 + b) s := p4 _ _ (by omega) (by omega)
    exact o24 _ _ (by omega) (by omega)
  · have e7 : σ3 (7 + b) 1 = σ (7 + b) 1 := by rw [r4 _ _ (by omega) (by omega), qO _ _ (by omega), p4 _ _ (by omega) (by omega)]
    refine ci_P_of (hc3 (by omega)) (fun a g1 g2 => o34 _ _ (by omega) (by omega)) (by rw [o34 _ _ (by omega) (by omega)]; exact Int.le_refl _) (fun s g1 g2 => o34 _ _ (by omega) (by omega)) (fun s k g1 g2 g3 => ?_)
    rw [e7] at g2
    have := hg s g1 g2
    have e19 : σ3 (19 + b) s = σ (19 + b) s := by rw [r4 _ _ (by omega) (by omega), qO _ _ (by omega), p4 _ _ (by omega) (by omega)]
    exact o34 _ _ (by omega) (by omega)
  · have e : σ (8 + b) 6 + 2 = σ (8 + b) 6 + 1 + 1 := by omega
    rw [e]
    exact hc4 (by omega)
  · rw [v4 a i (by omega) (by omega), r4 a i (by omega) (by omega), qO a i (by omega), p4 a i (by omega) (by omega)]
/-- a jump lands here -/
theorem c_land (hb : b = 0 ∨ b = 25) (hz : cz_R σ b) {x : Int} (hx : 0 ≤ x) (hx2 : x < σ (8 + b) 6) (hd : 1 ≤ d) : ∃ σ' : js_S, js_J E d 91 0 [(2, 8 + b), (0, x)] [] σ = js_r0 E σ' ∧ (x < 8192 → σ' (10 + b) x = σ (8 + b) 6) ∧ (∀ a i : Int, ¬ (a = 10 + b ∧ i = x) → σ' a i = σ a i) := by
  obtain ⟨z1, z2, z3, z4⟩ := hz
  rw [b_91_0]
  by_cases q : x < 8192
  · have e1 : js_J E (d - 1) 92 0 [(2, 8 + b), (0, x)] [] σ = js_r E (0, 1) σ := by
      rw [b_92_0 hb, js_w_of (x := x) (by omega) (by omega), js_w_of (x := σ (8 + b) 6) (by omega) (by omega), if_neg (by omega), if_pos hx2, if_pos q]
    rw [k_91_2 hb (by omega) e1, b_91_5 hb, if_neg (show ¬ js_w 1 = 0 by decide), js_w_of (x := x) (by omega) (by omega), if_pos ⟨hx, q⟩]
    exact ⟨_, rfl, fun _ => js_up_same _ _ _ _, fun a i h => js_up_ne _ h⟩
  · have e1 : js_J E (d - 1) 92 0 [(2, 8 + b), (0, x)] [] σ = js_r E (0, 0) σ := by
      rw [b_92_0 hb, js_w_of (x := x) (by omega) (by omega), js_w_of (x := σ (8 + b) 6) (by omega) (by omega), if_neg (by omega), if_pos hx2, if_neg q]
    rw [k_91_2 hb (by omega) e1, b_91_5 hb, if_pos (show js_w 0 = 0 from rfl)]
    exact ⟨_, rfl, fun h => absurd h q, fun _ _ _ => rfl⟩
end CO
