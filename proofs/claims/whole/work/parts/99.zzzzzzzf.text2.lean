/-! part 99.zzzzzzzf: text, by both -/
section TY
variable {E : js_E} {d e : Nat} {σ0 ρ0 σ ρ : js_S} {m x2 x3 x4 y1 y2 y3 y5 : Int} {op : Nat}
theorem js_sg3 (i : Nat) : js_sg 3 (i : Int) = nx_c i := rfl
theorem c_sg3 {k : Nat} {o : Int} (ho : o = (op : Int)) (h1 : op < 31) (hk : k < 6) : js_w (o * 6 + k) = ((6 * op + k : Nat) : Int) := by
  rw [ho, js_w_of (by omega) (by omega)]
  push_cast
  omega
/-- the name of op, written by both -/
theorem tx_nmA {o : Int} (ho : o = (op : Int)) (hop : op < 31) (hd : 4 ≤ d) (he : 1 ≤ e) : ∀ (g k : Nat) (σ ρ : js_S), g + k = nx_N.getD op 0 → tx_R k σ0 ρ0 σ ρ → ∃ σ' ρ' : js_S, js_J E d 129 15 [(2, 0), (0, o), (0, x2), (0, x3), (1, x4), (9, 0), (0, o * 6), (0, o * 6 + (k : Int))] [] σ = js_J E d 129 15 [(2, 0), (0, o), (0, x2), (0, x3), (1, x4), (9, 0), (0, o * 6), (0, o * 6 + ((nx_N.getD op 0 : Nat) : Int))] [] σ' ∧ js_J E e 295 81 [(2, 83), (0, y1), (0, y2), (0, y3), (0, ((nx_P.getD op 0 + k : Nat) : Int)), (0, y5)] [] ρ = js_J E e 295 81 [(2, 83), (0, y1), (0, y2), (0, y3), (0, ((nx_P.getD op 0 + nx_N.getD op 0 : Nat) : Int)), (0, y5)] [] ρ' ∧ tx_R ((nx_N.getD op 0 : Nat) : Int) σ0 ρ0 σ' ρ' := by
  obtain ⟨n1, n2, n3, n4, n5⟩ := nx_1 hop
  intro g
  induction g with
  | zero =>
    intro k σ ρ hk h
    have hk : k = nx_N.getD op 0 := by omega
    rw [← hk]
    exact ⟨σ, ρ, rfl, rfl, h⟩
  | succ g ih =>
    intro k σ ρ hk h
    obtain ⟨v1, v2, v3⟩ := (n5 k (by omega)).1 (by omega)
    have w7 := c_sg3 (k := k) ho hop (by omega)
    have w6 : js_w (o * 6 + 6) = o * 6 + 6 := js_w_of (by omega) (by omega)
    have wc : js_w (nx_c (6 * op + k)) = nx_c (6 * op + k) := js_w_of (by omega) (by omega)
    have wp : js_w ((nx_P.getD op 0 + k : Nat) : Int) = ((nx_P.getD op 0 + k : Nat) : Int) := js_w_of (by omega) (by omega)
    have tn : ((nx_P.getD op 0 + k : Nat) : Int).toNat = nx_P.getD op 0 + k := by omega
    have rs : (js_c134.getD (nx_P.getD op 0 + k) (0, 0)).2 = nx_c (6 * op + k) := v1.symm
    obtain ⟨σ1, ρ1, e1, e2, h1⟩ := tx_put (E := E) (d := d - 1) (e := e - 1) (x := nx_c (6 * op + k)) (x' := nx_c (6 * op + k)) h (by omega) rfl
    obtain ⟨σ', ρ', e3, e4, h2⟩ := ih (k + 1) σ1 ρ1 (by omega) (by push_cast; exact h1)
    refine ⟨σ', ρ', ?_, ?_, h2⟩
    · rw [b_129_15 hd, w7, w6, if_pos (by omega), if_pos (by omega), b_129_35 hd (by rw [w7]; omega), w7, js_sg3, wc, if_neg (by omega), b_129_47 hd (by rw [w7]; omega), w7, js_sg3, k_129_55 (by omega) e1, b_129_58, show o * 6 + (k : Int) + 1 = o * 6 + ((k + 1 : Nat) : Int) by push_cast; omega, e3]
    · rw [b_295_81, wp, if_pos (by omega), tn, rs, wc, if_neg (by omega), k_295_101 he e2, b_295_104, show ((nx_P.getD op 0 + k : Nat) : Int) + 1 = ((nx_P.getD op 0 + (k + 1) : Nat) : Int) by push_cast; omega, e4]
/-- the class's spaces behind it -/
theorem tx_nmB {o : Int} (ho : o = (op : Int)) (hop : op < 31) (hd : 4 ≤ d) : ∀ g k : Nat, g + k = 6 → nx_N.getD op 0 ≤ k → js_J E d 129 15 [(2, 0), (0, o), (0, x2), (0, x3), (1, x4), (9, 0), (0, o * 6), (0, o * 6 + (k : Int))] [] σ = js_J E d 129 64 [(2, 0), (0, o), (0, x2), (0, x3), (1, x4), (9, 0), (0, o * 6), (0, o * 6 + 6)] [] σ := by
  obtain ⟨n1, n2, n3, n4, n5⟩ := nx_1 hop
  intro g
  induction g with
  | zero =>
    intro k hk _
    have hk : k = 6 := by omega
    subst hk
    rw [show o * 6 + ((6 : Nat) : Int) = o * 6 + 6 from rfl, b_129_15 hd, if_neg (by omega)]
  | succ g ih =>
    intro k hk hn
    have v := (n5 k (by omega)).2 (by omega)
    have w7 := c_sg3 (k := k) ho hop (by omega)
    have w6 : js_w (o * 6 + 6) = o * 6 + 6 := js_w_of (by omega) (by omega)
    rw [b_129_15 hd, w7, w6, if_pos (by omega), if_pos (by omega), b_129_35 hd (by rw [w7]; omega), w7, js_sg3, v, if_pos (by decide), b_129_58, show o * 6 + (k : Int) + 1 = o * 6 + ((k + 1 : Nat) : Int) by push_cast; omega]
    exact ih (k + 1) (by omega) (by omega)
/-- the reference goes to the name -/
theorem tx_sk1 {j : Nat} (hj : j < 31) : ∀ g k : Nat, g + k = nx_N.getD j 0 → js_J E e 295 54 [(2, 83), (0, y1), (0, y2), (0, y3), (0, ((nx_P.getD j 0 + k : Nat) : Int)), (0, (j : Int))] [] ρ = js_J E e 295 43 [(2, 83), (0, y1), (0, y2), (0, y3), (0, ((nx_P.getD (j + 1) 0 : Nat) : Int)), (0, ((j + 1 : Nat) : Int))] [] ρ := by
  obtain ⟨n1, n2, n3, n4, n5⟩ := nx_1 hj
  intro g
  induction g with
  | zero =>
    intro k hk
    have hk : k = nx_N.getD j 0 := by omega
    have wp : js_w ((nx_P.getD j 0 + k : Nat) : Int) = ((nx_P.getD j 0 + k : Nat) : Int) := js_w_of (by omega) (by omega)
    have tn : ((nx_P.getD j 0 + k : Nat) : Int).toNat = nx_P.getD j 0 + k := by omega
    have rs : (js_c134.getD (nx_P.getD j 0 + k) (0, 0)).2 = 32 := by rw [hk]; exact n4
    rw [b_295_54, wp, if_pos (by omega), tn, rs, if_pos (by decide), show ((nx_P.getD j 0 + k : Nat) : Int) + 1 = ((nx_P.getD (j + 1) 0 : Nat) : Int) by rw [n1]; push_cast; omega, show (j : Int) + 1 = ((j + 1 : Nat) : Int) by push_cast; rfl]
  | succ g ih =>
    intro k hk
    obtain ⟨v1, v2, v3⟩ := (n5 k (by omega)).1 (by omega)
    have wp : js_w ((nx_P.getD j 0 + k : Nat) : Int) = ((nx_P.getD j 0 + k : Nat) : Int) := js_w_of (by omega) (by omega)
    have tn : ((nx_P.getD j 0 + k : Nat) : Int).toNat = nx_P.getD j 0 + k := by omega
    have rs : (js_c134.getD (nx_P.getD j 0 + k) (0, 0)).2 = nx_c (6 * j + k) := v1.symm
    have wc : js_w (nx_c (6 * j + k)) = nx_c (6 * j + k) := js_w_of (by omega) (by omega)
    rw [b_295_54, wp, if_pos (by omega), tn, rs, wc, if_neg (by omega), show ((nx_P.getD j 0 + k : Nat) : Int) + 1 = ((nx_P.getD j 0 + (k + 1) : Nat) : Int) by push_cast; omega]
    exact ih (k + 1) (by omega)
theorem tx_sk (hy : 0 ≤ js_w y2 ∧ js_w y2 < 8192) (h111 : ρ 111 (js_w y2) = (op : Int)) (hop : op < 31) : ∀ g j : Nat, g + j = op → js_J E e 295 43 [(2, 83), (0, y1), (0, y2), (0, y3), (0, ((nx_P.getD j 0 : Nat) : Int)), (0, (j : Int))] [] ρ = js_J E e 295 81 [(2, 83), (0, y1), (0, y2), (0, y3), (0, ((nx_P.getD op 0 : Nat) : Int)), (0, (op : Int))] [] ρ := by
  have wo : js_w (op : Int) = op := js_w_of (by omega) (by omega)
  intro g
  induction g with
  | zero =>
    intro j hj
    have hj : j = op := by omega
    subst hj
    rw [b_295_43, if_pos hy, h111, wo, if_neg (by omega)]
  | succ g ih =>
    intro j hj
    have wj : js_w (j : Int) = j := js_w_of (by omega) (by omega)
    have s := tx_sk1 (E := E) (e := e) (ρ := ρ) (y1 := y1) (y2 := y2) (y3 := y3) (j := j) (by omega) (nx_N.getD j 0) 0 rfl
    rw [Nat.add_zero] at s
    rw [b_295_43, if_pos hy, h111, wo, wj, if_pos (by omega), s]
    exact ih (j + 1) (by omega)
theorem c_64A {o x6 x7 : Int} (w : js_w o = o) (h : o = 0 ∨ o = 22 ∨ o = 23) : js_J E d 129 64 [(2, 0), (0, o), (0, x2), (0, x3), (1, x4), (9, 0), (0, x6), (0, x7)] [] σ = js_J E d 129 80 [(2, 0), (0, o), (0, x2), (0, x3), (1, x4), (9, 0), (0, x6), (0, x7)] [] σ := by
  rw [b_129_64, w]
  rcases h with h | h | h
  · rw [if_pos h]
  · rw [if_neg (by omega), if_pos h]
  · rw [if_neg (by omega), if_neg (by omega), if_pos h]
theorem c_64B {o x6 x7 : Int} (w : js_w o = o) (h : o = 1 ∨ o = 2 ∨ o = 4 ∨ o = 5 ∨ 24 ≤ o ∧ o ≤ 27) : js_J E d 129 64 [(2, 0), (0, o), (0, x2), (0, x3), (1, x4), (9, 0), (0, x6), (0, x7)] [] σ = js_J E d 129 124 [(2, 0), (0, o), (0, x2), (0, x3), (1, x4), (9, 0), (0, x6), (0, x7)] [] σ := by
  rw [b_129_64, w, if_neg (by omega), if_neg (by omega), if_neg (by omega)]
  rcases h with h | h | h | h | h
  · rw [if_pos h]
  · rw [if_neg (by omega), if_pos h]
  · rw [if_neg (by omega), if_neg (by omega), if_pos h]
  · rw [if_neg (by omega), if_neg (by omega), if_neg (by omega), if_pos h]
  · rw [if_neg (by omega), if_neg (by omega), if_neg (by omega), if_neg (by omega), if_neg (by omega), if_neg (by omega)]
theorem c_64C {o x6 x7 : Int} (w : js_w o = o) (h : ¬ (o = 0 ∨ o = 22 ∨ o = 23)) (h2 : ¬ (o = 1 ∨ o = 2 ∨ o = 4 ∨ o = 5 ∨ 24 ≤ o ∧ o ≤ 27)) : js_J E d 129 64 [(2, 0), (0, o), (0, x2), (0, x3), (1, x4), (9, 0), (0, x6), (0, x7)] [] σ = js_J E d 129 130 [(2, 0), (0, o), (0, x2), (0, x3), (1, x4), (9, 0), (0, x6), (0, x7)] [] σ := by
  rw [b_129_64, w, if_neg (by omega), if_neg (by omega), if_neg (by omega), if_neg (by omega), if_neg (by omega), if_neg (by omega), if_neg (by omega)]
  by_cases q : o < 24
  · rw [if_pos q]
  · rw [if_neg q, if_pos (by omega)]
/-- the reference at the space behind the name -/
theorem r_81 {o y4 : Int} (w : js_w o = o) (hy : 0 ≤ js_w y2 ∧ js_w y2 < 8192) (h111 : ρ 111 (js_w y2) = o) (h4 : 0 ≤ js_w y4 ∧ js_w y4 < 134) (h32 : (js_c134.getD (js_w y4).toNat (0, 0)).2 = 32) : js_J E e 295 81 [(2, 83), (0, y1), (0, y2), (0, y3), (0, y4), (0, y5)] [] ρ = if o = 0 ∨ o = 22 ∨ o = 23 then js_J E e 295 137 [(2, 83), (0, y1), (0, y2), (0, y3), (0, y4), (0, o)] [] ρ else if o = 1 ∨ o = 2 ∨ o = 4 ∨ o = 5 ∨ 24 ≤ o ∧ o ≤ 27 then js_J E e 295 207 [(2, 83), (0, y1), (0, y2), (0, y3), (0, y4), (0, o)] [] ρ else js_J E e 295 218 [(2, 83), (0, y1), (0, y2), (0, y3), (0, y4), (0, o)] [] ρ := by
  rw [b_295_81, if_pos h4, h32, if_pos (by decide), if_pos hy, h111, w]
  by_cases qA : o = 0 ∨ o = 22 ∨ o = 23
  · rw [if_pos qA]
    rcases qA with h | h | h
    · rw [if_pos h]
    · rw [if_neg (by omega), if_pos h]
    · rw [if_neg (by omega), if_neg (by omega), if_pos h]
  rw [if_neg qA, if_neg (by omega), if_neg (by omega), if_neg (by omega)]
  by_cases qB : o = 1 ∨ o = 2 ∨ o = 4 ∨ o = 5 ∨ 24 ≤ o ∧ o ≤ 27
  · rw [if_pos qB]
    rcases qB with h | h | h | h | h
    · rw [if_pos h]
    · rw [if_neg (by omega), if_pos h]
    · rw [if_neg (by omega), if_neg (by omega), if_pos h]
    · rw [if_neg (by omega), if_neg (by omega), if_neg (by omega), if_pos h]
    · rw [if_neg (by omega), if_neg (by omega), if_neg (by omega), if_neg (by omega), if_neg (by omega), if_pos (by omega)]
  · rw [if_neg qB, if_neg (by omega), if_neg (by omega), if_neg (by omega), if_neg (by omega)]
    by_cases q : o < 24
    · rw [if_pos q]
    · rw [if_neg q, if_neg (by omega)]
/-- one INSTRUCTION's text, by both -/
theorem y_text {o F : Int} (ho : o = (op : Int)) (hop : op < 31) (hF : F = 1 ∧ js_w y1 = 0 ∨ F = 58659 ∧ js_w y1 ≠ 0) (hy : 0 ≤ js_w y2 ∧ js_w y2 < 8192) (h111 : ρ 111 (js_w y2) = o) (h112 : ρ 112 (js_w y2) = x2) (h113 : ρ 113 (js_w y2) = x3) (h96 : ρ 83 96 = 0) (hd : 5 ≤ d) (he : 2 ≤ e) : ∃ (σ' ρ' : js_S) (m' y4 : Int), js_J E d 129 0 [(2, 0), (0, o), (0, x2), (0, x3), (1, F), (9, 0), (9, 0), (9, 0)] [] σ = js_r0 E σ' ∧ js_J E e 295 43 [(2, 83), (0, y1), (0, y2), (0, y3), (0, 0), (0, 0)] [] ρ = js_J E e 295 241 [(2, 83), (0, y1), (0, y2), (0, y3), (0, y4), (0, o)] [] ρ' ∧ tx_R m' σ ρ σ' ρ' ∧ m' ≤ 40 := by
  obtain ⟨n1, n2, n3, n4, n5⟩ := nx_1 hop
  have wo : js_w o = o := js_w_of (by omega) (by omega)
  have t0 : tx_R ((0 : Nat) : Int) σ ρ (js_up σ 0 3 0) ρ := ⟨⟨js_up_same _ _ _ _, h96, by decide⟩, fun i i1 i2 => by omega, fun a i g1 g2 => js_up_ne _ g1, fun _ _ _ _ => rfl⟩
  obtain ⟨σ1, ρ1, a1, a2, h1⟩ := tx_nmA (E := E) (d := d) (e := e) (x2 := x2) (x3 := x3) (x4 := F) (y1 := y1) (y2 := y2) (y3 := y3) (y5 := (op : Int)) ho hop (by omega) (by omega) (nx_N.getD op 0) 0 _ _ rfl t0
  have sk := tx_sk (E := E) (e := e) (ρ := ρ) (y1 := y1) (y2 := y2) (y3 := y3) (op := op) hy (by rw [h111, ho]) hop op 0 rfl
  have c1 : js_J E d 129 0 [(2, 0), (0, o), (0, x2), (0, x3), (1, F), (9, 0), (9, 0), (9, 0)] [] σ = js_J E d 129 64 [(2, 0), (0, o), (0, x2), (0, x3), (1, F), (9, 0), (0, o * 6), (0, o * 6 + 6)] [] σ1 := by
    have e0 : o * 6 + ((0 : Nat) : Int) = o * 6 := by omega
    rw [e0] at a1
    rw [b_129_0, a1]
    exact tx_nmB ho hop (by omega) (6 - nx_N.getD op 0) (nx_N.getD op 0) (by omega) (Nat.le_refl _)
  have fr1 : ∀ a i : Int, ¬ (a = 83 ∧ i = 96) → a ≠ 135 → ρ1 a i = ρ a i := h1.2.2.2
  have wp : js_w ((nx_P.getD op 0 + nx_N.getD op 0 : Nat) : Int) = ((nx_P.getD op 0 + nx_N.getD op 0 : Nat) : Int) := js_w_of (by omega) (by omega)
  obtain ⟨y4, hy4⟩ : ∃ y4 : Int, y4 = ((nx_P.getD op 0 + nx_N.getD op 0 : Nat) : Int) := ⟨_, rfl⟩
  have r8 := r_81 (E := E) (e := e) (ρ := ρ1) (y1 := y1) (y2 := y2) (y3 := y3) (y5 := (op : Int)) (o := o) (y4 := y4) wo hy (by rw [fr1 _ _ (by omega) (by decide)]; exact h111) (by rw [hy4, wp]; omega) (by rw [hy4, wp, show (((nx_P.getD op 0 + nx_N.getD op 0 : Nat) : Int)).toNat = nx_P.getD op 0 + nx_N.getD op 0 by omega]; exact n4)
  have r1 : js_J E e 295 43 [(2, 83), (0, y1), (0, y2), (0, y3), (0, 0), (0, 0)] [] ρ = js_J E e 295 81 [(2, 83), (0, y1), (0, y2), (0, y3), (0, y4), (0, (op : Int))] [] ρ1 := by
    have s0 : js_J E e 295 43 [(2, 83), (0, y1), (0, y2), (0, y3), (0, 0), (0, 0)] [] ρ = js_J E e 295 81 [(2, 83), (0, y1), (0, y2), (0, y3), (0, ((nx_P.getD op 0 : Nat) : Int)), (0, (op : Int))] [] ρ := sk
    rw [Nat.add_zero] at a2
    rw [s0, a2, hy4]
  have i2 := js_w_in x2
  have i3 := js_w_in x3
  -- the end: a second number, or none
  have fin : ∀ (m2 : Int) (σ2 ρ2 : js_S), m2 ≤ 23 → tx_R m2 σ ρ σ2 ρ2 → ∃ (σ' ρ' : js_S) (m' : Int), js_J E d 129 130 [(2, 0), (0, o), (0, x2), (0, x3), (1, F), (9, 0), (0, o * 6), (0, o * 6 + 6)] [] σ2 = js_r0 E σ' ∧ js_J E e 295 218 [(2, 83), (0, y1), (0, y2), (0, y3), (0, y4), (0, o)] [] ρ2 = js_J E e 295 241 [(2, 83), (0, y1), (0, y2), (0, y3), (0, y4), (0, o)] [] ρ' ∧ tx_R m' σ ρ σ' ρ' ∧ m' ≤ 40 := by
    intro m2 σ2 ρ2 hm2 h2
    by_cases q : o = 4 ∨ o = 5
    · have e113 : ρ2 113 (js_w y2) = x3 := by rw [h2.2.2.2 _ _ (by omega) (by decide)]; exact h113
      obtain ⟨σ', ρ', m', f1, f2, f3, f4, f5⟩ := tx_num (E := E) (d := d - 1) (e := e - 1) (x := js_w x3) (x' := js_w x3) (v := js_w x3) h2 (by omega) (js_l_of (by omega) (by omega)) (js_l_of (by omega) (by omega)) (by omega) (by omega) (by omega)
      refine ⟨σ', ρ', m', ?_, ?_, f3, by omega⟩
      · have : js_J E d 129 130 [(2, 0), (0, o), (0, x2), (0, x3), (1, F), (9, 0), (0, o * 6), (0, o * 6 + 6)] [] σ2 = js_J E d 129 140 [(2, 0), (0, o), (0, x2), (0, x3), (1, F), (9, 0), (0, o * 6), (0, o * 6 + 6)] [] σ2 := by
          rw [b_129_130, wo]
          rcases q with q | q
          · rw [if_pos q]
          · rw [if_neg (by omega), if_pos q]
        rw [this, b_129_140, k_129_143 (by omega) f1, b_129_146]
      · have : js_J E e 295 218 [(2, 83), (0, y1), (0, y2), (0, y3), (0, y4), (0, o)] [] ρ2 = js_J E e 295 230 [(2, 83), (0, y1), (0, y2), (0, y3), (0, y4), (0, o)] [] ρ2 := by
          rw [b_295_218, wo]
          rcases q with q | q
          · rw [if_pos q]
          · rw [if_neg (by omega), if_pos q]
        rw [this, b_295_230, if_pos hy, e113, k_295_238 (by omega) f2]
    · refine ⟨σ2, ρ2, m2, ?_, ?_, h2, by omega⟩
      · rw [b_129_130, wo, if_neg (by omega), if_neg (by omega), b_129_146]
      · rw [b_295_218, wo, if_neg (by omega), if_neg (by omega)]
  have e112 : ρ1 112 (js_w y2) = x2 := by rw [fr1 _ _ (by omega) (by decide)]; exact h112
  by_cases qA : o = 0 ∨ o = 22 ∨ o = 23
  · rw [if_pos qA] at r8
    have go : ∀ z : Int, js_l z = js_w x2 * F → js_J E e 295 137 [(2, 83), (0, y1), (0, y2), (0, y3), (0, y4), (0, o)] [] ρ1 = js_J E e 295 163 [(2, 83), (0, y1), (0, y2), (0, y3), (0, y4), (0, o)] [(1, z), (2, 83)] ρ1 → ∃ (σ' ρ' : js_S) (m' y4 : Int), js_J E d 129 0 [(2, 0), (0, o), (0, x2), (0, x3), (1, F), (9, 0), (9, 0), (9, 0)] [] σ = js_r0 E σ' ∧ js_J E e 295 43 [(2, 83), (0, y1), (0, y2), (0, y3), (0, 0), (0, 0)] [] ρ = js_J E e 295 241 [(2, 83), (0, y1), (0, y2), (0, y3), (0, y4), (0, o)] [] ρ' ∧ tx_R m' σ ρ σ' ρ' ∧ m' ≤ 40 := by
      intro z hz e137
      have bv : -1000000000000000 < js_w x2 * F ∧ js_w x2 * F < 1000000000000000 := by
        rcases hF with q | q
        · rw [q.1]; omega
        · rw [q.1]; omega
      obtain ⟨σ2, ρ2, m2, f1, f2, f3, f4, f5⟩ := tx_num (E := E) (d := d - 1) (e := e - 1) (x := js_w x2 * F) (x' := z) (v := js_w x2 * F) h1 (by omega) (js_l_of (by omega) (by omega)) hz bv (by omega) (by omega)
      obtain ⟨σ', ρ', m', g1, g2, g3, g4⟩ := fin m2 σ2 ρ2 (by omega) f3
      exact ⟨σ', ρ', m', y4, by rw [c1, c_64A wo qA, b_129_80, k_129_86 (by omega) f1, b_129_89, g1], by rw [r1, r8, e137, k_295_163 (by omega) f2, b_295_166, g2], g3, g4⟩
    rcases hF with q | q
    · exact go (js_w x2) (by rw [q.1, Int.mul_one]; exact js_l_of (by omega) (by omega)) (by rw [b_295_137, if_pos q.2, if_pos hy, e112])
    · exact go (58659 * js_w x2) (by rw [q.1, Int.mul_comm]; exact js_l_of (by omega) (by omega)) (by rw [b_295_137, if_neg q.2, if_pos hy, e112])
  rw [if_neg qA] at r8
  by_cases qB : o = 1 ∨ o = 2 ∨ o = 4 ∨ o = 5 ∨ 24 ≤ o ∧ o ≤ 27
  · rw [if_pos qB] at r8
    obtain ⟨σ2, ρ2, m2, f1, f2, f3, f4, f5⟩ := tx_num (E := E) (d := d - 1) (e := e - 1) (x := js_w x2) (x' := js_w x2) (v := js_w x2) h1 (by omega) (js_l_of (by omega) (by omega)) (js_l_of (by omega) (by omega)) (by omega) (by omega) (by omega)
    obtain ⟨σ', ρ', m', g1, g2, g3, g4⟩ := fin m2 σ2 ρ2 (by omega) f3
    exact ⟨σ', ρ', m', y4, by rw [c1, c_64B wo qB, b_129_124, k_129_127 (by omega) f1, g1], by rw [r1, r8, b_295_207, if_pos hy, e112, k_295_215 (by omega) f2, g2], g3, g4⟩
  · rw [if_neg qB] at r8
    obtain ⟨σ', ρ', m', g1, g2, g3, g4⟩ := fin _ σ1 ρ1 (by omega) h1
    exact ⟨σ', ρ', m', y4, by rw [c1, c_64C wo qA qB, g1], by rw [r1, r8, g2], g3, g4⟩
theorem lo_text {n z1 z2 z3 : Int} (h : LQ E n σ ρ) (h1 : -2147483648 ≤ z1 ∧ z1 < 2147483648) (h2 : -2147483648 ≤ z2 ∧ z2 < 2147483648) (h3 : -2147483648 ≤ z3 ∧ z3 < 2147483648) (hd : 7 ≤ d) (he : 3 ≤ e) : LO E n d 128 [(2, 0), (0, z1), (0, z2), (0, z3), (9, 0)] e 295 [(2, 83), (0, z1), (0, z2), (0, z3), (9, 0), (9, 0)] σ ρ := by
  have h' := h
  obtain ⟨_, hH, b, ⟨hb, ⟨h4, _, _⟩, _⟩, hl⟩ := h'
  have w1 : js_w z1 = z1 := js_w_of h1.1 h1.2
  have w2 : js_w z2 = z2 := js_w_of h2.1 h2.2
  have w3 : js_w z3 = z3 := js_w_of h3.1 h3.2
  have hC : σ (8 + b) 6 = ρ 83 49 ∧ (0 ≤ ρ 83 49 ∧ ρ 83 49 ≤ 8192) ∧ lq_G ρ ∧ ∀ p : Int, 0 ≤ p → p < ρ 83 49 → ce_P b σ ρ p := by
    rcases hl with h0 | ⟨_, Fu, ac, zc, N, T, hm, _, hG⟩
    · obtain ⟨_, _, ⟨a5, a6⟩, _⟩ := h0
      exact ⟨by rw [a5, a6], by omega, fun p q1 q2 => by omega, fun p q1 q2 => by omega⟩
    · have hp := hm.1.1.2.1
      exact ⟨hp.2.1.1.2.2, ⟨hp.2.1.1.1, hp.2.1.1.2.1⟩, hG, hp.2.2.2.1⟩
  obtain ⟨c1, c2, hG, hce⟩ := hC
  have wC : js_w (ρ 83 49) = ρ 83 49 := js_w_of (by omega) (by omega)
  have cA := c_hasC (E := E) (d := d - 1) hb c1 c2 h2
  by_cases q1 : z1 < 0
  · exact lo_mk (v := -1) (w := -1) (z := 0) h (by rw [b_128_0 hb h4, w1, if_pos q1]) (by rw [b_295_0, w1, if_pos q1]) rfl
  by_cases q1' : 1 < z1
  · exact lo_mk (v := -1) (w := -1) (z := 0) h (by rw [b_128_0 hb h4, w1, if_neg q1, if_pos q1']) (by rw [b_295_0, w1, if_neg q1, if_pos q1']) rfl
  by_cases q : 0 ≤ z2 ∧ z2 < ρ 83 49
  · rw [if_pos q] at cA
    obtain ⟨⟨g1, g2⟩, _⟩ := hG z2 q.1 q.2
    obtain ⟨op, hop⟩ : ∃ op : Nat, ρ 111 z2 = (op : Int) := ⟨(ρ 111 z2).toNat, by omega⟩
    obtain ⟨k1, k2, k3, _, _⟩ := hce z2 q.1 q.2
    have zz : ∀ a i : Int, ¬ (a = 83 ∧ (i = 0 ∨ i = 96)) → js_up (js_up ρ 83 0 0) 83 96 0 a i = ρ a i := fun a i g => by rw [js_up_ne _ (by omega), js_up_ne _ (by omega)]
    have z96 : js_up (js_up ρ 83 0 0) 83 96 0 83 96 = 0 := js_up_same _ _ _ _
    have er0 : ¬ z3 < 0 → js_J E e 295 0 [(2, 83), (0, z1), (0, z2), (0, z3), (9, 0), (9, 0)] [] ρ = js_J E e 295 43 [(2, 83), (0, z1), (0, z2), (0, z3), (0, 0), (0, 0)] [] (js_up (js_up ρ 83 0 0) 83 96 0) := fun q3 => by
      rw [b_295_0, w1, if_neg q1, if_neg q1', w2, if_neg (by omega), wC, if_pos q.2, w3, if_neg q3]
    generalize js_up (js_up ρ 83 0 0) 83 96 0 = ρ7 at zz z96 er0
    obtain ⟨F, hF, cF⟩ : ∃ F : Int, (F = 1 ∧ js_w z1 = 0 ∨ F = 58659 ∧ js_w z1 ≠ 0) ∧ js_J E d 128 27 [(2, 0), (0, z1), (0, z2), (0, z3), (2, 8 + b)] [(0, 1)] σ = js_J E d 128 65 [(2, 0), (0, z1), (0, z2), (0, z3), (2, 8 + b)] [(1, F), (0, σ (11 + b) z2), (0, σ (10 + b) z2), (0, σ (9 + b) z2), (2, 0)] σ := by
      by_cases t : z1 = 0
      · exact ⟨1, Or.inl ⟨rfl, by rw [w1]; exact t⟩, by rw [b_128_27 hb, if_neg (show ¬ js_w 1 = 0 by decide), w2, if_pos (show 0 ≤ z2 ∧ z2 < 8192 by omega), w1, if_pos t]⟩
      · exact ⟨58659, Or.inr ⟨rfl, by rw [w1]; exact t⟩, by rw [b_128_27 hb, if_neg (show ¬ js_w 1 = 0 by decide), w2, if_pos (show 0 ≤ z2 ∧ z2 < 8192 by omega), w1, if_neg t]⟩
    obtain ⟨σ', ρ', m', y4, t1, t2, t3, t4⟩ := y_text (E := E) (d := d - 1) (e := e) (σ := σ) (ρ := ρ7) (o := σ (9 + b) z2) (x2 := σ (10 + b) z2) (x3 := σ (11 + b) z2) (y1 := z1) (y2 := z2) (y3 := z3) (op := op) (F := F) (by rw [k1]; exact hop) (by omega) hF (by rw [w2]; omega) (by rw [w2, zz _ _ (by omega)]; exact k1.symm) (by rw [w2, zz _ _ (by omega)]; exact k2.symm) (by rw [w2, zz _ _ (by omega)]; exact k3.symm) z96 (by omega) (by omega)
    have cc : js_J E d 128 0 [(2, 0), (0, z1), (0, z2), (0, z3), (9, 0)] [] σ = js_J E d 128 68 [(2, 0), (0, z1), (0, z2), (0, z3), (2, 8 + b)] [] σ' := by
      rw [b_128_0 hb h4, w1, if_neg q1, if_neg q1', k_128_24 hb (by omega) cA, cF, k_128_65 (by omega) t1]
    obtain ⟨⟨u1, u2, u0⟩, u3, u4, u5⟩ := t3
    have wm : js_w m' = m' := js_w_of (by omega) (by omega)
    have g137 := hH.1.1
    have lqs : ∀ ρ9 : js_S, (∀ a i : Int, ¬ (a = 83 ∧ (i = 0 ∨ i = 96)) → a ≠ 135 → ρ9 a i = ρ a i) → LQ E (n + 1) σ' ρ9 ∧ (∀ a i : Int, 83 ≤ a → a ≤ 135 → σ' a i = σ a i) ∧ (∀ a i : Int, ¬ (83 ≤ a ∧ a ≤ 135) → ρ9 a i = ρ a i) := fun ρ9 f9 =>
      ⟨lq_mv h (by omega) (fun a i x1 x2 x3 _ => u4 a i (by omega) (by omega)) ⟨by rw [u4 _ _ (by omega) (by decide)]; exact Int.le_refl _, by rw [u4 _ _ (by omega) (by decide)]; omega⟩ ⟨by rw [u4 _ _ (by omega) (by decide)]; exact Int.le_refl _, by rw [u4 _ _ (by omega) (by decide)]; omega⟩ (fun i g => f9 _ _ (by omega) (by decide)) (fun a i x1 x2 => f9 _ _ (by omega) (by omega)), fun a i x1 x2 => u4 a i (by omega) (by omega), fun a i g => f9 a i (by omega) (by omega)⟩
    by_cases q3 : z3 < 0
    · obtain ⟨l1, l2, l3⟩ := lqs (js_up ρ 83 0 0) (fun a i g _ => js_up_ne _ (by omega))
      exact ⟨σ', js_up ρ 83 0 0, -1, -1, by rw [cc, b_128_68, w3, if_pos q3], by rw [b_295_0, w1, if_neg q1, if_neg q1', w2, if_neg (by omega), wC, if_pos q.2, w3, if_pos q3], rfl, l1, l2, l3⟩
    · obtain ⟨l1, l2, l3⟩ := lqs ρ' (fun a i g g2 => by rw [u5 a i (by omega) g2, zz a i g])
      by_cases q4 : z3 < m'
      · refine ⟨σ', ρ', σ' 82 z3, ρ' 135 z3, by rw [cc, b_128_68, w3, if_neg q3, u1, wm, if_pos q4, if_pos (show 0 ≤ z3 ∧ z3 < 64 by omega)], by rw [er0 q3, t2, b_295_241, w3, u2, wm, if_pos q4, if_pos (show 0 ≤ z3 ∧ z3 < 80 by omega)], by rw [u3 z3 (by omega) q4], l1, l2, l3⟩
      · exact ⟨σ', ρ', -1, -1, by rw [cc, b_128_68, w3, if_neg q3, u1, wm, if_neg q4], by rw [er0 q3, t2, b_295_241, w3, u2, wm, if_neg q4], rfl, l1, l2, l3⟩
  · rw [if_neg q] at cA
    refine lo_mk (v := -1) (w := -1) (z := 0) h (by rw [b_128_0 hb h4, w1, if_neg q1, if_neg q1', k_128_24 hb (by omega) cA, b_128_27 hb, if_pos (show js_w 0 = 0 from rfl)]) ?_ rfl
    rw [b_295_0, w1, if_neg q1, if_neg q1', w2]
    by_cases t : z2 < 0
    · rw [if_pos t]
    · rw [if_neg t, wC, if_neg (by omega)]
end TY
