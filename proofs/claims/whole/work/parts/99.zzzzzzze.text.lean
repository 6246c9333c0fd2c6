/-! part 99.zzzzzzze: text, by both: names, numbers -/
/-- where the name of op k begins in the reference's table; how long it is -/
def nx_P : List Nat := [0, 6, 11, 17, 22, 28, 35, 39, 43, 47, 51, 55, 59, 63, 66, 69, 72, 75, 78, 81, 85, 89, 93, 97, 102, 107, 110, 114, 119, 123, 128, 134]
def nx_N : List Nat := [5, 4, 5, 4, 5, 6, 3, 3, 3, 3, 3, 3, 3, 2, 2, 2, 2, 2, 2, 3, 3, 3, 3, 4, 4, 2, 3, 4, 3, 4, 5]
/-- sign i of the class's names; of the reference's -/
def nx_c (i : Nat) : Int := ((vt_sby.getD 3 []).getD i 0).toInt
def nx_r (i : Nat) : Int := (js_c134.getD i (0, 0)).2
def nx_ck : Bool := (List.range 31).all fun k => (nx_P.getD (k + 1) 0 == nx_P.getD k 0 + nx_N.getD k 0 + 1 && decide (nx_N.getD k 0 ≤ 6) && decide (nx_P.getD (k + 1) 0 ≤ 134) && nx_r (nx_P.getD k 0 + nx_N.getD k 0) == 32) && (List.range 6).all fun i => if i < nx_N.getD k 0 then (nx_c (6 * k + i) == nx_r (nx_P.getD k 0 + i) && decide (33 ≤ nx_c (6 * k + i)) && decide (nx_c (6 * k + i) ≤ 126)) else nx_c (6 * k + i) == 32
theorem nx_ck0 : nx_ck = true := by decide +kernel
theorem nx_1 {k : Nat} (hk : k < 31) : nx_P.getD (k + 1) 0 = nx_P.getD k 0 + nx_N.getD k 0 + 1 ∧ nx_N.getD k 0 ≤ 6 ∧ nx_P.getD (k + 1) 0 ≤ 134 ∧ nx_r (nx_P.getD k 0 + nx_N.getD k 0) = 32 ∧ ∀ i : Nat, i < 6 → (i < nx_N.getD k 0 → nx_c (6 * k + i) = nx_r (nx_P.getD k 0 + i) ∧ 33 ≤ nx_c (6 * k + i) ∧ nx_c (6 * k + i) ≤ 126) ∧ (¬ i < nx_N.getD k 0 → nx_c (6 * k + i) = 32) := by
  have h := List.all_eq_true.mp nx_ck0 k (List.mem_range.mpr hk)
  simp only [Bool.and_eq_true, beq_iff_eq, decide_eq_true_eq] at h
  obtain ⟨⟨⟨⟨h1, h2⟩, h3⟩, h4⟩, h5⟩ := h
  refine ⟨h1, h2, h3, h4, fun i hi => ⟨fun q => ?_, fun q => ?_⟩⟩
  · have g := List.all_eq_true.mp h5 i (List.mem_range.mpr hi)
    simp only [if_pos q, Bool.and_eq_true, beq_iff_eq, decide_eq_true_eq] at g
    exact ⟨g.1.1, g.1.2, g.2⟩
  · have g := List.all_eq_true.mp h5 i (List.mem_range.mpr hi)
    simp only [if_neg q, beq_iff_eq] at g
    exact g
/-- both have written m signs, the same -/
def tx_R (m : Int) (σ0 ρ0 σ ρ : js_S) : Prop := (σ 0 3 = m ∧ ρ 83 96 = m ∧ 0 ≤ m) ∧ (∀ i : Int, 0 ≤ i → i < m → σ 82 i = ρ 135 i) ∧ (∀ a i : Int, ¬ (a = 0 ∧ i = 3) → a ≠ 82 → σ a i = σ0 a i) ∧ ∀ a i : Int, ¬ (a = 83 ∧ i = 96) → a ≠ 135 → ρ a i = ρ0 a i
def pw : Nat → Int
  | 0 => 1
  | k + 1 => pw k * 10
theorem pw_in : ∀ k : Fin 16, 1 ≤ pw k ∧ pw k ≤ 1000000000000000 := by decide +kernel
theorem pw_b {k : Nat} (hk : k ≤ 15) : 1 ≤ pw k ∧ pw k ≤ 1000000000000000 := pw_in ⟨k, by omega⟩
section TX
variable {E : js_E} {d e : Nat} {σ0 ρ0 σ ρ : js_S} {m x x' : Int}
theorem tx_put (h : tx_R m σ0 ρ0 σ ρ) (hm : m < 64) (hx : js_i2b (js_i2b x) = js_i2b (js_i2b x')) : ∃ σ' ρ' : js_S, js_J E d 130 0 [(2, 0), (0, x)] [] σ = js_r0 E σ' ∧ js_J E e 296 0 [(2, 83), (0, x')] [] ρ = js_r0 E ρ' ∧ tx_R (m + 1) σ0 ρ0 σ' ρ' := by
  obtain ⟨⟨h1, h2, h0⟩, h3, h4, h5⟩ := h
  have wm : js_w m = m := js_w_of (by omega) (by omega)
  refine ⟨js_up (js_up σ 82 m (js_i2b (js_i2b x))) 0 3 (m + 1), js_up (js_up ρ 135 m (js_i2b (js_i2b x'))) 83 96 (m + 1), by rw [b_130_0, h1, wm, if_pos hm, if_pos ⟨h0, hm⟩], by rw [b_296_0, h2, wm, if_pos (show 0 ≤ m ∧ m < 80 by omega)], ⟨js_up_same _ _ _ _, js_up_same _ _ _ _, by omega⟩, fun i i1 i2 => ?_, fun a i g1 g2 => ?_, fun a i g1 g2 => ?_⟩
  · have s1 : js_up (js_up σ 82 m (js_i2b (js_i2b x))) 0 3 (m + 1) 82 i = js_up σ 82 m (js_i2b (js_i2b x)) 82 i := js_up_na _ (by decide)
    have s2 : js_up (js_up ρ 135 m (js_i2b (js_i2b x'))) 83 96 (m + 1) 135 i = js_up ρ 135 m (js_i2b (js_i2b x')) 135 i := js_up_na _ (by decide)
    rw [s1, s2]
    by_cases q : i = m
    · rw [q, js_up_same, js_up_same, hx]
    · rw [js_up_ni _ q, js_up_ni _ q]
      exact h3 i i1 (by omega)
  · rw [js_up_ne _ g1, js_up_na _ g2]
    exact h4 a i g1 g2
  · rw [js_up_ne _ g1, js_up_na _ g2]
    exact h5 a i g1 g2
theorem i2c_dig {t : Int} (h : 0 ≤ t ∧ t ≤ 9) : js_i2c (48 + t) = 48 + t := by
  have c : t = 0 ∨ t = 1 ∨ t = 2 ∨ t = 3 ∨ t = 4 ∨ t = 5 ∨ t = 6 ∨ t = 7 ∨ t = 8 ∨ t = 9 := by omega
  rcases c with rfl | rfl | rfl | rfl | rfl | rfl | rfl | rfl | rfl | rfl <;> decide +kernel
variable {x1 y1 x3 y3 a : Int}
theorem tx_pow (ha : 0 ≤ a ∧ a < 1000000000000000) (h3 : js_l x3 = a) (h3' : js_l y3 = a) : ∀ g k : Nat, g + k = 14 → ∃ K : Nat, K ≤ 14 ∧ js_J E d 131 29 [(2, 0), (1, x1), (9, 0), (1, x3), (9, 0), (1, pw k), (9, 0), (0, (k : Int))] [] σ = js_J E d 131 61 [(2, 0), (1, x1), (9, 0), (1, x3), (9, 0), (1, pw K), (9, 0), (0, (K : Int))] [] σ ∧ js_J E e 297 34 [(2, 83), (1, y1), (9, 0), (1, y3), (9, 0), (1, pw k), (9, 0)] [] ρ = js_J E e 297 56 [(2, 83), (1, y1), (9, 0), (1, y3), (9, 0), (1, pw K), (9, 0)] [] ρ := by
  intro g
  induction g with
  | zero =>
    intro k hk
    have hk : k = 14 := by omega
    subst hk
    have p14 : pw 14 = 100000000000000 := by decide +kernel
    have lp : js_l (pw 14) = 100000000000000 := by rw [p14]; decide +kernel
    have td : a.tdiv 100000000000000 = a / 100000000000000 := Int.tdiv_eq_ediv_of_nonneg ha.1
    have lq : js_l (a / 100000000000000) = a / 100000000000000 := js_l_of (by omega) (by omega)
    refine ⟨14, by omega, ?_, ?_⟩
    · rw [b_131_29, if_pos (show js_w ((14 : Nat) : Int) < 16 by decide), h3, lp, if_neg (by decide), td, lq, if_pos (by omega)]
    · rw [b_297_34, h3', lp, if_neg (by decide), td, lq, if_neg (by omega)]
  | succ g ih =>
    intro k hk
    have pb := pw_b (k := k) (by omega)
    have lp : js_l (pw k) = pw k := js_l_of (by omega) (by omega)
    have td : a.tdiv (pw k) = a / pw k := Int.tdiv_eq_ediv_of_nonneg ha.1
    have q0 : 0 ≤ a / pw k := Int.ediv_nonneg ha.1 (by omega)
    have q1 : a / pw k ≤ a := Int.ediv_le_self _ ha.1
    have lq : js_l (a / pw k) = a / pw k := js_l_of (by omega) (by omega)
    have wk : js_w (k : Int) = k := js_w_of (by omega) (by omega)
    by_cases q : a / pw k < 10
    · refine ⟨k, by omega, ?_, ?_⟩
      · rw [b_131_29, wk, if_pos (show (k : Int) < 16 by omega), h3, lp, if_neg (by omega), td, lq, if_pos q]
      · rw [b_297_34, h3', lp, if_neg (by omega), td, lq, if_neg (by omega)]
    · obtain ⟨K, hK, e1, e2⟩ := ih (k + 1) (by omega)
      refine ⟨K, hK, ?_, ?_⟩
      · rw [b_131_29, wk, if_pos (show (k : Int) < 16 by omega), h3, lp, if_neg (by omega), td, lq, if_neg q, show (k : Int) + 1 = ((k + 1 : Nat) : Int) by push_cast; rfl]
        exact e1
      · rw [b_297_34, h3', lp, if_neg (by omega), td, lq, if_pos (by omega)]
        exact e2
theorem tx_dig (ha : 0 ≤ a ∧ a < 1000000000000000) (h3 : js_l x3 = a) (h3' : js_l y3 = a) (hd : 1 ≤ d) (he : 1 ≤ e) : ∀ (k c : Nat) (m : Int) (σ ρ : js_S), k ≤ 14 → k + c ≤ 14 → tx_R m σ0 ρ0 σ ρ → m + k + 1 ≤ 64 → ∃ σ' ρ' : js_S, js_J E d 131 64 [(2, 0), (1, x1), (9, 0), (1, x3), (9, 0), (1, pw k), (9, 0), (0, (c : Int))] [] σ = js_r0 E σ' ∧ js_J E e 297 56 [(2, 83), (1, y1), (9, 0), (1, y3), (9, 0), (1, pw k), (9, 0)] [] ρ = js_r0 E ρ' ∧ tx_R (m + k + 1) σ0 ρ0 σ' ρ' := by
  intro k
  induction k with
  | zero =>
    intro c m σ ρ hk hkc h hm
    have lp : js_l (pw 0) = 1 := by decide +kernel
    have td : a.tdiv 1 = a := Int.tdiv_one _
    have lq : js_l a = a := js_l_of (by omega) (by omega)
    have tm : a.tmod 10 = a % 10 := Int.tmod_eq_emod_of_nonneg ha.1
    have wc : js_w (c : Int) = c := js_w_of (by omega) (by omega)
    have wc1 : js_w ((c : Int) + 1) = c + 1 := js_w_of (by omega) (by omega)
    obtain ⟨σ', ρ', e1, e2, h'⟩ := tx_put (E := E) (d := d - 1) (e := e - 1) (x := js_i2c (48 + a % 10)) (x' := 48 + a % 10) h (by push_cast at hm; omega) (by rw [i2c_dig (by omega)])
    refine ⟨σ', ρ', ?_, ?_, by push_cast; rw [Int.add_zero]; exact h'⟩
    · rw [b_131_64, wc, if_pos (by omega), lp, if_pos (by decide), if_neg (by decide), h3, td, lq, tm, k_131_93 hd e1, b_131_96, lp, b_131_64, wc1, if_pos (by omega), if_neg (by decide +kernel)]
    · rw [b_297_56, lp, if_pos (by decide), if_neg (by decide), h3', td, lq, tm, k_297_77 he e2, b_297_80, lp, b_297_56, if_neg (by decide +kernel)]
  | succ k ih =>
    intro c m σ ρ hk hkc h hm
    have pb := pw_b (k := k + 1) (by omega)
    have lp : js_l (pw (k + 1)) = pw (k + 1) := js_l_of (by omega) (by omega)
    have td : a.tdiv (pw (k + 1)) = a / pw (k + 1) := Int.tdiv_eq_ediv_of_nonneg ha.1
    have q0 : 0 ≤ a / pw (k + 1) := Int.ediv_nonneg ha.1 (by omega)
    have q1 : a / pw (k + 1) ≤ a := Int.ediv_le_self _ ha.1
    have lq : js_l (a / pw (k + 1)) = a / pw (k + 1) := js_l_of (by omega) (by omega)
    have tm : (a / pw (k + 1)).tmod 10 = a / pw (k + 1) % 10 := Int.tmod_eq_emod_of_nonneg q0
    have wc : js_w (c : Int) = c := js_w_of (by omega) (by omega)
    have pt : (pw (k + 1)).tdiv 10 = pw k := Int.mul_tdiv_cancel _ (by decide)
    obtain ⟨σ1, ρ1, e1, e2, h'⟩ := tx_put (E := E) (d := d - 1) (e := e - 1) (x := js_i2c (48 + a / pw (k + 1) % 10)) (x' := 48 + a / pw (k + 1) % 10) h (by push_cast at hm; omega) (by rw [i2c_dig (by omega)])
    obtain ⟨σ', ρ', e3, e4, h2⟩ := ih (c + 1) (m + 1) σ1 ρ1 (by omega) (by omega) h' (by push_cast at hm; omega)
    refine ⟨σ', ρ', ?_, ?_, ?_⟩
    · rw [b_131_64, wc, if_pos (by omega), lp, if_pos (by omega), if_neg (by omega), h3, td, lq, tm, k_131_93 hd e1, b_131_96, lp, pt, show (c : Int) + 1 = ((c + 1 : Nat) : Int) by push_cast; rfl, e3]
    · rw [b_297_56, lp, if_pos (by omega), if_neg (by omega), h3', td, lq, tm, k_297_77 he e2, b_297_80, lp, pt, e4]
    · rw [show m + ((k + 1 : Nat) : Int) + 1 = m + 1 + k + 1 by push_cast; omega]
      exact h2
theorem tx_num {v : Int} (h : tx_R m σ0 ρ0 σ ρ) (hm : m ≤ 40) (hx : js_l x = v) (hx' : js_l x' = v) (hv : -1000000000000000 < v ∧ v < 1000000000000000) (hd : 4 ≤ d) (he : 1 ≤ e) : ∃ (σ' ρ' : js_S) (m' : Int), js_J E d 131 0 [(2, 0), (1, x), (9, 0), (9, 0), (9, 0), (9, 0), (9, 0), (9, 0)] [] σ = js_r0 E σ' ∧ js_J E e 297 0 [(2, 83), (1, x'), (9, 0), (9, 0), (9, 0), (9, 0), (9, 0)] [] ρ = js_r0 E ρ' ∧ tx_R m' σ0 ρ0 σ' ρ' ∧ m ≤ m' ∧ m' ≤ m + 17 := by
  obtain ⟨σ1, ρ1, e1, f1, h1⟩ := tx_put (E := E) (d := d - 1) (e := e - 1) (x := 32) (x' := 32) h (by omega) rfl
  have go : ∀ (m2 : Int) (σ2 ρ2 : js_S), m ≤ m2 → m2 ≤ m + 2 → tx_R m2 σ0 ρ0 σ2 ρ2 → ∃ (σ' ρ' : js_S) (m' : Int), js_J E d 131 18 [(2, 0), (1, x), (9, 0), (9, 0), (9, 0), (9, 0), (9, 0), (9, 0)] [] σ2 = js_r0 E σ' ∧ js_J E e 297 18 [(2, 83), (1, x'), (9, 0), (9, 0), (9, 0), (9, 0), (9, 0)] [] ρ2 = js_r0 E ρ' ∧ tx_R m' σ0 ρ0 σ' ρ' ∧ m ≤ m' ∧ m' ≤ m + 17 := by
    intro m2 σ2 ρ2 q1 q2 h2
    obtain ⟨a, ea⟩ : ∃ a : Int, a = if v < 0 then -v else v := ⟨_, rfl⟩
    have ha : 0 ≤ a ∧ a < 1000000000000000 := by
      rw [ea]
      split <;> omega
    have l1 : js_l (if 0 < js_l x then x else -x) = a := by
      rw [hx, ea]
      by_cases q : 0 < v
      · rw [if_pos q, if_neg (by omega)]
        exact hx
      · rw [if_neg q]
        have : js_l (-x) = -v := by
          rw [js_l_mod] at hx ⊢
          omega
        rw [this]
        split <;> omega
    obtain ⟨y3, ey, l2⟩ : ∃ y3 : Int, js_J E e 297 18 [(2, 83), (1, x'), (9, 0), (9, 0), (9, 0), (9, 0), (9, 0)] [] ρ2 = js_J E e 297 34 [(2, 83), (1, x'), (9, 0), (1, y3), (9, 0), (1, 1), (9, 0)] [] ρ2 ∧ js_l y3 = a := by
      by_cases q : v < 0
      · refine ⟨-x', by rw [b_297_18, hx', if_pos q, b_297_30], ?_⟩
        rw [ea, if_pos q]
        rw [js_l_mod] at hx' ⊢
        omega
      · exact ⟨x', by rw [b_297_18, hx', if_neg q, b_297_30], by rw [ea, if_neg q]; exact hx'⟩
    obtain ⟨K, hK, p1, p2⟩ := tx_pow (E := E) (d := d) (e := e) (σ := σ2) (ρ := ρ2) (x1 := x) (y1 := x') ha l1 l2 14 0 rfl
    obtain ⟨σ', ρ', g1, g2, h3⟩ := tx_dig (E := E) (d := d) (e := e) (σ0 := σ0) (ρ0 := ρ0) (x1 := x) (y1 := x') ha l1 l2 (by omega) he K 0 m2 σ2 ρ2 hK (by omega) h2 (by omega)
    refine ⟨σ', ρ', m2 + K + 1, ?_, ?_, h3, by omega, by omega⟩
    · rw [b_131_18 hd]
      exact p1.trans (b_131_61.trans g1)
    · rw [ey]
      exact p2.trans g2
  have c0 : js_J E d 131 0 [(2, 0), (1, x), (9, 0), (9, 0), (9, 0), (9, 0), (9, 0), (9, 0)] [] σ = js_J E d 131 6 [(2, 0), (1, x), (9, 0), (9, 0), (9, 0), (9, 0), (9, 0), (9, 0)] [] σ1 := by rw [b_131_0, k_131_3 (by omega) e1]
  have r0 : js_J E e 297 0 [(2, 83), (1, x'), (9, 0), (9, 0), (9, 0), (9, 0), (9, 0)] [] ρ = js_J E e 297 6 [(2, 83), (1, x'), (9, 0), (9, 0), (9, 0), (9, 0), (9, 0)] [] ρ1 := by rw [b_297_0, k_297_3 he f1]
  rw [c0, r0, b_131_6, b_297_6, hx, hx']
  by_cases q : v < 0
  · obtain ⟨σ2, ρ2, e2, f2, h2⟩ := tx_put (E := E) (d := d - 1) (e := e - 1) (x := 45) (x' := 45) h1 (by omega) rfl
    rw [if_pos q, if_pos q, k_131_15 (by omega) e2, k_297_15 he f2]
    exact go _ _ _ (by omega) (by omega) h2
  · rw [if_neg q, if_neg q]
    exact go _ _ _ (by omega) (by omega) h1
end TX
