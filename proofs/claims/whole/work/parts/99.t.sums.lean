/-! part 99.t: ranges of + - * / % in class and reference -/
def rk_f (op x y : Int) : Int := if op = 6 then x + y else if op = 7 then x - y else if op = 8 then x * y else if y = 0 then 0 else x.tdiv y
def rk_a (x : Int) : Int := if 0 < x then x else -x
def rk_m (c d : Int) : Int := max (rk_a c) (rk_a d) - 1
def rk_lo (op a b c d : Int) : Int := if op = 10 then (if a < 0 then max a (-(rk_m c d)) else 0) else min (min (rk_f op a c) (rk_f op a d)) (min (rk_f op b c) (rk_f op b d))
def rk_hi (op a b c d : Int) : Int := if op = 10 then (if 0 < b then min b (rk_m c d) else 0) else max (max (rk_f op a c) (rk_f op a d)) (max (rk_f op b c) (rk_f op b d))
/-- the fault of it -/
def rk_x (op a b c d : Int) : Int := if 8 < op ∧ c ≤ 0 ∧ 0 ≤ d then 7 else if rk_lo op a b c d < -2000000000 ∨ 2000000000 < rk_hi op a b c d then 8 else 0
theorem rk_f_in {op x y : Int} (h1 : -2000000000 ≤ x) (h2 : x ≤ 2000000000) (h3 : -2000000000 ≤ y) (h4 : y ≤ 2000000000) : -5000000000000000000 ≤ rk_f op x y ∧ rk_f op x y ≤ 5000000000000000000 := by
  have nx : x.natAbs ≤ 2000000000 := by omega
  have ny : y.natAbs ≤ 2000000000 := by omega
  unfold rk_f
  split
  · omega
  · split
    · omega
    · split
      · have h := Nat.mul_le_mul nx ny
        rw [← Int.natAbs_mul] at h
        omega
      · split
        · omega
        · have h : (x.tdiv y).natAbs ≤ x.natAbs := by
            rw [Int.natAbs_tdiv]
            exact Nat.div_le_self _ _
          omega
theorem l_min {a b : Int} (h1 : -5000000000000000000 ≤ a) (h2 : a ≤ 5000000000000000000) (h3 : -5000000000000000000 ≤ b) (h4 : b ≤ 5000000000000000000) : (if js_l a < js_l b then a else b) = min a b := by
  rw [js_l_of (x := a) (by omega) (by omega), js_l_of (x := b) (by omega) (by omega)]
  split <;> omega
theorem l_max {a b : Int} (h1 : -5000000000000000000 ≤ a) (h2 : a ≤ 5000000000000000000) (h3 : -5000000000000000000 ≤ b) (h4 : b ≤ 5000000000000000000) : (if js_l a < js_l b then b else a) = max a b := by
  rw [js_l_of (x := a) (by omega) (by omega), js_l_of (x := b) (by omega) (by omega)]
  split <;> omega
theorem l_min4 {a b c d : Int} (h1 : -5000000000000000000 ≤ a ∧ a ≤ 5000000000000000000) (h2 : -5000000000000000000 ≤ b ∧ b ≤ 5000000000000000000) (h3 : -5000000000000000000 ≤ c ∧ c ≤ 5000000000000000000) (h4 : -5000000000000000000 ≤ d ∧ d ≤ 5000000000000000000) : (if js_l (if js_l a < js_l b then a else b) < js_l (if js_l c < js_l d then c else d) then (if js_l a < js_l b then a else b) else (if js_l c < js_l d then c else d)) = min (min a b) (min c d) := by
  rw [l_min h1.1 h1.2 h2.1 h2.2, l_min h3.1 h3.2 h4.1 h4.2, l_min (by omega) (by omega) (by omega) (by omega)]
theorem l_max4 {a b c d : Int} (h1 : -5000000000000000000 ≤ a ∧ a ≤ 5000000000000000000) (h2 : -5000000000000000000 ≤ b ∧ b ≤ 5000000000000000000) (h3 : -5000000000000000000 ≤ c ∧ c ≤ 5000000000000000000) (h4 : -5000000000000000000 ≤ d ∧ d ≤ 5000000000000000000) : (if js_l (if js_l a < js_l b then b else a) < js_l (if js_l c < js_l d then d else c) then (if js_l c < js_l d then d else c) else (if js_l a < js_l b then b else a)) = max (max a b) (max c d) := by
  rw [l_max h1.1 h1.2 h2.1 h2.2, l_max h3.1 h3.2 h4.1 h4.2, l_max (by omega) (by omega) (by omega) (by omega)]
theorem l_abs {a : Int} (h1 : -5000000000000000000 ≤ a) (h2 : a ≤ 5000000000000000000) : (if 0 < js_l a then a else -a) = rk_a a := by
  rw [js_l_of (x := a) (by omega) (by omega)]
  rfl
theorem rk_a_in (a : Int) : 0 ≤ rk_a a ∧ (rk_a a = a ∨ rk_a a = -a) := by
  unfold rk_a
  split <;> omega
theorem l_rest {c d : Int} (h1 : -2000000000 ≤ c) (h2 : c ≤ 2000000000) (h3 : -2000000000 ≤ d) (h4 : d ≤ 2000000000) : (if js_l (if 0 < js_l d then d else -d) < js_l (if 0 < js_l c then c else -c) then (if 0 < js_l c then c else -c) else (if 0 < js_l d then d else -d)) - 1 = rk_m c d := by
  have ha := rk_a_in c
  have hd := rk_a_in d
  rw [l_abs (a := d) (by omega) (by omega), l_abs (a := c) (by omega) (by omega), l_max (by omega) (by omega) (by omega) (by omega)]
  unfold rk_m
  omega
theorem rx_bad_new {τ : js_S} {k p : Int} (h9 : τ 83 9 = 0) (hk : 1 ≤ k) (hk2 : k ≤ 15) (hp : 0 ≤ p) (hp2 : p < 100000) : rx_F (rx_bad τ k p) ∧ rx_bad τ k p 83 9 = k + 16 * p := by
  have e9 : rx_bad τ k p 83 9 = k + 16 * p := by
    unfold rx_bad
    rw [if_pos h9, js_up_ni _ (by decide), js_up_same]
  have e5 : rx_bad τ k p 83 5 = 0 := js_up_same _ _ _ _
  exact ⟨⟨by rw [e9]; omega, by rw [e9]; omega, e5⟩, e9⟩
section RK
variable {E : js_E} {d e : Nat} {σ ρ : js_S} {b : Int}
theorem c_result {t x y : Int} (ht : t = 43 ∨ t = 45 ∨ t = 42 ∨ t = 47 ∨ t = 37) (h1 : -2000000000 ≤ x) (h2 : x ≤ 2000000000) (h3 : -2000000000 ≤ y) (h4 : y ≤ 2000000000) : js_J E d 90 0 [(0, t), (1, x), (9, 0), (1, y), (9, 0)] [] σ = js_r E (1, rk_f (op_t t) x y) σ := by
  rw [b_90_0]
  have ex := js_l_of (x := x) (by omega) (by omega)
  have ey := js_l_of (x := y) (by omega) (by omega)
  have fin : js_J E d 90 44 [(0, t), (1, x), (9, 0), (1, y), (9, 0)] [] σ = js_r E (1, if y = 0 then 0 else x.tdiv y) σ := by
    rw [b_90_44, ey, ex]
    by_cases q : y = 0
    · rw [if_pos q, if_pos q]
    · rw [if_neg q, if_neg q, if_neg q]
  rcases ht with rfl | rfl | rfl | rfl | rfl
  · rw [s_90_1_43 (by decide), b_90_32]; rfl
  · rw [s_90_1_45 (by decide), b_90_36]; rfl
  · rw [s_90_1_42 (by decide), b_90_40]; rfl
  · rw [s_90_1_d (by decide), fin]; rfl
  · rw [s_90_1_d (by decide), fin]; rfl
/-- the class: the range of a sum or product, or its fault -/
theorem c_finishSum (hb : b = 0 ∨ b = 25) (hn : cx_n σ) (hd : 7 ≤ d) {t fl fh : Int} (ht : t = 43 ∨ t = 45 ∨ t = 42 ∨ t = 47 ∨ t = 37) (f1 : -2000000000 ≤ fl) (f2 : fl ≤ 2000000000) (f3 : -2000000000 ≤ fh) (f4 : fh ≤ 2000000000) (g1 : -2000000000 ≤ σ (23 + b) 1) (g2 : σ (23 + b) 1 ≤ 2000000000) (g3 : -2000000000 ≤ σ (23 + b) 2) (g4 : σ (23 + b) 2 ≤ 2000000000) (p0 : 0 ≤ σ (23 + b) 15) (p1 : σ (23 + b) 15 < 512) : js_J E d 89 0 [(2, 23 + b), (0, t), (1, fl), (9, 0), (1, fh), (9, 0), (9, 0), (9, 0), (9, 0), (9, 0), (9, 0), (9, 0), (9, 0), (9, 0), (9, 0), (9, 0), (9, 0), (9, 0), (9, 0), (9, 0)] [] σ = if rk_x (op_t t) fl fh (σ (23 + b) 1) (σ (23 + b) 2) = 0 then js_r0 E (js_up (js_up σ (23 + b) 1 (rk_lo (op_t t) fl fh (σ (23 + b) 1) (σ (23 + b) 2))) (23 + b) 2 (rk_hi (op_t t) fl fh (σ (23 + b) 1) (σ (23 + b) 2))) else th_P E σ (rk_x (op_t t) fl fh (σ (23 + b) 1) (σ (23 + b) 2) + 16 * σ (26 + b) (σ (23 + b) 15)) := by
  have wp := js_w_of (x := σ (23 + b) 15) (by omega) (by omega)
  have w1 := js_w_of (x := σ (23 + b) 1) (by omega) (by omega)
  have w2 := js_w_of (x := σ (23 + b) 2) (by omega) (by omega)
  have wt : js_w t = t := js_w_of (by omega) (by omega)
  have lx := js_l_of (x := fl) (by omega) (by omega)
  have ly := js_l_of (x := fh) (by omega) (by omega)
  have ra := rk_a_in (σ (23 + b) 1)
  have rb := rk_a_in (σ (23 + b) 2)
  have hop : 8 < op_t t ↔ (t = 47 ∨ t = 37) := by
    rcases ht with rfl | rfl | rfl | rfl | rfl <;> decide
  have hop10 : op_t t = 10 ↔ t = 37 := by
    rcases ht with rfl | rfl | rfl | rfl | rfl <;> decide
  -- behind the ranges
  have fin : ∀ (x6 x8 x10 x12 lo hi : Int) (u : js_v), lo = rk_lo (op_t t) fl fh (σ (23 + b) 1) (σ (23 + b) 2) → hi = rk_hi (op_t t) fl fh (σ (23 + b) 1) (σ (23 + b) 2) → ¬ (8 < op_t t ∧ σ (23 + b) 1 ≤ 0 ∧ 0 ≤ σ (23 + b) 2) → -5000000000000000000 ≤ lo → lo ≤ 5000000000000000000 → -5000000000000000000 ≤ hi → hi ≤ 5000000000000000000 → js_J E d 89 200 [(2, 23 + b), (0, t), (1, fl), (9, 0), (1, fh), (9, 0), (1, x6), (9, 0), (1, x8), (9, 0), (1, x10), (9, 0), (1, x12), (9, 0), (1, lo), (9, 0), (1, hi), (9, 0), u, (9, 0)] [] σ = if rk_x (op_t t) fl fh (σ (23 + b) 1) (σ (23 + b) 2) = 0 then js_r0 E (js_up (js_up σ (23 + b) 1 (rk_lo (op_t t) fl fh (σ (23 + b) 1) (σ (23 + b) 2))) (23 + b) 2 (rk_hi (op_t t) fl fh (σ (23 + b) 1) (σ (23 + b) 2))) else th_P E σ (rk_x (op_t t) fl fh (σ (23 + b) 1) (σ (23 + b) 2) + 16 * σ (26 + b) (σ (23 + b) 15)) := by
    intro x6 x8 x10 x12 lo hi u elo ehi hz l1 l2 l3 l4
    rw [b_89_200, js_l_of (x := lo) (by omega) (by omega), js_l_of (x := hi) (by omega) (by omega)]
    unfold rk_x
    rw [if_neg hz, ← elo, ← ehi]
    by_cases q : lo < -2000000000 ∨ 2000000000 < hi
    · rw [if_pos q, if_neg (show ¬ (8 : Int) = 0 by decide)]
      have e1 : js_J E d 89 218 [(2, 23 + b), (0, t), (1, fl), (9, 0), (1, fh), (9, 0), (1, x6), (9, 0), (1, x8), (9, 0), (1, x10), (9, 0), (1, x12), (9, 0), (1, lo), (9, 0), (1, hi), (9, 0), u, (9, 0)] [] σ = th_P E σ (8 + 16 * σ (26 + b) (σ (23 + b) 15)) := by
        rw [b_89_218 hb, wp, if_pos ⟨p0, p1⟩, kt_89_233 (by omega) (c_fail hn (by omega))]
        rfl
      by_cases q1 : lo < -2000000000
      · rw [if_pos q1, e1]
      · rw [if_neg q1, if_pos (show 2000000000 < hi by omega), e1]
    · rw [if_neg q, if_pos (show (0 : Int) = 0 from rfl), if_neg (show ¬ lo < -2000000000 by omega), if_neg (show ¬ 2000000000 < hi by omega), b_89_236 hb]
  -- from 44 on
  have go : ¬ (8 < op_t t ∧ σ (23 + b) 1 ≤ 0 ∧ 0 ≤ σ (23 + b) 2) → js_J E d 89 44 [(2, 23 + b), (0, t), (1, fl), (9, 0), (1, fh), (9, 0), (9, 0), (9, 0), (9, 0), (9, 0), (9, 0), (9, 0), (9, 0), (9, 0), (9, 0), (9, 0), (9, 0), (9, 0), (9, 0), (9, 0)] [] σ = if rk_x (op_t t) fl fh (σ (23 + b) 1) (σ (23 + b) 2) = 0 then js_r0 E (js_up (js_up σ (23 + b) 1 (rk_lo (op_t t) fl fh (σ (23 + b) 1) (σ (23 + b) 2))) (23 + b) 2 (rk_hi (op_t t) fl fh (σ (23 + b) 1) (σ (23 + b) 2))) else th_P E σ (rk_x (op_t t) fl fh (σ (23 + b) 1) (σ (23 + b) 2) + 16 * σ (26 + b) (σ (23 + b) 15)) := by
    intro hz
    have i1 := rk_f_in (op := op_t t) f1 f2 g1 g2
    have i2 := rk_f_in (op := op_t t) f1 f2 g3 g4
    have i3 := rk_f_in (op := op_t t) f3 f4 g1 g2
    have i4 := rk_f_in (op := op_t t) f3 f4 g3 g4
    rw [b_89_44 hb, w1, k_89_51 (by omega) (c_result ht f1 f2 g1 g2), b_89_54 hb, w2, k_89_63 (by omega) (c_result ht f1 f2 g3 g4), b_89_66 hb, w1, k_89_76 (by omega) (c_result ht f3 f4 g1 g2), b_89_79 hb, w2, k_89_89 (by omega) (c_result ht f3 f4 g3 g4), b_89_92 (by omega) hb, wt, w1, w2, l_rest g1 g2 g3 g4, lx]
    by_cases q : t = 37
    · have o10 := hop10.mpr q
      have rm : rk_m (σ (23 + b) 1) (σ (23 + b) 2) = max (rk_a (σ (23 + b) 1)) (rk_a (σ (23 + b) 2)) - 1 := rfl
      have m1 := js_l_of (x := -rk_m (σ (23 + b) 1) (σ (23 + b) 2)) (by omega) (by omega)
      have m2 := js_l_of (x := rk_m (σ (23 + b) 1) (σ (23 + b) 2)) (by omega) (by omega)
      have hlo : rk_lo (op_t t) fl fh (σ (23 + b) 1) (σ (23 + b) 2) = if fl < 0 then max fl (-(rk_m (σ (23 + b) 1) (σ (23 + b) 2))) else 0 := by
        unfold rk_lo
        rw [if_pos o10]
      have hhi : rk_hi (op_t t) fl fh (σ (23 + b) 1) (σ (23 + b) 2) = if 0 < fh then min fh (rk_m (σ (23 + b) 1) (σ (23 + b) 2)) else 0 := by
        unfold rk_hi
        rw [if_pos o10]
      rw [if_pos q]
      have end178 : ∀ (x6 x8 x10 x12 x14 x16 z : Int), z = rk_lo (op_t t) fl fh (σ (23 + b) 1) (σ (23 + b) 2) → js_J E d 89 178 [(2, 23 + b), (0, t), (1, fl), (9, 0), (1, fh), (9, 0), (1, x6), (9, 0), (1, x8), (9, 0), (1, x10), (9, 0), (1, x12), (9, 0), (1, x14), (9, 0), (1, x16), (9, 0), (1, rk_m (σ (23 + b) 1) (σ (23 + b) 2)), (9, 0)] [(1, z)] σ = if rk_x (op_t t) fl fh (σ (23 + b) 1) (σ (23 + b) 2) = 0 then js_r0 E (js_up (js_up σ (23 + b) 1 (rk_lo (op_t t) fl fh (σ (23 + b) 1) (σ (23 + b) 2))) (23 + b) 2 (rk_hi (op_t t) fl fh (σ (23 + b) 1) (σ (23 + b) 2))) else th_P E σ (rk_x (op_t t) fl fh (σ (23 + b) 1) (σ (23 + b) 2) + 16 * σ (26 + b) (σ (23 + b) 15)) := by
        intro x6 x8 x10 x12 x14 x16 z ez
        have zin : -5000000000000000000 ≤ z ∧ z ≤ 5000000000000000000 := by
          rw [ez, hlo]
          split <;> omega
        rw [b_89_178 (by omega), ly, m2]
        by_cases q2 : 0 < fh
        · rw [if_pos q2] at hhi
          have e : (if fh < rk_m (σ (23 + b) 1) (σ (23 + b) 2) then fh else rk_m (σ (23 + b) 1) (σ (23 + b) 2)) = min fh (rk_m (σ (23 + b) 1) (σ (23 + b) 2)) := by split <;> omega
          rw [if_pos q2, b_89_198, e]
          exact fin _ _ _ _ _ _ _ ez hhi.symm hz zin.1 zin.2 (by omega) (by omega)
        · rw [if_neg q2] at hhi
          rw [if_neg q2, b_89_198]
          exact fin _ _ _ _ _ _ _ ez hhi.symm hz zin.1 zin.2 (by omega) (by omega)
      by_cases q2 : fl < 0
      · rw [if_pos q2] at hlo
        have e : (if fl < js_l (-rk_m (σ (23 + b) 1) (σ (23 + b) 2)) then -rk_m (σ (23 + b) 1) (σ (23 + b) 2) else fl) = max fl (-rk_m (σ (23 + b) 1) (σ (23 + b) 2)) := by
          rw [m1]
          split <;> omega
        rw [if_pos q2, e]
        exact end178 _ _ _ _ _ _ _ hlo.symm
      · rw [if_neg q2] at hlo
        rw [if_neg q2]
        exact end178 _ _ _ _ _ _ _ hlo.symm
    · have o10 : ¬ op_t t = 10 := fun hh => q (hop10.mp hh)
      have hlo : rk_lo (op_t t) fl fh (σ (23 + b) 1) (σ (23 + b) 2) = min (min (rk_f (op_t t) fh (σ (23 + b) 2)) (rk_f (op_t t) fh (σ (23 + b) 1))) (min (rk_f (op_t t) fl (σ (23 + b) 2)) (rk_f (op_t t) fl (σ (23 + b) 1))) := by
        unfold rk_lo
        rw [if_neg o10]
        omega
      have hhi : rk_hi (op_t t) fl fh (σ (23 + b) 1) (σ (23 + b) 2) = max (max (rk_f (op_t t) fh (σ (23 + b) 2)) (rk_f (op_t t) fh (σ (23 + b) 1))) (max (rk_f (op_t t) fl (σ (23 + b) 2)) (rk_f (op_t t) fl (σ (23 + b) 1))) := by
        unfold rk_hi
        rw [if_neg o10]
        omega
      rw [if_neg q, l_min4 i4 i3 i2 i1, l_max4 i4 i3 i2 i1]
      exact fin _ _ _ _ _ _ _ hlo.symm hhi.symm hz (by omega) (by omega) (by omega) (by omega)
  rw [b_89_0, wt]
  by_cases q : t = 47 ∨ t = 37
  · have e12 : js_J E d 89 12 [(2, 23 + b), (0, t), (1, fl), (9, 0), (1, fh), (9, 0), (9, 0), (9, 0), (9, 0), (9, 0), (9, 0), (9, 0), (9, 0), (9, 0), (9, 0), (9, 0), (9, 0), (9, 0), (9, 0), (9, 0)] [] σ = if rk_x (op_t t) fl fh (σ (23 + b) 1) (σ (23 + b) 2) = 0 then js_r0 E (js_up (js_up σ (23 + b) 1 (rk_lo (op_t t) fl fh (σ (23 + b) 1) (σ (23 + b) 2))) (23 + b) 2 (rk_hi (op_t t) fl fh (σ (23 + b) 1) (σ (23 + b) 2))) else th_P E σ (rk_x (op_t t) fl fh (σ (23 + b) 1) (σ (23 + b) 2) + 16 * σ (26 + b) (σ (23 + b) 15)) := by
      rw [b_89_12 hb, w1, w2]
      by_cases q1 : 0 < σ (23 + b) 1
      · rw [if_pos q1]
        exact go (fun hh => by omega)
      · rw [if_neg q1]
        by_cases q2 : σ (23 + b) 2 < 0
        · rw [if_pos q2]
          exact go (fun hh => by omega)
        · have ex : rk_x (op_t t) fl fh (σ (23 + b) 1) (σ (23 + b) 2) = 7 := by
            unfold rk_x
            rw [if_pos ⟨hop.mpr q, by omega, by omega⟩]
          rw [if_neg q2, wp, if_pos ⟨p0, p1⟩, ex, if_neg (show ¬ (7 : Int) = 0 by decide), kt_89_41 (by omega) (c_fail hn (by omega))]
          rfl
    by_cases q1 : t = 47
    · rw [if_pos q1, e12]
    · rw [if_neg q1, if_pos (show t = 37 by omega), e12]
  · rw [if_neg (show ¬ t = 47 by omega), if_neg (show ¬ t = 37 by omega)]
    exact go (fun hh => q (hop.mp hh.1))
/-- the reference: the same -/
theorem r_reckoned (h9 : ρ 83 9 = 0) (he : 5 ≤ e) (n0 : 0 ≤ ρ 83 33) (n1 : ρ 83 33 < 66000) {op l r p : Int} (hop : 6 ≤ op) (hop2 : op ≤ 10) (hp0 : 0 ≤ p) (hp1 : p < 100000) (l0 : 0 ≤ l) (l1 : l < 66000) (r0 : 0 ≤ r) (r1 : r < 66000) (tl : 0 ≤ ρ 101 l ∧ ρ 101 l < 1000) (tr : 0 ≤ ρ 101 r ∧ ρ 101 r < 1000) (f1 : -2000000000 ≤ ρ 105 l) (f2 : ρ 105 l ≤ 2000000000) (f3 : -2000000000 ≤ ρ 106 l) (f4 : ρ 106 l ≤ 2000000000) (g1 : -2000000000 ≤ ρ 105 r) (g2 : ρ 105 r ≤ 2000000000) (g3 : -2000000000 ≤ ρ 106 r) (g4 : ρ 106 r ≤ 2000000000) (gg : ρ 105 r ≤ ρ 106 r) : ∃ (v : Int) (ρ' : js_S), js_J E e 234 0 [(2, 83), (0, op), (0, l), (0, r), (0, p), (9, 0), (9, 0), (9, 0), (9, 0), (9, 0), (9, 0), (9, 0), (9, 0), (9, 0), (9, 0)] [] ρ = js_r E (0, v) ρ' ∧ (if ρ 101 l = 0 ∧ ρ 101 r = 0 then (if rk_x op (ρ 105 l) (ρ 106 l) (ρ 105 r) (ρ 106 r) = 0 then v = ρ 83 33 ∧ ∃ ρ1 : js_S, (∀ a i : Int, ¬ (a = 83 ∧ (i = 42 ∨ i = 43)) → ρ1 a i = ρ a i) ∧ nw_R ρ1 ρ' 4 0 (rk_lo op (ρ 105 l) (ρ 106 l) (ρ 105 r) (ρ 106 r)) (rk_hi op (ρ 105 l) (ρ 106 l) (ρ 105 r) (ρ 106 r)) l r op else ∃ ρ1 : js_S, (∀ a i : Int, ¬ (a = 83 ∧ (i = 42 ∨ i = 43)) → ρ1 a i = ρ a i) ∧ ρ' = rx_bad ρ1 (rk_x op (ρ 105 l) (ρ 106 l) (ρ 105 r) (ρ 106 r)) p) else ρ' = rx_bad ρ 5 p) := by
  have wl := js_w_of (x := l) (by omega) (by omega)
  have wr := js_w_of (x := r) (by omega) (by omega)
  have wtl := js_w_of (x := ρ 101 l) (by omega) (by omega)
  have wtr := js_w_of (x := ρ 101 r) (by omega) (by omega)
  have wo := js_w_of (x := op) (by omega) (by omega)
  have v1 := js_w_of (x := ρ 105 l) (by omega) (by omega)
  have v2 := js_w_of (x := ρ 106 l) (by omega) (by omega)
  have v3 := js_w_of (x := ρ 105 r) (by omega) (by omega)
  have v4 := js_w_of (x := ρ 106 r) (by omega) (by omega)
  have la := js_l_of (x := ρ 105 l) (by omega) (by omega)
  have lb := js_l_of (x := ρ 106 l) (by omega) (by omega)
  have lc := js_l_of (x := ρ 105 r) (by omega) (by omega)
  have ld := js_l_of (x := ρ 106 r) (by omega) (by omega)
  have bad5 : ∃ (v : Int) (ρ' : js_S), js_J E e 234 27 [(2, 83), (0, op), (0, l), (0, r), (0, p), (9, 0), (9, 0), (9, 0), (9, 0), (9, 0), (9, 0), (9, 0), (9, 0), (9, 0), (9, 0)] [] ρ = js_r E (0, v) ρ' ∧ ρ' = rx_bad ρ 5 p := by
    refine ⟨0, _, ?_, rfl⟩
    rw [b_234_27, k_234_31 (by omega) (r_bad (by omega) (by omega)), b_234_34]
  rw [b_234_0, h9, if_neg (show ¬ 0 < js_w 0 by decide), wl, wr, wo, if_pos ⟨l0, l1⟩, wtl, wtr, v1, v2, v3, v4]
  by_cases ql : ρ 101 l = 0
  · by_cases qr : ρ 101 r = 0
    · rw [if_pos ql, if_pos ⟨r0, r1⟩, if_pos qr]
      simp only [if_pos (show ρ 101 l = 0 ∧ ρ 101 r = 0 from ⟨ql, qr⟩)]
      generalize ea : ρ 105 l = a at f1 f2 la v1 ⊢
      generalize eb : ρ 106 l = bb at f3 f4 lb v2 ⊢
      generalize ec : ρ 105 r = c at g1 g2 lc v3 gg ⊢
      generalize ed : ρ 106 r = dd at g3 g4 ld v4 gg ⊢
      rw [lc, ld]
      have i1 := rk_f_in (op := op) f1 f2 g1 g2
      have i2 := rk_f_in (op := op) f1 f2 g3 g4
      have i3 := rk_f_in (op := op) f3 f4 g1 g2
      have i4 := rk_f_in (op := op) f3 f4 g3 g4
      have ra := rk_a_in c
      have rb := rk_a_in dd
      -- behind the ranges
      have fin : ∀ (τ : js_S) (u : js_v), (∀ x i : Int, ¬ (x = 83 ∧ (i = 42 ∨ i = 43)) → τ x i = ρ x i) → τ 83 42 = rk_lo op a bb c dd → τ 83 43 = rk_hi op a bb c dd → ¬ (8 < op ∧ c ≤ 0 ∧ 0 ≤ dd) → -5000000000000000000 ≤ rk_lo op a bb c dd → rk_lo op a bb c dd ≤ 5000000000000000000 → -5000000000000000000 ≤ rk_hi op a bb c dd → rk_hi op a bb c dd ≤ 5000000000000000000 → ∃ (v : Int) (ρ' : js_S), js_J E e 234 297 [(2, 83), (0, op), (0, l), (0, r), (0, p), (1, a), (9, 0), (1, bb), (9, 0), (1, c), (9, 0), (1, dd), (9, 0), u, (9, 0)] [] τ = js_r E (0, v) ρ' ∧ (if rk_x op a bb c dd = 0 then v = ρ 83 33 ∧ ∃ ρ1 : js_S, (∀ x i : Int, ¬ (x = 83 ∧ (i = 42 ∨ i = 43)) → ρ1 x i = ρ x i) ∧ nw_R ρ1 ρ' 4 0 (rk_lo op a bb c dd) (rk_hi op a bb c dd) l r op else ∃ ρ1 : js_S, (∀ x i : Int, ¬ (x = 83 ∧ (i = 42 ∨ i = 43)) → ρ1 x i = ρ x i) ∧ ρ' = rx_bad ρ1 (rk_x op a bb c dd) p) := by
        intro τ u hτ e42 e43 hz l1 l2 l3 l4
        have t9 : τ 83 9 = 0 := by rw [hτ _ _ (by omega)]; exact h9
        have t33 : τ 83 33 = ρ 83 33 := hτ _ _ (by omega)
        rw [b_234_297, e42, e43, js_l_of (x := rk_lo op a bb c dd) (by omega) (by omega), js_l_of (x := rk_hi op a bb c dd) (by omega) (by omega)]
        unfold rk_x
        rw [if_neg hz]
        by_cases q : rk_lo op a bb c dd < -2000000000 ∨ 2000000000 < rk_hi op a bb c dd
        · rw [if_pos q]
          simp only [if_neg (show ¬ (8 : Int) = 0 by decide)]
          have hF := (rx_bad_new (k := 8) t9 (by decide) (by decide) hp0 hp1).1
          have nF : js_J E (e - 1) 217 0 [(2, 83), (0, 4), (0, 0), (1, rx_bad τ 8 p 83 42), (9, 0), (1, rx_bad τ 8 p 83 43), (9, 0), (0, l), (0, r), (0, op), (9, 0)] [] (rx_bad τ 8 p) = js_r E (0, 0) (rx_bad τ 8 p) := r_nodeF hF
          have e1 : js_J E e 234 319 [(2, 83), (0, op), (0, l), (0, r), (0, p), (1, a), (9, 0), (1, bb), (9, 0), (1, c), (9, 0), (1, dd), (9, 0), u, (9, 0)] [] τ = js_r E (0, 0) (rx_bad τ 8 p) := by
            rw [b_234_319, k_234_324 (by omega) (r_bad (by omega) (by omega)), b_234_327, k_234_341 (by omega) nF, b_234_344]
          by_cases q1 : rk_lo op a bb c dd < -2000000000
          · rw [if_pos q1]
            exact ⟨_, _, e1, τ, hτ, rfl⟩
          · rw [if_neg q1, if_pos (show 2000000000 < rk_hi op a bb c dd by omega)]
            exact ⟨_, _, e1, τ, hτ, rfl⟩
        · rw [if_neg q]
          simp only [if_pos (show (0 : Int) = 0 from rfl)]
          rw [if_neg (show ¬ rk_lo op a bb c dd < -2000000000 by omega), if_neg (show ¬ 2000000000 < rk_hi op a bb c dd by omega), b_234_327, e42, e43]
          obtain ⟨ρ', e2, hw⟩ := r_node (E := E) (e := e - 1) (ρ := τ) (k := 4) (ty := 0) (lo := rk_lo op a bb c dd) (hi := rk_hi op a bb c dd) (a := l) (b := r) (c := op) t9 (by omega) (by omega) (by decide) (by decide)
          exact ⟨_, ρ', by rw [k_234_341 (by omega) e2, b_234_344], t33, τ, hτ, hw⟩
      -- from 102 on
      have go : ¬ (8 < op ∧ c ≤ 0 ∧ 0 ≤ dd) → ∃ (v : Int) (ρ' : js_S), js_J E e 234 102 [(2, 83), (0, op), (0, l), (0, r), (0, p), (1, a), (9, 0), (1, bb), (9, 0), (1, c), (9, 0), (1, dd), (9, 0), (9, 0), (9, 0)] [] ρ = js_r E (0, v) ρ' ∧ (if rk_x op a bb c dd = 0 then v = ρ 83 33 ∧ ∃ ρ1 : js_S, (∀ x i : Int, ¬ (x = 83 ∧ (i = 42 ∨ i = 43)) → ρ1 x i = ρ x i) ∧ nw_R ρ1 ρ' 4 0 (rk_lo op a bb c dd) (rk_hi op a bb c dd) l r op else ∃ ρ1 : js_S, (∀ x i : Int, ¬ (x = 83 ∧ (i = 42 ∨ i = 43)) → ρ1 x i = ρ x i) ∧ ρ' = rx_bad ρ1 (rk_x op a bb c dd) p) := by
        intro hz
        have oth : ∀ (y z : Int) (x i : Int), ¬ (x = 83 ∧ (i = 42 ∨ i = 43)) → js_up (js_up ρ 83 42 y) 83 43 z x i = ρ x i := fun y z x i h => by rw [js_up_ne _ (by omega), js_up_ne _ (by omega)]
        have s42 : ∀ y z : Int, js_up (js_up ρ 83 42 y) 83 43 z 83 42 = y := fun y z => by rw [js_up_ni _ (by decide), js_up_same]
        have s43 : ∀ y z : Int, js_up (js_up ρ 83 42 y) 83 43 z 83 43 = z := fun y z => js_up_same _ _ _ _
        have four : ∀ w1 w2 w3 w4 : Int, w1 = rk_f op a c → w2 = rk_f op bb dd → w3 = rk_f op a dd → w4 = rk_f op bb c → op ≠ 10 → (-5000000000000000000 ≤ w1 ∧ w1 ≤ 5000000000000000000) ∧ min (min w4 w3) (min w2 w1) = rk_lo op a bb c dd ∧ max (max w4 w3) (max w2 w1) = rk_hi op a bb c dd := by
          intro w1 w2 w3 w4 e1 e2 e3 e4 h10
          unfold rk_lo rk_hi
          rw [if_neg h10, if_neg h10, e1, e2, e3, e4]
          omega
        rw [b_234_102 (by omega), wo, la, lc, ld]
        have ho : op = 6 ∨ op = 7 ∨ op = 8 ∨ op = 9 ∨ op = 10 := by omega
        rcases ho with ho | ho | ho | ho | ho
        · have hf : ∀ x y : Int, rk_f op x y = x + y := fun x y => by unfold rk_f; rw [if_pos ho]
          have h4 := four (a + c) (bb + dd) (a + dd) (bb + c) (hf _ _).symm (hf _ _).symm (hf _ _).symm (hf _ _).symm (by omega)
          rw [hf] at i1 i2 i3 i4
          rw [if_pos ho, k_234_129 (by omega) (b_235_0 (by omega)), b_234_132, l_min4 i3 i2 i4 i1, l_max4 i3 i2 i4 i1]
          refine fin _ _ (oth _ _) (by rw [s42]; exact h4.2.1) (by rw [s43]; exact h4.2.2) hz (by omega) (by omega) (by omega) (by omega)
        · have hf : ∀ x y : Int, rk_f op x y = x - y := fun x y => by unfold rk_f; rw [if_neg (show ¬ op = 6 by omega), if_pos ho]
          have h4 := four (a - c) (bb - dd) (a - dd) (bb - c) (hf _ _).symm (hf _ _).symm (hf _ _).symm (hf _ _).symm (by omega)
          rw [hf] at i1 i2 i3 i4
          rw [if_neg (show ¬ op = 6 by omega), if_pos ho, k_234_162 (by omega) (b_235_0 (by omega)), b_234_165, l_min4 i3 i2 i4 i1, l_max4 i3 i2 i4 i1]
          refine fin _ _ (oth _ _) (by rw [s42]; exact h4.2.1) (by rw [s43]; exact h4.2.2) hz (by omega) (by omega) (by omega) (by omega)
        · have hf : ∀ x y : Int, rk_f op x y = x * y := fun x y => by unfold rk_f; rw [if_neg (show ¬ op = 6 by omega), if_neg (show ¬ op = 7 by omega), if_pos ho]
          have hlo : min (min (bb * dd) (bb * c)) (min (a * dd) (a * c)) = rk_lo op a bb c dd := by
            unfold rk_lo
            rw [if_neg (show ¬ op = 10 by omega), hf, hf, hf, hf]
            omega
          have hhi : max (max (bb * dd) (bb * c)) (max (a * dd) (a * c)) = rk_hi op a bb c dd := by
            unfold rk_hi
            rw [if_neg (show ¬ op = 10 by omega), hf, hf, hf, hf]
            omega
          rw [hf] at i1 i2 i3 i4
          rw [if_neg (show ¬ op = 6 by omega), if_neg (show ¬ op = 7 by omega), if_pos ho, k_234_195 (by omega) (b_235_0 (by omega)), b_234_198, l_min4 i4 i3 i2 i1, l_max4 i4 i3 i2 i1]
          refine fin _ _ (oth _ _) (by rw [s42]; exact hlo) (by rw [s43]; exact hhi) hz (by omega) (by omega) (by omega) (by omega)
        · have hc0 : c ≠ 0 := by omega
          have hd0 : dd ≠ 0 := by omega
          have hfc : ∀ x : Int, rk_f op x c = x.tdiv c := fun x => by unfold rk_f; rw [if_neg (show ¬ op = 6 by omega), if_neg (show ¬ op = 7 by omega), if_neg (show ¬ op = 8 by omega), if_neg hc0]
          have hfd : ∀ x : Int, rk_f op x dd = x.tdiv dd := fun x => by unfold rk_f; rw [if_neg (show ¬ op = 6 by omega), if_neg (show ¬ op = 7 by omega), if_neg (show ¬ op = 8 by omega), if_neg hd0]
          have hlo : min (min (bb.tdiv dd) (bb.tdiv c)) (min (a.tdiv dd) (a.tdiv c)) = rk_lo op a bb c dd := by
            unfold rk_lo
            rw [if_neg (show ¬ op = 10 by omega), hfc, hfc, hfd, hfd]
            omega
          have hhi : max (max (bb.tdiv dd) (bb.tdiv c)) (max (a.tdiv dd) (a.tdiv c)) = rk_hi op a bb c dd := by
            unfold rk_hi
            rw [if_neg (show ¬ op = 10 by omega), hfc, hfc, hfd, hfd]
            omega
          rw [hfc] at i1 i3
          rw [hfd] at i2 i4
          rw [if_neg (show ¬ op = 6 by omega), if_neg (show ¬ op = 7 by omega), if_neg (show ¬ op = 8 by omega), if_pos ho, if_neg hc0, if_neg hd0, if_neg hc0, if_neg hd0, lb, k_234_228 (by omega) (b_235_0 (by omega)), b_234_231, l_min4 i4 i3 i2 i1, l_max4 i4 i3 i2 i1]
          refine fin _ _ (oth _ _) (by rw [s42]; exact hlo) (by rw [s43]; exact hhi) hz (by omega) (by omega) (by omega) (by omega)
        · have rm : rk_m c dd = max (rk_a c) (rk_a dd) - 1 := rfl
          have m2 := js_l_of (x := rk_m c dd) (by omega) (by omega)
          have m3 := js_l_of (x := -a) (by omega) (by omega)
          have hlo : rk_lo op a bb c dd = if a < 0 then max a (-(rk_m c dd)) else 0 := by
            unfold rk_lo
            rw [if_pos ho]
          have hhi : rk_hi op a bb c dd = if 0 < bb then min bb (rk_m c dd) else 0 := by
            unfold rk_hi
            rw [if_pos ho]
          have hloin : -5000000000000000000 ≤ rk_lo op a bb c dd ∧ rk_lo op a bb c dd ≤ 5000000000000000000 := by
            rw [hlo]
            split <;> omega
          have hhiin : -5000000000000000000 ≤ rk_hi op a bb c dd ∧ rk_hi op a bb c dd ≤ 5000000000000000000 := by
            rw [hhi]
            split <;> omega
          have lr := l_rest g1 g2 g3 g4
          rw [lc, ld] at lr
          rw [if_neg (show ¬ op = 6 by omega), if_neg (show ¬ op = 7 by omega), if_neg (show ¬ op = 8 by omega), if_neg (show ¬ op = 9 by omega), lr, m2, m3]
          have end272 : ∀ z : Int, z = rk_lo op a bb c dd → ∃ (v : Int) (ρ' : js_S), js_J E e 234 272 [(2, 83), (0, op), (0, l), (0, r), (0, p), (1, a), (9, 0), (1, bb), (9, 0), (1, c), (9, 0), (1, dd), (9, 0), (1, rk_m c dd), (9, 0)] [(1, z), (2, 83)] ρ = js_r E (0, v) ρ' ∧ (if rk_x op a bb c dd = 0 then v = ρ 83 33 ∧ ∃ ρ1 : js_S, (∀ x i : Int, ¬ (x = 83 ∧ (i = 42 ∨ i = 43)) → ρ1 x i = ρ x i) ∧ nw_R ρ1 ρ' 4 0 (rk_lo op a bb c dd) (rk_hi op a bb c dd) l r op else ∃ ρ1 : js_S, (∀ x i : Int, ¬ (x = 83 ∧ (i = 42 ∨ i = 43)) → ρ1 x i = ρ x i) ∧ ρ' = rx_bad ρ1 (rk_x op a bb c dd) p) := by
            intro z ez
            rw [b_234_272 (by omega), lb, m2]
            by_cases q2 : 0 < bb
            · rw [if_pos q2] at hhi
              have e2 : (if bb < rk_m c dd then bb else rk_m c dd) = min bb (rk_m c dd) := by split <;> omega
              rw [if_pos q2, b_234_294, e2]
              exact fin _ _ (oth _ _) (by rw [s42]; exact ez) (by rw [s43]; exact hhi.symm) hz hloin.1 hloin.2 hhiin.1 hhiin.2
            · rw [if_neg q2] at hhi
              rw [if_neg q2, b_234_294]
              exact fin _ _ (oth _ _) (by rw [s42]; exact ez) (by rw [s43]; exact hhi.symm) hz hloin.1 hloin.2 hhiin.1 hhiin.2
          by_cases q2 : a < 0
          · rw [if_pos q2] at hlo
            have e2 : -(if -a < rk_m c dd then -a else rk_m c dd) = max a (-(rk_m c dd)) := by split <;> omega
            rw [if_pos q2, e2]
            exact end272 _ hlo.symm
          · rw [if_neg q2] at hlo
            rw [if_neg q2]
            exact end272 _ hlo.symm
      by_cases q8 : 8 < op
      · rw [if_pos q8]
        by_cases q1 : 0 < c
        · rw [if_pos q1]
          exact go (fun hh => by omega)
        · rw [if_neg q1]
          by_cases q2 : dd < 0
          · rw [if_pos q2]
            exact go (fun hh => by omega)
          · have ex : rk_x op a bb c dd = 7 := by
              unfold rk_x
              rw [if_pos ⟨q8, by omega, by omega⟩]
            rw [if_neg q2, ex]
            simp only [if_neg (show ¬ (7 : Int) = 0 by decide)]
            rw [k_234_97 (by omega) (r_bad (by omega) (by omega)), b_234_100]
            exact ⟨_, _, rfl, ρ, fun _ _ _ => rfl, rfl⟩
      · rw [if_neg q8]
        exact go (fun hh => by omega)
    · rw [if_pos ql, if_pos ⟨r0, r1⟩, if_neg qr]
      simp only [if_neg (show ¬ (ρ 101 l = 0 ∧ ρ 101 r = 0) from fun hh => qr hh.2)]
      exact bad5
  · rw [if_neg ql]
    simp only [if_neg (show ¬ (ρ 101 l = 0 ∧ ρ 101 r = 0) from fun hh => ql hh.1)]
    exact bad5
end RK
