/-! part 99.x: the class ends an operator -/
section RD
variable {E : js_E} {d : Nat} {σ : js_S} {b : Int}
theorem c_askType (hb : b = 0 ∨ b = 25) (hn : cx_n σ) (hd : 7 ≤ d) (p0 : 0 ≤ σ (23 + b) 15) (p1 : σ (23 + b) 15 < 512) : js_J E d 88 0 [(2, 23 + b), (0, 1)] [] σ = js_r0 E σ ∧ js_J E d 88 0 [(2, 23 + b), (0, 0)] [] σ = th_P E σ (5 + 16 * σ (26 + b) (σ (23 + b) 15)) := by
  constructor
  · rw [b_88_0 hb, if_neg (show ¬ js_w 1 = 0 by decide), b_88_21]
  · rw [b_88_0 hb, if_pos (show js_w 0 = 0 from rfl), js_w_of (x := σ (23 + b) 15) (by omega) (by omega), if_pos ⟨p0, p1⟩, kt_88_18 (by omega) (c_fail hn (by omega))]
    rfl
/-- the end of + - * / % -/
theorem c_fin45 (hb : b = 0 ∨ b = 25) (hn : cx_n σ) (hd : 8 ≤ d) (p0 : 0 ≤ σ (23 + b) 15) (p1 : σ (23 + b) 15 < 512) {t : Int} (ht : t = 43 ∨ t = 45 ∨ t = 42 ∨ t = 47 ∨ t = 37) (hm : σ (24 + b) (σ (23 + b) 15) = t) (hl : σ (25 + b) (σ (23 + b) 15) = 4 ∨ σ (25 + b) (σ (23 + b) 15) = 5) (t1 : 0 ≤ σ (27 + b) (σ (23 + b) 15) ∧ σ (27 + b) (σ (23 + b) 15) < 1000) (t2 : 0 ≤ σ (23 + b) 0 ∧ σ (23 + b) 0 < 1000) (f : (-2000000000 ≤ σ (28 + b) (σ (23 + b) 15) ∧ σ (28 + b) (σ (23 + b) 15) ≤ 2000000000) ∧ -2000000000 ≤ σ (29 + b) (σ (23 + b) 15) ∧ σ (29 + b) (σ (23 + b) 15) ≤ 2000000000) (g : (-2000000000 ≤ σ (23 + b) 1 ∧ σ (23 + b) 1 ≤ 2000000000) ∧ -2000000000 ≤ σ (23 + b) 2 ∧ σ (23 + b) 2 ≤ 2000000000) : js_J E d 87 0 [(2, 23 + b), (9, 0), (9, 0)] [] σ = if σ (27 + b) (σ (23 + b) 15) = 0 ∧ σ (23 + b) 0 = 0 then (if rk_x (op_t t) (σ (28 + b) (σ (23 + b) 15)) (σ (29 + b) (σ (23 + b) 15)) (σ (23 + b) 1) (σ (23 + b) 2) = 0 then js_r0 E (js_up (js_up σ (23 + b) 1 (rk_lo (op_t t) (σ (28 + b) (σ (23 + b) 15)) (σ (29 + b) (σ (23 + b) 15)) (σ (23 + b) 1) (σ (23 + b) 2))) (23 + b) 2 (rk_hi (op_t t) (σ (28 + b) (σ (23 + b) 15)) (σ (29 + b) (σ (23 + b) 15)) (σ (23 + b) 1) (σ (23 + b) 2))) else th_P E σ (rk_x (op_t t) (σ (28 + b) (σ (23 + b) 15)) (σ (29 + b) (σ (23 + b) 15)) (σ (23 + b) 1) (σ (23 + b) 2) + 16 * σ (26 + b) (σ (23 + b) 15))) else th_P E σ (5 + 16 * σ (26 + b) (σ (23 + b) 15)) := by
  have wp := js_w_of (x := σ (23 + b) 15) (by omega) (by omega)
  obtain ⟨ok, bad⟩ := c_askType (E := E) (d := d - 1) hb hn (by omega) p0 p1
  have e215 : js_J E d 87 0 [(2, 23 + b), (9, 0), (9, 0)] [] σ = js_J E d 87 215 [(2, 23 + b), (0, σ (27 + b) (σ (23 + b) 15)), (9, 0)] [] σ := by
    rw [b_87_0 hb, wp, if_pos ⟨p0, p1⟩]
    rcases hl with h | h
    · rw [s_87_19_4 (by rw [h]; decide)]
    · rw [s_87_19_5 (by rw [h]; decide)]
  rw [e215, b_87_215 hb, js_w_of (x := σ (27 + b) (σ (23 + b) 15)) (by omega) (by omega), js_w_of (x := σ (23 + b) 0) (by omega) (by omega)]
  by_cases q1 : σ (27 + b) (σ (23 + b) 15) = 0
  · by_cases q2 : σ (23 + b) 0 = 0
    · rw [if_pos q1, if_pos q2, if_pos (show σ (27 + b) (σ (23 + b) 15) = 0 ∧ σ (23 + b) 0 = 0 from ⟨q1, q2⟩), k_87_232 hb (by omega) ok, b_87_235 hb, wp, if_pos ⟨p0, p1⟩, js_w_of (x := σ (29 + b) (σ (23 + b) 15)) (by omega) (by omega), js_w_of (x := σ (28 + b) (σ (23 + b) 15)) (by omega) (by omega), hm]
      have e := c_finishSum (E := E) (d := d - 1) (t := t) (fl := σ (28 + b) (σ (23 + b) 15)) (fh := σ (29 + b) (σ (23 + b) 15)) hb hn (by omega) ht f.1.1 f.1.2 f.2.1 f.2.2 g.1.1 g.1.2 g.2.1 g.2.2 p0 p1
      by_cases q3 : rk_x (op_t t) (σ (28 + b) (σ (23 + b) 15)) (σ (29 + b) (σ (23 + b) 15)) (σ (23 + b) 1) (σ (23 + b) 2) = 0
      · rw [if_pos q3] at e ⊢
        rw [k_87_265 hb (by omega) e, b_87_268]
      · rw [if_neg q3] at e ⊢
        rw [kt_87_265 hb (by omega) e]
    · rw [if_pos q1, if_neg q2, if_neg (show ¬ (σ (27 + b) (σ (23 + b) 15) = 0 ∧ σ (23 + b) 0 = 0) from fun hh => q2 hh.2), b_87_231, kt_87_232 hb (by omega) bad]
  · rw [if_neg q1, if_neg (show ¬ (σ (27 + b) (σ (23 + b) 15) = 0 ∧ σ (23 + b) 0 = 0) from fun hh => q1 hh.1), b_87_231, kt_87_232 hb (by omega) bad]
/-- the end of a comparison -/
theorem c_fin3 (hb : b = 0 ∨ b = 25) (hn : cx_n σ) (hd : 8 ≤ d) (p0 : 0 ≤ σ (23 + b) 15) (p1 : σ (23 + b) 15 < 512) {t : Int} (ht : lv_t t = 3) (hm : σ (24 + b) (σ (23 + b) 15) = tk_m t) (hl : σ (25 + b) (σ (23 + b) 15) = 3) (t1 : 0 ≤ σ (27 + b) (σ (23 + b) 15) ∧ σ (27 + b) (σ (23 + b) 15) < 1000) (t2 : 0 ≤ σ (23 + b) 0 ∧ σ (23 + b) 0 < 1000) : js_J E d 87 0 [(2, 23 + b), (9, 0), (9, 0)] [] σ = if σ (27 + b) (σ (23 + b) 15) = σ (23 + b) 0 ∧ (17 ≤ op_t t ∨ σ (23 + b) 0 = 0) then js_r0 E (js_up (js_up (js_up σ (23 + b) 0 1) (23 + b) 1 0) (23 + b) 2 1) else th_P E σ (5 + 16 * σ (26 + b) (σ (23 + b) 15)) := by
  have wp := js_w_of (x := σ (23 + b) 15) (by omega) (by omega)
  obtain ⟨ok, bad⟩ := c_askType (E := E) (d := d - 1) hb hn (by omega) p0 p1
  have hts : t = 60 ∨ t = 62 ∨ t = 201 ∨ t = 202 ∨ t = 203 ∨ t = 204 := by
    unfold lv_t at ht
    repeat' split at ht
    all_goals omega
  have fin : ∀ z : Int, js_J E d 87 202 [(2, 23 + b), (0, σ (27 + b) (σ (23 + b) 15)), (0, z)] [(0, 1), (2, 23 + b)] σ = js_r0 E (js_up (js_up (js_up σ (23 + b) 0 1) (23 + b) 1 0) (23 + b) 2 1) := fun z => by
    rw [k_87_202 hb (by omega) ok, b_87_205, k_87_209 hb (by omega) (b_75_0 hb), b_87_212, b_87_268]
  have bd : ∀ z : Int, js_J E d 87 202 [(2, 23 + b), (0, σ (27 + b) (σ (23 + b) 15)), (0, z)] [(0, 0), (2, 23 + b)] σ = th_P E σ (5 + 16 * σ (26 + b) (σ (23 + b) 15)) := fun z => by
    rw [kt_87_202 hb (by omega) bad]
  have e176 : ∀ z : Int, (z = 0 ∨ z = 1) → (z = 1 ↔ 17 ≤ op_t t) → js_J E d 87 176 [(2, 23 + b), (0, σ (27 + b) (σ (23 + b) 15)), (9, 0)] [(0, z)] σ = if σ (27 + b) (σ (23 + b) 15) = σ (23 + b) 0 ∧ (17 ≤ op_t t ∨ σ (23 + b) 0 = 0) then js_r0 E (js_up (js_up (js_up σ (23 + b) 0 1) (23 + b) 1 0) (23 + b) 2 1) else th_P E σ (5 + 16 * σ (26 + b) (σ (23 + b) 15)) := by
    intro z hz hz2
    rw [b_87_176 hb, js_w_of (x := σ (27 + b) (σ (23 + b) 15)) (by omega) (by omega), js_w_of (x := σ (23 + b) 0) (by omega) (by omega), js_w_of (x := z) (by omega) (by omega)]
    by_cases q1 : σ (27 + b) (σ (23 + b) 15) = σ (23 + b) 0
    · rw [if_pos q1]
      by_cases q2 : z = 0
      · rw [if_pos q2]
        by_cases q3 : σ (23 + b) 0 = 0
        · rw [if_pos q3, b_87_197, fin, if_pos ⟨q1, Or.inr q3⟩]
        · rw [if_neg q3, b_87_201, bd, if_neg (show ¬ (σ (27 + b) (σ (23 + b) 15) = σ (23 + b) 0 ∧ (17 ≤ op_t t ∨ σ (23 + b) 0 = 0)) from fun hh => hh.2.elim (fun h => by have := hz2.mpr h; omega) q3)]
      · rw [if_neg q2, b_87_197, fin, if_pos ⟨q1, Or.inl (hz2.mp (by omega))⟩]
    · rw [if_neg q1, b_87_201, bd, if_neg (fun hh => q1 hh.1)]
  rw [b_87_0 hb, wp, if_pos ⟨p0, p1⟩, s_87_19_3 (by rw [hl]; decide), b_87_141 hb, wp, if_pos ⟨p0, p1⟩, hm]
  rcases hts with rfl | rfl | rfl | rfl | rfl | rfl
  · rw [if_neg (by decide), if_neg (by decide)]
    exact e176 0 (Or.inl rfl) (by decide)
  · rw [if_neg (by decide), if_neg (by decide)]
    exact e176 0 (Or.inl rfl) (by decide)
  · rw [if_neg (by decide), if_neg (by decide)]
    exact e176 0 (Or.inl rfl) (by decide)
  · rw [if_neg (by decide), if_neg (by decide)]
    exact e176 0 (Or.inl rfl) (by decide)
  · rw [if_pos (by decide), b_87_171]
    exact e176 1 (Or.inr rfl) (by decide)
  · rw [if_neg (by decide), if_pos (by decide), b_87_171]
    exact e176 1 (Or.inr rfl) (by decide)
/-- the end of && and || -/
theorem c_fin12 (hb : b = 0 ∨ b = 25) (hn : cx_n σ) (hd : 8 ≤ d) (p0 : 0 ≤ σ (23 + b) 15) (p1 : σ (23 + b) 15 < 512) (hl : σ (25 + b) (σ (23 + b) 15) = 1 ∨ σ (25 + b) (σ (23 + b) 15) = 2) (t1 : 0 ≤ σ (27 + b) (σ (23 + b) 15) ∧ σ (27 + b) (σ (23 + b) 15) < 1000) (t2 : 0 ≤ σ (23 + b) 0 ∧ σ (23 + b) 0 < 1000) : js_J E d 87 0 [(2, 23 + b), (9, 0), (9, 0)] [] σ = if σ (27 + b) (σ (23 + b) 15) = 1 ∧ σ (23 + b) 0 = 1 then js_r0 E σ else th_P E σ (5 + 16 * σ (26 + b) (σ (23 + b) 15)) := by
  have wp := js_w_of (x := σ (23 + b) 15) (by omega) (by omega)
  obtain ⟨ok, bad⟩ := c_askType (E := E) (d := d - 1) hb hn (by omega) p0 p1
  have e116 : js_J E d 87 0 [(2, 23 + b), (9, 0), (9, 0)] [] σ = js_J E d 87 116 [(2, 23 + b), (0, σ (27 + b) (σ (23 + b) 15)), (9, 0)] [] σ := by
    rw [b_87_0 hb, wp, if_pos ⟨p0, p1⟩]
    rcases hl with h | h
    · rw [s_87_19_1 (by rw [h]; decide)]
    · rw [s_87_19_2 (by rw [h]; decide)]
  rw [e116, b_87_116 hb, js_w_of (x := σ (27 + b) (σ (23 + b) 15)) (by omega) (by omega), js_w_of (x := σ (23 + b) 0) (by omega) (by omega)]
  by_cases q1 : σ (27 + b) (σ (23 + b) 15) = 1
  · by_cases q2 : σ (23 + b) 0 = 1
    · rw [if_pos q1, if_pos q2, if_pos (show σ (27 + b) (σ (23 + b) 15) = 1 ∧ σ (23 + b) 0 = 1 from ⟨q1, q2⟩), k_87_135 hb (by omega) ok, b_87_138, b_87_268]
    · rw [if_pos q1, if_neg q2, if_neg (show ¬ (σ (27 + b) (σ (23 + b) 15) = 1 ∧ σ (23 + b) 0 = 1) from fun hh => q2 hh.2), b_87_134, kt_87_135 hb (by omega) bad]
  · rw [if_neg q1, if_neg (show ¬ (σ (27 + b) (σ (23 + b) 15) = 1 ∧ σ (23 + b) 0 = 1) from fun hh => q1 hh.1), b_87_134, kt_87_135 hb (by omega) bad]
/-- the end of - and ! in front -/
theorem c_fin6 (hb : b = 0 ∨ b = 25) (hn : cx_n σ) (hd : 8 ≤ d) (p0 : 0 ≤ σ (23 + b) 15) (p1 : σ (23 + b) 15 < 512) {t : Int} (ht : t = 45 ∨ t = 33) (hm : σ (24 + b) (σ (23 + b) 15) = t) (hl : σ (25 + b) (σ (23 + b) 15) = 6) (t2 : 0 ≤ σ (23 + b) 0 ∧ σ (23 + b) 0 < 1000) : js_J E d 87 0 [(2, 23 + b), (9, 0), (9, 0)] [] σ = if σ (23 + b) 0 = (if t = 45 then 0 else 1) then js_r0 E (if t = 45 then js_up (js_up (js_up σ (23 + b) 0 0) (23 + b) 1 (-(σ (23 + b) 2))) (23 + b) 2 (-(σ (23 + b) 1)) else σ) else th_P E σ (5 + 16 * σ (26 + b) (σ (23 + b) 15)) := by
  have wp := js_w_of (x := σ (23 + b) 15) (by omega) (by omega)
  obtain ⟨ok, bad⟩ := c_askType (E := E) (d := d - 1) hb hn (by omega) p0 p1
  have wt : js_w t = t := js_w_of (by omega) (by omega)
  have w0 := js_w_of (x := σ (23 + b) 0) (by omega) (by omega)
  rw [b_87_0 hb, wp, if_pos ⟨p0, p1⟩, s_87_19_6 (by rw [hl]; decide), b_87_56 hb, wp, if_pos ⟨p0, p1⟩, hm, wt]
  rcases ht with h | h
  · rw [if_pos h, if_pos h, if_pos h, b_87_80, w0, show js_w 0 = 0 from rfl]
    by_cases q : σ (23 + b) 0 = 0
    · rw [if_pos q, if_pos q, k_87_88 hb (by omega) ok, b_87_91 hb, w0, if_pos q, k_87_110 hb (by omega) (b_75_0 hb), b_87_113, b_87_268]
    · rw [if_neg q, if_neg q, kt_87_88 hb (by omega) bad]
  · rw [if_neg (show ¬ t = 45 by omega), if_neg (show ¬ t = 45 by omega), if_neg (show ¬ t = 45 by omega), b_87_80, w0, show js_w 1 = 1 by decide]
    by_cases q : σ (23 + b) 0 = 1
    · rw [if_pos q, if_pos q, k_87_88 hb (by omega) ok, b_87_91 hb, w0, if_neg (show ¬ σ (23 + b) 0 = 0 by omega), b_87_268]
    · rw [if_neg q, if_neg q, kt_87_88 hb (by omega) bad]
/-- the operator that waits last is taken out of its row -/
theorem c_pop (hb : b = 0 ∨ b = 25) {x1 x2 x3 x4 x5 x6 p : Int} (hp : σ (23 + b) 15 = p + 1) (h0 : 0 ≤ x2) (h1 : x2 ≤ p) (h2 : p < 511) (x60 : 0 ≤ x6) (x61 : x6 < 512) (hl : 1 ≤ σ (25 + b) p ∧ σ (25 + b) p ≤ 6) (h5 : 0 ≤ x5) (h5' : x5 ≤ σ (25 + b) p) : js_J E d 61 65 [(2, 23 + b), (0, x1), (0, x2), (0, x3), (0, x4), (0, x5), (0, x6)] [] σ = js_J E d 61 108 [(2, 23 + b), (0, x1), (0, x2), (0, x3), (0, x4), (0, x5), (0, x6)] [(2, 23 + b)] (js_up σ (23 + b) 15 p) := by
  have e : p + 1 - 1 = p := by omega
  rw [b_61_65 hb, js_w_of (x := x6) (by omega) (by omega), if_pos x61, hp, e, js_w_of (x := x2) (by omega) (by omega), js_w_of (x := p + 1) (by omega) (by omega), if_pos (show x2 < p + 1 by omega), js_w_of (x := p) (by omega) (by omega), if_pos (show 0 ≤ p ∧ p < 512 by omega), js_w_of (x := σ (25 + b) p) (by omega) (by omega), js_w_of (x := x5) (by omega) (by omega), if_neg (show ¬ σ (25 + b) p < x5 by omega)]
/-- no operator ends here -/
theorem c_stay (hb : b = 0 ∨ b = 25) {x1 x2 x3 x4 x5 x6 : Int} (h0 : 0 ≤ x2) (h1 : x2 ≤ σ (23 + b) 15) (h2 : σ (23 + b) 15 < 512) (x60 : 0 ≤ x6) (x61 : x6 < 512) (hl : ∀ k : Int, x2 ≤ k → k < σ (23 + b) 15 → 1 ≤ σ (25 + b) k ∧ σ (25 + b) k < x5) (h5 : 0 ≤ x5) (h6 : x5 ≤ 6) : js_J E d 61 65 [(2, 23 + b), (0, x1), (0, x2), (0, x3), (0, x4), (0, x5), (0, x6)] [] σ = js_J E d 61 236 [(2, 23 + b), (0, x1), (0, x2), (0, x3), (0, x4), (0, x5), (0, x6)] [] σ := by
  rw [b_61_65 hb, js_w_of (x := x6) (by omega) (by omega), if_pos x61, js_w_of (x := x2) (by omega) (by omega), js_w_of (x := σ (23 + b) 15) (by omega) (by omega)]
  by_cases q : x2 < σ (23 + b) 15
  · have hk := hl (σ (23 + b) 15 - 1) (by omega) (by omega)
    rw [if_pos q, js_w_of (x := σ (23 + b) 15 - 1) (by omega) (by omega), if_pos (show 0 ≤ σ (23 + b) 15 - 1 ∧ σ (23 + b) 15 - 1 < 512 by omega), js_w_of (x := σ (25 + b) (σ (23 + b) 15 - 1)) (by omega) (by omega), js_w_of (x := x5) (by omega) (by omega), if_pos hk.2]
  · rw [if_neg q]
end RD
