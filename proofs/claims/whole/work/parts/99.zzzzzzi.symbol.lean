/-! part 99.zzzzzzi: symbol and code, by both (printed by gen99zzzzzzi) -/
section YS2
variable {E : js_E} {d e : Nat} {b N : Int} {T : Nat} {σ ρ : js_S}
theorem y_symbol {x1 x2 : Int} (hb : b = 0 ∨ b = 25) (h4 : σ 0 4 = 6 + b) (hp : pr_R E b T N σ ρ) (h1 : -2147483648 ≤ x1 ∧ x1 < 2147483648) (h2 : -2147483648 ≤ x2 ∧ x2 < 2147483648) (hd : 2 ≤ d) : ∃ v : Int, js_J E d 123 0 [(2, 0), (0, x1), (0, x2), (9, 0)] [] σ = js_r E (0, v) σ ∧ js_J E e 291 0 [(2, 83), (0, x1), (0, x2)] [] ρ = js_r E (0, v) (js_up ρ 83 0 0) := by
  have hT := hp.1.1.1
  have w1 : js_w x1 = x1 := js_w_of h1.1 h1.2
  have w2 : js_w x2 = x2 := js_w_of h2.1 h2.2
  have wT : js_w (T : Int) = T := js_w_of (by omega) (by omega)
  have z : ∀ a i : Int, a ≠ 83 → js_up ρ 83 0 0 a i = ρ a i := fun a i g => js_up_na _ g
  by_cases q : 0 ≤ x1 ∧ x1 < T
  · obtain ⟨⟨s0, sg⟩, ⟨s1, s2, s3, s4, s5, s6⟩, ⟨s7, s8, s9, _⟩, _⟩ := hp.2.2.1 x1 q.1 q.2
    have cA : js_J E (d - 1) 67 0 [(2, 7 + b), (0, x1)] [] σ = js_r E (2, σ (19 + b) x1) σ := c_symAt hb q.1 (by rw [hp.1.1.2.2]; exact q.2) (by rw [hp.1.1.2.2]; omega)
    have c0 : ∀ v : Int, js_J E (d - 1) 124 1 [(2, σ (19 + b) x1), (0, x2)] [(0, x2)] σ = js_r E (0, v) σ → js_J E d 123 0 [(2, 0), (0, x1), (0, x2), (9, 0)] [] σ = js_r E (0, v) σ := fun v g => by
      rw [b_123_0 hb h4, k_123_8 hb (by omega) cA, b_123_11, if_neg (show ¬ σ (19 + b) x1 < 0 by omega), b_123_20, k_123_22 s0 (by omega) (by rw [b_124_0]; exact g), b_123_25]
    have r0 : js_J E e 291 0 [(2, 83), (0, x1), (0, x2)] [] ρ = js_J E e 291 20 [(2, 83), (0, x1), (0, x2)] [(0, x2)] (js_up ρ 83 0 0) := by
      rw [b_291_0, w1, if_neg (show ¬ x1 < 0 by omega), hp.1.1.2.1, wT, if_pos q.2]
    have i4 : 0 ≤ x1 ∧ x1 < 400 := by omega
    by_cases q0 : x2 = 0
    · exact ⟨ρ 86 x1, c0 _ (by rw [s_124_1_0 (by rw [w2]; exact q0), b_124_52 s0, s1]), by rw [r0, s_291_20_0 (by rw [w2]; exact q0), b_291_72, w1, if_pos i4, z _ _ (by decide)]⟩
    by_cases q1 : x2 = 1
    · exact ⟨ρ 87 x1, c0 _ (by rw [s_124_1_1 (by rw [w2]; exact q1), b_124_57 s0, s2]), by rw [r0, s_291_20_1 (by rw [w2]; exact q1), b_291_79, w1, if_pos i4, z _ _ (by decide)]⟩
    by_cases q2 : x2 = 2
    · exact ⟨ρ 88 x1, c0 _ (by rw [s_124_1_2 (by rw [w2]; exact q2), b_124_62 s0, s3]), by rw [r0, s_291_20_2 (by rw [w2]; exact q2), b_291_86, w1, if_pos i4, z _ _ (by decide)]⟩
    by_cases q3 : x2 = 3
    · exact ⟨ρ 89 x1, c0 _ (by rw [s_124_1_3 (by rw [w2]; exact q3), b_124_67 s0, s4]), by rw [r0, s_291_20_3 (by rw [w2]; exact q3), b_291_93, w1, if_pos i4, z _ _ (by decide)]⟩
    by_cases q4 : x2 = 4
    · exact ⟨ρ 90 x1, c0 _ (by rw [s_124_1_4 (by rw [w2]; exact q4), b_124_72 s0, s5]), by rw [r0, s_291_20_4 (by rw [w2]; exact q4), b_291_100, w1, if_pos i4, z _ _ (by decide)]⟩
    by_cases q5 : x2 = 5
    · exact ⟨ρ 91 x1, c0 _ (by rw [s_124_1_5 (by rw [w2]; exact q5), b_124_77 s0, s6]), by rw [r0, s_291_20_5 (by rw [w2]; exact q5), b_291_107, w1, if_pos i4, z _ _ (by decide)]⟩
    by_cases q6 : x2 = 6
    · exact ⟨ρ 93 x1, c0 _ (by rw [s_124_1_6 (by rw [w2]; exact q6), b_124_82 s0, s7]), by rw [r0, s_291_20_6 (by rw [w2]; exact q6), b_291_114, w1, if_pos i4, z _ _ (by decide)]⟩
    by_cases q7 : x2 = 7
    · exact ⟨ρ 94 x1, c0 _ (by rw [s_124_1_7 (by rw [w2]; exact q7), b_124_87 s0, s8]), by rw [r0, s_291_20_7 (by rw [w2]; exact q7), b_291_121, w1, if_pos i4, z _ _ (by decide)]⟩
    by_cases q8 : x2 = 8
    · exact ⟨ρ 95 x1, c0 _ (by rw [s_124_1_8 (by rw [w2]; exact q8), b_124_92 s0, s9]), by rw [r0, s_291_20_8 (by rw [w2]; exact q8), b_291_128, w1, if_pos i4, z _ _ (by decide)]⟩
    exact ⟨-1, c0 _ (by rw [s_124_1_d (by rw [w2]; omega), b_124_97]), by rw [r0, s_291_20_d (by rw [w2]; omega), b_291_135]⟩
  · have cA : js_J E (d - 1) 67 0 [(2, 7 + b), (0, x1)] [] σ = js_r E (2, -1) σ := by
      rw [b_67_0 hb, w1, hp.1.1.2.2, wT]
      by_cases t : x1 < 0
      · rw [if_pos t]
      · rw [if_neg t, if_neg (show ¬ x1 < T by omega)]
    refine ⟨-1, by rw [b_123_0 hb h4, k_123_8 hb (by omega) cA, b_123_11, if_pos (show (-1 : Int) < 0 by decide), b_123_25], ?_⟩
    rw [b_291_0, w1, hp.1.1.2.1, wT]
    by_cases t : x1 < 0
    · rw [if_pos t]
    · rw [if_neg t, if_neg (show ¬ x1 < T by omega)]
theorem y_code {x1 x2 : Int} (hb : b = 0 ∨ b = 25) (h4 : σ 0 4 = 6 + b) (hp : pr_R E b T N σ ρ) (h1 : -2147483648 ≤ x1 ∧ x1 < 2147483648) (h2 : -2147483648 ≤ x2 ∧ x2 < 2147483648) (hd : 2 ≤ d) : ∃ v : Int, js_J E d 127 0 [(2, 0), (0, x1), (0, x2), (9, 0)] [] σ = js_r E (0, v) σ ∧ js_J E e 293 0 [(2, 83), (0, x1), (0, x2)] [] ρ = js_r E (0, v) (js_up ρ 83 0 0) := by
  have hs := hp.2.1.1
  have w1 : js_w x1 = x1 := js_w_of h1.1 h1.2
  have w2 : js_w x2 = x2 := js_w_of h2.1 h2.2
  have w4 : js_w (ρ 83 49) = ρ 83 49 := js_w_of (by omega) (by omega)
  by_cases q : 0 ≤ x1 ∧ x1 < ρ 83 49
  · obtain ⟨q9, q10, q11, _, _⟩ := hp.2.2.2.1 x1 q.1 q.2
    have i8 : 0 ≤ x1 ∧ x1 < 8192 := by omega
    have cA : js_J E (d - 1) 92 0 [(2, 8 + b), (0, x1)] [] σ = js_r E (0, 1) σ := by
      rw [b_92_0 hb, w1, if_neg (show ¬ x1 < 0 by omega), hs.2.2, w4, if_pos q.2, if_pos (show x1 < 8192 by omega)]
    have c0 : js_J E d 127 0 [(2, 0), (0, x1), (0, x2), (9, 0)] [] σ = js_J E d 127 22 [(2, 0), (0, x1), (0, x2), (2, 8 + b)] [(0, x2)] σ := by
      rw [b_127_0 hb h4, k_127_13 hb (by omega) cA, b_127_16, if_neg (show ¬ js_w 1 = 0 by decide)]
    by_cases q0 : x2 = 0
    · exact ⟨ρ 111 x1, by rw [c0, s_127_22_0 (by rw [w2]; exact q0), b_127_48 hb, w1, if_pos i8, q9], by rw [b_293_0, w1, if_neg (show ¬ x1 < 0 by omega), w4, if_pos q.2, w2, if_neg (show ¬ x2 < 0 by omega), if_neg (show ¬ 2 < x2 by omega), if_pos q0, if_pos i8]⟩
    by_cases q1 : x2 = 1
    · exact ⟨ρ 112 x1, by rw [c0, s_127_22_1 (by rw [w2]; exact q1), b_127_55 hb, w1, if_pos i8, q10], by rw [b_293_0, w1, if_neg (show ¬ x1 < 0 by omega), w4, if_pos q.2, w2, if_neg (show ¬ x2 < 0 by omega), if_neg (show ¬ 2 < x2 by omega), if_neg q0, if_pos q1, if_pos i8]⟩
    by_cases q2 : x2 = 2
    · exact ⟨ρ 113 x1, by rw [c0, s_127_22_2 (by rw [w2]; exact q2), b_127_62 hb, w1, if_pos i8, q11], by rw [b_293_0, w1, if_neg (show ¬ x1 < 0 by omega), w4, if_pos q.2, w2, if_neg (show ¬ x2 < 0 by omega), if_neg (show ¬ 2 < x2 by omega), if_neg q0, if_neg q1, if_pos i8]⟩
    · refine ⟨-1, by rw [c0, s_127_22_d (by rw [w2]; omega), b_127_69], ?_⟩
      rw [b_293_0, w1, if_neg (show ¬ x1 < 0 by omega), w4, if_pos q.2, w2]
      by_cases t : x2 < 0
      · rw [if_pos t]
      · rw [if_neg t, if_pos (show 2 < x2 by omega)]
  · have cA : js_J E (d - 1) 92 0 [(2, 8 + b), (0, x1)] [] σ = js_r E (0, 0) σ := by
      rw [b_92_0 hb, w1, hs.2.2, w4]
      by_cases t : x1 < 0
      · rw [if_pos t]
      · rw [if_neg t, if_neg (show ¬ x1 < ρ 83 49 by omega)]
    refine ⟨-1, by rw [b_127_0 hb h4, k_127_13 hb (by omega) cA, b_127_16, if_pos (show js_w 0 = 0 from rfl)], ?_⟩
    rw [b_293_0, w1, w4]
    by_cases t : x1 < 0
    · rw [if_pos t]
    · rw [if_neg t, if_neg (show ¬ x1 < ρ 83 49 by omega)]
end YS2
