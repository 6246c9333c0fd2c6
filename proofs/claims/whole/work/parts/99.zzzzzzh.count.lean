/-! part 99.zzzzzzh: count, by both (printed by gen99zzzzzzh) -/
section YC2
variable {E : js_E} {d e : Nat} {Fu : Int → Int → Int → Prop} {ac zc b N : Int} {T : Nat} {σ ρ : js_S}
theorem y_counts {x : Int} (hb : b = 0 ∨ b = 25) (h : mh_R E Fu ac zc b N T σ ρ) (hl : ρ 83 64 = 1) (hl2 : σ 56 2 = 1) (h10 : σ 1 0 = ρ 83 2) (hx : -2147483648 ≤ x ∧ x < 2147483648) (hd : 2 ≤ d) : ∃ v : Int, js_J E d 169 0 [(2, 0), (0, x)] [] σ = js_r E (0, v) σ ∧ js_J E e 298 0 [(2, 83), (0, x)] [] ρ = js_r E (0, v) (js_up ρ 83 0 0) := by
  have hp := h.1.1.2.1
  have h56 := h.1.1.1
  have hv := h.1.2.2.1
  obtain ⟨n, hfq⟩ := hv.2.2.2
  have wx : js_w x = x := js_w_of hx.1 hx.2
  have z : ∀ i : Int, i ≠ 0 → js_up ρ 83 0 0 83 i = ρ 83 i := fun i g => js_up_ni _ g
  have r58 : σ 58 0 = ρ 83 77 ∧ σ 58 1 = ρ 83 79 := by
    rcases h.2 with ⟨g, _⟩ | ⟨_, g⟩
    · exact ⟨by rw [g.1, g.2.1], by rw [g.2.2.1, g.2.2.2]⟩
    · exact ⟨g.1.1, g.2.1.1⟩
  by_cases q0 : x = 0
  · exact ⟨ρ 83 2, by rw [b_169_0 hb h56, wx, if_pos q0, h10], by rw [b_298_0, wx, if_pos q0]⟩
  have r0 : js_J E e 298 0 [(2, 83), (0, x)] [] ρ = js_J E e 298 24 [(2, 83), (0, x)] [(0, x)] (js_up ρ 83 0 0) := by
    rw [b_298_0, wx, if_neg q0, hl, if_neg (show ¬ js_w 1 = 0 by decide)]
  have c1 : x < 8 → ∀ v : Int, js_J E (d - 1) 170 1 [(2, 7 + b), (0, x)] [(0, x)] σ = js_r E (0, v) σ → js_J E d 169 0 [(2, 0), (0, x)] [] σ = js_r E (0, v) σ := fun q v g => by
    rw [b_169_0 hb h56, wx, if_neg q0, hl2, if_neg (show ¬ js_w 1 = 0 by decide), if_pos q, k_169_38 hb (by omega) (by rw [b_170_0]; exact g), b_169_41, b_169_52]
  have c2 : ¬ x < 8 → ∀ v : Int, js_J E (d - 1) 171 1 [(2, 56), (0, x)] [(0, x)] σ = js_r E (0, v) σ → js_J E d 169 0 [(2, 0), (0, x)] [] σ = js_r E (0, v) σ := fun q v g => by
    rw [b_169_0 hb h56, wx, if_neg q0, hl2, if_neg (show ¬ js_w 1 = 0 by decide), if_neg q, k_169_49 (by omega) (by rw [b_171_0]; exact g), b_169_52]
  by_cases q1 : x = 1
  · have g := hp.1.1.2.2.trans hp.1.1.2.1.symm
    exact ⟨ρ 83 11, c1 (by omega) _ (by rw [s_170_1_1 (by rw [wx]; exact q1), b_170_44 hb, g]), by rw [r0, s_298_24_1 (by rw [wx]; exact q1), b_298_92, z _ (by decide)]⟩
  by_cases q2 : x = 2
  · have g := hp.2.1.1.2.2
    exact ⟨ρ 83 49, c1 (by omega) _ (by rw [s_170_1_2 (by rw [wx]; exact q2), b_170_49 hb, g]), by rw [r0, s_298_24_2 (by rw [wx]; exact q2), b_298_97, z _ (by decide)]⟩
  by_cases q3 : x = 3
  · have g := hp.1.2.2.2.trans hp.1.2.2.1.symm
    exact ⟨ρ 83 48, c1 (by omega) _ (by rw [s_170_1_3 (by rw [wx]; exact q3), b_170_57 hb, g]), by rw [r0, s_298_24_3 (by rw [wx]; exact q3), b_298_102, z _ (by decide)]⟩
  by_cases q4 : x = 4
  · have g := hp.2.1.2.1
    exact ⟨ρ 83 50, c1 (by omega) _ (by rw [s_170_1_4 (by rw [wx]; exact q4), b_170_62 hb, g]), by rw [r0, s_298_24_4 (by rw [wx]; exact q4), b_298_107, z _ (by decide)]⟩
  by_cases q5 : x = 5
  · have g := hp.2.1.2.2.1.2.2
    exact ⟨ρ 83 51, c1 (by omega) _ (by rw [s_170_1_5 (by rw [wx]; exact q5), b_170_67 hb, g]), by rw [r0, s_298_24_5 (by rw [wx]; exact q5), b_298_112, z _ (by decide)]⟩
  by_cases q6 : x = 6
  · have g := hp.2.1.2.2.2.1
    exact ⟨ρ 83 46, c1 (by omega) _ (by rw [s_170_1_6 (by rw [wx]; exact q6), b_170_72 hb, g]), by rw [r0, s_298_24_6 (by rw [wx]; exact q6), b_298_117, z _ (by decide)]⟩
  by_cases q7 : x = 7
  · have g := hp.2.1.2.2.2.2
    exact ⟨ρ 83 47, c1 (by omega) _ (by rw [s_170_1_7 (by rw [wx]; exact q7), b_170_77 hb, g]), by rw [r0, s_298_24_7 (by rw [wx]; exact q7), b_298_122, z _ (by decide)]⟩
  by_cases q8 : x = 8
  · have g := hv.2.1.1
    exact ⟨ρ 83 82, c2 (by omega) _ (by rw [s_171_1_8 (by rw [wx]; exact q8), b_171_40, g]), by rw [r0, s_298_24_8 (by rw [wx]; exact q8), b_298_127, z _ (by decide)]⟩
  by_cases q9 : x = 9
  · have g := r58.2
    exact ⟨ρ 83 79, c2 (by omega) _ (by rw [s_171_1_9 (by rw [wx]; exact q9), b_171_45, g]), by rw [r0, s_298_24_9 (by rw [wx]; exact q9), b_298_132, z _ (by decide)]⟩
  by_cases q10 : x = 10
  · have g := r58.1
    exact ⟨ρ 83 77, c2 (by omega) _ (by rw [s_171_1_10 (by rw [wx]; exact q10), b_171_53, g]), by rw [r0, s_298_24_10 (by rw [wx]; exact q10), b_298_137, z _ (by decide)]⟩
  by_cases q11 : x = 11
  · have g := hv.1.1
    exact ⟨ρ 83 81, c2 (by omega) _ (by rw [s_171_1_11 (by rw [wx]; exact q11), b_171_61, g]), by rw [r0, s_298_24_11 (by rw [wx]; exact q11), b_298_142, z _ (by decide)]⟩
  by_cases q12 : x = 12
  · have g := hfq.1.2.1.trans hfq.1.2.2.symm
    exact ⟨ρ 83 85, c2 (by omega) _ (by rw [s_171_1_12 (by rw [wx]; exact q12), b_171_66, g]), by rw [r0, s_298_24_12 (by rw [wx]; exact q12), b_298_147, z _ (by decide)]⟩
  by_cases q13 : x = 13
  · have g := hv.2.2.1
    exact ⟨ρ 83 83, c2 (by omega) _ (by rw [s_171_1_13 (by rw [wx]; exact q13), b_171_71, g]), by rw [r0, s_298_24_13 (by rw [wx]; exact q13), b_298_152, z _ (by decide)]⟩
  have rd : js_J E e 298 0 [(2, 83), (0, x)] [] ρ = js_r E (0, -1) (js_up ρ 83 0 0) := by
    rw [r0, s_298_24_d (by rw [wx]; omega), b_298_157]
  by_cases q : x < 8
  · exact ⟨-1, c1 q _ (by rw [s_170_1_d (by rw [wx]; omega), b_170_82]), rd⟩
  · exact ⟨-1, c2 q _ (by rw [s_171_1_d (by rw [wx]; omega), b_171_76]), rd⟩
end YC2
