/-! part 99.zzzzzze: power, cell, register, by both (where nothing is thrown) -/
section YZ
variable {E : js_E} {d e : Nat} {Fu : Int → Int → Int → Prop} {ac zc b N : Int} {T : Nat} {σ ρ : js_S}
theorem y_power (hb : b = 0 ∨ b = 25) (h : mh_R E Fu ac zc b N T σ ρ) (hl : ρ 83 64 = 1) (hl2 : σ 56 2 = 1) (hd : 12 ≤ d) (he : 2 ≤ e) : ∃ σ' ρ' : js_S, js_J E d 168 0 [(2, 0)] [] σ = js_r E (0, 1) σ' ∧ js_J E e 287 0 [(2, 83)] [] ρ = js_r E (0, 1) ρ' ∧ mh_R E Fu ac zc b N T σ' ρ' ∧ (∀ a i : Int, ¬ (58 ≤ a ∧ a ≤ 64) → ¬ (a = 56 ∧ (i = 3 ∨ i = 4 ∨ i = 8 ∨ i = 9)) → σ' a i = σ a i) ∧ (∀ a i : Int, ¬ (a = 83 ∧ (i = 0 ∨ 77 ≤ i ∧ i ≤ 85)) → ¬ (120 ≤ a ∧ a ≤ 124) → ρ' a i = ρ a i) ∧ ρ' 83 0 = 0 ∧ ρ' 83 82 = 0 := by
  have z0 : ∀ a i : Int, ¬ (a = 83 ∧ i = 0) → js_up ρ 83 0 0 a i = ρ a i := fun a i g => js_up_ne _ g
  have z1 : js_up ρ 83 0 0 83 0 = 0 := js_up_same _ _ _ _
  have r0 : js_J E e 287 0 [(2, 83)] [] ρ = js_J E e 287 13 [(2, 83)] [(2, 83)] (js_up ρ 83 0 0) := by
    rw [b_287_0, hl, if_neg (show ¬ js_w 1 = 0 by decide)]
  generalize js_up ρ 83 0 0 = ρa at z0 z1 r0
  have ha : mh_R E Fu ac zc b N T σ ρa := mh_err hb h (fun a i g => z0 a i (by omega))
  have hA := ha.1
  have hp := hA.1.2.1
  have hN := hp.1.2.1
  have hv := hA.2.2.1
  obtain ⟨σ3, e2, g1, g2, g3, g4, g5, g6, g7, g8⟩ := c_restart (E := E) (d := d - 1) hb hp hA.1.1 (by omega)
  obtain ⟨ρ2, e4, l1, l2, l3, l4⟩ := r_anew (E := E) (d := e - 1) (pr_pt hp)
  have q2 : ∀ a i : Int, ¬ (a = 83 ∧ 77 ≤ i ∧ i ≤ 85) → ¬ (120 ≤ a ∧ a ≤ 124) → ρ2 a i = ρa a i := fun a i g1 g2 => l1 a i (by omega) (by omega)
  have f64 : ρ2 83 64 = 1 := by rw [q2 _ _ (by omega) (by omega), z0 _ _ (by omega)]; exact hl
  have y : ∀ a i : Int, 84 ≤ a ∧ a ≤ 119 ∨ a = 125 → ρ2 a i = ρa a i := fun a i g => q2 a i (by omega) (by omega)
  refine ⟨σ3, ρ2, by rw [b_168_0, hl2, if_neg (show ¬ js_w 1 = 0 by decide), k_168_16 (by omega) e2, b_168_19], by rw [r0, k_287_13 (by omega) e4, b_287_16, f64, if_pos (by decide)], ⟨mh_mk hb hA (fun a i g => g1 a i (by omega) (by omega)) (g1 _ _ (by omega) (by omega)) (fun i g => q2 _ _ (by omega) (by omega)) y ⟨by rw [g5, l4 81 (by decide)], by rw [l4 81 (by decide)]; decide, by rw [l4 81 (by decide)]; decide⟩ ⟨by rw [g6, l4 82 (by decide)], by rw [l4 82 (by decide)]; decide⟩ (by rw [g8, l4 83 (by decide)]) ⟨0, fq_0 g7 (l4 85 (by decide)) rfl⟩ (fun m m1 m2 => by rw [l4 82 (by decide)] at m2; omega), Or.inl ⟨⟨g2.1, l4 77 (by decide), g2.2, l4 79 (by decide)⟩, ?_, ?_⟩⟩, g1, fun a i k1 k2 => by rw [q2 a i (by omega) k2, z0 a i (by omega)], by rw [q2 _ _ (by omega) (by omega)]; exact z1, l4 82 (by decide)⟩
  · have a := l3 0 (by decide) (by decide)
    refine ⟨by rw [g3.1, a.1], by rw [g3.2.1, a.2.1], fun k r1 r2 => ?_⟩
    have c := l2 k r1 (by omega)
    have c2 := g4 k r1 r2
    rw [show (59 : Int) + 2 = 61 by decide, show (4096 : Int) * 0 + k = k by omega, c2.1, c.1, Int.mul_one]
  · have a := l3 1 (by decide) (by decide)
    refine ⟨by rw [g3.2.2.1, a.1], by rw [g3.2.2.2, a.2.1], fun k r1 r2 => ?_⟩
    have c := l2 k r1 (by omega)
    have c2 := g4 k r1 r2
    rw [show (62 : Int) + 2 = 64 by decide, show (4096 : Int) * 1 + k = 4096 + k by omega, c2.2, c.2, Int.mul_comm]
/-- both copies, CYCLE or not -/
theorem mh_cq (h : mh_R E Fu ac zc b N T σ ρ) : cq_R N 59 0 σ ρ ∧ cq_R N 62 1 σ ρ := by
  rcases h.2 with ⟨_, a2, a3⟩ | ⟨_, a⟩
  · exact ⟨a2, a3⟩
  · exact a.2.2.1
theorem c_of0 {x1 : Int} (hx : 0 ≤ x1 ∧ x1 ≤ 1) : js_J E d 146 0 [(2, 58), (0, x1)] [] σ = js_r E (2, 59 + 3 * x1) σ := by
  have g := b_146_0 (E := E) (d := d) (σ := σ) (x1 := x1) (r := 0) (Or.inl rfl)
  simp only [Int.add_zero] at g
  rw [g, js_w_of (x := x1) (by omega) (by omega)]
  by_cases q : x1 = 0
  · rw [if_pos q, q]
    rfl
  · rw [if_neg q, show x1 = 1 by omega]
    rfl
theorem y_cell {x1 x2 : Int} (hb : b = 0 ∨ b = 25) (h : mh_R E Fu ac zc b N T σ ρ) (hl : ρ 83 64 = 1) (hl2 : σ 56 2 = 1) (hx : (0 ≤ x1 ∧ x1 ≤ 1) ∧ 0 ≤ x2 ∧ x2 < N) (hd : 3 ≤ d) : ∃ v w : Int, js_J E d 183 0 [(2, 0), (0, x1), (0, x2)] [] σ = js_r E (1, v) σ ∧ js_J E e 283 0 [(2, 83), (0, x1), (0, x2), (9, 0)] [] ρ = js_r E (1, w) (js_up ρ 83 0 0) ∧ js_l v = js_l w := by
  have hp := h.1.1.2.1
  have h56 := h.1.1.1
  have hN := hp.1.2.1
  have w1 : js_w x1 = x1 := js_w_of (by omega) (by omega)
  have w2 : js_w x2 = x2 := js_w_of (by omega) (by omega)
  have wN : js_w N = N := js_w_of (by omega) (by omega)
  have c137 : js_J E (d - 1) 137 0 [(2, 56), (0, x1), (0, x2)] [] σ = js_r E (0, 1) σ := by
    rw [b_137_0 hb h56, hl2, if_neg (show ¬ js_w 1 = 0 by decide), w1, if_neg (show ¬ x1 < 0 by omega), if_neg (show ¬ 1 < x1 by omega), w2, if_neg (show ¬ x2 < -2 by omega), hp.1.2.2.2, wN, if_pos hx.2.2]
  obtain ⟨q1, q2⟩ := mh_cq h
  have wa : js_w (4096 * x1 + x2) = 4096 * x1 + x2 := js_w_of (by omega) (by omega)
  have er : js_J E e 283 0 [(2, 83), (0, x1), (0, x2), (9, 0)] [] ρ = js_r E (1, ρ 120 (4096 * x1 + x2)) (js_up ρ 83 0 0) := by
    rw [b_283_0, hl, if_neg (show ¬ js_w 1 = 0 by decide), w1, if_neg (show ¬ x1 < 0 by omega), if_pos (show x1 < 2 by omega), w2, if_neg (show ¬ x2 < 0 by omega), hp.1.2.2.1, wN, if_pos hx.2.2, b_283_33, if_neg (show ¬ js_w 1 = 0 by decide), b_283_44, if_neg (show ¬ js_w 1 = 0 by decide), wa, if_pos (show 0 ≤ 4096 * x1 + x2 ∧ 4096 * x1 + x2 < 8192 by omega)]
  have ec : ∀ o : Int, js_isC E.1 (59 + 3 * x1) o → js_J E d 183 0 [(2, 0), (0, x1), (0, x2)] [] σ = js_r E (1, σ (59 + 3 * x1 + 2) x2) σ := fun o hC => by
    rw [b_183_0, w2, if_neg (show ¬ x2 < 0 by omega), k_183_10 (by omega) c137, b_183_13, if_neg (show ¬ js_w 1 = 0 by decide), k_183_34 (by omega) (c_of0 hx.1), b_183_37, k_183_38 hC (by omega) (c_read hC ⟨by omega, by omega⟩ ⟨by omega, by omega⟩ w2), b_183_41]
  by_cases q : x1 = 0
  · subst q
    exact ⟨_, _, ec 1 (js_c1 (r := 0) (Or.inl rfl)), er, q1.2.2 x2 (by omega) (by omega)⟩
  · have q3 : x1 = 1 := by omega
    subst q3
    exact ⟨_, _, ec 58659 (js_c2 (r := 0) (Or.inl rfl)), er, q2.2.2 x2 (by omega) (by omega)⟩
end YZ
