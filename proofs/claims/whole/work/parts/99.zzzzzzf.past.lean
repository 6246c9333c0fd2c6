/-! part 99.zzzzzzf: past, output, register, by both (where nothing is thrown) -/
theorem ixor_nn {x y : Int} (hx : 0 ≤ js_w x) (hy : 0 ≤ js_w y) : ¬ js_w (js_ixor x y) < 0 := by
  have e : js_w (js_ixor x y) = (Int32.ofInt x ^^^ Int32.ofInt y).toInt := js_w_of (Int32.le_toInt _) (Int32.toInt_lt _)
  rw [e]
  have a : (Int32.ofInt x).toBitVec.msb = false := by
    rw [BitVec.msb_eq_toInt]
    exact decide_eq_false (fun h => absurd (show (Int32.ofInt x).toInt < 0 from h) (by unfold js_w at hx; omega))
  have b : (Int32.ofInt y).toBitVec.msb = false := by
    rw [BitVec.msb_eq_toInt]
    exact decide_eq_false (fun h => absurd (show (Int32.ofInt y).toInt < 0 from h) (by unfold js_w at hy; omega))
  have c : (Int32.ofInt x ^^^ Int32.ofInt y).toBitVec.msb = false := by
    rw [Int32.toBitVec_xor, BitVec.msb_xor, a, b]
    rfl
  rw [BitVec.msb_eq_toInt] at c
  exact fun h => absurd (show (Int32.ofInt x ^^^ Int32.ofInt y).toBitVec.toInt < 0 from h) (of_decide_eq_false c)
section YQ
variable {E : js_E} {d e : Nat} {Fu : Int → Int → Int → Prop} {ac zc b N : Int} {T : Nat} {σ ρ : js_S}
theorem c_fmod {m : Int} (hm : 0 ≤ m ∧ m < 2147483648) : js_J E d 308 0 [(0, m), (0, 16), (9, 0)] [] σ = js_r E (0, m % 16) σ := by
  have wm : js_w m = m := js_w_of (by omega) (by omega)
  have w16 : js_w 16 = 16 := by decide
  rw [b_308_0, if_neg (show ¬ js_w 16 = 0 by decide), if_neg (ixor_nn (by rw [wm]; exact hm.1) (by decide)), wm, w16, Int.tmod_eq_emod_of_nonneg hm.1]
/-- place x of the outs of CYCLE m -/
theorem y_kept {m x k : Int} (hb : b = 0 ∨ b = 25) (h : mh_R E Fu ac zc b N T σ ρ) (hem : ρ 83 82 < 2147483648) (hm : 1 ≤ m ∧ m ≤ ρ 83 82 ∧ ρ 83 82 < m + 16) (hx : 0 ≤ x ∧ x < ρ 83 47) (hk : ρ 83 82 - k = m) (hd : 2 ≤ d) : js_J E d 180 0 [(2, 56), (0, k), (0, x), (9, 0)] [] σ = js_r E (0, σ 81 (m % 16 * ou_o ρ T + x)) σ ∧ js_w (σ 81 (m % 16 * ou_o ρ T + x)) = js_w (ρ 126 (4096 * ((m - 1) % 16) + x)) := by
  obtain ⟨⟨⟨a1, a2, _⟩, ⟨b1, b2, b3, b4, _⟩, ⟨_, c2, _⟩, c5⟩, _⟩ := h
  have hN := a2.1.2.1
  have k6 : σ (7 + b) 6 = ou_o ρ T := by rw [a2.2.1.2.2.2.2, b1]
  have m1 : 0 ≤ m % 16 ∧ m % 16 ≤ 15 := by omega
  have mS : 0 ≤ m % 16 * ou_o ρ T ∧ m % 16 * ou_o ρ T ≤ 15 * ou_o ρ T := ⟨Int.mul_nonneg m1.1 b2, Int.mul_le_mul_of_nonneg_right m1.2 b2⟩
  rw [← b1] at hx
  have wi : js_w (m % 16 * ou_o ρ T + x) = m % 16 * ou_o ρ T + x := js_w_of (by omega) (by omega)
  have wE : js_w (16 * E.1) = 16 * E.1 := js_w_of (by omega) (by omega)
  refine ⟨?_, c5 m hm.1 hm.2.1 hm.2.2 x hx.1 hx.2⟩
  rw [b_180_0, c2.1, hk, k_180_8 (by omega) (c_fmod (by omega)), b_180_11 hb a1 (by omega), k6, wi, if_neg (show ¬ m % 16 * ou_o ρ T + x < 0 by omega), wE, if_pos (show m % 16 * ou_o ρ T + x < 16 * E.1 by omega), if_pos (show 0 ≤ m % 16 * ou_o ρ T + x ∧ m % 16 * ou_o ρ T + x < 16 * E.1 by omega)]
theorem y_past {x1 x2 : Int} (hb : b = 0 ∨ b = 25) (h : mh_R E Fu ac zc b N T σ ρ) (hl : ρ 83 64 = 1) (hem : ρ 83 82 < 2147483648) (h1 : 0 ≤ x1 ∧ x1 < 16 ∧ x1 < ρ 83 82) (h2 : 0 ≤ x2 ∧ x2 < ρ 83 47) (hd : 4 ≤ d) : ∃ v w : Int, js_J E d 181 0 [(2, 0), (0, x1), (0, x2)] [] σ = js_r E (0, v) σ ∧ js_J E e 282 0 [(2, 83), (0, x1), (0, x2), (9, 0)] [] ρ = js_r E (0, w) (js_up ρ 83 0 0) ∧ js_w v = js_w w := by
  have hp := h.1.1.2.1
  have hN := hp.1.2.1
  have ho := h.1.2.1
  have hv := h.1.2.2.1.2.1
  obtain ⟨e1, e2⟩ := y_kept (d := d - 1) (m := ρ 83 82 - x1) (k := x1) hb h hem (by omega) h2 rfl (by omega)
  have w1 : js_w x1 = x1 := js_w_of (by omega) (by omega)
  have w2 : js_w x2 = x2 := js_w_of (by omega) (by omega)
  have wW : js_w (ρ 83 47) = ρ 83 47 := js_w_of (by omega) (by omega)
  have wn : js_w (ρ 83 82) = ρ 83 82 := js_w_of (by omega) (by omega)
  have wm : js_w (ρ 83 82 - 1 - x1) = ρ 83 82 - 1 - x1 := js_w_of (by omega) (by omega)
  have tm : (ρ 83 82 - 1 - x1).tmod 16 = (ρ 83 82 - x1 - 1) % 16 := by
    rw [Int.tmod_eq_emod_of_nonneg (by omega), show ρ 83 82 - 1 - x1 = ρ 83 82 - x1 - 1 by omega]
  have wi : js_w (4096 * ((ρ 83 82 - x1 - 1) % 16) + x2) = 4096 * ((ρ 83 82 - x1 - 1) % 16) + x2 := js_w_of (by omega) (by omega)
  refine ⟨_, ρ 126 (4096 * ((ρ 83 82 - x1 - 1) % 16) + x2), ?_, ?_, e2⟩
  · rw [b_181_0 hb h.1.1.1, w2, if_neg (show ¬ x2 < 0 by omega), hp.2.1.2.2.2.2, wW, if_pos h2.2, k_181_23 (by omega) (by rw [b_182_0, w1, if_neg (show ¬ x1 < 0 by omega), if_pos h1.2.1, hv.1, wn, if_pos h1.2.2]), b_181_26, if_neg (show ¬ js_w 1 = 0 by decide), k_181_45 (by omega) e1, b_181_48]
  · rw [b_282_0, hl, if_neg (show ¬ js_w 1 = 0 by decide), w2, if_neg (show ¬ x2 < 0 by omega), wW, if_pos h2.2, w1, if_neg (show ¬ x1 < 0 by omega), if_pos h1.2.1, wn, if_pos h1.2.2, b_282_42, if_neg (show ¬ js_w 1 = 0 by decide), b_282_53, if_neg (show ¬ js_w 1 = 0 by decide), wm, tm, wi, if_pos (show 0 ≤ 4096 * ((ρ 83 82 - x1 - 1) % 16) + x2 ∧ 4096 * ((ρ 83 82 - x1 - 1) % 16) + x2 < 65536 by omega)]
theorem y_register {x1 x2 : Int} (h : mh_R E Fu ac zc b N T σ ρ) (hx : (0 ≤ x1 ∧ x1 ≤ 1) ∧ 0 ≤ x2 ∧ x2 ≤ 3) (hd : 2 ≤ d) : ∃ v w : Int, js_J E d 184 0 [(2, 0), (0, x1), (0, x2), (9, 0), (9, 0)] [] σ = js_r E (1, v) σ ∧ js_J E e 284 0 [(2, 83), (0, x1), (0, x2), (9, 0)] [] ρ = js_r E (1, w) (js_up ρ 83 0 0) ∧ js_l v = js_l w := by
  have w1 : js_w x1 = x1 := js_w_of (by omega) (by omega)
  have w2 : js_w x2 = x2 := js_w_of (by omega) (by omega)
  have w3 : js_w (x1 + 1) = x1 + 1 := js_w_of (by omega) (by omega)
  obtain ⟨q1, q2⟩ := mh_cq h
  have z : ∀ a i : Int, ¬ (a = 83 ∧ i = 0) → js_up ρ 83 0 0 a i = ρ a i := fun a i g => js_up_ne _ g
  have er0 : js_J E e 284 0 [(2, 83), (0, x1), (0, x2), (9, 0)] [] ρ = (if js_w (ρ 83 77) = x1 + 1 then js_J E e 284 51 [(2, 83), (0, x1), (0, x2), (9, 0)] [(0, 1)] (js_up ρ 83 0 0) else js_J E e 284 51 [(2, 83), (0, x1), (0, x2), (9, 0)] [(0, 0)] (js_up ρ 83 0 0)) := by
    rw [b_284_0, w1, if_neg (show ¬ x1 < 0 by omega), if_neg (show ¬ 1 < x1 by omega), w2, if_neg (show ¬ x2 < 0 by omega), if_neg (show ¬ 3 < x2 by omega), b_284_24, if_neg (show ¬ 0 < js_w 0 by decide), w3]
  have hq : ∃ o : Int, js_isC E.1 (59 + 3 * x1) o ∧ js_l (σ (59 + 3 * x1) 0) = js_l (ρ 121 x1) ∧ js_l (σ (59 + 3 * x1) 1) = js_l (ρ 122 x1) := by
    by_cases q : x1 = 0
    · subst q
      exact ⟨1, js_c1 (r := 0) (Or.inl rfl), q1.1, q1.2.1⟩
    · have q3 : x1 = 1 := by omega
      subst q3
      exact ⟨58659, js_c2 (r := 0) (Or.inl rfl), q2.1, q2.2.1⟩
  obtain ⟨o, hC, hA, hB⟩ := hq
  have h58 : σ 58 0 = ρ 83 77 := by
    rcases h.2 with ⟨g, _⟩ | ⟨_, g⟩
    · rw [g.1, g.2.1]
    · exact g.1.1
  have ec0 : js_J E d 184 0 [(2, 0), (0, x1), (0, x2), (9, 0), (9, 0)] [] σ = (if x2 < 2 then (if x2 = 0 then js_r E (1, σ (59 + 3 * x1) 0) σ else js_r E (1, σ (59 + 3 * x1) 1) σ) else (if js_w (ρ 83 77) = x1 + 1 then js_J E d 184 82 [(2, 0), (0, x1), (0, x2), (2, 59 + 3 * x1), (9, 0)] [(0, 1)] σ else js_J E d 184 82 [(2, 0), (0, x1), (0, x2), (2, 59 + 3 * x1), (9, 0)] [(0, 0)] σ)) := by
    rw [b_184_0, w1, if_neg (show ¬ x1 < 0 by omega), if_neg (show ¬ 1 < x1 by omega), w2, if_neg (show ¬ x2 < 0 by omega), if_neg (show ¬ 3 < x2 by omega), k_184_36 (by omega) (c_of0 hx.1), b_184_39 hC, w2, h58, w3]
  have c2 : 0 ≤ x1 ∧ x1 < 2 := by omega
  by_cases t0 : x2 = 0
  · refine ⟨σ (59 + 3 * x1) 0, ρ 121 x1, by rw [ec0, if_pos (show x2 < 2 by omega), if_pos t0], ?_, hA⟩
    rw [er0]
    split <;> rw [b_284_51, w2, if_pos t0, w1, if_pos c2, z _ _ (by omega)]
  by_cases t1 : x2 = 1
  · refine ⟨σ (59 + 3 * x1) 1, ρ 122 x1, by rw [ec0, if_pos (show x2 < 2 by omega), if_neg t0], ?_, hB⟩
    rw [er0]
    split <;> rw [b_284_51, w2, if_neg t0, if_pos t1, w1, if_pos c2, z _ _ (by omega)]
  · by_cases r : js_w (ρ 83 77) = x1 + 1
    · have md : σ (59 + 3 * x1) 2 = ρ 83 78 ∧ σ (59 + 3 * x1) 3 = ρ 124 x1 := by
        rcases h.2 with ⟨g, _⟩ | ⟨_, g⟩
        · rw [g.2.1, show js_w 0 = 0 from rfl] at r
          omega
        · have e7 : ρ 83 77 = x1 + 1 := by
            rcases g.1.2 with q | q
            · rw [q, show js_w 1 = 1 by decide] at r
              omega
            · rw [q, show js_w 2 = 2 by decide] at r
              omega
          have m := g.2.2.2
          rw [e7, show (56 : Int) + 0 + 3 * (x1 + 1) = 59 + 3 * x1 by omega, show x1 + 1 - 1 = x1 by omega] at m
          exact ⟨m.1, m.2.1⟩
      by_cases t2 : x2 = 2
      · exact ⟨_, _, by rw [ec0, if_neg (show ¬ x2 < 2 by omega), if_pos r, b_184_82 hC, w2, if_pos t2, if_neg (show ¬ js_w 1 = 0 by decide), md.1], by rw [er0, if_pos r, b_284_51, w2, if_neg t0, if_neg t1, if_pos t2, if_neg (show ¬ js_w 1 = 0 by decide), z _ _ (by omega)], rfl⟩
      · exact ⟨_, _, by rw [ec0, if_neg (show ¬ x2 < 2 by omega), if_pos r, b_184_82 hC, w2, if_neg t2, if_neg (show ¬ js_w 1 = 0 by decide), md.2], by rw [er0, if_pos r, b_284_51, w2, if_neg t0, if_neg t1, if_neg t2, if_neg (show ¬ js_w 1 = 0 by decide), w1, if_pos c2, z _ _ (by omega)], rfl⟩
    · by_cases t2 : x2 = 2
      · exact ⟨-1, -1, by rw [ec0, if_neg (show ¬ x2 < 2 by omega), if_neg r, b_184_82 hC, w2, if_pos t2, if_pos (show js_w 0 = 0 from rfl)], by rw [er0, if_neg r, b_284_51, w2, if_neg t0, if_neg t1, if_pos t2, if_pos (show js_w 0 = 0 from rfl)], rfl⟩
      · exact ⟨0, 0, by rw [ec0, if_neg (show ¬ x2 < 2 by omega), if_neg r, b_184_82 hC, w2, if_neg t2, if_pos (show js_w 0 = 0 from rfl)], by rw [er0, if_neg r, b_284_51, w2, if_neg t0, if_neg t1, if_neg t2, if_pos (show js_w 0 = 0 from rfl)], rfl⟩
end YQ
