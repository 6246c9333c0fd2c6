/-! part 99.zzzzzzzz: probe by both -/
theorem lo_probe {E : js_E} {n z1 z2 z3 z4 : Int} {d e : Nat} {σ ρ : js_S} (h : LQ E n σ ρ) (hn : 0 ≤ n ∧ n ≤ 511) (h1 : -2147483648 ≤ z1 ∧ z1 < 2147483648) (h2 : -2147483648 ≤ z2 ∧ z2 < 2147483648) (h3 : -2147483648 ≤ z3 ∧ z3 < 2147483648) (h4 : -2147483648 ≤ z4 ∧ z4 < 2147483648) (hd : 100 ≤ d) (he : 100 ≤ e) : LO E n d 136 [(2, 0), (0, z1), (0, z2), (0, z3), (0, z4)] e 288 [(2, 83), (0, z1), (0, z2), (0, z3), (0, z4), (9, 0), (9, 0), (9, 0), (9, 0), (9, 0), (9, 0), (9, 0), (9, 0), (9, 0)] σ ρ := by
  have h' := h
  obtain ⟨_, _, b, hP, hl⟩ := h'
  have hP' := hP
  obtain ⟨hb, ⟨_, _, h56⟩, _⟩ := hP'
  have w1 : js_w z1 = z1 := js_w_of h1.1 h1.2
  have w2 : js_w z2 = z2 := js_w_of h2.1 h2.2
  have w3 : js_w z3 = z3 := js_w_of h3.1 h3.2
  have w4 : js_w z4 = z4 := js_w_of h4.1 h4.2
  have u : ∀ j : Int, j ≠ 0 → js_up ρ 83 0 0 83 j = ρ 83 j := fun j q => js_up_ni _ q
  rcases hl with h0 | ⟨⟨l1, l2, l3⟩, Fu, ac, zc, N, T, hm, hN, hG⟩
  · obtain ⟨⟨a1, a2⟩, _⟩ := h0
    refine lo_mk (v := -1) (w := -1) (z := 0) h ?_ ?_ rfl
    · rw [b_136_0, k_136_21 (by omega) (by rw [b_137_0 hb h56, a1, if_pos (show js_w 0 = 0 from rfl)]), b_136_24, if_pos (show js_w 0 = 0 from rfl)]
      simp only [ite_self]
    · rw [b_288_0, k_288_8 (by omega) (by rw [b_286_0, u 64 (by decide), a2, if_pos (show js_w 0 = 0 from rfl)]), b_288_11, if_pos (show js_w 0 = 0 from rfl)]
  · obtain ⟨hA, hh⟩ := hm
    have hA' := hA
    obtain ⟨⟨_, hpr, _⟩, _, ⟨⟨a3, a31, a32⟩, ⟨a4, a40⟩, a9, m, hf⟩, _⟩ := hA'
    have hN4 := hpr.1.2.1
    have h48 : ρ 83 48 = N := hpr.1.2.2.1
    have hN7 : σ (7 + b) 2 = N := hpr.1.2.2.2
    have wN : js_w N = N := js_w_of (by omega) (by omega)
    by_cases g1 : (z1 = 0 ∨ z1 = 1) ∧ -2 ≤ z2 ∧ z2 < N
    · have e37 : js_J E (d - 1) 137 0 [(2, 56), (0, z1), (0, z2)] [] σ = js_r E (0, 1) σ := by
        rw [b_137_0 hb h56, l1, if_neg (show ¬ js_w 1 = 0 by decide), w1, if_neg (by omega), if_neg (by omega), w2, if_neg (by omega), hN7, wN, if_pos g1.2.2]
      have e86 : js_J E (e - 1) 286 0 [(2, 83), (0, z1), (0, z2)] [] (js_up ρ 83 0 0) = js_r E (0, 1) (js_up ρ 83 0 0) := by
        rw [b_286_0, u 64 (by decide), l2, if_neg (show ¬ js_w 1 = 0 by decide), w1, if_neg (by omega), if_pos (by omega), w2, if_neg (by omega), u 48 (by decide), h48, wN, if_pos g1.2.2]
      by_cases g2 : 0 ≤ z3 ∧ 0 ≤ z4 ∧ z4 ≤ 4 ∧ ρ 83 77 = 0 ∧ ρ 83 81 = 0 ∧ ρ 83 85 = 0
      · obtain ⟨y3, y4, y5, y77, y81, y85⟩ := g2
        have h0 : mh_0 N σ ρ := by
          rcases hh with q | ⟨_, q⟩
          · exact q
          · have := q.1.2
            omega
        have m0 : σ 56 8 = 0 := by
          have q1 := hf.1.2.1
          have q2 := hf.1.2.2
          omega
        have hA0 : mh_A E Fu ac zc b N T σ (js_up ρ 83 0 0) := (mh_err hb ⟨hA, Or.inl h0⟩ (fun a i q => js_up_ne _ (by omega))).1
        have h00 : mh_0 N σ (js_up ρ 83 0 0) := ⟨⟨h0.1.1, by rw [u 77 (by decide)]; exact y77, h0.1.2.2.1, by rw [u 79 (by decide)]; exact h0.1.2.2.2⟩, h0.2.1, h0.2.2⟩
        have b82 : 0 ≤ js_up ρ 83 0 0 83 82 ∧ js_up ρ 83 0 0 83 82 < 2000000000 := by rw [u 82 (by decide)]; omega
        have e38 : js_J E (d - 1) 138 0 [(2, 56)] [] σ = js_r E (0, 1) σ := by
          rw [b_138_0, l1, if_neg (show ¬ js_w 1 = 0 by decide), h0.1.1, if_pos (show js_w 0 = 0 from rfl), a3, y81, if_pos (show js_w 0 = 0 from rfl), m0, if_pos (show js_w 0 = 0 from rfl)]
        obtain ⟨W, ρs, σ1, σA, ⟨k1, k2, k3, k4, k5⟩, ⟨p1, p2, p3, p4⟩, ⟨q1, q2, q3⟩, fr, eA, sA, lA, ec, er, c⟩ := y_pro0 (E := E) (d := d - 1) (e := e) (x1 := z1) (x2 := z2) (x3 := z3) (x4 := z4) hb hA0 h00 (by rw [u 85 (by decide)]; exact y85) b82 ⟨y3, h3.2⟩ (by omega) (by omega)
        have fin : ∃ (σ' ρ' : js_S) (v : Int), js_J E (d - 1) 139 0 [(2, 56), (0, z1), (0, z2), (0, z3), (0, z4), (9, 0), (9, 0), (9, 0)] [] σ = js_r E (0, v) σ' ∧ js_J E e 288 78 [(2, 83), (0, z1), (0, z2), (0, z3), (0, z4), (0, js_up ρ 83 0 0 83 82), (0, js_up ρ 83 0 0 83 83), (0, pe_B (js_up ρ 83 0 0)), (9, 0), (9, 0), (9, 0), (9, 0), (9, 0), (9, 0)] [(2, 83)] (js_up ρ 83 0 0) = js_r E (0, v) ρ' ∧ (∀ a i : Int, ¬ (65 ≤ a ∧ a ≤ 78) → a ≠ 80 → σ' a i = σ1 a i) ∧ pz_R (js_up ρ 83 0 0) ρ' := by
          rw [ec, er]
          rcases c with ⟨σP, ρP, t1, t2, t3, t4, t5, t6⟩ | ⟨m, σE, ρ3, hm, hm2, t1, t2, t3, t4⟩
          · exact y_proA hb p1 p2 p3 p4 q1 q2 q3 k1 k2 k3 k4 k5 eA sA lA t1 t2 t3 t4 t5 t6 (by rw [u 64 (by decide)]; exact l2) (by rw [u 81 (by decide)]; exact y81) (by rw [u 85 (by decide)]; exact y85) b82 g1.1 g1.2 ⟨y3, h3.2⟩ ⟨y4, y5⟩ (by omega) (by omega)
          · exact y_proB hb p1 p2 p3 p4 q1 q2 q3 k1 k2 k3 k4 k5 eA sA lA hm hm2 t1 t2 t3 t4 (by rw [u 64 (by decide)]; exact l2) (by rw [u 81 (by decide)]; exact y81) b82 g1.1 g1.2 ⟨y3, h3.2⟩ ⟨y4, y5⟩ (by omega) (by omega)
        obtain ⟨σ', ρ', v, f1, f2, f3, f4⟩ := fin
        have f5 : ∀ a i : Int, ¬ (65 ≤ a ∧ a ≤ 78) → a ≠ 80 → σ' a i = σ a i := fun a i r1 r2 => by rw [f3 a i r1 r2, fr a i (by omega)]
        have zz : pz_R ρ ρ' := by
          obtain ⟨⟨v1, v2, v3⟩, v4, v5⟩ := f4
          exact ⟨⟨v1, by rw [v2, u 82 (by decide)], by rw [v3, u 83 (by decide)]⟩, v4, fun a i r1 r2 r3 => by rw [v5 a i r1 r2 r3, js_up_ne _ (by omega)]⟩
        have L := pz_lq h hP l1 l2 l3 hN hG hA h0 y85 f5 zz y81
        have k0 : ¬ 0 < js_w 0 := by decide
        have k1' : ¬ js_w 1 = 0 := by decide
        refine ⟨σ', ρ', v, v, ?_, ?_, rfl, L, fun a i r1 r2 => f5 a i (by omega) (by omega), fun a i r => zz.2.2 a i (by omega) (by omega) (by omega)⟩
        · rw [b_136_0, w4, if_neg (by omega), if_neg (by omega), w3, if_neg (by omega), k_136_21 (by omega) e37, b_136_24, if_neg k1', k_136_31 (by omega) e38, b_136_34, if_neg k1', k_136_48 (by omega) f1, b_136_51]
        · rw [b_288_0, k_288_8 (by omega) e86, b_288_11, if_neg k1', u 77 (by decide), y77, if_neg k0, u 81 (by decide), y81, if_neg k0, u 85 (by decide), y85, if_neg k0, w3, if_neg (by omega), w4, if_neg (by omega), if_neg (by omega)]
          exact f2
      · have r77 : 0 ≤ ρ 83 77 ∧ ρ 83 77 ≤ 2 ∧ σ 58 0 = ρ 83 77 := by
          rcases hh with q | ⟨_, q⟩
          · have q1 := q.1.1
            have q2 := q.1.2.1
            omega
          · have q1 := q.1.1
            rw [Int.add_zero] at q1
            have q2 := q.1.2
            omega
        have r85 : 0 ≤ ρ 83 85 ∧ ρ 83 85 ≤ 8 ∧ σ 56 8 = ρ 83 85 := by
          have q0 := hf.1.1
          have q1 := hf.1.2.1
          have q2 := hf.1.2.2
          omega
        have x77 : js_w (ρ 83 77) = ρ 83 77 := js_w_of (by omega) (by omega)
        have x81 : js_w (ρ 83 81) = ρ 83 81 := js_w_of (by omega) (by omega)
        have x85 : js_w (ρ 83 85) = ρ 83 85 := js_w_of (by omega) (by omega)
        have k1' : ¬ js_w 1 = 0 := by decide
        refine lo_mk (v := -1) (w := -1) (z := 0) h ?_ ?_ rfl
        · rw [b_136_0, w4, w3]
          by_cases c1 : z4 < 0
          · rw [if_pos c1]
          · rw [if_neg c1]
            by_cases c2 : 4 < z4
            · rw [if_pos c2]
            · rw [if_neg c2]
              by_cases c3 : z3 < 0
              · rw [if_pos c3]
              · have e38 : js_J E (d - 1) 138 0 [(2, 56)] [] σ = js_r E (0, 0) σ := by
                  rw [b_138_0, l1, if_neg k1', r77.2.2, x77, a3, x81, r85.2.2, x85]
                  by_cases c4 : ρ 83 77 = 0
                  · rw [if_pos c4]
                    by_cases c5 : ρ 83 81 = 0
                    · rw [if_pos c5, if_neg (show ¬ ρ 83 85 = 0 by omega)]
                    · rw [if_neg c5]
                  · rw [if_neg c4]
                rw [if_neg c3, k_136_21 (by omega) e37, b_136_24, if_neg k1', k_136_31 (by omega) e38, b_136_34, if_pos (show js_w 0 = 0 from rfl)]
        · rw [b_288_0, k_288_8 (by omega) e86, b_288_11, if_neg k1', u 77 (by decide), x77, u 81 (by decide), x81, u 85 (by decide), x85, w3, w4]
          by_cases c1 : 0 < ρ 83 77
          · rw [if_pos c1]
          · rw [if_neg c1]
            by_cases c2 : 0 < ρ 83 81
            · rw [if_pos c2]
            · rw [if_neg c2]
              by_cases c3 : 0 < ρ 83 85
              · rw [if_pos c3]
              · rw [if_neg c3]
                by_cases c4 : z3 < 0
                · rw [if_pos c4]
                · rw [if_neg c4]
                  by_cases c5 : z4 < 0
                  · rw [if_pos c5]
                  · rw [if_neg c5, if_pos (show 4 < z4 by omega)]
    · refine lo_mk (v := -1) (w := -1) (z := 0) h ?_ ?_ rfl
      · have e37 : js_J E (d - 1) 137 0 [(2, 56), (0, z1), (0, z2)] [] σ = js_r E (0, 0) σ := by
          rw [b_137_0 hb h56, l1, if_neg (show ¬ js_w 1 = 0 by decide), w1, w2, hN7, wN]
          by_cases c1 : z1 < 0
          · rw [if_pos c1]
          · rw [if_neg c1]
            by_cases c2 : 1 < z1
            · rw [if_pos c2]
            · rw [if_neg c2]
              by_cases c3 : z2 < (-2)
              · rw [if_pos c3]
              · rw [if_neg c3, if_neg (show ¬ z2 < N by omega)]
        rw [b_136_0, k_136_21 (by omega) e37, b_136_24, if_pos (show js_w 0 = 0 from rfl)]
        simp only [ite_self]
      · have e86 : js_J E (e - 1) 286 0 [(2, 83), (0, z1), (0, z2)] [] (js_up ρ 83 0 0) = js_r E (0, 0) (js_up ρ 83 0 0) := by
          rw [b_286_0, u 64 (by decide), l2, if_neg (show ¬ js_w 1 = 0 by decide), w1, w2, u 48 (by decide), h48, wN]
          by_cases c1 : z1 < 0
          · rw [if_pos c1]
          · rw [if_neg c1]
            by_cases c2 : z1 < 2
            · rw [if_pos c2]
              by_cases c3 : z2 < (-2)
              · rw [if_pos c3]
              · rw [if_neg c3, if_neg (show ¬ z2 < N by omega)]
            · rw [if_neg c2]
        rw [b_288_0, k_288_8 (by omega) e86, b_288_11, if_pos (show js_w 0 = 0 from rfl)]
