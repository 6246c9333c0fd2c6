/-! part 99.zg: numbers, true, false, ( e ), and what is no operand, in step -/
section OQ
variable {E : js_E} {d e : Nat} {b F : Int} {B : Int → Int} {X : Int → Prop} {σ ρ : js_S} {j : Nat}
theorem y_79_num (hp : σ (23 + b) 15 ≤ 6 * ρ 83 10 + 5) (hb : b = 0 ∨ b = 25) (hx : xs_R E b F B X σ ρ) (hn : xn_R b σ ρ j) (hR : rd_R σ ρ j) (hd : 10 ≤ d) (he : 6 ≤ e) (h5 : ρ 83 5 = 3) : xo_P E b F B σ ρ j (js_J E d 79 0 [(2, 23 + b), (9, 0)] [] σ) (js_J E e 226 0 [(2, 83), (9, 0)] [] ρ) := by
  have h8 := rd_8 hR h5
  have c7 := (rd_V hR).2.1
  have en := c_number (E := E) (d := d - 1) hR.1 hR.2.1 hR.2.2.1 h5
  have t3 : tk_m 3 = 3 := by decide
  rw [h5, t3] at c7
  obtain ⟨σ2, σ3, ρ1, e1, e2, e3, e4, h1⟩ := y_const (d := d - 1) (e := e - 1) (ty := 0) (lo := ρ 83 8) (hi := ρ 83 8) (a := ρ 83 8) hb hx hn hR (by omega) (by omega) (by omega) ⟨by decide, by decide, by omega, by omega, by omega⟩ ⟨by decide, fun h => absurd h (by decide)⟩ (by unfold zz_b; have := hR.2.2.2.2.2; omega)
  refine Or.inl ⟨σ3, rx_next ρ1, j + 1, ρ 83 33, _, ?_, ?_, h1⟩
  · rw [b_226_0, s_226_4_3 (by rw [h5]; decide), b_226_88, js_w_of (x := ρ 83 8) (by omega) (by omega), k_226_107 (by omega) e3, b_226_110, k_226_112 (by omega) e4, b_226_115]
  · have f1 : js_up (js_up (js_up σ (23 + b) 0 0) (23 + b) 1 (ρ 83 8)) (23 + b) 2 (ρ 83 8) (23 + b) 1 = ρ 83 8 := by rw [js_up_ni _ (by decide), js_up_same]
    have f2 : js_up (js_up (js_up σ (23 + b) 0 0) (23 + b) 1 (ρ 83 8)) (23 + b) 2 (ρ 83 8) (23 + b) 2 = ρ 83 8 := js_up_same _ _ _ _
    rw [b_79_0 hb, c7, s_79_9_3 (by decide), b_79_84 hb, k_79_90 (by omega) en, b_79_93 hb, k_79_97 (by omega) en, k_79_100 hb (by omega) (b_75_0 hb), b_79_103 hb, f1, f2, k_79_120 hb (by omega) e1, b_79_123 hb, k_79_127 (by omega) e2, b_79_130, b_79_251]
theorem y_79_bool (hp : σ (23 + b) 15 ≤ 6 * ρ 83 10 + 5) (hb : b = 0 ∨ b = 25) (hx : xs_R E b F B X σ ρ) (hn : xn_R b σ ρ j) (hR : rd_R σ ρ j) (hd : 10 ≤ d) (he : 6 ≤ e) (h5 : ρ 83 5 = 316 ∨ ρ 83 5 = 317) : xo_P E b F B σ ρ j (js_J E d 79 0 [(2, 23 + b), (9, 0)] [] σ) (js_J E e 226 0 [(2, 83), (9, 0)] [] ρ) := by
  have c7 := (rd_V hR).2.1
  have w5 : js_w (ρ 83 5) = ρ 83 5 := js_w_of (by omega) (by omega)
  obtain ⟨σ2, σ3, ρ1, e1, e2, e3, e4, h1⟩ := y_const (d := d - 1) (e := e - 1) (ty := 1) (lo := 0) (hi := 1) (a := if ρ 83 5 = 316 then 1 else 0) hb hx hn hR (by omega) (by omega) (by omega) ⟨by decide, by decide, by decide, by decide, by decide⟩ ⟨by decide, fun _ => ⟨rfl, rfl⟩⟩ (by unfold zz_b; have := hR.2.2.2.2.2; omega)
  have f1 : js_up (js_up (js_up σ (23 + b) 0 1) (23 + b) 1 0) (23 + b) 2 1 (23 + b) 1 = 0 := by rw [js_up_ni _ (by decide), js_up_same]
  have f2 : js_up (js_up (js_up σ (23 + b) 0 1) (23 + b) 1 0) (23 + b) 2 1 (23 + b) 2 = 1 := js_up_same _ _ _ _
  refine Or.inl ⟨σ3, rx_next ρ1, j + 1, ρ 83 33, _, ?_, ?_, h1⟩
  · rcases h5 with h | h
    · rw [if_pos h] at e3
      rw [b_226_0, s_226_4_316 (by rw [h]; decide), b_226_117, w5, if_pos h, b_226_137, k_226_139 (by omega) e3, b_226_142, k_226_144 (by omega) e4, b_226_147]
    · rw [if_neg (show ¬ ρ 83 5 = 316 by omega)] at e3
      rw [b_226_0, s_226_4_317 (by rw [h]; decide), b_226_117, w5, if_neg (show ¬ ρ 83 5 = 316 by omega), b_226_137, k_226_139 (by omega) e3, b_226_142, k_226_144 (by omega) e4, b_226_147]
  · rcases h5 with h | h
    · rw [if_pos h] at e1
      rw [b_79_0 hb, c7, h, s_79_9_216 (by decide), b_79_133, k_79_137 hb (by omega) (b_75_0 hb), b_79_140 hb, if_pos (by decide), b_79_157 hb, f1, f2, k_79_165 hb (by omega) e1, b_79_168 hb, k_79_172 (by omega) e2, b_79_175, b_79_251]
    · rw [if_neg (show ¬ ρ 83 5 = 316 by omega)] at e1
      rw [b_79_0 hb, c7, h, s_79_9_217 (by decide), b_79_133, k_79_137 hb (by omega) (b_75_0 hb), b_79_140 hb, if_neg (by decide), b_79_157 hb, f1, f2, k_79_165 hb (by omega) e1, b_79_168 hb, k_79_172 (by omega) e2, b_79_175, b_79_251]
theorem y_79_bad (hb : b = 0 ∨ b = 25) (hx : xs_R E b F B X σ ρ) (hR : rd_R σ ρ j) (hd : 10 ≤ d) (he : 6 ≤ e) (h5 : ρ 83 5 ≠ 2 ∧ ρ 83 5 ≠ 3 ∧ ρ 83 5 ≠ 40 ∧ ρ 83 5 ≠ 316 ∧ ρ 83 5 ≠ 317 ∧ ρ 83 5 ≠ 318 ∧ ρ 83 5 ≠ 319 ∧ ρ 83 5 ≠ 320 ∧ ρ 83 5 ≠ 321) : xo_P E b F B σ ρ j (js_J E d 79 0 [(2, 23 + b), (9, 0)] [] σ) (js_J E e 226 0 [(2, 83), (9, 0)] [] ρ) := by
  obtain ⟨hV, c7, c8⟩ := rd_V hR
  have mi := tk_m_in hV
  have ok := hR.2.2.1
  have w5 : js_w (ρ 83 5) = ρ 83 5 := js_w_of (by have := ok.2.2.2.2.2.2.1; omega) (by have := ok.2.2.2.2.2.2.2.1; omega)
  obtain ⟨a2, a3, a40, a316, a317, a318, a319, a320, a321⟩ := h5
  have n : ∀ k : Int, tk_V k → ρ 83 5 ≠ k → tk_m (ρ 83 5) ≠ tk_m k := fun k hk hne hh => hne ((tk_m_inj hV hk).mp hh)
  have n3 := n 3 (by unfold tk_V; omega) a3
  have n40 := n 40 (by unfold tk_V; omega) a40
  have n316 := n 316 (by unfold tk_V; omega) a316
  have n317 := n 317 (by unfold tk_V; omega) a317
  have n318 := n 318 (by unfold tk_V; omega) a318
  have n319 := n 319 (by unfold tk_V; omega) a319
  have n320 := n 320 (by unfold tk_V; omega) a320
  have n321 := n 321 (by unfold tk_V; omega) a321
  have hF := rx_bad1 ok (k := 1) (by decide) (by decide)
  refine Or.inr ⟨rx_bad ρ 1 (ρ 83 6), 0, ?_, hF.1, eg_R_tf (tf_R_bad _ _ _), σ, ?_, ef_R_refl _ _ _ _ _⟩
  · rw [b_226_0, s_226_4_d (by rw [w5]; exact ⟨a2, a3, a40, a316, a317, a318, a319, a320, a321⟩), b_226_188, k_226_194 (by omega) (r_bad (by have := ok.2.2.1; omega) (by have := ok.2.2.1; omega)), b_226_197]
  · rw [b_79_0 hb, c7, s_79_9_d (by rw [js_w_of (x := tk_m (ρ 83 5)) (by omega) (by omega)]; exact ⟨n3, n40, n316, n317, n318, n319, n320, n321⟩), b_79_236 hb, kt_79_248 (by omega) (c_fail hx.1.2.2.1 (by omega)), c8, hF.2]
    rfl
/-- a fault behind ( -/
theorem r_226_159F (h : rx_F ρ) (he : 5 ≤ e) {v : Int} : js_J E e 226 159 [(2, 83), (9, 0)] [(0, v)] ρ = js_r E (0, v) (js_up ρ 83 10 (ρ 83 10 - 1)) := by
  rw [b_226_159, k_226_163 (by omega) (r_leaveF h (by omega) (by decide) (by decide)), b_226_166]
theorem y_79_paren (hb : b = 0 ∨ b = 25) (hE : xe_P E b F B X (j + 1)) (hx : xs_R E b F B X σ ρ) (hn : xn_R b σ ρ j) (hR : rd_R σ ρ j) (ht : σ (8 + b) 10 ≤ 12 * ρ 83 10 + 3) (hp : σ (23 + b) 15 ≤ 6 * ρ 83 10 + 5) (hd : 4 * (65 - ρ 83 10) + 24 ≤ (d : Int)) (he : 12 * (65 - ρ 83 10) + 18 ≤ (e : Int)) (h5 : ρ 83 5 = 40) : xo_P E b F B σ ρ j (js_J E d 79 0 [(2, 23 + b), (9, 0)] [] σ) (js_J E e 226 0 [(2, 83), (9, 0)] [] ρ) := by
  have c7 := (rd_V hR).2.1
  have D0 := hR.2.2.2.2.1
  have D1 := hR.2.2.2.2.2
  have hj := rd_j hR
  have t40 : tk_m 40 = 40 := by decide
  have t41 : tk_m 41 = 41 := by decide
  rw [h5, t40] at c7
  obtain ⟨ρ1, e1, og1, hor1⟩ := y_open (E := E) (d := d - 1) (e := e - 1) (k := 40) hx.1.2.2.1 hR (by omega) (by omega) (by unfold tk_V; omega) (by decide)
  rw [t40] at hor1
  have G01 : eg_R (ρ 83 33) ρ ρ1 := eg_R_og og1
  rw [b_79_0 hb, c7, s_79_9_40 (by decide), b_79_178 hb, b_226_0, s_226_4_40 (by rw [h5]; decide), b_226_149, k_226_152 (by omega) e1, b_226_155]
  rcases hor1 with ⟨σ1, j1, c1, hR1, f1, hj1, hD64, hD1⟩ | ⟨hF1, c1⟩
  · subst hj1
    rw [k_79_184 (by omega) c1, b_79_187]
    have F01 : ∀ n t p : Int, ef_R b n t p σ σ1 := fun n t p => ef_R_of f1
    have v : ∀ i : Int, σ1 (8 + b) i = σ (8 + b) i := fun i => f1 _ _ (by omega) (by omega)
    have v6 := v 6
    have v10 := v 10
    have v15 : σ1 (23 + b) 15 = σ (23 + b) 15 := f1 _ _ (by omega) (by omega)
    have n33 : ρ1 83 33 = ρ 83 33 := og1 _ _ (by omega)
    have n44 : ρ1 83 44 = ρ 83 44 := og1 _ _ (by omega)
    have hx1 := xs_R_ef hb hx (F01 0 0 0) G01
    have hn1 : xn_R b σ1 ρ1 (j + 1) := by
      have v7 := v 7
      have v11 := v 11
      have v12 := v 12
      unfold xn_R at hn ⊢
      push_cast
      omega
    rcases hE (d - 1) (e - 1) σ1 ρ1 (j + 1) (Nat.le_refl _) hx1 hn1 hR1 (by omega) (by omega) (by omega) (by omega) with ⟨σ2, ρ2, j2, n, t, er, ec, h2, _⟩ | ⟨ρ', vv, er, hf⟩
    · have r2 := h2.1.1
      have F12 := h2.1.2.2.2.1
      have G12 := h2.1.2.2.2.2.1
      have dp := h2.1.2.2.1
      have m2 := h2.1.2.2.2.2.2.1
      have hx2 := xs_R_ef hb hx1 F12 G12
      have c10 := h2.2.2.1.2.1.1
      have c6 := h2.2.2.1.2.1.2.1
      have y15 := h2.2.2.1.1.2.2.2
      have ll := xt_ln_0 t
      obtain ⟨ρ3, e3, og3, hor3⟩ := y_close (E := E) (d := d - 1) (e := e - 1) (k := 41) hx2.1.2.2.1 r2 (by omega) (by omega) (by unfold tk_V; omega) (by decide) (by omega)
      rw [t41] at hor3
      have G23 : eg_R (ρ2 83 33) ρ2 ρ3 := eg_R_og og3
      rw [k_79_188 hb (by omega) ec, b_79_191 hb, k_226_156 (by omega) er, b_226_159, k_226_163 (by omega) e3, b_226_166]
      have F02 : ef_R b (σ (8 + b) 6) (σ (8 + b) 10) (σ (23 + b) 15) σ σ2 := ef_R_trans (F01 _ _ _) (ef_R_mono F12 (by omega) (by omega) (by omega))
      rcases hor3 with ⟨σ3, j3, c3, hR3, f3, hj3, hD3⟩ | ⟨hF3, c3⟩
      · subst hj3
        rw [k_79_197 (by omega) c3, b_79_200, b_79_251]
        refine Or.inl ⟨σ3, ρ3, j2 + 1, n, t, rfl, rfl, ?_⟩
        exact xr_frame (σ1 := σ1) (ρ1 := ρ1) (j1 := j + 1) (σ2 := σ2) (ρ2 := ρ2) (j2 := j2) hb (xs_hg hx) (F01 _ _ _) (fun i _ _ => v i) (by omega) G01 n33 n44 (by omega) h2 (ef_R_of f3) (fun i _ _ => f3 _ _ (by omega) (by omega)) (fun i _ _ => f3 _ _ (by omega) (by omega)) (by rw [f3 _ _ (by omega) (by omega), y15, v15]) G23 (og3 _ _ (by omega)) (og3 _ _ (by omega)) (by omega) (by omega) hR3 (by unfold zz_b; omega)
      · exact Or.inr ⟨ρ3, n, rfl, hF3, eg_R_trans G01 (eg_R_trans G12 G23 (by omega)) (by omega), σ2, by rw [kt_79_197 (by omega) c3], F02⟩
    · rw [k_226_156 (by omega) er, r_226_159F hf.1 (by omega)]
      have hf2 := xf_ef (F01 _ _ _) G01 (by omega) (by omega) (by omega) (by omega) hf
      obtain ⟨s1, s2, σ', s3, s4⟩ := xf_deep hf2
      exact Or.inr ⟨_, vv, rfl, s1, s2, σ', by rw [kt_79_188 hb (by omega) s3], s4⟩
  · rw [k_226_156 (by omega) (r_termF hF1 (by omega)), r_226_159F hF1 (by omega), kt_79_184 (by omega) c1]
    exact Or.inr ⟨_, 0, rfl, xf_deep ⟨hF1, G01, σ, rfl, ef_R_refl _ _ _ _ _⟩⟩
end OQ
