/-! part 99.zf: every e in step, where its operands are -/
theorem xe_mono {E : js_E} {b F : Int} {B : Int → Int} {X : Int → Prop} {J0 J1 : Nat} (h : xe_P E b F B X J0) (hj : J0 ≤ J1) : xe_P E b F B X J1 := fun d e σ ρ j h1 => h d e σ ρ j (by omega)
theorem y_term {E : js_E} {b F : Int} {B : Int → Int} {X : Int → Prop} {J0 : Nat} (hb : b = 0 ∨ b = 25) (hM : xm_P E b F B X J0) (hE : xe_P E b F B X (J0 + 1)) : xe_P E b F B X J0 := by
  intro d e σ ρ j hJ hx hn hR ht hp hd he
  have D0 := hR.2.2.2.2.1
  have D1 := hR.2.2.2.2.2
  have hj := rd_j hR
  have p0 := hn.2.2.2.2.2.2
  obtain ⟨hV, c7, c8⟩ := rd_V hR
  have H6 := y_225 (x1 := σ 1 2) (x2 := σ (23 + b) 15) (d := d) (e := e - 1 - 1 - 1 - 1 - 1 - 1) (D := ρ 83 10) hb hM hd (by omega) D1
  have H5 := y_224 (e := e - 1 - 1 - 1 - 1 - 1) hb ⟨D0, D1⟩ (by omega) (by omega) H6
  have H4 := y_223 (e := e - 1 - 1 - 1 - 1) hb ⟨D0, D1⟩ (by omega) (by omega) H5
  have H3 := y_222 (e := e - 1 - 1 - 1) hb ⟨D0, D1⟩ (by omega) (by omega) H4
  have H2 := y_221 (e := e - 1 - 1) hb ⟨D0, D1⟩ (by omega) (by omega) H3
  have H1 := y_220 (e := e - 1) hb ⟨D0, D1⟩ (by omega) (by omega) H2
  have hc := H1 σ ρ j 0 (9, 0) (9, 0) false hJ hx hn hR ⟨rfl, by omega, ⟨p0, Int.le_refl _, by omega⟩, fun k g1 g2 => by omega, ⟨fun h => absurd h (by decide), fun hh => by
    obtain ⟨k, g1, g2, _⟩ := hh
    omega⟩⟩ (by decide) (by omega)
  clear H1 H2 H3 H4 H5 H6
  rw [b_219_0, b_61_0 hb]
  rcases hc with ⟨σ1, ρ1, j1, n, lv, x4, x6, l, er, ec, h1, hlv, hlt, hx4, hx6, hx6'⟩ | ⟨ρ', vv, er, hf⟩
  · have l0 : lv = 0 := by
      have := lv_c_in true (ρ1 83 5)
      have e1 : lv = lv_c true (ρ1 83 5) := hlv
      omega
    subst l0
    clear hlv hlt
    have r1 := h1.1.1
    have ok1 := r1.2.2.1
    have hj1 := rd_j r1
    have y15 := h1.2.2.1.1.2.2.2
    have F01 := h1.1.2.2.2.1
    have G01 := h1.1.2.2.2.2.1
    obtain ⟨hV1, d7, d8⟩ := rd_V r1
    have mi := tk_m_in hV1
    have i63 : tk_m (ρ1 83 5) = 63 ↔ ρ1 83 5 = 63 := tk_m_inj hV1 (show tk_V 63 by unfold tk_V; omega)
    have w5 : js_w (ρ1 83 5) = ρ1 83 5 := js_w_of (by have := ok1.2.2.2.2.2.2.1; omega) (by have := ok1.2.2.2.2.2.2.2.1; omega)
    rw [ec, c_stay hb p0 (by omega) (by omega) hx6 (by omega) (fun k g1 g2 => by omega) (by decide) (by decide), b_61_236, if_neg (show ¬ 0 < js_w 0 by decide), b_61_246, if_pos (show js_w 0 = 0 from rfl), b_61_257, b_61_18, js_w_of (x := x4 + 1) (by omega) (by omega), if_pos (show x4 + 1 < 1000000 by omega), if_pos (show js_w 0 = 0 from rfl), b_61_263 hb, d7, js_w_of (x := tk_m (ρ1 83 5)) (by omega) (by omega), k_219_1 (by omega) er]
    -- the place of the e is noted
    have note : ∀ (σ2 ρ2 : js_S) (j2 : Nat) (n2 : Int) (t : tr_T), xr_R b F B σ ρ j σ2 ρ2 j2 n2 t → xr_R b F B σ ρ j (js_up σ2 (23 + b) 3 (σ 1 2)) ρ2 j2 n2 t ∧ js_up σ2 (23 + b) 3 (σ 1 2) (23 + b) 3 = ρ 83 6 := fun σ2 ρ2 j2 n2 t h => by
      refine ⟨?_, by rw [js_up_same, c8]⟩
      have k15 := h.2.2.1.1.2.2.2
      refine xr_frame (σ1 := σ) (ρ1 := ρ) (j1 := j) (σ2 := σ2) (ρ2 := ρ2) (j2 := j2) hb (xs_hg hx) (ef_R_refl _ _ _ _ _) (fun _ _ _ => rfl) (Int.le_refl _) (eg_R_refl _ _) rfl rfl (Nat.le_refl _) h (ef_R_23 (by decide)) (fun i _ _ => js_up_na _ (by omega)) (fun i g1 g2 => js_up_ni _ (by omega)) (by rw [js_up_ni _ (by decide)]; exact k15) (eg_R_refl _ _) rfl rfl h.1.2.2.1 (Nat.le_refl _) ?_ (Int.le_refl _)
      exact rd_R_of h.1.1 (fun i _ => js_up_na _ (by omega)) (fun a i _ g => js_up_na _ (by omega)) (fun _ _ _ => rfl) (fun _ => rfl)
    by_cases q : ρ1 83 5 = 63
    · rw [if_pos (i63.mpr q)]
      have hch := y_choice (d := d - 1) (e := e) hb (xe_mono hE (by omega)) hx hn ht hp (by omega) he h1 q
      rcases hch with ⟨σ2, ρ2, j2, n2, t, er2, ec2, h2⟩ | ⟨ρ', vv, er2, hf⟩
      · obtain ⟨k1, k2⟩ := note σ2 ρ2 j2 n2 t h2
        exact Or.inl ⟨_, ρ2, j2, n2, t, er2, by rw [k_61_276 hb (by omega) ec2, b_61_279 hb], k1, k2⟩
      · obtain ⟨s1, s2, σ', s3, s4⟩ := hf
        exact Or.inr ⟨ρ', vv, er2, s1, s2, σ', by rw [kt_61_276 hb (by omega) s3], s4⟩
    · rw [if_neg (fun hh => q (i63.mp hh)), b_61_279 hb, b_219_4, w5, if_neg q]
      obtain ⟨k1, k2⟩ := note σ1 ρ1 j1 n l (xk_xr h1)
      exact Or.inl ⟨_, ρ1, j1, n, l, rfl, rfl, k1, k2⟩
  · exact Or.inr ⟨ρ', vv, by rw [k_219_1 (by omega) er, r_term4F hf.1], hf⟩
