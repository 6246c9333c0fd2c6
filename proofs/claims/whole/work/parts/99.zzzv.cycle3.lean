/-! part 99.zzzv: cycle in step -/
theorem sy_H_of {M b : Int} {σ σ' : js_S} (h : sy_H M σ b) (h1 : ∀ a i : Int, a = -1 ∨ a = 19 + b ∨ 137 ≤ a → σ' a i = σ a i) : sy_H M σ' b := fun i g1 g2 => by
  have e19 : σ' (19 + b) i = σ (19 + b) i := h1 _ _ (Or.inr (Or.inl rfl))
  rw [e19]
  rcases h i g1 g2 with k | ⟨k1, k2⟩
  · exact Or.inl k
  · have ge := js_sym_ge k1
    refine Or.inr ⟨js_desc_mono k1 (by rw [h1 _ _ (Or.inl rfl)]; exact Int.le_refl _) (fun _ => h1 _ _ (Or.inr (Or.inr ge))), ?_⟩
    rw [h1 _ _ (Or.inr (Or.inr ge))]
    exact k2
section CY3
variable {E : js_E} {d e : Nat} {b : Int} {B : Int → Int} {Bf : Int → Int → Int} {U : Int → Int} {fb fr : Int → tr_T} {σ ρ : js_S} {j : Nat} {x1 x2 x3 x4 x5 : Int}
/-- behind the BLOCK of the cycle -/
theorem y_cyend {σ2 ρ2 σ3 ρ3 : js_S} {j3 : Nat} {m : Int} {r : tr_T} (hb : b = 0 ∨ b = 25) (hD : dl_R E b B Bf U fb fr σ ρ j) (hR : rd_R σ ρ j) (h1 : ∀ a i : Int, ¬ (a = 1 ∧ (i = 1 ∨ i = 2 ∨ i = 3 ∨ i = 5 ∨ i = 11)) → a ≠ 2 → ¬ (a = 7 + b ∧ i = 3) → σ2 a i = σ a i) (h3 : σ2 (7 + b) 3 = σ (8 + b) 6) (r1 : ∀ a i : Int, ¬ (a = 83 ∧ (5 ≤ i ∧ i ≤ 10 ∨ i = 44)) → ρ2 a i = ρ a i) (hxn : xn_R b σ2 ρ2 (j + 1)) (H : bl_R E b (-1) B (cy_U b U σ ρ) (fun _ => False) 0 σ2 ρ2 (j + 1) σ3 ρ3 j3 m r) (hd : 10 ≤ d) (he : 3 ≤ e) : (∃ (σ' ρ' : js_S), js_J E d 112 42 [(2, 6 + b)] [] σ3 = js_J E d 112 108 [(2, 6 + b)] [] σ' ∧ js_J E e 189 167 [(2, 83), (0, x1), (0, x2), (0, x3), (0, x4), (0, x5), (9, 0)] [(0, m), (2, 83)] ρ3 = js_J E e 189 195 [(2, 83), (0, x1), (0, x2), (0, x3), (0, x4), (0, x5), (9, 0)] [(2, 83)] ρ' ∧ rd_R σ' ρ' j3 ∧ ρ' 83 5 = 1 ∧ fr_R b σ σ' ∧ rf_R ρ ρ' ∧ pg_R E b B Bf (cy_U b U σ ρ) fb fr r σ' ρ' j3) ∨ (∃ ρ' : js_S, js_J E e 189 167 [(2, 83), (0, x1), (0, x2), (0, x3), (0, x4), (0, x5), (9, 0)] [(0, m), (2, 83)] ρ3 = js_J E e 189 198 [(2, 83), (0, x1), (0, x2), (0, x3), (0, x4), (0, x5), (9, 0)] [] ρ' ∧ sF_P E b σ ρ ρ' (js_J E d 112 42 [(2, 6 + b)] [] σ3)) := by
  have hj := rd_j hR
  have fu := fn_u_0 (ρ := ρ) (ρ 83 11).toNat
  have hfu := hD.2.2.2.2.2.1.1
  have m0 := dl_m0 hD
  have r3 := H.1.1
  have hj3 := rd_j r3
  have q3 := H.1.2.1
  have sf3 := H.1.2.2.2.1
  have sg3 := H.1.2.2.2.2.1
  have y6 := H.2.2.1.1.2.2.1
  have y7 := hi_i H.2.2.1.1.2.2.2.1
  have tl := H.2.2.2.1.2.2.1.1
  have tcn := H.2.2.2.1.2.2.1.2.1
  have hY3 := H.2.2.2.2.1.1
  have b3 := hY3.1.1
  have b3' := hY3.1.2.1
  have lnr := st_ln_0 r
  have hxn0 := hxn
  unfold xn_R at hxn0
  have n6 := hxn0.1
  have n7 := hxn0.2.1
  clear hxn0
  push_cast at tl n6
  have y77 : 0 ≤ σ3 (8 + b) 7 ∧ σ3 (8 + b) 7 ≤ 400000 := by
    have a := hi_e y7
    clear y7
    omega
  have hz3 : cz_R σ3 b := ⟨by omega, by omega, y77.1, y77.2⟩
  obtain ⟨σ4, e4, h4⟩ := c_add (E := E) (d := d - 1) (op := 29) (x := 0) hb hz3 (by omega)
  have O4 := h4.2.2.2
  have u5 : ∀ a i : Int, ¬ (a = 7 + b ∧ i = 4) → js_up σ4 (7 + b) 4 (σ4 (8 + b) 7) a i = σ4 a i := fun a i g => js_up_ne _ g
  have u54 : js_up σ4 (7 + b) 4 (σ4 (8 + b) 7) (7 + b) 4 = σ4 (8 + b) 7 := js_up_same _ _ _ _
  rw [b_112_42 hb, k_112_52 hb (by omega) e4, b_112_55 hb]
  generalize js_up σ4 (7 + b) 4 (σ4 (8 + b) 7) = σ5 at u5 u54 ⊢
  have v5 : ∀ k : Int, σ5 (8 + b) k = σ4 (8 + b) k := fun k => u5 _ _ (by omega)
  have e88 : σ5 (8 + b) 8 = σ (8 + b) 8 := by
    rw [v5, O4 _ _ (by omega) (by omega), sf_88 hb sf3, h1 _ _ (by omega) (by omega) (by omega)]
  obtain ⟨σ6, e6, c15, c8, c7⟩ := c_endUnit (E := E) (d := d - 1) (σ := σ5) hb (by omega) (by omega)
  rw [e88] at c15 c7 c8
  rw [v5, v5] at c15
  rw [k_112_80 hb (by omega) e6, b_112_83 hb]
  have c6 : ∀ a i : Int, ¬ (a = 7 + b ∧ i = 4) → ¬ (a = 8 + b ∧ 7 ≤ i ∧ i ≤ 12) → ¬ (15 + b ≤ a ∧ a ≤ 16 + b ∧ i = σ (8 + b) 8) → σ6 a i = σ4 a i := fun a i q1 q2 q3 => by rw [c7 a i q2 q3, u5 a i q1]
  have c63 : ∀ a i : Int, ¬ (a = 7 + b ∧ i = 4) → ¬ (a = 8 + b ∧ 6 ≤ i ∧ i ≤ 12) → ¬ (9 + b ≤ a ∧ a ≤ 16 + b) → σ6 a i = σ3 a i := fun a i q1 q2 q3 => by rw [c6 a i q1 (by omega) (by omega), O4 a i (by omega) (by omega)]
  have w : ∀ a i : Int, ¬ (a = 83 ∧ i = 45) → js_up ρ3 83 45 m a i = ρ3 a i := fun a i g => js_up_ne _ g
  have w45 : js_up ρ3 83 45 m 83 45 = m := js_up_same _ _ _ _
  obtain ⟨hV, hc1, hc2⟩ := rd_V r3
  have w5 : js_w (ρ3 83 5) = ρ3 83 5 := by
    unfold tk_V at hV
    exact js_w_of (by omega) (by omega)
  have pl := rd_place r3
  rw [b_189_167, w5]
  generalize js_up ρ3 83 45 m = ρ4 at w w45 ⊢
  have hR6 : rd_R σ6 ρ4 j3 := rd_R_of r3 (fun i _ => c63 _ _ (by omega) (by omega) (by omega)) (fun a i _ _ => c63 _ _ (by omega) (by omega) (by omega)) (fun i _ _ => w _ _ (by omega)) (fun i => w _ _ (by omega))
  have k0 := tkq hR6 (k := 1) (by unfold tk_V; omega)
  rw [show tk_m 1 = 0 by decide] at k0
  have e5 : ρ4 83 5 = ρ3 83 5 := w _ _ (by omega)
  have e46 : ρ4 83 6 = ρ3 83 6 := w _ _ (by omega)
  have e411 : ρ4 83 11 = ρ3 83 11 := w _ _ (by omega)
  have o9 : ρ4 83 9 = 0 := hR6.2.2.1.2.2.1
  have frc : fr_R b σ σ6 := fr_R_trans (fr_R_of hb (fun a i q1 q2 q3 _ => h1 a i (by omega) q2 (by omega))) (fr_R_trans sf3.1 (fr_R_of hb (fun a i q1 q2 q3 _ => c63 a i (by omega) (by omega) (by omega))))
  have rfr : rf_R ρ ρ4 := fun a i q1 q2 => by rw [w a i (by omega), sg3 a i (by omega) (by omega) (by omega) (by omega) (by omega), r1 a i (by omega)]
  by_cases q : ρ3 83 5 = 1
  · rw [if_pos q, if_pos (k0.mpr (by omega)), b_189_187, o9, if_pos (show js_w 0 = 0 from rfl)]
    exact Or.inl ⟨σ6, ρ4, rfl, rfl, hR6, by omega, frc, rfr, cy_fin hb (by omega) hj hD h1 h3 r1 H h4 c6 (by rw [c7 _ _ (by omega) (by omega)]; exact u54) c8.1 c15 w w45 hxn.2.2.2.2.2.2⟩
  · have n0 : ¬ js_w (σ6 1 1) = 0 := fun h => q (by have := k0.mp h; omega)
    have hY6n : cx_n σ6 := by
      have a := hY3.2.2.1
      unfold cx_n at a ⊢
      rw [c63 _ _ (by omega) (by omega) (by omega), c63 _ _ (by omega) (by omega) (by omega)]
      exact a
    have hH6 : sy_H E.1 σ6 b := sy_H_of hY3.2.2.2.1 (fun a i g => c63 a i (by omega) (by omega) (by omega))
    obtain ⟨hF, h9e⟩ := rx_bad1 hR6.2.2.1 (k := 1) (by decide) (by decide)
    have t3 := tf_R_bad ρ4 1 (ρ4 83 6)
    have b11 : rx_bad ρ4 1 (ρ4 83 6) 83 11 = ρ4 83 11 := t3 _ _ (by omega)
    have hc26 := (rd_V hR6).2.2
    rw [if_neg q, if_neg n0, hc26, kt_112_105 (by omega) (c_fail hY6n (by omega)), ← e46, k_189_184 (by omega) (r_bad (by omega) (by omega)), r_189_187F hF]
    have f0 : sF_P E b σ ρ (rx_bad ρ4 1 (ρ4 83 6)) (th_P E σ6 (rx_bad ρ4 1 (ρ4 83 6) 83 9)) := ⟨rf_R_trans rfr (rf_R_tf t3), hF, by omega, by omega, σ6, rfl, frc, hH6, hY6n⟩
    rw [h9e] at f0
    exact Or.inr ⟨_, rfl, f0⟩
theorem y_cycle (hb : b = 0 ∨ b = 25) (hD : dl_R E b B Bf U fb fr σ ρ j) (hR : rd_R σ ρ j) (hd : 300 ≤ d) (he : 830 ≤ e) : (∃ (σ' ρ' : js_S) (j' : Nat) (r : tr_T), js_J E d 112 0 [(2, 6 + b)] [] σ = js_J E d 112 108 [(2, 6 + b)] [] σ' ∧ js_J E e 189 154 [(2, 83), (0, x1), (0, x2), (0, x3), (0, x4), (0, x5), (9, 0)] [(0, 314), (2, 83)] ρ = js_J E e 189 195 [(2, 83), (0, x1), (0, x2), (0, x3), (0, x4), (0, x5), (9, 0)] [(2, 83)] ρ' ∧ rd_R σ' ρ' j' ∧ ρ' 83 5 = 1 ∧ fr_R b σ σ' ∧ rf_R ρ ρ' ∧ pg_R E b B Bf (cy_U b U σ ρ) fb fr r σ' ρ' j') ∨ (∃ ρ' : js_S, js_J E e 189 154 [(2, 83), (0, x1), (0, x2), (0, x3), (0, x4), (0, x5), (9, 0)] [(0, 314), (2, 83)] ρ = js_J E e 189 198 [(2, 83), (0, x1), (0, x2), (0, x3), (0, x4), (0, x5), (9, 0)] [] ρ' ∧ sF_P E b σ ρ ρ' (js_J E d 112 0 [(2, 6 + b)] [] σ)) := by
  have m0 := dl_m0 hD
  have hY := hD.1.1.1
  have hj := rd_j hR
  have t314 : tk_m 314 = 214 := by decide
  obtain ⟨ρ1, e1, f1, hor⟩ := y_take (E := E) (d := d - 1) (e := e - 1) (k := 314) hY.2.2.1 hR (by omega) (by omega) (by unfold tk_V; omega) (by decide)
  rw [t314] at hor
  have x111 : ρ1 83 11 = ρ 83 11 := f1 _ _ (by omega)
  have rf1 : rf_R ρ ρ1 := fun a i q1 q2 => f1 a i (by omega)
  rw [b_112_0 hb, k_189_154 (by omega) e1]
  rcases hor with ⟨σ1, j1, c1, hR1, g1, hj1⟩ | ⟨hF1, c1⟩
  · subst hj1
    have u2 : ∀ a i : Int, ¬ (a = 7 + b ∧ i = 3) → js_up σ1 (7 + b) 3 (σ1 (8 + b) 6) a i = σ1 a i := fun a i g => js_up_ne _ g
    have u23 : js_up σ1 (7 + b) 3 (σ1 (8 + b) 6) (7 + b) 3 = σ1 (8 + b) 6 := js_up_same _ _ _ _
    have v2 : ∀ a i : Int, ¬ (a = 83 ∧ i = 44) → js_up ρ1 83 44 0 a i = ρ1 a i := fun a i g => js_up_ne _ g
    have v44 : js_up ρ1 83 44 0 83 44 = 0 := js_up_same _ _ _ _
    have told1 : σ1 (7 + b) 1 = ρ 83 11 := by
      rw [g1 _ _ (by omega) (by omega)]
      exact hY.2.2.2.2.1
    rw [k_112_7 (by omega) c1, b_112_10 hb, told1, b_189_157]
    generalize js_up σ1 (7 + b) 3 (σ1 (8 + b) 6) = σ2 at u2 u23 ⊢
    generalize js_up ρ1 83 44 0 = ρ2 at v2 v44 ⊢
    have h1 : ∀ a i : Int, ¬ (a = 1 ∧ (i = 1 ∨ i = 2 ∨ i = 3 ∨ i = 5 ∨ i = 11)) → a ≠ 2 → ¬ (a = 7 + b ∧ i = 3) → σ2 a i = σ a i := fun a i q1 q2 q3 => by rw [u2 a i q3, g1 a i (by omega) q2]
    have h3 : σ2 (7 + b) 3 = σ (8 + b) 6 := by rw [u23, g1 _ _ (by omega) (by omega)]
    have r1 : ∀ a i : Int, ¬ (a = 83 ∧ (5 ≤ i ∧ i ≤ 10 ∨ i = 44)) → ρ2 a i = ρ a i := fun a i q => by rw [v2 a i (by omega), f1 a i (by omega)]
    have hR2 : rd_R σ2 ρ2 (j + 1) := rd_R_of hR1 (fun i _ => u2 _ _ (by omega)) (fun a i _ _ => u2 _ _ (by omega)) (fun i _ _ => v2 _ _ (by omega)) (fun i => v2 _ _ (by omega))
    obtain ⟨hux, hxn⟩ := cy_ux (j := j + 1) hb (by omega) hj hD h1 h3 r1 v44
    have x211 : ρ2 83 11 = ρ 83 11 := r1 _ _ (by omega)
    have x210 : ρ2 83 10 = 0 := by
      rw [v2 _ _ (by omega), f1 _ _ (by omega)]
      exact hD.2.2.1.2.2.2.2.2.2.2.2
    have e10 : σ2 (8 + b) 10 = 0 := by
      rw [h1 _ _ (by omega) (by omega) (by omega)]
      exact hD.2.2.1.2.2.2.1
    have e15 : σ2 (23 + b) 15 = 0 := by
      rw [h1 _ _ (by omega) (by omega) (by omega)]
      exact hD.2.2.1.2.2.2.2.2.2.2.1
    have fr2 : fr_R b σ σ2 := fr_R_of hb (fun a i q1 q2 q3 _ => h1 a i (by omega) q2 (by omega))
    have rf2 : rf_R ρ ρ2 := fun a i q1 q2 => r1 a i (by omega)
    have blk := y_block (E := E) (d := d - 1) (e := e - 1) (J0 := 0) hb (y_stmt hb 0) (by omega) hux hxn hR2 (by omega) (by omega) (by omega) (by omega)
    rw [x211] at blk
    rcases blk with ⟨σ3, ρ3, j3, m, r, er, ec, H⟩ | ⟨ρ3, v, er, hf⟩
    · rw [k_112_39 hb (by omega) ec, k_189_164 (by omega) er]
      rcases y_cyend (E := E) (d := d) (e := e) (x1 := x1) (x2 := x2) (x3 := x3) (x4 := x4) (x5 := x5) hb hD hR h1 h3 r1 hxn H (by omega) (by omega) with ⟨σ', ρ', k1, k2, k3, k4, k5, k6, k7⟩ | ⟨ρ', k1, k2⟩
      · exact Or.inl ⟨σ', ρ', j3, r, k1, k2, k3, k4, k5, k6, k7⟩
      · exact Or.inr ⟨ρ', k1, k2⟩
    · have f0 := sF_up fr2 rf2 hf
      obtain ⟨a1, a2, a3, a4, σz, a5, a6⟩ := f0
      rw [kt_112_39 hb (by omega) a5, k_189_164 (by omega) er, r_189_167F a2 (by omega)]
      exact Or.inr ⟨_, rfl, sF_pw ⟨a1, a2, a3, a4, σz, rfl, a6⟩ (fun a i q1 q2 => js_up_ne _ (by omega))⟩
  · obtain ⟨ρ2, e2, p2⟩ := r_189_157F (E := E) (e := e) (x1 := x1) (x2 := x2) (x3 := x3) (x4 := x4) (x5 := x5) hF1 (by omega) (by omega) (by omega)
    rw [kt_112_7 (by omega) c1, e2]
    exact Or.inr ⟨ρ2, rfl, sF_pw ⟨rf1, hF1, by omega, by omega, σ, rfl, fr_R_refl b σ, hY.2.2.2.1, hY.2.2.1⟩ p2⟩
end CY3
