/-! part 99.ze: a whole e in step -/
section TM
variable {E : js_E} {d e : Nat} {b F : Int} {B : Int → Int} {X : Int → Prop}
theorem r_219_42F {ρ : js_S} (h : rx_F ρ) (he : 4 ≤ e) {x1 x2 x3 z : Int} : js_J E e 219 42 [(2, 83), (0, x1), (0, x2), (0, x3), (9, 0)] [(0, z)] ρ = js_r E (0, 0) (js_up ρ 83 10 (ρ 83 10 - 1)) := by
  rw [b_219_42 he, if_pos (rx_F_9 h)]
theorem r_219_38F {ρ : js_S} (h : rx_F ρ) (he : 9 ≤ e) {x1 x2 x3 : Int} : js_J E e 219 38 [(2, 83), (0, x1), (0, x2), (0, x3), (9, 0)] [] ρ = js_r E (0, 0) (js_up ρ 83 10 (ρ 83 10 - 1)) := by
  rw [b_219_38, k_219_39 (by omega) (r_termF h (by omega)), r_219_42F h (by omega)]
theorem r_219_31F {ρ : js_S} (h : rx_F ρ) (he : 9 ≤ e) {x1 x2 z : Int} : js_J E e 219 31 [(2, 83), (0, x1), (0, x2), (9, 0), (9, 0)] [(0, z)] ρ = js_r E (0, 0) (js_up ρ 83 10 (ρ 83 10 - 1)) := by
  rw [b_219_31, k_219_35 (by omega) (r_takeF h (by omega) (by decide) (by decide)), r_219_38F h he]
theorem r_219_27F {ρ : js_S} (h : rx_F ρ) (he : 9 ≤ e) {x1 x2 : Int} : js_J E e 219 27 [(2, 83), (0, x1), (0, x2), (9, 0), (9, 0)] [] ρ = js_r E (0, 0) (js_up ρ 83 10 (ρ 83 10 - 1)) := by
  rw [b_219_27, k_219_28 (by omega) (r_termF h (by omega)), r_219_31F h he]
/-- a fault within a choice -/
theorem xf_deep {σ ρ ρ' : js_S} {R : Option (Outcome × ip_W)} (h : xf_P E b σ ρ ρ' R) : xf_P E b σ ρ (js_up ρ' 83 10 (ρ' 83 10 - 1)) R := by
  obtain ⟨f1, f2, σ', f3, f4⟩ := h
  exact ⟨rx_F_up f1 (by decide) (by decide), eg_R_trans f2 (eg_R_up (by omega)) (Int.le_refl _), σ', by rw [js_up_ni _ (by decide)]; exact f3, f4⟩
theorem w_min {x y : Int} (h1 : -2147483648 ≤ x) (h2 : x < 2147483648) (h3 : -2147483648 ≤ y) (h4 : y < 2147483648) : (if js_w x < js_w y then x else y) = min x y := by
  rw [js_w_of h1 h2, js_w_of h3 h4]
  split <;> omega
theorem w_max {x y : Int} (h1 : -2147483648 ≤ x) (h2 : x < 2147483648) (h3 : -2147483648 ≤ y) (h4 : y < 2147483648) : (if js_w x < js_w y then y else x) = max x y := by
  rw [js_w_of h1 h2, js_w_of h3 h4]
  split <;> omega
/-- as xo_P, of an e -/
def xu_P (E : js_E) (b F : Int) (B : Int → Int) (σ ρ : js_S) (j : Nat) (Rc Rr : Option (Outcome × ip_W)) : Prop := (∃ (σ' ρ' : js_S) (j' : Nat) (n : Int) (e : tr_T), Rr = js_r E (0, n) ρ' ∧ Rc = js_r0 E σ' ∧ xr_R b F B σ ρ j σ' ρ' j' n e) ∨ (∃ (ρ' : js_S) (v : Int), Rr = js_r E (0, v) ρ' ∧ xf_P E b σ ρ ρ' Rc)
/-- c ? a : b, behind c -/
theorem y_choice {σ0 ρ0 σ1 ρ1 : js_S} {j0 j1 : Nat} {n : Int} {l : tr_T} (hb : b = 0 ∨ b = 25) (hE : xe_P E b F B X (j0 + 1)) (hx : xs_R E b F B X σ0 ρ0) (hn : xn_R b σ0 ρ0 j0) (ht : σ0 (8 + b) 10 ≤ 12 * ρ0 83 10) (hp : σ0 (23 + b) 15 ≤ 6 * ρ0 83 10) (hd : 4 * (65 - ρ0 83 10) + 24 ≤ (d : Int)) (he : 12 * (65 - ρ0 83 10) + 25 ≤ (e : Int)) (h1 : xk_R b F B σ0 ρ0 j0 σ1 ρ1 j1 n l) (h5 : ρ1 83 5 = 63) : xu_P E b F B σ0 ρ0 j0 (js_J E d 96 0 [(2, 23 + b), (9, 0), (9, 0), (9, 0), (9, 0), (9, 0), (9, 0), (9, 0), (9, 0), (9, 0)] [] σ1) (js_J E e 219 4 [(2, 83), (9, 0), (9, 0), (9, 0), (9, 0)] [(0, n)] ρ1) := by
  have r1 := h1.1.1
  have ok1 := r1.2.2.1
  have hj1 := rd_j r1
  have q1 := h1.1.2.1
  have F01 := h1.1.2.2.2.1
  have G01 := h1.1.2.2.2.2.1
  have m1 := h1.1.2.2.2.2.2.1
  have y15 := h1.2.2.1.1.2.2.2
  have c0 := h1.2.2.1.1.1
  have c10 := h1.2.2.1.2.1.1
  have c6 := h1.2.2.1.2.1.2.1
  have dp1 := h1.1.2.2.1
  have ll := xt_ln_0 l
  have hx1 := xs_R_ef hb hx F01 G01
  have hn1 := xn_next hn h1
  have D0 := r1.2.2.2.2.1
  have D1 := r1.2.2.2.2.2
  have hplace : 0 ≤ ρ1 83 6 ∧ ρ1 83 6 < 100000 := by
    have a1 := ok1.2.2.2.1
    have a2 := ok1.2.2.2.2.1
    have a3 := ok1.2.2.2.2.2.1
    have a4 := ok1.1.2.1
    omega
  have t63 : tk_m 63 = 63 := by decide
  have t58 : tk_m 58 = 58 := by decide
  obtain ⟨ρ2, e2, og2, hor2⟩ := y_open (E := E) (d := d - 1) (e := e - 1) (k := 63) hx1.1.2.2.1 r1 (by omega) (by omega) (by unfold tk_V; omega) (by decide)
  rw [t63] at hor2
  have G12 : eg_R (ρ1 83 33) ρ1 ρ2 := eg_R_og og2
  rw [b_96_0 hb, b_219_4, h5, if_pos (show js_w 63 = 63 by decide), k_219_24 (by omega) e2, (rd_V r1).2.2, c0]
  rcases hor2 with ⟨σ2, j2, c2, hR2, f2, hj2, hD64, hD1⟩ | ⟨hF2, c2⟩
  · subst hj2
    rw [k_96_19 (by omega) c2, b_96_22 hb]
    have F12 : ∀ n t p : Int, ef_R b n t p σ1 σ2 := fun n t p => ef_R_of f2
    have v2 : ∀ i : Int, σ2 (8 + b) i = σ1 (8 + b) i := fun i => f2 _ _ (by omega) (by omega)
    have v26 := v2 6
    have hz1 := xn_cz hn1 r1
    have hz2 : cz_R σ2 b := by unfold cz_R; rw [v2, v2]; exact hz1
    obtain ⟨σ3, e3, k3⟩ := c_add (E := E) (d := d - 1) (σ := σ2) (op := 25) (x := 0) hb hz2 (by omega)
    have kO3 := k3.2.2.2
    rw [k_96_29 hb (by omega) e3, b_96_32 hb, b_219_27]
    have F13 : ef_R b (σ1 (8 + b) 6) (σ1 (8 + b) 10) (σ1 (23 + b) 15) σ1 σ3 := ef_R_trans (F12 _ _ _) (ef_R_em k3 (by omega))
    have F03 : ef_R b (σ0 (8 + b) 6) (σ0 (8 + b) 10) (σ0 (23 + b) 15) σ0 σ3 := ef_R_trans F01 (ef_R_mono F13 (by omega) (by omega) (by omega))
    have G02 : eg_R (ρ0 83 33) ρ0 ρ2 := eg_R_trans G01 G12 m1
    have hR3 : rd_R σ3 ρ2 (j1 + 1) := rd_R_of hR2 (fun i _ => kO3 _ _ (by omega) (by omega)) (fun a i _ _ => kO3 _ _ (by omega) (by omega)) (fun _ _ _ => rfl) (fun _ => rfl)
    have hx3 := xs_R_ef hb hx F03 G02
    have n33 : ρ2 83 33 = ρ1 83 33 := og2 _ _ (by omega)
    have n44 : ρ2 83 44 = ρ1 83 44 := og2 _ _ (by omega)
    have a6 : σ3 (8 + b) 6 = σ1 (8 + b) 6 + 1 := by rw [k3.1, v2]
    have a7 : nt_P (σ3 (8 + b) 7 = min 400000 (σ1 (8 + b) 7 + 1)) := by show σ3 (8 + b) 7 = _; rw [k3.2.1, v2]
    have aO : ∀ i : Int, i = 8 ∨ 10 ≤ i ∧ i ≤ 12 → σ3 (8 + b) i = σ1 (8 + b) i := fun i hi => by rw [kO3 _ _ (by omega) (by omega), v2]
    have a15 : σ3 (23 + b) 15 = σ1 (23 + b) 15 := by rw [kO3 _ _ (by omega) (by omega), f2 _ _ (by omega) (by omega)]
    have a10 := aO 10 (by omega)
    have hn3 : xn_R b σ3 ρ2 (j1 + 1) := by
      have a11 := aO 11 (by omega)
      have a12 := aO 12 (by omega)
      have a7' : σ3 (8 + b) 7 = min 400000 (σ1 (8 + b) 7 + 1) := a7
      unfold xn_R at hn1 ⊢
      push_cast
      omega
    rcases hE (d - 1) (e - 1) σ3 ρ2 (j1 + 1) (by omega) hx3 hn3 hR3 (by omega) (by omega) (by omega) (by omega) with ⟨σ4, ρ4, j4, n2, ta, er4, ec4, h2, _⟩ | ⟨ρ', vv, er4, hf⟩
    · rw [k_96_43 hb (by omega) ec4, b_96_46 hb, k_219_28 (by omega) er4, b_219_31]
      have r4 := h2.1.1
      have F34 := h2.1.2.2.2.1
      have G24 := h2.1.2.2.2.2.1
      have q2 := h2.1.2.1
      have d10 := h2.2.2.1.2.1.1
      have d6 := h2.2.2.1.2.1.2.1
      have y15b := h2.2.2.1.1.2.2.2
      have la := xt_ln_0 ta
      have m2 := h2.1.2.2.2.2.2.1
      have dp4 := h2.1.2.2.1
      have hx4 := xs_R_ef hb hx3 F34 G24
      have hn4 := xn_next hn3 h2
      have F04 : ef_R b (σ0 (8 + b) 6) (σ0 (8 + b) 10) (σ0 (23 + b) 15) σ0 σ4 := ef_R_trans F03 (ef_R_mono F34 (by omega) (by omega) (by omega))
      have G04 : eg_R (ρ0 83 33) ρ0 ρ4 := eg_R_trans G02 G24 (by omega)
      obtain ⟨ρ5, e5, o5, hor5⟩ := y_take (E := E) (d := d - 1) (e := e - 1) (k := 58) hx4.1.2.2.1 r4 (by omega) (by omega) (by unfold tk_V; omega) (by decide)
      rw [t58] at hor5
      have G45 : eg_R (ρ4 83 33) ρ4 ρ5 := eg_R_t9 o5
      have G05 : eg_R (ρ0 83 33) ρ0 ρ5 := eg_R_trans G04 G45 (by omega)
      rw [k_219_35 (by omega) e5]
      rcases hor5 with ⟨σ5, j5, c5, hR5, f5, hj5⟩ | ⟨hF5, c5⟩
      · subst hj5
        rw [k_96_70 (by omega) c5, b_96_73 hb, b_219_38]
        have v5 : ∀ i : Int, σ5 (8 + b) i = σ4 (8 + b) i := fun i => f5 _ _ (by omega) (by omega)
        have v56 := v5 6
        have hz4 := xn_cz hn4 r4
        have hz5 : cz_R σ5 b := by unfold cz_R; rw [v5, v5]; exact hz4
        obtain ⟨σ6, e6, k6⟩ := c_add (E := E) (d := d - 1) (σ := σ5) (op := 24) (x := 0) hb hz5 (by omega)
        have kO6 := k6.2.2.2
        rw [k_96_80 hb (by omega) e6, b_96_83 hb, v2, v5]
        have s7 : js_up σ6 (8 + b) 7 (σ3 (8 + b) 7) (8 + b) 7 = σ3 (8 + b) 7 := js_up_same _ _ _ _
        have sO : ∀ a i : Int, ¬ (a = 8 + b ∧ i = 7) → js_up σ6 (8 + b) 7 (σ3 (8 + b) 7) a i = σ6 a i := fun a i h => js_up_ne _ h
        generalize js_up σ6 (8 + b) 7 (σ3 (8 + b) 7) = σ7 at s7 sO ⊢
        have s6 : σ7 (8 + b) 6 = σ4 (8 + b) 6 + 1 := by rw [sO _ _ (by omega), k6.1, v5]
        have hsz : σ4 (8 + b) 6 ≤ 5000 * j4 := hn4.1.2
        have hj4 := rd_j r4
        have b73 : 0 ≤ σ3 (8 + b) 7 ∧ σ3 (8 + b) 7 ≤ 400000 := hn3.2.1
        have z10 := hn1.1.1
        have hz7 : cz_R σ7 b := by unfold cz_R; omega
        obtain ⟨σ8, e8, hl1, hl2⟩ := c_land (E := E) (d := d - 1) (σ := σ7) (x := σ1 (8 + b) 6) hb hz7 z10 (by omega) (by omega)
        rw [k_96_108 hb (by omega) e8, b_96_111]
        have F48 : ∀ a i : Int, ¬ (a = 1 ∧ (i = 1 ∨ i = 2 ∨ i = 3 ∨ i = 5 ∨ i = 11)) → a ≠ 2 → ¬ (a = 8 + b ∧ (i = 6 ∨ i = 7)) → ¬ (9 + b ≤ a ∧ a ≤ 14 + b ∧ (i = σ4 (8 + b) 6 ∨ i = σ1 (8 + b) 6)) → σ8 a i = σ4 a i := fun a i g1 g2 g3 g4 => by rw [hl2 _ _ (by omega), sO _ _ (by omega), kO6 _ _ (by omega) (by omega), f5 _ _ (by omega) g2]
        have F48' : ∀ a : Int, 9 + b ≤ a → a ≤ 14 + b → a ≠ 10 + b → σ8 a (σ1 (8 + b) 6) = σ4 a (σ1 (8 + b) 6) := fun a g1 g2 g3 => by rw [hl2 _ _ (by omega), sO _ _ (by omega), kO6 _ _ (by omega) (by omega), f5 _ _ (by omega) (by omega)]
        have b6 : σ8 (8 + b) 6 = σ4 (8 + b) 6 + 1 := by rw [hl2 _ _ (by omega), s6]
        have b7 : σ8 (8 + b) 7 = σ3 (8 + b) 7 := by rw [hl2 _ _ (by omega), s7]
        have bj : σ4 (8 + b) 6 < 8192 → σ8 (9 + b) (σ4 (8 + b) 6) = 24 ∧ σ8 (11 + b) (σ4 (8 + b) 6) = 0 ∧ σ8 (12 + b) (σ4 (8 + b) 6) = 1 ∧ σ8 (13 + b) (σ4 (8 + b) 6) = 0 ∧ σ8 (14 + b) (σ4 (8 + b) 6) = 0 := fun hh => by
          obtain ⟨i1, i2, i3, i4, i5, i6⟩ := k6.2.2.1 (by rw [v5]; exact hh)
          rw [v5] at i1 i3 i4 i5 i6
          rw [hl2 _ _ (by omega), hl2 _ _ (by omega), hl2 _ _ (by omega), hl2 _ _ (by omega), hl2 _ _ (by omega), sO _ _ (by omega), sO _ _ (by omega), sO _ _ (by omega), sO _ _ (by omega), sO _ _ (by omega)]
          exact ⟨i1, i3, i4, i5, i6⟩
        have bl : σ1 (8 + b) 6 < 8192 → σ8 (10 + b) (σ1 (8 + b) 6) = σ4 (8 + b) 6 + 1 := fun hh => by rw [hl1 hh, s6]
        have b8 : ∀ i : Int, i = 8 ∨ 10 ≤ i ∧ i ≤ 12 → σ8 (8 + b) i = σ4 (8 + b) i := fun i hi => F48 _ _ (by omega) (by omega) (by omega) (by omega)
        have b15 : σ8 (23 + b) 15 = σ4 (23 + b) 15 := F48 _ _ (by omega) (by omega) (by omega) (by omega)
        have b10 := b8 10 (by omega)
        have hR8 : rd_R σ8 ρ5 (j4 + 1) := rd_R_of hR5 (fun i _ => by rw [hl2 _ _ (by omega), sO _ _ (by omega), kO6 _ _ (by omega) (by omega)]) (fun a i _ _ => by rw [hl2 _ _ (by omega), sO _ _ (by omega), kO6 _ _ (by omega) (by omega)]) (fun _ _ _ => rfl) (fun _ => rfl)
        have E48 : ef_R b (σ0 (8 + b) 6) (σ0 (8 + b) 10) (σ0 (23 + b) 15) σ4 σ8 := fun a i g => F48 a i (fun hh => g (ef_D1 hh)) (fun hh => g (ef_D2 hh)) (fun hh => g (ef_D8 ⟨hh.1, by omega⟩)) (fun hh => g (ef_D9 ⟨hh.1, hh.2.1, by omega⟩))
        have F08 := ef_R_trans F04 E48
        have hx8 := xs_R_ef hb hx F08 G05
        have m33 : ρ5 83 33 = ρ4 83 33 := o5 _ _ (by omega)
        have m44 : ρ5 83 44 = ρ4 83 44 := o5 _ _ (by omega)
        have m10 : ρ5 83 10 = ρ4 83 10 := o5 _ _ (by omega)
        have hn8 : xn_R b σ8 ρ5 (j4 + 1) := by
          have b11 := b8 11 (by omega)
          have b12 := b8 12 (by omega)
          unfold xn_R at hn4 ⊢
          push_cast
          omega
        have lg : σ6 (8 + b) 7 = min 400000 (σ4 (8 + b) 7 + 1) := by rw [k6.2.1, v5]
        have lg' : 0 ≤ σ6 (8 + b) 7 ∧ σ6 (8 + b) 7 ≤ 400000 := by
          have := hn4.2.1
          omega
        have lgn : nt_P (σ6 (8 + b) 7 = min 400000 (σ4 (8 + b) 7 + 1)) := lg
        clear lg
        rcases hE (d - 1) (e - 1) σ8 ρ5 (j4 + 1) (by omega) hx8 hn8 hR8 (by omega) (by omega) (by omega) (by omega) with ⟨σ9, ρ9, j9, n3, tb, er9, ec9, h3, _⟩ | ⟨ρ', vv, er9, hf⟩
        · rw [k_96_112 hb (by omega) ec9, k_219_39 (by omega) er9]
          have r9 := h3.1.1
          have ok9 := r9.2.2.1
          have hj9 := rd_j r9
          have F89 := h3.1.2.2.2.1
          have G59 := h3.1.2.2.2.2.1
          have q3 := h3.1.2.1
          have e10 := h3.2.2.1.2.1.1
          have e6' := h3.2.2.1.2.1.2.1
          have y15c := h3.2.2.1.1.2.2.2
          have lb := xt_ln_0 tb
          have m3 := h3.1.2.2.2.2.2.1
          have m3' := h3.1.2.2.2.2.2.2
          have m2' := h2.1.2.2.2.2.2.2
          have m1' := h1.1.2.2.2.2.2.2
          have dp9 := h3.1.2.2.1
          have g0 := h3.2.2.1.1.1
          have g1' := h3.2.2.1.1.2.1
          have g2' := h3.2.2.1.1.2.2.1
          have f0 := h2.2.2.1.1.1
          have f1 := h2.2.2.1.1.2.1
          have f2' := h2.2.2.1.1.2.2.1
          have yl := h1.2.2.2.2.2.2.1
          have ya := h2.2.2.2.2.2.2.1
          have yb := h3.2.2.2.2.2.2.1
          have hzz : 2 + xt_dp l ≤ zz_b b σ0 ρ0 + 2 ∧ 2 + xt_dp ta ≤ zz_b b σ0 ρ0 + 2 ∧ 2 + xt_dp tb ≤ zz_b b σ0 ρ0 + 2 := by
            have a1 := xk_zz h1
            have a2 := xr_zz h2
            have a3 := xr_zz h3
            unfold zz_b
            omega
          have hx9 := xs_R_ef hb hx8 F89 G59
          have hn9 := xn_next hn8 h3
          have nd1 := xt_nd_in h1.2.2.2.1 h1.2.2.2.2.1.1
          have nd2 := xt_nd_in h2.2.2.2.1 h2.2.2.2.2.1.1
          have nd3 := xt_nd_in h3.2.2.2.1 h3.2.2.2.2.1.1
          have w1 : ∀ a : Int, 100 ≤ a → a ≤ 106 → ρ9 a n = ρ1 a n := fun a x1 x2 => by rw [G59 _ _ (by omega) (by omega), G45 _ _ (by omega) (by omega), G24 _ _ (by omega) (by omega), G12 _ _ (by omega) (by omega)]
          have w2 : ∀ a : Int, 100 ≤ a → a ≤ 106 → ρ9 a n2 = ρ4 a n2 := fun a x1 x2 => by rw [G59 _ _ (by omega) (by omega), G45 _ _ (by omega) (by omega)]
          have hnod := hn.2.2.2.2.1
          have h99 : ρ9 83 9 = 0 := ok9.2.2.1
          have F09 : ef_R b (σ0 (8 + b) 6) (σ0 (8 + b) 10) (σ0 (23 + b) 15) σ0 σ9 := ef_R_trans F08 (ef_R_mono F89 (by omega) (by omega) (by omega))
          have G09 : eg_R (ρ0 83 33) ρ0 ρ9 := eg_R_trans G05 G59 (by omega)
          have gO : ∀ a i : Int, ¬ (a = 83 ∧ i = 10) → js_up ρ9 83 10 (ρ9 83 10 - 1) a i = ρ9 a i := fun a i h => js_up_ne _ h
          have g10 : js_up ρ9 83 10 (ρ9 83 10 - 1) 83 10 = ρ9 83 10 - 1 := js_up_same _ _ _ _
          have G9x : eg_R (ρ9 83 33) ρ9 (js_up ρ9 83 10 (ρ9 83 10 - 1)) := eg_R_up (by omega)
          rw [b_219_42 (by omega), h99, if_neg (show ¬ 0 < js_w 0 by decide), js_w_of (x := n) (by omega) (by omega), if_pos (show 0 ≤ n ∧ n < 66000 by omega), w1 101 (by decide) (by decide), nd1.2.2.1, js_w_of (x := xt_ty l) (by omega) (by omega), js_w_of (x := n2) (by omega) (by omega), if_pos (show 0 ≤ n2 ∧ n2 < 66000 by omega), js_w_of (x := n3) (by omega) (by omega), if_pos (show 0 ≤ n3 ∧ n3 < 66000 by omega), w2 101 (by decide) (by decide), nd2.2.2.1, nd3.2.2.1, js_w_of (x := xt_ty ta) (by omega) (by omega), js_w_of (x := xt_ty tb) (by omega) (by omega)]
          rw [b_96_115 hb, js_w_of (x := xt_ty l) (by omega) (by omega), f0, js_w_of (x := xt_ty ta) (by omega) (by omega), g0, js_w_of (x := xt_ty tb) (by omega) (by omega)]
          -- types that don't go together
          have bad : ∀ x5 x6 x7 x8 : Int, xu_P E b F B σ0 ρ0 j0 (js_J E d 96 129 [(2, 23 + b), (0, ρ1 83 6), (0, xt_ty l), (0, σ1 (8 + b) 6), (0, σ3 (8 + b) 7), (0, x5), (0, x6), (0, x7), (0, x8), (0, σ6 (8 + b) 7)] [] σ9) (js_J E e 219 89 [(2, 83), (0, n), (0, ρ1 83 6), (0, n2), (0, n3)] [] (js_up ρ9 83 10 (ρ9 83 10 - 1))) := fun x5 x6 x7 x8 => by
            have h69 : js_up ρ9 83 10 (ρ9 83 10 - 1) 83 9 = 0 := by rw [gO _ _ (by omega)]; exact h99
            obtain ⟨hF, h9e⟩ := rx_bad_new (τ := js_up ρ9 83 10 (ρ9 83 10 - 1)) (k := 5) (p := ρ1 83 6) h69 (by decide) (by decide) hplace.1 hplace.2
            refine Or.inr ⟨rx_bad (js_up ρ9 83 10 (ρ9 83 10 - 1)) 5 (ρ1 83 6), 0, ?_, hF, ?_, σ9, ?_, F09⟩
            · rw [b_219_89, k_219_92 (by omega) (r_bad (by omega) (by omega)), b_219_95]
            · exact eg_R_trans G09 (eg_R_trans (N' := ρ0 83 33) (eg_R_up (by omega)) (eg_R_tf (tf_R_bad _ _ _)) (Int.le_refl _)) (Int.le_refl _)
            · rw [b_96_129 hb, kt_96_135 (by omega) (c_fail hx9.1.2.2.1 (by omega)), h9e]
              rfl
          by_cases t1 : xt_ty l = 1
          · by_cases t2 : xt_ty ta = xt_ty tb
            · rw [if_pos t1, if_pos t2, if_pos t1, if_pos t2]
              -- both go on
              have eqlo : (if js_w (ρ9 105 n3) < js_w (ρ9 105 n2) then ρ9 105 n3 else ρ9 105 n2) = min (xt_lo tb) (xt_lo ta) := by
                rw [w2 105 (by decide) (by decide), nd2.2.2.2.1, nd3.2.2.2.1, w_min (by omega) (by omega) (by omega) (by omega)]
              have eqhi : (if js_w (ρ9 106 n2) < js_w (ρ9 106 n3) then ρ9 106 n3 else ρ9 106 n2) = max (xt_hi ta) (xt_hi tb) := by
                rw [w2 106 (by decide) (by decide), nd2.2.2.2.2, nd3.2.2.2.2, w_max (by omega) (by omega) (by omega) (by omega)]
              rw [eqlo, eqhi, js_w_of (x := min (xt_lo tb) (xt_lo ta)) (by omega) (by omega), js_w_of (x := max (xt_hi ta) (xt_hi tb)) (by omega) (by omega)]
              have h69 : js_up ρ9 83 10 (ρ9 83 10 - 1) 83 9 = 0 := by rw [gO _ _ (by omega)]; exact h99
              have h633 : js_up ρ9 83 10 (ρ9 83 10 - 1) 83 33 = ρ9 83 33 := gO _ _ (by omega)
              have hR10 := rd_deep (v := ρ9 83 10 - 1) r9 (by omega) (by omega)
              have n5e : σ9 1 5 = ρ9 83 10 := r9.2.2.2.1
              obtain ⟨ρ12, e12, hw⟩ := r_node (E := E) (e := e - 1) (ρ := js_up ρ9 83 10 (ρ9 83 10 - 1)) (k := 8) (ty := xt_ty ta) (lo := min (xt_lo tb) (xt_lo ta)) (hi := max (xt_hi ta) (xt_hi tb)) (a := n) (b := n2) (c := n3) h69 (by omega) (by omega) (by decide) (by decide)
              rw [k_219_144 (by omega) e12, b_219_147, h633]
              generalize js_up ρ9 83 10 (ρ9 83 10 - 1) = ρ10 at gO g10 h69 h633 hR10 hw G9x
              rw [b_96_138 (by omega) hb, g0, g1', g2', f1, f2', w_max (x := xt_hi ta) (y := xt_hi tb) (by omega) (by omega) (by omega) (by omega), w_min (x := xt_lo tb) (y := xt_lo ta) (by omega) (by omega) (by omega) (by omega), n5e, k_96_174 hb (by omega) (b_75_0 hb), b_96_177 hb]
              have z0 : js_up (js_up (js_up (js_up σ9 1 5 (ρ9 83 10 - 1)) (23 + b) 0 (xt_ty tb)) (23 + b) 1 (min (xt_lo tb) (xt_lo ta))) (23 + b) 2 (max (xt_hi ta) (xt_hi tb)) (23 + b) 0 = xt_ty tb := by rw [js_up_ni _ (by decide), js_up_ni _ (by decide), js_up_same]
              have z1 : js_up (js_up (js_up (js_up σ9 1 5 (ρ9 83 10 - 1)) (23 + b) 0 (xt_ty tb)) (23 + b) 1 (min (xt_lo tb) (xt_lo ta))) (23 + b) 2 (max (xt_hi ta) (xt_hi tb)) (23 + b) 1 = min (xt_lo tb) (xt_lo ta) := by rw [js_up_ni _ (by decide), js_up_same]
              have z2 : js_up (js_up (js_up (js_up σ9 1 5 (ρ9 83 10 - 1)) (23 + b) 0 (xt_ty tb)) (23 + b) 1 (min (xt_lo tb) (xt_lo ta))) (23 + b) 2 (max (xt_hi ta) (xt_hi tb)) (23 + b) 2 = max (xt_hi ta) (xt_hi tb) := js_up_same _ _ _ _
              have zO : ∀ a i : Int, ¬ (a = 23 + b ∧ 0 ≤ i ∧ i ≤ 2) → js_up (js_up (js_up (js_up σ9 1 5 (ρ9 83 10 - 1)) (23 + b) 0 (xt_ty tb)) (23 + b) 1 (min (xt_lo tb) (xt_lo ta))) (23 + b) 2 (max (xt_hi ta) (xt_hi tb)) a i = js_up σ9 1 5 (ρ9 83 10 - 1) a i := fun a i h => by rw [js_up_ne _ (by omega), js_up_ne _ (by omega), js_up_ne _ (by omega)]
              generalize js_up (js_up (js_up (js_up σ9 1 5 (ρ9 83 10 - 1)) (23 + b) 0 (xt_ty tb)) (23 + b) 1 (min (xt_lo tb) (xt_lo ta))) (23 + b) 2 (max (xt_hi ta) (xt_hi tb)) = σ10 at z0 z1 z2 zO ⊢
              have z9 : ∀ a i : Int, ¬ (a = 23 + b ∧ 0 ≤ i ∧ i ≤ 2) → ¬ (a = 1 ∧ i = 5) → σ10 a i = σ9 a i := fun a i x1 x2 => by rw [zO a i x1, js_up_ne _ x2]
              have hz9 := xn_cz hn9 r9
              have hz10 : cz_R σ10 b := by unfold cz_R; rw [z9 _ _ (by omega) (by omega), z9 _ _ (by omega) (by omega)]; exact hz9
              have z106 : σ10 (8 + b) 6 = σ9 (8 + b) 6 := z9 _ _ (by omega) (by omega)
              have z40 := hn4.1.1
              obtain ⟨σ11, e11, hm1, hm2⟩ := c_land (E := E) (d := d - 1) (σ := σ10) (x := σ4 (8 + b) 6) hb hz10 z40 (by omega) (by omega)
              have z117 : σ11 (8 + b) 7 = σ9 (8 + b) 7 := by rw [hm2 _ _ (by omega), z9 _ _ (by omega) (by omega)]
              have b97 := hn9.2.1
              rw [k_96_183 hb (by omega) e11, b_96_186 (by omega) hb, z117, w_max (x := σ6 (8 + b) 7) (y := σ9 (8 + b) 7) (by omega) (by omega) (by omega) (by omega)]
              have x7 : js_up σ11 (8 + b) 7 (max (σ6 (8 + b) 7) (σ9 (8 + b) 7)) (8 + b) 7 = max (σ6 (8 + b) 7) (σ9 (8 + b) 7) := js_up_same _ _ _ _
              have xO : ∀ a i : Int, ¬ (a = 8 + b ∧ i = 7) → js_up σ11 (8 + b) 7 (max (σ6 (8 + b) 7) (σ9 (8 + b) 7)) a i = σ11 a i := fun a i h => js_up_ne _ h
              generalize js_up σ11 (8 + b) 7 (max (σ6 (8 + b) 7) (σ9 (8 + b) 7)) = σ12 at x7 xO ⊢
              have cc7 : nt_P (σ12 (8 + b) 7 = max (min 400000 (σ4 (8 + b) 7 + 1)) (σ9 (8 + b) 7)) := by
                have lg : σ6 (8 + b) 7 = min 400000 (σ4 (8 + b) 7 + 1) := lgn
                show σ12 (8 + b) 7 = _
                rw [x7, lg]
              clear x7
              refine Or.inl ⟨σ12, ρ12, j9, ρ9 83 33, tr_n 8 (xt_ty ta) (min (xt_lo tb) (xt_lo ta)) (max (xt_hi ta) (xt_hi tb)) 0 0 0 l (tr_n 80 0 0 0 0 0 0 ta tb), rfl, rfl, ?_⟩
              have ljj : ∀ a i : Int, a ≤ 5 → σ12 a i = js_up σ9 1 5 (ρ9 83 10 - 1) a i := fun a i ha => by rw [xO _ _ (by omega), hm2 _ _ (by omega), zO _ _ (by omega)]
              have hwO := hw.2.2.2.2.2.2
              refine xr_choice (σ3 := σ3) (ρ3 := ρ2) (j3 := j1 + 1) (σ4 := σ4) (ρ4 := ρ4) (j4 := j4) (σ8 := σ8) (ρ8 := ρ5) (j8 := j4 + 1) (σ9 := σ9) (ρ9 := ρ9) (ρ11 := ρ10) hb hx hn h1 F13 a6 a7 aO a15 (fun hh => ?_) G12 n33 n44 (Nat.le_refl _) h2 F48 F48' b6 b7 bj bl G45 m33 m44 (by omega) h3 (fun a i x1 x2 x3 x4 => ?_) cc7 ?_ ?_ ?_ (fun hh => ?_) ?_ ?_ gO hw ⟨by omega, by omega, by omega, by omega, by omega⟩ ?_ hzz
              · obtain ⟨i1, i2, i3, i4, i5, i6⟩ := k3.2.2.1 (by rw [v2]; exact hh)
                rw [v2] at i1 i3 i4 i5 i6
                exact ⟨i1, i3, i4, i5, i6⟩
              · rw [xO _ _ x2, hm2 _ _ x4, z9 _ _ x3 x1]
              · rw [xO _ _ (by omega), hm2 _ _ (by omega), z0, t2]
              · rw [xO _ _ (by omega), hm2 _ _ (by omega), z1]
              · rw [xO _ _ (by omega), hm2 _ _ (by omega), z2]
              · rw [xO _ _ (by omega), hm1 hh, z106]
              · exact rd_R_of hR10 (fun i _ => ljj _ _ (by decide)) (fun a i _ x2 => ljj _ _ x2) (fun i _ _ => hwO _ _ (by omega) (by omega)) (fun i => hwO _ _ (by omega) (by omega))
              · rw [hwO _ _ (by omega) (by omega), g10]
                omega
              · have ka := h2.2.2.2.2.2.2.2.1
                have kb := h3.2.2.2.2.2.2.2.1
                unfold ty_b at ka kb ⊢
                refine ⟨ka.1, fun hh => ?_⟩
                have k1 := ka.2 hh
                have k2 := kb.2 (by omega)
                omega
            · rw [if_pos t1, if_neg t2, if_pos t1, if_neg t2]
              exact bad _ _ _ _
          · rw [if_neg t1, if_neg t1]
            exact bad _ _ _ _
        · rw [k_219_39 (by omega) er9, r_219_42F hf.1 (by omega)]
          have hf2 := xf_ef F08 G05 (by omega) (by omega) (by omega) (by omega) hf
          obtain ⟨s1, s2, σ', s3, s4⟩ := xf_deep hf2
          refine Or.inr ⟨_, 0, rfl, s1, s2, σ', ?_, s4⟩
          rw [kt_96_112 hb (by omega) s3]
      · rw [r_219_38F hF5 (by omega), kt_96_70 (by omega) c5]
        exact Or.inr ⟨_, 0, rfl, xf_deep ⟨hF5, G05, σ4, rfl, F04⟩⟩
    · rw [k_219_28 (by omega) er4, r_219_31F hf.1 (by omega)]
      have hf2 := xf_ef F03 G02 (by omega) (by omega) (by omega) (by omega) hf
      obtain ⟨s1, s2, σ', s3, s4⟩ := xf_deep hf2
      refine Or.inr ⟨_, 0, rfl, s1, s2, σ', ?_, s4⟩
      rw [kt_96_43 hb (by omega) s3]
  · rw [r_219_27F hF2 (by omega), kt_96_19 (by omega) c2]
    exact Or.inr ⟨_, 0, rfl, xf_deep ⟨hF2, eg_R_trans G01 G12 m1, σ1, rfl, F01⟩⟩
end TM
