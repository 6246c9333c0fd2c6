/-! part 99.zzzl: the BLOCK of a fun in step -/
theorem xn_nextl {E : js_E} {b F L : Int} {B U : Int → Int} {X : Int → Prop} {σ ρ σ' ρ' : js_S} {j j' : Nat} {n : Int} {s : tr_T} (h : xn_R b σ ρ j) (h2 : lr_R E b F B U X L σ ρ j σ' ρ' j' n s) : xn_R b σ' ρ' j' := by
  obtain ⟨⟨_, a2, _, _, _, a6, a7, _⟩, ⟨x, x1, x2, x3, x4⟩, ⟨⟨c4, c5, c6, c7, c8⟩, _⟩, ⟨_, _, ⟨t1, t2, t3⟩, _⟩, _⟩ := h2
  have hl := st_ln_0 s
  unfold xn_R at h ⊢
  omega
theorem ux_108 {E : js_E} {b F m : Int} {B U : Int → Int} {X : Int → Prop} {σ ρ ρ' : js_S} (h : ux_R E b F B U X σ ρ) (w : ∀ a i : Int, ¬ ((a = 108 ∨ a = 109) ∧ i = m) → ρ' a i = ρ a i) : ux_R E b F B U X σ ρ' := by
  obtain ⟨⟨a1, a2, a3, a4, a5, a6, a7⟩, ⟨p1, p2, p3, p4, p5⟩, hX⟩ := h
  have e11 : ρ' 83 11 = ρ 83 11 := w _ _ (by omega)
  have e26 : ρ' 83 26 = ρ 83 26 := w _ _ (by omega)
  have o : ∀ a i : Int, 86 ≤ a → a ≤ 99 → ρ' a i = ρ a i := fun a i g1 g2 => w _ _ (by omega)
  refine ⟨⟨sy_Y_of a1 (fun _ _ _ => rfl) e11 o, kx_R_of a2 e11 o, gs_R_of a3 e11 e26 o, fun i g1 g2 => ?_, fun i g1 g2 g3 g4 => ?_, by rw [e26]; exact a6, a7⟩, ⟨fun i g1 g2 g3 g4 => ?_, ?_, p3, p4, p5.1, vw_of p5.2 e11 (fun a i g1 g2 => o a i g1 (by omega))⟩, fun i hi => by rw [e11]; exact hX i hi⟩
  · rw [e11] at g2
    have q := a4 i g1 g2
    exact ⟨q.1, q.2.1, u9_of q.2.2 (o _ _ (by decide) (by decide)) rfl⟩
  · rw [e11] at g2
    rw [o _ _ (by decide) (by decide)] at g4
    exact a5 i g1 g2 g3 g4
  · rw [e11] at g2
    rw [o 86 i (by decide) (by decide)] at g4
    rw [o 93 i (by decide) (by decide), lo_c_eq (ρ := ρ) i.toNat (fun a k h1 h2 h3 h4 => o a k h1 (by omega))]
    exact p1 i g1 g2 g3 g4
  · rw [e11, lo_c_eq (ρ := ρ) (ρ 83 11).toNat (fun a k h1 h2 h3 h4 => o a k h1 (by omega))]
    exact p2
section FG
variable {E : js_E} {d e : Nat} {b : Int} {B U : Int → Int} {X : Int → Prop}
theorem y_fbody {m s n g x4 : Int} {σ ρ : js_S} {j : Nat} (hb : b = 0 ∨ b = 25) (hx : ux_R E b m B U X σ ρ) (hX : X m) (hn : xn_R b σ ρ j) (hR : rd_R σ ρ j) (h10 : ρ 83 10 = 1) (hm : 0 ≤ m ∧ m < ρ 83 11) (ht : σ (8 + b) 10 = 0) (hp : σ (23 + b) 15 = 0) (h19 : σ (19 + b) m = s) (hds : js_desc E.1 σ s = some (0, 11, js_sym)) (s2 : σ s 2 = ρ 87 m) (s3 : σ s 3 = ρ 88 m) (s4 : σ s 4 = ρ 89 m) (hty : 0 ≤ ρ 87 m ∧ ρ 87 m < 1000 ∧ -2000000000 ≤ ρ 88 m ∧ ρ 88 m ≤ ρ 89 m ∧ ρ 89 m ≤ 2000000000) (hg : g = 0 ∨ g = 1) (hd : 300 ≤ d) (he : 830 ≤ e) : (∃ (σ' ρ' : js_S) (j' : Nat) (r l : tr_T) (x4' : Int), js_J E d 55 11 [(2, 22 + b), (0, m), (2, if g = 0 then -1 else s), (0, 0)] [] σ = js_r0 E σ' ∧ js_J E e 206 235 [(2, 83), (0, m), (0, n), (0, g), (0, x4)] [] ρ = js_J E e 206 324 [(2, 83), (0, m), (0, n), (0, g), (0, x4')] [] ρ' ∧ fe_R E b m g B U X σ ρ j σ' ρ' j' r l) ∨ (∃ ρ' : js_S, js_J E e 206 235 [(2, 83), (0, m), (0, n), (0, g), (0, x4)] [] ρ = js_r0 E ρ' ∧ sF_P E b σ ρ ρ' (js_J E d 55 11 [(2, 22 + b), (0, m), (2, if g = 0 then -1 else s), (0, 0)] [] σ)) := by
  have hj := rd_j hR
  have n0 := hn.2.2.2.2.1
  have h400 := hx.1.1.1.2.1
  have gs := js_sym_ge hds
  have t125 : tk_m 125 = 125 := by decide
  have t313 : tk_m 313 = 213 := by decide
  have t59 : tk_m 59 = 59 := by decide
  have wm : js_w m = m := js_w_of (by omega) (by omega)
  have gm : 0 ≤ m ∧ m < 400 := by omega
  rw [b_206_235]
  rcases y_list (E := E) (d := d) (e := e - 1) (x1 := m) (x2 := if g = 0 then -1 else s) hb (y_stmt hb 0) 8200 σ ρ j 0 (-1) (-1) (9, 0) (by omega) (Nat.zero_le _) hx hn hR (by omega) (by omega) (by omega) (by omega) (by omega) (by decide) (by omega) (by decide) (by omega) (fun _ => rfl) (fun h => absurd h (by decide)) with ⟨σ1, ρ1, j1, mm, k', r, ec, er, h5, hk', hl⟩ | ⟨ρa, v, er, hfa⟩
  · rw [if_pos (show (-1 : Int) < 0 by decide)] at er
    have er0 : js_J E (e - 1) 212 0 [(2, 83), (9, 0), (9, 0), (9, 0)] [] ρ = js_r E (0, mm) ρ1 := by rw [b_212_0]; exact er
    have r1 := hl.1.1
    have q1 := hl.1.2.1
    have dp1 := hl.1.2.2.1
    have F01 := hl.1.2.2.2.1
    have sg1 := sg_R_sh hl.1.2.2.2.2.1 (by decide)
    have k1 := hl.1.2.2.2.2.2.2.2
    have hu := hl.2.2.2.2
    have c10 := hl.2.2.1.1.2.1
    have c15 := hl.2.2.1.1.1
    have hj1 := rd_j r1
    have wk : js_w k' = k' := js_w_of (by omega) (by omega)
    obtain ⟨hV, c7, c8⟩ := rd_V r1
    have w : ∀ a i : Int, ¬ ((a = 108 ∨ a = 109) ∧ i = m) → js_up (js_up ρ1 108 m mm) 109 m (-1) a i = ρ1 a i := fun a i q => by rw [js_up_ne _ (by omega), js_up_ne _ (by omega)]
    have w8 : js_up (js_up ρ1 108 m mm) 109 m (-1) 108 m = mm := by rw [js_up_na _ (by decide), js_up_same]
    have w9 : js_up (js_up ρ1 108 m mm) 109 m (-1) 109 m = -1 := js_up_same _ _ _ _
    have hR2 : rd_R σ1 (js_up (js_up ρ1 108 m mm) 109 m (-1)) j1 := rd_R_of r1 (fun _ _ => rfl) (fun _ _ _ _ => rfl) (fun i _ _ => w _ _ (by omega)) (fun i => w _ _ (by omega))
    have hu2 : ux_R E b m B U X σ1 (js_up (js_up ρ1 108 m mm) 109 m (-1)) := ux_108 (m := m) hu w
    rw [k_206_241 (by omega) er0, b_206_244, wm, if_pos gm, if_pos gm, ec]
    generalize js_up (js_up ρ1 108 m mm) 109 m (-1) = ρ2 at w w8 w9 hR2 hu2 ⊢
    have rf2 : rf_R ρ ρ2 := rf_R_trans (rf_R_sg sg1) (fun a i g1 g2 => w a i (by omega))
    have fr1 : fr_R b σ σ1 := F01.1
    have x211 : ρ2 83 11 = ρ1 83 11 := w _ _ (by omega)
    have h4001 := hu2.1.1.1.2.1
    have D2 : ρ2 83 10 = 1 := by rw [w _ _ (by omega)]; omega
    have tkk : ρ2 83 5 = ρ1 83 5 := w _ _ (by omega)
    have p26 : ρ2 83 6 = ρ1 83 6 := w _ _ (by omega)
    rcases hg with hg0 | hg1
    · subst hg0
      rw [if_pos (show (0 : Int) = 0 from rfl), if_pos (show js_w 0 = 0 from rfl)]
      by_cases q : ρ1 83 5 = 125
      · have w1 : js_w (σ1 1 1) = 125 := by rw [c7, q]; decide
        rw [b_55_11 hb, wk, if_pos (show k' < 1000000 by omega), w1, if_pos (show (125 : Int) = 125 from rfl), b_55_56, if_pos (show (-1 : Int) < 0 by decide)]
        rcases y_fend (E := E) (d := d) (e := e) (n := n) (g := 0) (x2 := -1) (k := k') (x4 := x4) hb hu2 hX (by omega) hR2 (by omega) (by omega) (by omega) with ⟨σ', ρ', e1, e2, hR', d', c1, c2, _, v1, v2, fr, hux⟩ | ⟨ρ', e2, hf⟩
        · rw [e1, e2]
          exact Or.inl ⟨σ', ρ', j1 + 1, r, .leaf, x4, rfl, rfl, fe_of0 hb hn.2.1.1 hn.2.2.2.1.1 hm hl w w8 w9 hR' d' c1 c2 v1 v2 fr hux hn.2.2.2.2.2.2⟩
        · rw [e2]
          exact Or.inr ⟨ρ', rfl, sF_up fr1 rf2 hf⟩
      · have q3 : ρ1 83 5 = 313 := h5.resolve_left q
        have w1 : js_w (σ1 1 1) = 213 := by rw [c7, q3]; decide
        have c1 : σ1 1 1 = 213 := by rw [c7, q3]; decide
        have hF := rx_bad1 hR2.2.2.1 (k := 1) (by decide) (by decide)
        have c56 : js_J E (d - 1) 56 0 [(2, 22 + b), (9, 0), (9, 0)] [] σ1 = th_P E σ1 (1 + 16 * ρ2 83 6) := by
          rw [b_56_0 hb, c1, s_56_7_d (by decide), b_56_184 hb, kt_56_196 (by omega) (c_fail hu.1.1.2.2.1 (by omega)), c8, p26]
          rfl
        have lv := r_leave (E := E) (d := e - 1) (k := 125) hR2.2.2.1 (by omega) (by decide) (by decide)
        rw [if_neg (show ¬ ρ2 83 5 = 125 by omega)] at lv
        have hF2 : rx_F (js_up (rx_bad ρ2 1 (ρ2 83 6)) 83 10 (ρ2 83 10 - 1)) := rx_F_up hF.1 (by decide) (by decide)
        rw [b_206_303, k_206_306 (by omega) lv, b_206_309, if_pos (rx_F_9 hF2), b_55_11 hb, wk, if_pos (show k' < 1000000 by omega), w1, if_neg (show ¬ (213 : Int) = 125 by decide), if_pos (show (-1 : Int) < 0 by decide), b_55_46, kt_55_47 hb (by omega) c56]
        have f0 : sF_P E b σ ρ (rx_bad ρ2 1 (ρ2 83 6)) (th_P E σ1 (1 + 16 * ρ2 83 6)) := ⟨rf_R_trans rf2 (rf_R_tf (tf_R_bad _ _ _)), hF.1, by rw [rx_bad_o _ _ _ (by omega)]; omega, by rw [rx_bad_o _ _ _ (by omega)]; omega, σ1, by rw [hF.2], fr1, hu.1.1.2.2.2.1, hu.1.1.2.2.1⟩
        exact Or.inr ⟨_, rfl, sF_more f0 (fun a i g1 g2 => js_up_ne _ g1)⟩
    · subst hg1
      have cls : js_J E d 55 11 [(2, 22 + b), (0, m), (2, if (1 : Int) = 0 then -1 else s), (0, k')] [] σ1 = js_J E d 55 67 [(2, 22 + b), (0, m), (2, s), (0, k')] [(0, 213), (2, 1)] σ1 := by
        rw [if_neg (show ¬ (1 : Int) = 0 by decide), b_55_11 hb, wk, if_pos (show k' < 1000000 by omega)]
        rcases h5 with q | q
        · have w1 : js_w (σ1 1 1) = 125 := by rw [c7, q]; decide
          rw [w1, if_pos (show (125 : Int) = 125 from rfl), b_55_56, if_neg (show ¬ s < 0 by omega), b_55_60 hb]
        · have w1 : js_w (σ1 1 1) = 213 := by rw [c7, q]; decide
          rw [w1, if_neg (show ¬ (213 : Int) = 125 by decide), if_neg (show ¬ s < 0 by omega), b_55_33 hb, w1, if_pos (show (213 : Int) = 213 from rfl), b_55_56, if_neg (show ¬ s < 0 by omega), b_55_60 hb]
      rw [cls, if_neg (show ¬ js_w 1 = 0 by decide)]
      obtain ⟨ρ3, e3, t3, hor3⟩ := y_take (E := E) (d := d - 1) (e := e - 1) (k := 313) hu2.1.1.2.2.1 hR2 (by omega) (by omega) (by unfold tk_V; omega) (by decide)
      rw [t313] at hor3
      rw [k_206_260 (by omega) e3]
      have x311 : ρ3 83 11 = ρ1 83 11 := by rw [t3 _ _ (by omega)]; exact x211
      rcases hor3 with ⟨σ3, j3, c3, hR3, f3, hj3⟩ | ⟨hF3, c3⟩
      · subst hj3
        have hu3 : ux_R E b m B U X σ3 ρ3 := ux_ef (n := 0) (t := 0) (p := 0) (N := 0) hb hu2 (ef_R_tk f3) (fun a i g1 g2 => t3 a i (by omega))
        have v3 : ∀ k : Int, σ3 (8 + b) k = σ1 (8 + b) k := fun k => f3 _ _ (by omega) (by omega)
        have v36 := v3 6
        have v37 := v3 7
        have v310 := v3 10
        have v311 := v3 11
        have v312 := v3 12
        have v315 : σ3 (23 + b) 15 = σ1 (23 + b) 15 := f3 _ _ (by omega) (by omega)
        have u333 : ρ3 83 33 = ρ1 83 33 := by rw [t3 _ _ (by omega), w _ _ (by omega)]
        have u344 : ρ3 83 44 = ρ1 83 44 := by rw [t3 _ _ (by omega), w _ _ (by omega)]
        have D3 : ρ3 83 10 = 1 := by rw [t3 _ _ (by omega)]; exact D2
        have hn1 : xn_R b σ1 ρ1 j1 := xn_nextl hn hl
        have hn3 : xn_R b σ3 ρ3 (j1 + 1) := by
          unfold xn_R at hn1 ⊢
          push_cast
          omega
        have sk : ∀ k : Int, k ≠ 13 → σ3 s k = σ s k := fun k hk => by
          have a := (F01.2.2.1 m hm.1 hm.2).2 k hk
          rw [h19] at a
          rw [f3 _ _ (by omega) (by omega), a]
        have rk : ∀ a : Int, 86 ≤ a → a ≤ 97 → ρ3 a m = ρ a m := fun a g1 g2 => by rw [t3 _ _ (by omega), w _ _ (by omega), sg1 _ _ (by omega) (by omega) (by omega) (by omega) (by omega)]
        have hds3 : js_desc E.1 σ3 s = some (0, 11, js_sym) := by
          have a := (hu3.1.1.2.2.2.2.2.1 m hm.1 (by omega)).1
          rw [f3 _ _ (by omega) (by omega), (F01.2.2.1 m hm.1 hm.2).1, h19] at a
          exact a
        have fr3 : fr_R b σ σ3 := fr_R_trans fr1 (fr_R_tk hb f3)
        have rf3 : rf_R ρ ρ3 := rf_R_trans rf2 (fun a i g1 g2 => t3 a i (by omega))
        rw [k_55_67 (by omega) c3, b_55_70 hb, b_206_263, wm, if_pos gm, rk 87 (by decide) (by decide), rk 88 (by decide) (by decide), rk 89 (by decide) (by decide), js_w_of (x := ρ 88 m) (by omega) (by omega), js_w_of (x := ρ 89 m) (by omega) (by omega)]
        rcases y_for (E := E) (d := d - 1) (e := e - 1) (t := ρ 87 m) (lo := ρ 88 m) (hi := ρ 89 m) hb (y_e hb 0) (Nat.zero_le _) hu3.1 hn3 hR3 (by omega) (by omega) (by omega) (by omega) (by omega) (by omega) (by omega) with ⟨σ4, ρ4, j4, nn, l, er4, ec4, ea4, K, _⟩ | ⟨ρ', v, er4, hf4⟩
        · have F34 := K.1.2.2.2.1
          have G34 := K.1.2.2.2.2.1
          have r4 := K.1.1
          have q4 := K.1.2.1
          have dp4 := K.1.2.2.1
          have hu4 := ux_ef hb hu3 F34 G34
          have sk4 : ∀ k : Int, k ≠ 13 → σ4 s k = σ s k := fun k hk => by rw [ef_row hb F34 gs, sk k hk]
          have hds4 : js_desc E.1 σ4 s = some (0, 11, js_sym) := js_desc_mono hds3 (by rw [F34 _ _ (by unfold ef_D; omega)]; exact Int.le_refl _) (fun _ => ef_row hb F34 gs)
          have ea : js_J E (d - 1) 68 0 [(2, 23 + b), (0, σ4 s 2), (0, σ4 s 3), (0, σ4 s 4)] [] σ4 = js_r0 E σ4 := by
            rw [sk4 2 (by decide), sk4 3 (by decide), sk4 4 (by decide), s2, s3, s4]
            exact ea4
          have w5 : ∀ a i : Int, ¬ (a = 109 ∧ i = m) → js_up ρ4 109 m nn a i = ρ4 a i := fun a i q => js_up_ne _ q
          have w59 : js_up ρ4 109 m nn 109 m = nn := js_up_same _ _ _ _
          have hR5 : rd_R σ4 (js_up ρ4 109 m nn) j4 := rd_R_of r4 (fun _ _ => rfl) (fun _ _ _ _ => rfl) (fun i _ _ => w5 _ _ (by omega)) (fun i => w5 _ _ (by omega))
          have hu5 : ux_R E b m B U X σ4 (js_up ρ4 109 m nn) := ux_108 (m := m) hu4 (fun a i q => w5 a i (by omega))
          rw [k_55_74 hb (by omega) ec4, b_55_77 hb hds4, k_55_93 hb (by omega) ea, b_55_96 hb, k_206_293 (by omega) er4, b_206_296, wm, if_pos gm]
          generalize js_up ρ4 109 m nn = ρ5 at w5 w59 hR5 hu5 ⊢
          obtain ⟨ρ6, e6, t6, hor6⟩ := y_take (E := E) (d := d - 1) (e := e - 1) (k := 59) hu5.1.1.2.2.1 hR5 (by omega) (by omega) (by unfold tk_V; omega) (by decide)
          rw [t59] at hor6
          rw [k_206_300 (by omega) e6]
          have fr4 : fr_R b σ σ4 := fr_R_trans fr3 (fr_R_ef hb F34)
          have rf5 : rf_R ρ ρ5 := rf_R_trans rf3 (rf_R_trans (rf_R_eg G34) (fun a i g1 g2 => w5 a i (by omega)))
          have x611 : ρ6 83 11 = ρ1 83 11 := by rw [t6 _ _ (by omega), w5 _ _ (by omega), G34 _ _ (by omega) (by omega)]; exact x311
          have rf6 : rf_R ρ ρ6 := rf_R_trans rf5 (fun a i g1 g2 => t6 a i (by omega))
          rcases hor6 with ⟨σ6, j6, c6, hR6, f6, hj6⟩ | ⟨hF6, c6⟩
          · subst hj6
            have hu6 : ux_R E b m B U X σ6 ρ6 := ux_ef (n := 0) (t := 0) (p := 0) (N := 0) hb hu5 (ef_R_tk f6) (fun a i g1 g2 => t6 a i (by omega))
            have D6 : ρ6 83 10 = 1 := by rw [t6 _ _ (by omega), w5 _ _ (by omega), dp4]; exact D3
            rw [k_55_102 (by omega) c6]
            rcases y_fend (E := E) (d := d) (e := e) (n := n) (g := 1) (x2 := s) (k := k') (x4 := ρ 87 m) hb hu6 hX (by omega) hR6 (by omega) (by omega) (by omega) with ⟨σ', ρ', e1, e2, hR', d', c1, c2, _, v1, v2, fr, hux⟩ | ⟨ρ', e2, hf⟩
            · rw [e1, e2]
              exact Or.inl ⟨σ', ρ', j4 + 1 + 1, r, l, ρ 87 m, rfl, rfl, fe_of1 hb hn.2.1.1 hm n0.1 hl w w8 f3 t3 K w5 w59 f6 t6 hu6 hR' d' c1 c2 v1 v2 fr hux hn.2.2.2.2.2.2⟩
            · rw [e2]
              exact Or.inr ⟨ρ', rfl, sF_up (fr_R_trans fr4 (fr_R_tk hb f6)) rf6 hf⟩
          · obtain ⟨ρ', e7, f7⟩ := r_206_303F (E := E) (e := e) (m := m) (n := n) (x3 := 1) (x4 := ρ 87 m) hF6 (by omega)
            have f0 : sF_P E b σ ρ ρ6 (th_P E σ4 (ρ6 83 9)) := ⟨rf6, hF6, by omega, by omega, σ4, rfl, fr4, hu4.1.1.2.2.2.1, hu4.1.1.2.2.1⟩
            rw [kt_55_102 (by omega) c6, e7]
            exact Or.inr ⟨ρ', rfl, sF_fw f0 f7⟩
        · rw [k_206_293 (by omega) er4]
          rcases hf4 with hf | ⟨σ4, ec4, F34, hf⟩
          · have f0 := sF_up fr3 rf3 (sF_xf hb hu3.1 hf)
            have hF := f0.2.1
            obtain ⟨ρ'', e7, f7⟩ := r_206_296F (E := E) (e := e) (m := m) (n := n) (x3 := 1) (x4 := ρ 87 m) (z := v) hF (by omega) gm
            have f0' := f0
            obtain ⟨a1, a2, a3, a4, σz, a5, a6⟩ := f0
            rw [kt_55_74 hb (by omega) a5, e7]
            rw [a5] at f0'
            exact Or.inr ⟨ρ'', rfl, sF_fw f0' f7⟩
          · have f0 := sF_up fr3 rf3 (sF_xf hb hu3.1 hf)
            have hF := f0.2.1
            obtain ⟨ρ'', e7, f7⟩ := r_206_296F (E := E) (e := e) (m := m) (n := n) (x3 := 1) (x4 := ρ 87 m) (z := v) hF (by omega) gm
            have sk4 : ∀ k : Int, k ≠ 13 → σ4 s k = σ s k := fun k hk => by rw [ef_row hb F34 gs, sk k hk]
            have hds4 : js_desc E.1 σ4 s = some (0, 11, js_sym) := js_desc_mono hds3 (by rw [F34 _ _ (by unfold ef_D; omega)]; exact Int.le_refl _) (fun _ => ef_row hb F34 gs)
            have f0' := f0
            obtain ⟨a1, a2, a3, a4, σz, a5, a6⟩ := f0
            have a5' : js_J E (d - 1) 68 0 [(2, 23 + b), (0, σ4 s 2), (0, σ4 s 3), (0, σ4 s 4)] [] σ4 = th_P E σz (ρ' 83 9) := by
              rw [sk4 2 (by decide), sk4 3 (by decide), sk4 4 (by decide), s2, s3, s4]
              exact a5
            rw [k_55_74 hb (by omega) ec4, b_55_77 hb hds4, kt_55_93 hb (by omega) a5', e7]
            rw [a5] at f0'
            exact Or.inr ⟨ρ'', rfl, sF_fw f0' f7⟩
      · obtain ⟨ρ', e7, f7⟩ := r_206_263F (E := E) (e := e) (m := m) (n := n) (x3 := 1) (x4 := x4) hF3 (by omega) gm
        have f0 : sF_P E b σ ρ ρ3 (th_P E σ1 (ρ3 83 9)) := ⟨rf_R_trans rf2 (fun a i g1 g2 => t3 a i (by omega)), hF3, by omega, by omega, σ1, rfl, fr1, hu.1.1.2.2.2.1, hu.1.1.2.2.1⟩
        rw [kt_55_67 (by omega) c3, e7]
        exact Or.inr ⟨ρ', rfl, sF_fw f0 f7⟩
  · have er0 : js_J E (e - 1) 212 0 [(2, 83), (9, 0), (9, 0), (9, 0)] [] ρ = js_r E (0, v) ρa := by rw [b_212_0]; exact er
    obtain ⟨ρ', e7, f7⟩ := r_206_244F (E := E) (e := e) (m := m) (n := n) (x3 := g) (x4 := x4) (z := v) hfa.2.1 (by omega) gm
    rw [k_206_241 (by omega) er0, e7]
    exact Or.inr ⟨ρ', rfl, sF_fw hfa f7⟩
end FG
