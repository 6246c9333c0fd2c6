/-! part 99.zzk: for NAME = C to C in step -/
section SG
variable {E : js_E} {d e : Nat} {b F : Int} {B U : Int → Int} {X : Int → Prop} {σ ρ : js_S} {j : Nat}
theorem fm_29 (h : rx_F ρ) {v : Int} : fm_R ρ (js_up ρ 83 29 v) := ⟨tf_R_up (by decide) (by decide), rx_F_up h (by decide) (by decide), js_up_ni _ (by decide)⟩
theorem fm_trans {ρ1 ρ2 ρ3 : js_S} (h1 : fm_R ρ1 ρ2) (h2 : fm_R ρ2 ρ3) : fm_R ρ1 ρ3 := ⟨tf_R_trans h1.1 h2.1, h2.2.1, h2.2.2.trans h1.2.2⟩
theorem r_242_70F (h : rx_F ρ) (he : 1 ≤ e) {x1 x2 x3 : Int} : js_J E e 242 70 [(2, 83), (0, x1), (0, x2), (0, x3), (9, 0)] [] ρ = js_r E (0, -1) ρ := by
  rw [b_242_70, k_242_71 (by omega) (r_nextF h.1 h.2.1), b_242_74, if_pos (rx_F_9 h)]
theorem r_242_44F (h : rx_F ρ) (he : 1 ≤ e) {x1 x2 : Int} : js_J E e 242 44 [(2, 83), (0, x1), (0, x2), (9, 0), (9, 0)] [] ρ = js_r E (0, -1) ρ := by
  have n9 : ¬ js_w (ρ 83 9) = 0 := by have := rx_F_9 h; omega
  rw [b_242_44, if_neg n9, r_242_70F h he]
theorem r_242_39F (h : rx_F ρ) (he : 6 ≤ e) {x1 x2 : Int} : ∃ ρ' : js_S, js_J E e 242 39 [(2, 83), (0, x1), (0, x2), (9, 0), (9, 0)] [] ρ = js_r E (0, -1) ρ' ∧ fm_R ρ ρ' := by
  refine ⟨js_up ρ 83 29 (ρ 83 6), ?_, fm_29 h⟩
  rw [b_242_39, k_242_41 (by omega) (r_constantOfF h (by omega)), r_242_44F (fm_29 h).2.1 (by omega)]
theorem r_242_32F (h : rx_F ρ) (he : 6 ≤ e) {x1 x2 : Int} : ∃ ρ' : js_S, js_J E e 242 32 [(2, 83), (0, x1), (0, x2), (9, 0), (9, 0)] [] ρ = js_r E (0, -1) ρ' ∧ fm_R ρ ρ' := by
  rw [b_242_32, k_242_36 (by omega) (r_takeF h (by omega) (by decide) (by decide))]
  exact r_242_39F h he
theorem r_242_23F (h : rx_F ρ) (he : 6 ≤ e) {x1 : Int} : ∃ ρ' : js_S, js_J E e 242 23 [(2, 83), (0, x1), (9, 0), (9, 0), (9, 0)] [] ρ = js_r E (0, -1) ρ' ∧ fm_R ρ ρ' := by
  rw [b_242_23, k_242_29 (by omega) (r_nextF h.1 h.2.1)]
  exact r_242_32F h he
theorem r_242_18F (h : rx_F ρ) (he : 6 ≤ e) {x1 : Int} : ∃ ρ' : js_S, js_J E e 242 18 [(2, 83), (0, x1), (9, 0), (9, 0), (9, 0)] [] ρ = js_r E (0, -1) ρ' ∧ fm_R ρ ρ' := by
  obtain ⟨ρ', e1, f1⟩ := r_242_23F (E := E) (e := e) (x1 := x1) (fm_29 (v := ρ 83 6) h).2.1 he
  refine ⟨ρ', ?_, fm_trans (fm_29 h) f1⟩
  rw [b_242_18, k_242_20 (by omega) (r_constantOfF h (by omega)), e1]
theorem r_242_11F (h : rx_F ρ) (he : 6 ≤ e) {z : Int} : ∃ ρ' : js_S, js_J E e 242 11 [(2, 83), (9, 0), (9, 0), (9, 0), (9, 0)] [(0, z)] ρ = js_r E (0, -1) ρ' ∧ fm_R ρ ρ' := by
  rw [b_242_11, k_242_15 (by omega) (r_takeF h (by omega) (by decide) (by decide))]
  exact r_242_18F h he
/-- for NAME = C to C -/
theorem y_fhead (hb : b = 0 ∨ b = 25) (hx : ux_R E b F B U X σ ρ) (hR : rd_R σ ρ j) (h5 : ρ 83 5 = 310) (hd : 12 ≤ d) (he : 8 ≤ e) : (∃ (σ' ρ' : js_S) (j' : Nat) (s lo hi : Int), js_J E d 105 0 [(2, 22 + b), (9, 0), (9, 0), (9, 0), (9, 0), (9, 0), (9, 0), (9, 0), (9, 0), (9, 0)] [] σ = js_J E d 105 79 [(2, 22 + b), (2, s), (0, lo), (0, hi), (9, 0), (9, 0), (9, 0), (9, 0), (9, 0), (9, 0)] [] σ' ∧ js_J E e 242 0 [(2, 83), (9, 0), (9, 0), (9, 0), (9, 0)] [] ρ = js_J E e 242 100 [(2, 83), (0, ρ 83 11), (0, lo), (0, hi), (9, 0)] [(0, 123), (2, 83)] ρ' ∧ va_R E b F (ρ 83 11) s B X σ ρ j σ' ρ' j' ∧ ρ' 91 (ρ 83 11) = 1 ∧ ρ' 88 (ρ 83 11) = lo ∧ ρ' 89 (ρ 83 11) = hi) ∨ (∃ ρ' : js_S, js_J E e 242 0 [(2, 83), (9, 0), (9, 0), (9, 0), (9, 0)] [] ρ = js_r E (0, -1) ρ' ∧ sF_P E b σ ρ ρ' (js_J E d 105 0 [(2, 22 + b), (9, 0), (9, 0), (9, 0), (9, 0), (9, 0), (9, 0), (9, 0), (9, 0), (9, 0)] [] σ)) := by
  have hok := hR.2.2.1
  have hpl := hx.2.1
  obtain ⟨σ1, j1, e1, hR1, f1, hj1, hj1'⟩ := y_next (E := E) (d := d - 1) hR
  have hj1'' := hj1' (by omega)
  subst hj1''
  clear hj1'
  have p1 : og_R ρ (rx_next ρ) := fun a i g => rx_next_o _ (by omega)
  have F01 : ∀ n t p : Int, ef_R b n t p σ σ1 := fun n t p => ef_R_tk f1
  have hx1 := xs_R_ef hb hx.1 (F01 0 0 0) (eg_R_og (N := 0) p1)
  have m1 : rx_next ρ 83 11 = ρ 83 11 := rx_next_o _ (by omega)
  have fr1 := fr_R_tk hb f1
  have rf1 : rf_R ρ (rx_next ρ) := rf_R_tf (tf_R_next ρ)
  have t61 : tk_m 61 = 61 := by decide
  have t311 : tk_m 311 = 211 := by decide
  rw [b_105_0 hb, k_105_4 (by omega) e1, b_105_7 hb, b_242_0, k_242_1 (by omega) (r_next' hok (by omega)), b_242_4]
  rcases y_vtell (E := E) (d := d - 1) (e := e - 1) (k := 7) hb hx1 hR1 (by omega) (by omega) (by decide) (by decide) with ⟨τ, ρ2, s, j2, e2, rt, hR2, hj2, ht⟩ | ⟨ρ2, e2, rt, hF2, t2⟩
  · rw [m1] at rt ht
    have ht' := ht
    obtain ⟨a1, a2, a3, a4, a5, ⟨nn, a6⟩, a7, ⟨m0, m4⟩, a9, ⟨r86, r91, r92, r93, r94, r96, r87⟩, a11, a12⟩ := ht
    obtain ⟨n0, n1, n2, n3, n4, n5, n6, n7, n8, n9, n10, n11, n12, n13, n14⟩ := a6
    have hge := js_sym_ge a4
    rw [k_105_18 hb (by omega) e2, b_105_21, k_105_24 hb (by omega) (pc_54 hb a4), b_105_27 hb, k_242_8 (by omega) rt, b_242_11]
    have g8 : ∀ i : Int, τ (8 + b) i = σ (8 + b) i := fun i => by rw [a3.1 _ _ (by omega) (by omega) (by omega) (by omega) (by omega), f1 _ _ (by omega) (by omega)]
    have g22 : τ (22 + b) 0 = σ (22 + b) 0 := by rw [a3.1 _ _ (by omega) (by omega) (by omega) (by omega) (by omega), f1 _ _ (by omega) (by omega)]
    have hYp : sy_Y E.1 (pc_S τ b s) ρ2 b 0 0 (fun i => X i ∨ i = ρ 83 11) := sy_Y_pc hb a1.1 (Or.inr rfl) a4 n0
    have hRp : rd_R (pc_S τ b s) ρ2 j2 := rd_R_of hR2 (fun i _ => pc_o (by omega) (by omega)) (fun a i _ _ => pc_o (by omega) (by omega)) (fun _ _ _ => rfl) (fun _ => rfl)
    obtain ⟨ρ3, e3, o3, hor3⟩ := y_take (E := E) (d := d - 1) (e := e - 1) (k := 61) hYp.2.2.1 hRp (by omega) (by omega) (by unfold tk_V; omega) (by decide)
    rw [t61] at hor3
    have q3 : qf_R (ρ 83 11) ρ2 ρ3 := qf_R_t9 o3
    have m3 : ρ3 83 11 = ρ 83 11 + 1 := by rw [q3 _ _ (by omega) (by omega)]; exact a9
    rw [k_242_15 (by omega) e3]
    rcases hor3 with ⟨σ3, j3, c3, hR3, f3, hj3⟩ | ⟨hF3, c3⟩
    · have p3 : vp_R b s τ σ3 := vp_R_trans vp_R_pc (vp_R_tk f3)
      have tf3 : tf_R ρ2 ρ3 := fun a i h => o3 a i (by omega)
      have hY3 := sy_Y_cf hb hYp (cf_R_fr f3) tf3
      have s11 : σ3 s 11 = σ (8 + b) 8 := by rw [f3 _ _ (by omega) (by omega), pc_11 (by omega), g8]
      have u11 : -1 ≤ σ (8 + b) 8 ∧ σ (8 + b) 8 < 1000 := by rw [hpl.2.2.1]; exact hpl.2.2.2.2.1
      have xs3 : xs_R E b F B (fun i => X i ∨ i = ρ 83 11) σ3 ρ3 := xs_vp hb a1 (Or.inr rfl) ⟨m0, by omega⟩ a5 p3 q3 hY3 (by rw [s11]; exact u11) (by rw [f3 _ _ (by omega) (by omega), pc_o (by omega) (by omega)]; exact n9)
      rw [k_105_33 (by omega) c3, b_105_36 hb, b_242_18]
      obtain ⟨ρ4, e4, tf4, hor4⟩ := y_cof (E := E) (d := d - 1) (e := e - 1) hb xs3 hR3 (by omega) (by omega)
      rw [k_242_20 (by omega) e4]
      have q4 : qf_R (ρ 83 11) ρ2 ρ4 := qf_R_trans q3 (qf_R_tf tf4)
      rcases hor4 with ⟨o94, ok4, v29, v28, σ4, j4, c4, hR4, f4, w1, w2, hj4⟩ | ⟨hF4, σ4, c4, f4⟩
      · have p4 : vp_R b s τ σ4 := vp_R_trans p3 (vp_R_cf f4)
        have q5 : qf_R (ρ 83 11) ρ2 (rx_next ρ4) := qf_R_trans q4 (qf_R_tf (tf_R_next _))
        have tf5 : tf_R ρ3 (rx_next ρ4) := tf_R_trans tf4 (tf_R_next _)
        have hY4 : sy_Y E.1 σ4 (rx_next ρ4) b 0 0 (fun i => X i ∨ i = ρ 83 11) := sy_Y_cf hb hY3 f4 tf5
        rw [k_105_41 hb (by omega) c4, b_105_44 hb, b_242_23, k_242_29 (by omega) (r_next' ok4 (by omega)), b_242_32]
        obtain ⟨ρ6, e6, o6, hor6⟩ := y_take (E := E) (d := d - 1) (e := e - 1) (k := 311) hY4.2.2.1 hR4 (by omega) (by omega) (by unfold tk_V; omega) (by decide)
        rw [t311] at hor6
        have q6 : qf_R (ρ 83 11) ρ2 ρ6 := qf_R_trans q5 (qf_R_t9 o6)
        have m6 : ρ6 83 11 = ρ 83 11 + 1 := by rw [q6 _ _ (by omega) (by omega)]; exact a9
        rw [k_242_36 (by omega) e6]
        rcases hor6 with ⟨σ5, j5, c5, hR5, f5, hj5⟩ | ⟨hF6, c5⟩
        · have p5 : vp_R b s τ σ5 := vp_R_trans p4 (vp_R_tk f5)
          have tf6 : tf_R (rx_next ρ4) ρ6 := fun a i h => o6 a i (by omega)
          have hY5 := sy_Y_cf hb hY4 (cf_R_fr f5) tf6
          have s115 : σ5 s 11 = σ (8 + b) 8 := by rw [f5 _ _ (by omega) (by omega), f4 _ _ (by omega) (by omega) (by omega), s11]
          have xs5 : xs_R E b F B (fun i => X i ∨ i = ρ 83 11) σ5 ρ6 := xs_vp hb a1 (Or.inr rfl) ⟨m0, by omega⟩ a5 p5 q6 hY5 (by rw [s115]; exact u11) (by rw [f5 _ _ (by omega) (by omega), f4 _ _ (by omega) (by omega) (by omega), f3 _ _ (by omega) (by omega), pc_o (by omega) (by omega)]; exact n9)
          rw [k_105_52 (by omega) c5, b_105_55 hb, b_242_39]
          obtain ⟨ρ7, e7, tf7, hor7⟩ := y_cof (E := E) (d := d - 1) (e := e - 1) hb xs5 hR5 (by omega) (by omega)
          rw [k_242_41 (by omega) e7]
          have q7 : qf_R (ρ 83 11) ρ2 ρ7 := qf_R_trans q6 (qf_R_tf tf7)
          have m7 : ρ7 83 11 = ρ 83 11 + 1 := by rw [q7 _ _ (by omega) (by omega)]; exact a9
          rcases hor7 with ⟨o97, ok7, z29, z28, σ6, j6, c6, hR6, f6, y1, y2, hj6⟩ | ⟨hF7, σ6, c6, f6⟩
          · have p6 : vp_R b s τ σ6 := vp_R_trans p5 (vp_R_cf f6)
            have q8 : qf_R (ρ 83 11) ρ2 (rx_next ρ7) := qf_R_trans q7 (qf_R_tf (tf_R_next _))
            have tf8 : tf_R ρ6 (rx_next ρ7) := tf_R_trans tf7 (tf_R_next _)
            have hY6 : sy_Y E.1 σ6 (rx_next ρ7) b 0 0 (fun i => X i ∨ i = ρ 83 11) := sy_Y_cf hb hY5 f6 tf8
            rw [k_105_60 hb (by omega) c6, b_105_63 hb, b_242_44, o97, if_pos (show js_w 0 = 0 from rfl), js_w_of (x := ρ7 83 28) (by omega) (by omega), js_w_of (x := ρ4 83 28) (by omega) (by omega)]
            by_cases qq : ρ7 83 28 < ρ4 83 28
            · have pl7 : 0 ≤ ρ7 83 29 ∧ ρ7 83 29 < 100000 := by rw [z29]; exact rd_place hR5
              obtain ⟨hF, h9e⟩ := rx_bad_new (τ := ρ7) (k := 4) (p := ρ7 83 29) o97 (by decide) (by decide) pl7.1 pl7.2
              have c50 : js_J E (d - 1) 50 0 [(2, 21 + b), (0, ρ4 83 28)] [] σ6 = th_P E σ6 (rx_bad ρ7 4 (ρ7 83 29) 83 9) := by
                rw [b_50_0 hb, y1, js_w_of (x := ρ7 83 28) (by omega) (by omega), js_w_of (x := ρ4 83 28) (by omega) (by omega), if_pos qq, kt_50_17 (by omega) (c_fail hY6.2.2.1 (by omega)), y2, h9e, z29]
                rfl
              rw [if_pos qq, k_242_67 (by omega) (r_bad (by omega) (by omega)), r_242_70F hF (by omega), kt_105_69 hb (by omega) c50]
              exact Or.inr ⟨_, rfl, vt_of hb ht' fr1 rf1 p6 (rf_R_trans (rf_R_qf q7) (rf_R_tf (tf_R_bad _ _ _))) (by rw [rx_bad_o _ _ _ (by omega)]; exact m7) hF rfl⟩
            · have c50 : js_J E (d - 1) 50 0 [(2, 21 + b), (0, ρ4 83 28)] [] σ6 = js_r0 E σ6 := by
                rw [b_50_0 hb, y1, js_w_of (x := ρ7 83 28) (by omega) (by omega), js_w_of (x := ρ4 83 28) (by omega) (by omega), if_neg qq, b_50_20]
              have o98 : rx_next ρ7 83 9 = 0 := by rw [rx_next_o _ (by omega)]; exact o97
              have hd6 : js_desc E.1 σ6 s = some (0, 11, js_sym) := js_desc_mono a4 (by rw [p6 _ _ (by omega) (by omega) (by omega) (by omega) (by omega)]; exact Int.le_refl _) (fun _ => p6 _ _ (by omega) (by omega) (by omega) (by omega) (by omega))
              rw [if_neg qq, b_242_70, k_242_71 (by omega) (r_next' ok7 (by omega)), b_242_74, o98, if_neg (show ¬ 0 < js_w 0 by decide), js_w_of (x := ρ 83 11) (by omega) (by omega), if_pos (show 0 ≤ ρ 83 11 ∧ ρ 83 11 < 400 from ⟨m0, m4⟩), k_105_69 hb (by omega) c50, b_105_72, k_105_76 hd6 (by omega) (b_43_0 hd6)]
              have ua : ∀ a i : Int, ¬ (a = s ∧ 2 ≤ i ∧ i ≤ 4) → js_up (js_up (js_up σ6 s 2 0) s 3 (ρ4 83 28)) s 4 (ρ7 83 28) a i = σ6 a i := fun a i g => by rw [js_up_ne _ (by omega), js_up_ne _ (by omega), js_up_ne _ (by omega)]
              have ub : ∀ a i : Int, ¬ (88 ≤ a ∧ a ≤ 89 ∧ i = ρ 83 11) → js_up (js_up (rx_next ρ7) 88 (ρ 83 11) (ρ4 83 28)) 89 (ρ 83 11) (ρ7 83 28) a i = rx_next ρ7 a i := fun a i g => by rw [js_up_ne _ (by omega), js_up_ne _ (by omega)]
              have u89 : js_up (js_up (rx_next ρ7) 88 (ρ 83 11) (ρ4 83 28)) 89 (ρ 83 11) (ρ7 83 28) 89 (ρ 83 11) = ρ7 83 28 := js_up_same _ _ _ _
              have u88 : js_up (js_up (rx_next ρ7) 88 (ρ 83 11) (ρ4 83 28)) 89 (ρ 83 11) (ρ7 83 28) 88 (ρ 83 11) = ρ4 83 28 := by rw [js_up_na _ (by decide), js_up_same]
              have s4 : js_up (js_up (js_up σ6 s 2 0) s 3 (ρ4 83 28)) s 4 (ρ7 83 28) s 4 = ρ7 83 28 := js_up_same _ _ _ _
              have s3 : js_up (js_up (js_up σ6 s 2 0) s 3 (ρ4 83 28)) s 4 (ρ7 83 28) s 3 = ρ4 83 28 := by rw [js_up_ni _ (by decide), js_up_same]
              have s2 : js_up (js_up (js_up σ6 s 2 0) s 3 (ρ4 83 28)) s 4 (ρ7 83 28) s 2 = 0 := by rw [js_up_ni _ (by decide), js_up_ni _ (by decide), js_up_same]
              have hY7 : sy_Y E.1 (js_up (js_up (js_up σ6 s 2 0) s 3 (ρ4 83 28)) s 4 (ρ7 83 28)) (rx_next ρ7) b 0 0 (fun i => X i ∨ i = ρ 83 11) := sy_Y_set3 hb hY6 (Or.inr rfl) hd6 (by rw [p6 _ _ (by omega) (by omega) (by omega) (by omega) (by omega)]; exact n0)
              generalize js_up (js_up (js_up σ6 s 2 0) s 3 (ρ4 83 28)) s 4 (ρ7 83 28) = σ7 at ua s4 s3 s2 hY7 ⊢
              generalize js_up (js_up (rx_next ρ7) 88 (ρ 83 11) (ρ4 83 28)) 89 (ρ 83 11) (ρ7 83 28) = ρ9 at ub u89 u88 ⊢
              have p7 : vp_R b s τ σ7 := vp_R_trans p6 (fun a i _ _ _ g4 _ => ua a i (by omega))
              have q9 : qf_R (ρ 83 11) ρ2 ρ9 := qf_R_trans q8 (fun a i g1 g2 => ub a i (by omega))
              have z9 : ∀ i : Int, ρ9 83 i = rx_next ρ7 83 i := fun i => ub _ _ (by omega)
              have w9 : ∀ a : Int, 86 ≤ a → a ≠ 88 → a ≠ 89 → ρ9 a (ρ 83 11) = ρ2 a (ρ 83 11) := fun a g1 g2 g3 => by rw [ub _ _ (by omega), rx_next_o _ (by omega), tf7 _ _ (by omega), o6 _ _ (by omega), rx_next_o _ (by omega), tf4 _ _ (by omega), o3 _ _ (by omega)]
              have k87 : ρ9 87 (ρ 83 11) = 0 := (w9 87 (by decide) (by decide) (by decide)).trans r87
              have k94 : ρ9 94 (ρ 83 11) = 0 := (w9 94 (by decide) (by decide) (by decide)).trans r94
              have k91 : ρ9 91 (ρ 83 11) = 1 := (w9 91 (by decide) (by decide) (by decide)).trans r91
              have m9 : ρ9 83 11 = ρ 83 11 + 1 := by rw [z9, rx_next_o _ (by omega)]; exact m7
              have hY9 : sy_Y E.1 σ7 ρ9 b 0 0 (fun i => X i ∨ i = ρ 83 11) := sy_Y_rx hY7 (Or.inr rfl) (z9 11) (fun a i g1 g2 g3 => ub _ _ (by omega)) (by rw [k87, k94]; omega)
              have k7 : ∀ i : Int, i ≠ 2 → i ≠ 3 → i ≠ 4 → i ≠ 5 → i ≠ 7 → i ≠ 11 → σ7 s i = τ s i := fun i h1 h2 h3 h4 h5 h6 => by rw [ua _ _ (by omega), f6 _ _ (by omega) (by omega) (by omega), f5 _ _ (by omega) (by omega), f4 _ _ (by omega) (by omega) (by omega), f3 _ _ (by omega) (by omega), pc_o (by omega) (by omega)]
              have kp : ∀ i : Int, i = 5 ∨ i = 7 ∨ i = 11 → σ7 s i = pc_S τ b s s i := fun i hi => by rw [ua _ _ (by omega), f6 _ _ (by omega) (by omega) (by omega), f5 _ _ (by omega) (by omega), f4 _ _ (by omega) (by omega) (by omega), f3 _ _ (by omega) (by omega)]
              have k8 : ∀ i : Int, σ7 (8 + b) i = pc_S τ b s (8 + b) i := fun i => by rw [ua _ _ (by omega), f6 _ _ (by omega) (by omega) (by omega), f5 _ _ (by omega) (by omega), f4 _ _ (by omega) (by omega) (by omega), f3 _ _ (by omega) (by omega)]
              have t5 : σ7 s 5 = σ (8 + b) 9 := by rw [kp 5 (by decide), pc_5 (by omega), g8]
              have t7 : σ7 s 7 = σ (22 + b) 0 := by rw [kp 7 (by decide), pc_7 (by omega), g22]
              have t11 : σ7 s 11 = σ (8 + b) 8 := by rw [kp 11 (by decide), pc_11 (by omega), g8]
              have x7 : js_desc E.1 σ7 s = some (0, 11, js_sym) := js_desc_mono a4 (by rw [p7 _ _ (by omega) (by omega) (by omega) (by omega) (by omega)]; exact Int.le_refl _) (fun _ => p7 _ _ (by omega) (by omega) (by omega) (by omega) (by omega))
              have e19 : σ7 (19 + b) (ρ 83 11) = s := by rw [p7 _ _ (by omega) (by omega) (by omega) (by omega) (by omega)]; exact a5
              have xs7 : xs_R E b F B (fun i => X i ∨ i = ρ 83 11) σ7 ρ9 := xs_vp hb a1 (Or.inr rfl) ⟨m0, by omega⟩ a5 p7 q9 hY9 (by rw [t11]; exact u11) (by rw [k7 9 (by decide) (by decide) (by decide) (by decide) (by decide) (by decide)]; exact n9)
              have hR7 : rd_R σ7 ρ9 j6 := rd_R_of hR6 (fun i _ => ua _ _ (by omega)) (fun a i _ _ => ua _ _ (by omega)) (fun i _ _ => z9 i) (fun i => ub _ _ (by omega))
              have hg0 := xs_ge hx.1
              have sf7 : sf_R b (σ (8 + b) 6) (σ (8 + b) 10) (σ (23 + b) 15) (ρ 83 11) σ σ7 := by
                refine ⟨fr_R_trans fr1 (fr_R_trans a2 (fr_R_vp hb m0 m4 a5 hge p7)), fun a i h1 h2 h3 => ?_, fun i h1 h2 => ?_, ?_⟩
                · rw [p7 _ _ (by omega) (by omega) (fun hh => h3 (Or.inl (ef_D21 hh))) (by omega) (fun hh => h3 (Or.inr (Or.inl hh))), a3.1 _ _ h1 h2 (fun hh => h3 (Or.inr (Or.inr (Or.inr (Or.inl hh))))) (fun hh => h3 (Or.inr (Or.inr (Or.inr (Or.inr hh))))) (fun hh => h3 (Or.inr (Or.inr (Or.inl hh)))), f1 _ _ (by omega) (by omega)]
                · have g1 := hg0 i h1 h2
                  have e0 : σ1 (19 + b) i = σ (19 + b) i := f1 _ _ (by omega) (by omega)
                  obtain ⟨d1, d2⟩ := a3.2 i h1 h2
                  have ne := a7 i h1 h2
                  rw [e0] at d1 d2 ne
                  refine ⟨by rw [p7 _ _ (by omega) (by omega) (by omega) (by omega) (by omega), d1], fun k hk => ?_⟩
                  rw [p7 _ _ (by omega) (by omega) (by omega) (by omega) (by omega), d2, f1 _ _ (by omega) (by omega)]
                · rw [p7 _ _ (by omega) (by omega) (by omega) (by omega) (by omega), a12, hx.1.1.2.2.2.2.1]
                  omega
              refine Or.inl ⟨σ7, ρ9, j6, s, ρ4 83 28, ρ7 83 28, rfl, rfl, ⟨xs7, ⟨hR7, by omega⟩, sf7, fun a i h1 h2 h3 h4 h5 => ?_, ⟨m9, ?_, ?_, ?_⟩, ⟨fun i hi => ?_, ?_, ?_, ?_⟩, ⟨x7, e19⟩, ?_, ⟨?_, ?_, ?_, ?_, ?_, ?_, ?_, ?_, ?_, ?_⟩, t5, t11⟩, k91, u88, u89⟩
              · rw [q9 _ _ (by omega) (by omega), a11 _ _ (by omega) (by omega) (by omega), rx_next_o _ (by omega)]
              · rw [z9, rx_next_o _ (by omega), tf7 _ _ (by omega), o6 _ _ (by omega), rx_next_o _ (by omega), tf4 _ _ (by omega), o3 _ _ (by omega), a11 _ _ (by omega) (by omega) (by omega), rx_next_o _ (by omega)]
              · rw [q9 _ _ (by omega) (by omega), a11 _ _ (by omega) (by omega) (by omega), rx_next_o _ (by omega)]
              · rw [q9 _ _ (by omega) (by omega), a11 _ _ (by omega) (by omega) (by omega), rx_next_o _ (by omega)]
              · rw [k8, pc_o (by omega) (by omega), g8]
              · rw [k8, pc_9, g8, k91]
                exact congrArg _ n6
              · rw [p7 _ _ (by omega) (by omega) (by omega) (by omega) (by omega), a3.1 _ _ (by omega) (by omega) (by omega) (by omega) (by omega), f1 _ _ (by omega) (by omega)]
              · rw [p7 _ _ (by omega) (by omega) (by omega) (by omega) (by omega), a12]
              · unfold sy_F
                rw [e19, k87, u88, u89, k91, k94, w9 86 (by decide) (by decide) (by decide), w9 92 (by decide) (by decide) (by decide), w9 93 (by decide) (by decide) (by decide), w9 96 (by decide) (by decide) (by decide), r86, r92, r93, r96]
                exact ⟨(k7 1 (by decide) (by decide) (by decide) (by decide) (by decide) (by decide)).trans n1, s2, s3, s4, (k7 6 (by decide) (by decide) (by decide) (by decide) (by decide) (by decide)).trans n6, t7.trans hpl.2.2.2.1, (k7 8 (by decide) (by decide) (by decide) (by decide) (by decide) (by decide)).trans n8, (k7 10 (by decide) (by decide) (by decide) (by decide) (by decide) (by decide)).trans n10, (k7 12 (by decide) (by decide) (by decide) (by decide) (by decide) (by decide)).trans n12⟩
              · rw [w9 86 (by decide) (by decide) (by decide), r86]; decide
              · rw [w9 86 (by decide) (by decide) (by decide), r86]; decide
              · rw [w9 93 (by decide) (by decide) (by decide)]; exact r93
              · rw [w9 92 (by decide) (by decide) (by decide)]; exact Or.inl r92
              · rw [k91]; decide
              · rw [k91]; decide
              · rw [u88]; omega
              · rw [u88, u89]; omega
              · rw [u89]; omega
              · rw [k87]
                exact ⟨by decide, fun h => absurd h (by decide)⟩
          · rw [r_242_44F hF7 (by omega), kt_105_60 hb (by omega) c6]
            exact Or.inr ⟨ρ7, rfl, vt_of hb ht' fr1 rf1 (vp_R_trans p5 (vp_R_cf f6)) (rf_R_qf q7) m7 hF7 rfl⟩
        · obtain ⟨ρ', e8, f8⟩ := r_242_39F (E := E) (e := e) (x1 := ρ 83 11) (x2 := ρ4 83 28) hF6 (by omega)
          rw [kt_105_52 (by omega) c5, e8]
          exact Or.inr ⟨ρ', rfl, vt_of hb ht' fr1 rf1 p4 (rf_R_trans (rf_R_qf q6) (rf_R_tf f8.1)) (by rw [f8.1 _ _ (by omega)]; exact m6) f8.2.1 (by rw [f8.2.2])⟩
      · obtain ⟨ρ', e8, f8⟩ := r_242_23F (E := E) (e := e) (x1 := ρ 83 11) hF4 (by omega)
        rw [kt_105_41 hb (by omega) c4, e8]
        exact Or.inr ⟨ρ', rfl, vt_of hb ht' fr1 rf1 (vp_R_trans p3 (vp_R_cf f4)) (rf_R_trans (rf_R_qf q4) (rf_R_tf f8.1)) (by rw [f8.1 _ _ (by omega), q4 _ _ (by omega) (by omega)]; exact a9) f8.2.1 (by rw [f8.2.2])⟩
    · obtain ⟨ρ', e8, f8⟩ := r_242_18F (E := E) (e := e) (x1 := ρ 83 11) hF3 (by omega)
      rw [kt_105_33 (by omega) c3, e8]
      exact Or.inr ⟨ρ', rfl, vt_of hb ht' fr1 rf1 vp_R_pc (rf_R_trans (rf_R_qf q3) (rf_R_tf f8.1)) (by rw [f8.1 _ _ (by omega)]; exact m3) f8.2.1 (by rw [f8.2.2])⟩
  · obtain ⟨ρ', e3, f3⟩ := r_242_11F (E := E) (e := e) (z := 0) hF2 (by omega)
    have hs1 := hx1.1.1
    have e11 : ρ' 83 11 = rx_next ρ 83 11 := by rw [f3.1 _ _ (by omega), t2 _ _ (by omega)]
    rw [kt_105_18 hb (by omega) e2, k_242_8 (by omega) rt, e3]
    exact Or.inr ⟨ρ', rfl, rf_R_trans rf1 (rf_R_trans (rf_R_tf t2) (rf_R_tf f3.1)), f3.2.1, by rw [e11]; exact hs1.1, by rw [e11]; exact hs1.2.1, σ1, by rw [f3.2.2], fr1, hx1.1.2.2.2.1, hx1.1.2.2.1⟩
end SG
