/-! part 99.e: lengths in step -/
theorem sy_Y_og {M : Int} {σ ρ σ' ρ' : js_S} {b p q : Int} {X : Int → Prop} (hb : b = 0 ∨ b = 25) (h : sy_Y M σ ρ b p q X) (h1 : of_R σ σ') (h2 : og_R ρ ρ') : sy_Y M σ' ρ' b p q X := sy_Y_of h (fun a i hh => h1 a i (by omega) (by omega)) (h2 _ _ (by omega)) (fun a i _ _ => h2 _ _ (by omega))
theorem kx_R_og {ρ ρ' : js_S} {p q : Int} {X : Int → Prop} (h : kx_R ρ p q X) (h2 : og_R ρ ρ') : kx_R ρ' p q X := kx_R_of h (h2 _ _ (by omega)) (fun a i _ _ => h2 _ _ (by omega))
theorem rx_cs_rok {σ ρ : js_S} {j : Nat} (hR : rd_R σ ρ j) (h9 : rx_cs ρ 83 9 = 0) : rx_ok (rx_cs ρ) := by
  have hok := hR.2.2.1
  have q0 : rx_ck (rx_c1 ρ) (rx_cm ρ) = 0 := by
    by_cases hh : rx_ck (rx_c1 ρ) (rx_cm ρ) = 0
    · exact hh
    · have := (rx_cs_bad hok hh).1.1
      omega
  have hm : rx_cm ρ = false ∨ rx_ct (rx_c1 ρ) = 0 := by
    by_cases h3 : rx_ct (rx_c1 ρ) = 0
    · exact Or.inr h3
    · cases h5 : rx_cm ρ
      · exact Or.inl rfl
      · have := (rx_cs_ty hok q0 h5 h3).1.1
        omega
  have ecs := rx_cs_ok q0 hm
  exact rx_ok_of (rx_c1_ok hok) (fun i _ _ => by rw [ecs, js_up_ni _ (by omega), js_up_ni _ (by omega)]) (fun i => by rw [ecs, js_up_na _ (by decide), js_up_na _ (by decide)])
/-- what a length leaves alone of the reference, n being told -/
def lf_R (n : Int) (ρ ρ' : js_S) : Prop := ∀ a i : Int, ¬ (a = 83 ∧ (5 ≤ i ∧ i ≤ 10 ∨ 27 ≤ i ∧ i ≤ 32)) → ¬ ((a = 91 ∨ a = 92) ∧ i = n) → ρ' a i = ρ a i
theorem lf_R_trans {n : Int} {σ σ' τ : js_S} (h : lf_R n σ σ') (h2 : lf_R n σ' τ) : lf_R n σ τ := fun a i g g2 => (h2 a i g g2).trans (h a i g g2)
theorem lf_R_tf {n : Int} {ρ ρ' : js_S} (h : tf_R ρ ρ') : lf_R n ρ ρ' := fun a i g _ => h a i (by omega)
theorem lf_R_og {n : Int} {ρ ρ' : js_S} (h : og_R ρ ρ') : lf_R n ρ ρ' := fun a i g _ => h a i (by omega)
def lnf_R (b x : Int) (σ σ' : js_S) : Prop := ∀ a i : Int, ¬ (a = 1 ∧ (i = 1 ∨ i = 2 ∨ i = 3 ∨ i = 5 ∨ i = 11)) → a ≠ 2 → ¬ (a = 21 + b ∧ 0 ≤ i ∧ i ≤ 2) → ¬ (a = x ∧ (i = 6 ∨ i = 12)) → σ' a i = σ a i
theorem lnf_R_trans {b x : Int} {σ σ' τ : js_S} (h : lnf_R b x σ σ') (h2 : lnf_R b x σ' τ) : lnf_R b x σ τ := fun a i g1 g2 g3 g4 => (h2 a i g1 g2 g3 g4).trans (h a i g1 g2 g3 g4)
theorem lnf_R_of {b x : Int} {σ σ' : js_S} (h : of_R σ σ') : lnf_R b x σ σ' := fun a i g1 g2 _ _ => h a i g1 g2
theorem lnf_R_cf {b x : Int} {σ σ' : js_S} (h : cf_R b σ σ') : lnf_R b x σ σ' := fun a i g1 g2 g3 _ => h a i (by omega) g2 g3
section RL
variable {E : js_E} {d e : Nat} {σ ρ : js_S} {b : Int}
/-- with a fault: the same fault at the end, and what a length leaves alone -/
def lm_R (n : Int) (ρ ρ' : js_S) : Prop := lf_R n ρ ρ' ∧ rx_F ρ' ∧ ρ' 83 9 = ρ 83 9
theorem lm_R_trans {n : Int} {σ σ' τ : js_S} (h : lm_R n σ σ') (h2 : lm_R n σ' τ) : lm_R n σ τ := ⟨lf_R_trans h.1 h2.1, h2.2.1, h2.2.2.trans h.2.2⟩
theorem r_length_65F (h : rx_F ρ) {n : Int} (hn : 0 ≤ n) (hn2 : n < 400) : ∃ ρ' : js_S, js_J E e 215 65 [(2, 83), (0, n)] [] ρ = js_r0 E ρ' ∧ lm_R n ρ ρ' := by
  refine ⟨js_up (js_up ρ 92 n (js_iand 1 1)) 91 n (ρ 83 28), ?_, fun a i g1 g2 => ?_, ?_, ?_⟩
  · rw [b_215_65, js_w_of (by omega) (by omega), if_pos ⟨hn, hn2⟩]
  · rw [js_up_ne _ (by omega), js_up_ne _ (by omega)]
  · unfold rx_F at h ⊢
    rw [js_up_na _ (by decide), js_up_na _ (by decide), js_up_na _ (by decide), js_up_na _ (by decide)]
    exact h
  · rw [js_up_na _ (by decide), js_up_na _ (by decide)]
theorem r_length_55F (h : rx_F ρ) {n : Int} (hn : 0 ≤ n) (hn2 : n < 400) (he : 5 ≤ e) : ∃ ρ' : js_S, js_J E e 215 55 [(2, 83), (0, n)] [] ρ = js_r0 E ρ' ∧ lm_R n ρ ρ' := by
  have hF : rx_F (js_up ρ 83 10 (ρ 83 10 - 1)) := rx_F_up h (by decide) (by decide)
  obtain ⟨ρ', e1, f1⟩ := r_length_65F (E := E) (e := e) hF hn hn2
  refine ⟨ρ', ?_, lm_R_trans ⟨fun a i g1 g2 => js_up_ne _ (by omega), hF, js_up_ni _ (by decide)⟩ f1⟩
  rw [b_215_55, k_215_56 (by omega) (r_nextF h.1 h.2.1), b_215_59, k_215_62 (by omega) (r_leaveF h (by omega) (by decide) (by decide)), e1]
theorem r_length_21F (h : rx_F ρ) {n : Int} (hn : 0 ≤ n) (hn2 : n < 400) (he : 5 ≤ e) : ∃ ρ' : js_S, js_J E e 215 21 [(2, 83), (0, n)] [] ρ = js_r0 E ρ' ∧ lm_R n ρ ρ' := by
  have f1 := h.1
  have f2 := h.2.1
  rw [b_215_21, js_w_of (x := ρ 83 9) (by omega) (by omega), if_neg (by omega)]
  exact r_length_55F h hn hn2 he
theorem r_length_16F (h : rx_F ρ) {n : Int} (hn : 0 ≤ n) (hn2 : n < 400) (he : 5 ≤ e) : ∃ ρ' : js_S, js_J E e 215 16 [(2, 83), (0, n)] [] ρ = js_r0 E ρ' ∧ lm_R n ρ ρ' := by
  have a1 := fm_R_up (k := 29) (x := ρ 83 6) h (by decide) (by decide)
  obtain ⟨ρ', e1, f1⟩ := r_length_21F (E := E) (e := e) a1.2.1 hn hn2 he
  refine ⟨ρ', ?_, lm_R_trans ⟨lf_R_tf a1.1, a1.2.1, a1.2.2⟩ f1⟩
  rw [b_215_16, k_215_18 (by omega) (r_constantOfF h (by omega)), e1]
theorem r_lengthF (h : rx_F ρ) {n : Int} : js_J E e 215 0 [(2, 83), (0, n)] [] ρ = js_r0 E ρ := by
  rw [b_215_0, h.2.2, if_neg (by decide)]
/-- a length was read by both, or none is there, or both have the same fault -/
def ln_P (E : js_E) (b x n : Int) (σ ρ' : js_S) (p q : Int) (X : Int → Prop) (j : Nat) (R : Option (Outcome × ip_W)) : Prop := (∃ (σ' : js_S) (j' : Nat), R = js_r0 E σ' ∧ rd_R σ' ρ' j' ∧ sy_Y E.1 σ' ρ' b p q X ∧ j ≤ j' ∧ lnf_R b x σ σ' ∧ σ' x 6 = ρ' 91 n ∧ σ' x 12 = ρ' 92 n ∧ 1 ≤ ρ' 91 n ∧ ρ' 91 n ≤ 4096 ∧ (ρ' 92 n = 0 ∨ ρ' 92 n = 1) ∧ σ' 1 5 = σ 1 5 ∧ (ρ' 92 n = 0 → ρ' 91 n = 1)) ∨ (rx_F ρ' ∧ ∃ σ' : js_S, R = th_P E σ' (ρ' 83 9) ∧ lnf_R b x σ σ')
theorem y_length {p q : Int} {X : Int → Prop} (hb : b = 0 ∨ b = 25) (hY : sy_Y E.1 σ ρ b p q X) {j : Nat} (hR : rd_R σ ρ j) (hd : 10 ≤ d) (he : 6 ≤ e) (hk : kx_R ρ p q X) {n x : Int} (hX : X n) (hn0 : 0 ≤ n) (hn4 : n < 400) (hx : js_desc E.1 σ x = some (0, 11, js_sym)) (h0 : σ x 0 = n) (h6 : σ x 6 = 1) (h91 : ρ 91 n = 1) (h12 : σ x 12 = 0) (h92 : ρ 92 n = 0) : ∃ ρ' : js_S, js_J E e 215 0 [(2, 83), (0, n)] [] ρ = js_r0 E ρ' ∧ lf_R n ρ ρ' ∧ ln_P E b x n σ ρ' p q X j (js_J E d 46 0 [(2, 21 + b), (2, x)] [] σ) := by
  have hok := hR.2.2.1
  have hge := js_sym_ge hx
  obtain ⟨hV, c7, c8⟩ := rd_V hR
  have m1 := tk_m_in hV
  have i91 : tk_m (ρ 83 5) = 91 ↔ ρ 83 5 = 91 := tk_m_inj hV (show tk_V 91 by unfold tk_V; omega)
  have w5 : js_w (ρ 83 5) = ρ 83 5 := js_w_of (by have := hok.2.2.2.2.2.2.1; omega) (by have := hok.2.2.2.2.2.2.2.1; omega)
  rw [b_215_0, w5, b_46_0 hb, c7, js_w_of (x := tk_m (ρ 83 5)) (by omega) (by omega)]
  by_cases q1 : ρ 83 5 = 91
  · obtain ⟨ρ1, e1, og1, hor⟩ := y_open (E := E) (d := d - 1) (e := e - 1) (k := 91) hY.2.2.1 hR (by omega) (by omega) (by unfold tk_V; omega) (by decide)
    have t91 : tk_m 91 = 91 := by decide
    rw [t91] at hor
    rw [if_pos q1, if_pos (i91.mpr q1), k_215_13 (by omega) e1]
    rcases hor with ⟨σ1, j1, e2, hR1, of1, hj1, hdeep, hdeep'⟩ | ⟨hF, e2⟩
    · rw [k_46_19 (by omega) e2]
      have x1 : js_desc E.1 σ1 x = some (0, 11, js_sym) := js_desc_mono hx (by rw [of1 _ _ (by omega) (by omega)]; exact Int.le_refl _) (fun _ => of1 _ _ (by omega) (by omega))
      have x10 : σ1 x 0 = n := by rw [of1 _ _ (by omega) (by omega)]; exact h0
      have hY1 := sy_Y_og hb hY of1 og1
      have hk1 := kx_R_og hk og1
      have hY2 := sy_Y_set (k := 12) (v := 1) hb hY1 hX x1 x10 (by decide) (by decide)
      have x2 : js_desc E.1 (js_up σ1 x 12 1) x = some (0, 11, js_sym) := by rw [js_desc_up (by omega) (fun _ => by decide)]; exact x1
      have hR2 : rd_R (js_up σ1 x 12 1) ρ1 j1 := rd_R_of hR1 (fun i _ => js_up_na _ (by omega)) (fun a i _ _ => js_up_na _ (by omega)) (fun _ _ _ => rfl) (fun _ => rfl)
      have lf2 : lnf_R b x σ (js_up σ1 x 12 1) := fun a i g1 g2 g3 g4 => by rw [js_up_ne _ (by omega)]; exact of1 a i g1 g2
      have hok1 := hR1.2.2.1
      obtain ⟨c3a, c3b⟩ := y_read (E := E) (d := d - 1) (t := 0) hb hY2 hR2 (by omega) hk1 (by decide) (by decide)
      have r3 := r_constantOf (E := E) (d := e - 1) (t := 0) hok1 hY2.1 hY2.2.1 (by omega) (rd_c8 hR2) (by decide) (by decide)
      rw [b_46_22 x1, b_215_16, k_215_18 (by omega) r3]
      by_cases q2 : rx_ce ρ1 0 = 0
      · obtain ⟨σ3, j3, e3, hR3, hY3, f3, s0, s1, s2, hj3⟩ := c3a q2
        clear c3a c3b
        obtain ⟨g1, g2, g3⟩ := rx_co_ok (by decide) hok1 q2
        have v1 := rx_cs_27 hok1 hY2.1 hY2.2.1 (rd_c8 hR2) g3
        have x3 := sy_x_cf hb x2 f3
        have lf3 : lnf_R b x σ (js_up σ3 x 6 (rx_cs ρ1 83 28)) := lnf_R_trans lf2 (lnf_R_trans (lnf_R_cf f3) (fun a i g1 g2 g3 g4 => js_up_ne _ (by omega)))
        have x30 : σ3 x 0 = n := by rw [x3.2, js_up_ni _ (by decide)]; exact x10
        have hY4 := sy_Y_set (k := 6) (v := rx_cs ρ1 83 28) hb hY3 hX x3.1 x30 (by decide) (by decide)
        have hR4 : rd_R (js_up σ3 x 6 (rx_cs ρ1 83 28)) (rx_next (rx_cs ρ1)) j3 := rd_R_of hR3 (fun i _ => js_up_na _ (by omega)) (fun a i _ _ => js_up_na _ (by omega)) (fun _ _ _ => rfl) (fun _ => rfl)
        have hn4' : cx_n (js_up σ3 x 6 (rx_cs ρ1 83 28)) := hY4.2.2.1
        rw [k_46_30 hb (by omega) e3, b_46_33 x3.1 x3.1, js_up_same, js_w_of (x := rx_cs ρ1 83 28) (by omega) (by omega), g1, b_215_21, g3, if_pos (show js_w 0 = 0 from rfl), js_w_of (x := rx_cs ρ1 83 28) (by omega) (by omega)]
        have tcs := tf_R_cs ρ1
        by_cases q3 : rx_cs ρ1 83 28 < 1 ∨ 4096 < rx_cs ρ1 83 28
        · have hF : rx_F (rx_bad (rx_cs ρ1) 4 (rx_cs ρ1 83 29)) ∧ rx_bad (rx_cs ρ1) 4 (rx_cs ρ1 83 29) 83 9 = 4 + 16 * rx_cs ρ1 83 29 := by
            have i1 := hok1.2.2.2.1
            have i2 := hok1.2.2.2.2.1
            have i3 := hok1.2.2.2.2.2.1
            have i4 := hok1.1.2.1
            exact rx_bad_ok g3 (by decide) (by decide) (by rw [rx_cs_29]; omega) (by rw [rx_cs_29]; omega)
          obtain ⟨ρ', e5, f5⟩ := r_length_55F (E := E) (e := e) hF.1 hn0 hn4 (by omega)
          have rr : js_J E e 215 46 [(2, 83), (0, n)] [] (rx_cs ρ1) = js_r0 E ρ' := by
            rw [b_215_46, k_215_52 (by omega) (r_bad (by omega) (by omega)), e5]
          have cc : js_J E d 46 54 [(2, 21 + b), (2, x)] [] (js_up σ3 x 6 (rx_cs ρ1 83 28)) = th_P E (js_up σ3 x 6 (rx_cs ρ1 83 28)) (ρ' 83 9) := by
            rw [b_46_54 hb, kt_46_63 (by omega) (c_fail hn4' (by omega)), f5.2.2, hF.2, rx_cs_29, js_up_na (b := 21 + b) _ (by omega), s2]
            rfl
          rw [rr, cc]
          refine ⟨ρ', ?_, lf_R_trans (lf_R_og og1) (lf_R_trans (lf_R_tf tcs) (lf_R_trans (lf_R_tf (tf_R_bad _ _ _)) f5.1)), Or.inr ⟨f5.2.1, _, ?_, lf3⟩⟩
          · by_cases q4 : rx_cs ρ1 83 28 < 1
            · rw [if_pos q4]
            · rw [if_neg q4, if_pos (show 4096 < rx_cs ρ1 83 28 by omega)]
          · by_cases q4 : rx_cs ρ1 83 28 < 1
            · rw [if_pos q4]
            · rw [if_neg q4, if_pos (show 4096 < rx_cs ρ1 83 28 by omega)]
        · rw [if_neg (show ¬ rx_cs ρ1 83 28 < 1 by omega), if_neg (show ¬ 4096 < rx_cs ρ1 83 28 by omega), if_neg (show ¬ rx_cs ρ1 83 28 < 1 by omega), if_neg (show ¬ 4096 < rx_cs ρ1 83 28 by omega), b_215_55, k_215_56 (by omega) (r_next' (rx_cs_rok hR1 g3) (by omega)), b_215_59, b_46_66 hb]
          have h10 : 1 ≤ rx_next (rx_cs ρ1) 83 10 := by
            have := hR.2.2.2.2.1
            rw [rx_next_o _ (by omega), rx_cs_o _ (by omega), hdeep']
            omega
          obtain ⟨ρ5, e5, og5, hor5⟩ := y_close (E := E) (d := d - 1) (e := e - 1) (k := 93) hn4' hR4 (by omega) (by omega) (by unfold tk_V; omega) (by decide) h10
          have t93 : tk_m 93 = 93 := by decide
          rw [t93] at hor5
          rw [k_215_62 (by omega) e5]
          have tz : lf_R n ρ ρ5 := lf_R_trans (lf_R_og og1) (lf_R_trans (lf_R_tf tcs) (lf_R_trans (lf_R_tf (tf_R_next _)) (lf_R_og og5)))
          have v5 : ρ5 83 28 = rx_cs ρ1 83 28 := by rw [og5 _ _ (by omega), rx_next_o _ (by omega)]
          have jw : js_iand 1 1 = 1 := js_iand11
          rcases hor5 with ⟨σ5, j5, e6, hR5, of5, hj5, hd5⟩ | ⟨hF5, e6⟩
          · have hY5 := sy_Y_og hb hY4 of5 og5
            have d5 : σ5 1 5 = σ 1 5 := by
              have a1 := hR5.2.2.2.1
              have a2 := hR.2.2.2.1
              have a3 : rx_next (rx_cs ρ1) 83 10 = ρ1 83 10 := by rw [rx_next_o _ (by omega), rx_cs_o _ (by omega)]
              omega
            refine ⟨js_up (js_up ρ5 92 n 1) 91 n (rx_cs ρ1 83 28), ?_, ?_, Or.inl ⟨σ5, j5, ?_, ?_, ?_, by omega, ?_, ?_, ?_, ?_⟩⟩
            · rw [b_215_65, js_w_of (by omega) (by omega), if_pos ⟨hn0, hn4⟩, jw, v5]
            · exact lf_R_trans tz (fun a i g1 g2 => by rw [js_up_ne _ (by omega), js_up_ne _ (by omega)])
            · rw [k_46_72 (by omega) e6, b_46_75]
            · exact rd_R_of hR5 (fun _ _ => rfl) (fun _ _ _ _ => rfl) (fun i _ _ => by rw [js_up_na _ (by decide), js_up_na _ (by decide)]) (fun i => by rw [js_up_na _ (by decide), js_up_na _ (by decide)])
            · exact sy_Y_rx2 hY5 hX (by rw [js_up_na _ (by decide), js_up_na _ (by decide)]) (fun a i g1 g2 g3 => by rw [js_up_ne _ (by omega), js_up_ne _ (by omega)]) (fun hlt => by
                have hv := hY5.2.1 n hn0 hlt
                rw [js_up_na _ (by decide), js_up_na _ (by decide), js_up_na _ (by decide), js_up_na _ (by decide)]; omega)
            · exact lnf_R_trans lf3 (lnf_R_of of5)
            · rw [of5 _ _ (by omega) (by omega), js_up_same, js_up_same]
            · rw [of5 _ _ (by omega) (by omega), js_up_ni _ (by decide), x3.2, js_up_same, js_up_na _ (by decide), js_up_same]
            · rw [js_up_same, js_up_na _ (by decide), js_up_same]
              omega
          · obtain ⟨ρ', e7, f7⟩ := r_length_65F (E := E) (e := e) hF5 hn0 hn4
            rw [e7, kt_46_72 (by omega) e6]
            exact ⟨ρ', rfl, lf_R_trans tz f7.1, Or.inr ⟨f7.2.1, _, by rw [f7.2.2], lf3⟩⟩
      · obtain ⟨σ3, e3, f3⟩ := c3b q2
        have hF := rx_co_bad hok1 q2 (by decide)
        obtain ⟨ρ', e5, f5⟩ := r_length_21F (E := E) (e := e) hF.1 hn0 hn4 (by omega)
        rw [e5, kt_46_30 hb (by omega) e3]
        exact ⟨ρ', rfl, lf_R_trans (lf_R_og og1) (lf_R_trans (lf_R_tf (tf_R_co _ _)) f5.1), Or.inr ⟨f5.2.1, σ3, by rw [f5.2.2, hF.2], lnf_R_trans lf2 (lnf_R_cf f3)⟩⟩
    · obtain ⟨ρ', e5, f5⟩ := r_length_16F (E := E) (e := e) hF hn0 hn4 (by omega)
      rw [e5, kt_46_19 (by omega) e2]
      exact ⟨ρ', rfl, lf_R_trans (lf_R_og og1) f5.1, Or.inr ⟨f5.2.1, σ, by rw [f5.2.2], fun a i _ _ _ _ => rfl⟩⟩
  · rw [if_neg q1, if_neg (fun hh => q1 (i91.mp hh))]
    exact ⟨ρ, rfl, fun a i _ _ => rfl, Or.inl ⟨σ, j, rfl, hR, hY, Nat.le_refl _, fun a i _ _ _ _ => rfl, by rw [h6, h91], by rw [h12, h92], by omega, by omega, Or.inl h92, rfl, fun _ => h91⟩⟩
end RL
