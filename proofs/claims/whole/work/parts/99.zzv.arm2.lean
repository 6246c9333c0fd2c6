/-! part 99.zzv: C : and C .. C : of an ARM in step -/
section SS
variable {E : js_E} {e : Nat} {ρ : js_S} {x1 x2 x3 x4 x5 x6 x7 : Int} {u5 u6 u7 u8 : js_v}
theorem r_238_221F (h : rx_F ρ) (he : 7 ≤ e) (h1 : 0 ≤ ρ 83 11) (h4 : ρ 83 11 ≤ 400) {z1 z2 : Int} : ∃ ρ' : js_S, js_J E e 238 221 [(2, 83), (0, x1), (0, x2), (0, x3), (0, x4), (0, x5), (0, x6), (0, x7), u8] [(0, z2), (0, z1), (2, 83)] ρ = js_r E (0, -1) ρ' ∧ hf_R ρ ρ' := by
  obtain ⟨ρ1, e1, f1⟩ := r_blockF (E := E) (e := e - 1) h (by omega) h1 h4
  refine ⟨ρ1, ?_, f1⟩
  rw [b_238_221, k_238_228 (by omega) e1, b_238_231, k_238_233 (by omega) (r_nodeF (hf_F h f1)), b_238_236, if_pos (rx_F_9 (hf_F h f1))]
theorem r_238_208F (h : rx_F ρ) (he : 7 ≤ e) (h1 : 0 ≤ ρ 83 11) (h4 : ρ 83 11 ≤ 400) : ∃ ρ' : js_S, js_J E e 238 208 [(2, 83), (0, x1), (0, x2), (0, x3), (0, x4), (0, x5), (0, x6), (0, x7), u8] [] ρ = js_r E (0, -1) ρ' ∧ hf_R ρ ρ' := by
  rw [b_238_208]
  by_cases q : js_w x7 = 0
  · rw [if_pos q]
    exact r_238_221F h he h1 h4
  · rw [if_neg q]
    exact r_238_221F h he h1 h4
theorem r_238_202F (h : rx_F ρ) (he : 7 ≤ e) (h1 : 0 ≤ ρ 83 11) (h4 : ρ 83 11 ≤ 400) : ∃ ρ' : js_S, js_J E e 238 202 [(2, 83), (0, x1), (0, x2), (0, x3), (0, x4), (0, x5), (0, x6), (0, x7), u8] [] ρ = js_r E (0, -1) ρ' ∧ hf_R ρ ρ' := by
  rw [b_238_202, k_238_205 (by omega) (r_takeF h (by omega) (by decide) (by decide))]
  exact r_238_208F h he h1 h4
theorem r_238_198F (h : rx_F ρ) (he : 7 ≤ e) (h1 : 0 ≤ ρ 83 11) (h4 : ρ 83 11 ≤ 400) : ∃ ρ' : js_S, js_J E e 238 198 [(2, 83), (0, x1), (0, x2), (0, x3), (0, x4), (0, x5), (0, x6), (0, x7), u8] [] ρ = js_r E (0, -1) ρ' ∧ hf_R ρ ρ' := by
  rw [b_238_198, k_238_199 (by omega) (r_nextF h.1 h.2.1)]
  exact r_238_202F h he h1 h4
theorem r_238_169F (h : rx_F ρ) (he : 7 ≤ e) (h1 : 0 ≤ ρ 83 11) (h4 : ρ 83 11 ≤ 400) : ∃ ρ' : js_S, js_J E e 238 169 [(2, 83), (0, x1), (0, x2), (0, x3), (0, x4), (0, x5), (0, x6), (0, x7), u8] [] ρ = js_r E (0, -1) ρ' ∧ hf_R ρ ρ' := by
  have n9 : ¬ js_w (ρ 83 9) = 0 := by have := rx_F_9 h; omega
  rw [b_238_169, if_neg n9]
  exact r_238_198F h he h1 h4
/-- a fault and what the C behind it leaves -/
theorem r_238_160F (h : rx_F ρ) (he : 7 ≤ e) (h1 : 0 ≤ ρ 83 11) (h4 : ρ 83 11 ≤ 400) : ∃ ρ' : js_S, js_J E e 238 160 [(2, 83), (0, x1), (0, x2), (0, x3), (0, x4), (0, x5), (0, x6), (0, x7), u8] [] ρ = js_r E (0, -1) ρ' ∧ hf_R (js_up ρ 83 29 (ρ 83 6)) ρ' := by
  have x11 : js_up ρ 83 29 (ρ 83 6) 83 11 = ρ 83 11 := js_up_ni _ (by decide)
  rw [b_238_160, k_238_161 (by omega) (r_nextF h.1 h.2.1), b_238_164, k_238_166 (by omega) (r_constantOfF h (by omega))]
  exact r_238_169F (rx_F_up h (by decide) (by decide)) he (by rw [x11]; exact h1) (by rw [x11]; exact h4)
theorem r_238_106F (h : rx_F ρ) (he : 7 ≤ e) (h1 : 0 ≤ ρ 83 11) (h4 : ρ 83 11 ≤ 400) : ∃ ρ' : js_S, js_J E e 238 106 [(2, 83), (0, x1), (0, x2), (0, x3), (0, x4), u5, u6, u7, u8] [] ρ = js_r E (0, -1) ρ' ∧ hf_R ρ ρ' := by
  have n5 : ¬ js_w (ρ 83 5) = 200 := by rw [h.2.2]; decide
  rw [b_238_106, k_238_113 (by omega) (r_nextF h.1 h.2.1), b_238_116, if_neg n5, b_238_135, if_pos (show js_w 0 = 0 from rfl)]
  exact r_238_202F h he h1 h4
end SS
/-- C : or C .. C : was read by both -/
def ar_R (b u t : Int) (σ ρ : js_S) (j : Nat) (σ' ρ' : js_S) (j' : Nat) (sk v1 v2 two : Int) : Prop := (rd_R σ' ρ' j' ∧ j < j' ∧ tf_R ρ ρ' ∧ ef_R b (σ (8 + b) 6) (σ (8 + b) 10) (σ (23 + b) 15) σ σ') ∧ (hg_R σ' b ∧ (∀ i : Int, i ≠ 6 → i ≠ 7 → σ' (8 + b) i = σ (8 + b) i) ∧ σ' (23 + b) 15 = σ (23 + b) 15) ∧ ((-2000000000 ≤ v1 ∧ v1 ≤ v2 ∧ v2 ≤ 2000000000) ∧ sk = σ' (8 + b) 6 - 1) ∧ ((two = 0 ∧ v2 = v1 ∧ σ' (8 + b) 6 = σ (8 + b) 6 + 5 ∧ σ' (8 + b) 7 = min 400000 (σ (8 + b) 7 + 5) ∧ (σ' (8 + b) 6 ≤ 8192 → cl_P (ci_P σ' b u) [(0, 0, v1, 0, 0, v1, v1), (3, 0, 0, 0, 0, 1, 0), (1, 2, t, 0, 0, σ (17 + b) t, σ (18 + b) t), (17, 0, 0, 0, 0, 0, 1), (25, 0, -1, 0, 0, 1, 0)] (σ (8 + b) 6))) ∨ (two = 1 ∧ σ' (8 + b) 6 = σ (8 + b) 6 + 10 ∧ σ' (8 + b) 7 = min 400000 (σ (8 + b) 7 + 10) ∧ (σ' (8 + b) 6 ≤ 8192 → cl_P (ci_P σ' b u) [(0, 0, v1, 0, 0, v1, v1), (3, 0, 0, 0, 0, 1, 0), (1, 2, t, 0, 0, σ (17 + b) t, σ (18 + b) t), (16, 0, 0, 0, 0, 0, 1), (25, 0, -1, 0, 0, 1, 0)] (σ (8 + b) 6) ∧ cl_P (ci_P σ' b u) [(0, 0, v2, 0, 0, v2, v2), (3, 0, 0, 0, 0, 1, 0), (1, 2, t, 0, 0, σ (17 + b) t, σ (18 + b) t), (14, 0, 0, 0, 0, 0, 1), (25, 0, σ (8 + b) 6 + 4, 0, 0, 1, 0)] (σ (8 + b) 6 + 5))))
section ST
variable {E : js_E} {d e : Nat} {b F : Int} {B U : Int → Int} {X : Int → Prop} {σ ρ : js_S} {j : Nat}
theorem cl_P_ef {b u n t p : Int} {σ σ' : js_S} {L : List xt_I} {q : Int} (hb : b = 0 ∨ b = 25) (hg : hg_R σ b) (h : ef_R b n t p σ σ') (hn : q + (L.length : Int) ≤ n) (hc : cl_P (ci_P σ b u) L q) : cl_P (ci_P σ' b u) L q := cl_of L q (fun i I g1 g2 hI => ci_sf hb (sf_R_ef hb hg h) (by omega) hI) hc
/-- the ends of an ARM's head: a fault -/
theorem ar_F {ρ1 ρ' σ1 : js_S} {R : Option (Outcome × ip_W)} (hb : b = 0 ∨ b = 25) (hx : xs_R E b F B X σ ρ) (hF : rx_F ρ1) (ht : tf_R ρ ρ1) (hf : ef_R b (σ (8 + b) 6) (σ (8 + b) 10) (σ (23 + b) 15) σ σ1) (hR : R = th_P E σ1 (ρ1 83 9)) (h : hf_R ρ1 ρ') : sF_P E b σ ρ ρ' R := sF_more (sF_xf hb hx ⟨hF, eg_R_tf ht, σ1, hR, hf⟩) h
theorem y_arm {ty tm x1 x2 x3 x4 : Int} {u5 u6 u7 u8 : js_v} (hb : b = 0 ∨ b = 25) (hx : xs_R E b F B X σ ρ) (hn : xn_R b σ ρ j) (hR : rd_R σ ρ j) (hty : 0 ≤ ty ∧ ty < 1000) (htm : 0 ≤ tm ∧ tm < 1024) (hx2 : 0 ≤ x2 ∧ x2 < 66000) (h101 : ρ 101 x2 = ty) (hd : 12 ≤ d) (he : 9 ≤ e) : (∃ (σ' ρ' : js_S) (j' : Nat) (sk v1 v2 two : Int), js_J E d 100 0 [(2, 22 + b), (0, ty), (0, tm), (9, 0), (9, 0), (9, 0), (9, 0)] [] σ = js_r E (0, sk) σ' ∧ js_J E e 238 103 [(2, 83), (0, x1), (0, x2), (0, x3), (0, x4), u5, u6, u7, u8] [(0, ty), (2, 83)] ρ = js_J E e 238 208 [(2, 83), (0, x1), (0, x2), (0, x3), (0, x4), (0, v1), (0, v2), (0, two), u8] [] ρ' ∧ ar_R b (σ (8 + b) 8) tm σ ρ j σ' ρ' j' sk v1 v2 two) ∨ (∃ ρ' : js_S, js_J E e 238 103 [(2, 83), (0, x1), (0, x2), (0, x3), (0, x4), u5, u6, u7, u8] [(0, ty), (2, 83)] ρ = js_r E (0, -1) ρ' ∧ sF_P E b σ ρ ρ' (js_J E d 100 0 [(2, 22 + b), (0, ty), (0, tm), (9, 0), (9, 0), (9, 0), (9, 0)] [] σ)) := by
  have hs1 := hx.1.1.1
  have hs2 := hx.1.1.2.1
  have hj := rd_j hR
  have hn0 := hn
  unfold xn_R at hn0
  have t58 : tk_m 58 = 58 := by decide
  have t200 : tk_m 200 = 128 := by decide
  obtain ⟨ρ1, e1, tf1, hor⟩ := y_cofT (E := E) (d := d - 1) (e := e - 1) (t := ty) hb hx hR hty.1 hty.2 (by omega) (by omega)
  have y11 : ρ1 83 11 = ρ 83 11 := tf1 _ _ (by omega)
  rw [b_100_0 hb, k_238_103 (by omega) e1]
  rcases hor with ⟨o9, ok1, v29, v28, σ1, j1, c1, R1, f1, w1, w2, hj1⟩ | ⟨hF, σ1, c1, f1⟩
  · have F01 : ∀ n t p : Int, ef_R b n t p σ σ1 := fun n t p => ef_R_cf f1
    have a8 : ∀ k : Int, σ1 (8 + b) k = σ (8 + b) k := fun k => f1 _ _ (by omega) (by omega) (by omega)
    have a86 := a8 6
    have a87 := a8 7
    have a15 : σ1 (23 + b) 15 = σ (23 + b) 15 := f1 _ _ (by omega) (by omega) (by omega)
    have a17 : ∀ a i : Int, 17 + b ≤ a → a ≤ 18 + b → σ1 a i = σ a i := fun a i g1 g2 => f1 _ _ (by omega) (by omega) (by omega)
    have tf2 : tf_R ρ (rx_next ρ1) := tf_R_trans tf1 (tf_R_next _)
    have hx1 := xs_R_ef hb hx (F01 0 0 0) (eg_R_tf (N := 0) tf2)
    have hz1 : cz_R σ1 b := by
      unfold cz_R
      omega
    have tk1 := tkq R1 (k := 200) (by unfold tk_V; omega)
    rw [t200] at tk1
    have hV := (rd_V R1).1
    have w5 : js_w (rx_next ρ1 83 5) = rx_next ρ1 83 5 := by
      unfold tk_V at hV
      exact js_w_of (by omega) (by omega)
    have n11 : rx_next ρ1 83 11 = ρ 83 11 := by rw [rx_next_o _ (by omega)]; exact y11
    have n101 : rx_next ρ1 101 x2 = ty := by rw [rx_next_o _ (by omega), tf1 _ _ (by omega)]; exact h101
    have n9 : rx_next ρ1 83 9 = 0 := by rw [rx_next_o _ (by omega)]; exact o9
    rw [k_100_5 hb (by omega) c1, b_100_8 hb, b_238_106, k_238_113 (by omega) (r_next' ok1 (by omega)), b_238_116, w5]
    by_cases q : rx_next ρ1 83 5 = 200
    · rw [if_pos (tk1.mpr q), if_pos q, b_100_27 hb, if_neg (show ¬ js_w 1 = 0 by decide), js_w_of (x := ty) (by omega) (by omega), b_238_135, if_neg (show ¬ js_w 1 = 0 by decide), js_w_of (x := x2) (by omega) (by omega), if_pos hx2, n101, js_w_of (x := ty) (by omega) (by omega)]
      by_cases qt : ty = 0
      · rw [if_pos qt, if_pos qt]
        obtain ⟨σ2, e2, c2⟩ := c_test (E := E) (d := d - 1) (u := σ (8 + b) 8) (σ := σ1) (v := ρ1 83 28) (t := tm) (op := 16) (sk := -1) hb hz1 (xs_hg hx1) (by omega) htm (a8 8) (by omega)
        rw [a17 _ _ (by omega) (by omega), a17 _ _ (by omega) (by omega)] at c2
        have c2' := c2
        obtain ⟨⟨g2, z2⟩, s26, s27, sc2, sO2⟩ := c2
        have s26 : σ2 (8 + b) 6 = σ1 (8 + b) 6 + 5 := s26
        have s27 : σ2 (8 + b) 7 = min 400000 (σ1 (8 + b) 7 + 5) := s27
        have R2 : rd_R σ2 (rx_next ρ1) j1 := rd_R_of R1 (fun i _ => sO2 _ _ (by omega) (by omega)) (fun a i _ _ => sO2 _ _ (by omega) (by omega)) (fun _ _ _ => rfl) (fun _ => rfl)
        obtain ⟨σ3, j3, e3, R3, f3, _, hj3⟩ := y_next (E := E) (d := d - 1) R2
        have hj3' := hj3 (by omega)
        subst hj3'
        clear hj3
        have F12 : ∀ n t p : Int, n ≤ σ (8 + b) 6 → ef_R b n t p σ1 σ2 := fun n t p h => ef_R_cl c2' (by omega)
        have F03 : ef_R b (σ (8 + b) 6) (σ (8 + b) 10) (σ (23 + b) 15) σ σ3 := ef_R_trans (F01 _ _ _) (ef_R_trans (F12 _ _ _ (Int.le_refl _)) (ef_R_tk f3))
        have ok2 : rx_ok (rx_next ρ1) := R2.2.2.1
        have tf3 : tf_R ρ (rx_next (rx_next ρ1)) := tf_R_trans tf2 (tf_R_next _)
        have hx3 := xs_R_ef hb hx F03 (eg_R_tf (N := 0) tf3)
        obtain ⟨ρ4, e4, tf4, hor4⟩ := y_cofT (E := E) (d := d - 1) (e := e - 1) (t := 0) hb hx3 R3 (by decide) (by decide) (by omega) (by omega)
        have tf04 : tf_R ρ ρ4 := tf_R_trans tf3 tf4
        have y411 : ρ4 83 11 = ρ 83 11 := tf04 _ _ (by omega)
        rw [b_100_53, if_neg (show ¬ js_w 1 = 0 by decide), b_100_68, k_100_69 hb (by omega) e2, b_100_72 hb, if_neg (show ¬ js_w 1 = 0 by decide), k_100_83 (by omega) e3, b_100_86 hb, b_238_160, k_238_161 (by omega) (r_next' ok2 (by omega)), b_238_164, k_238_166 (by omega) e4]
        rcases hor4 with ⟨p9, ok4, z29, z28, σ4, j4, c4, R4, f4, y1, y2, hj4⟩ | ⟨hF4, σ4, c4, f4⟩
        · have F04 : ef_R b (σ (8 + b) 6) (σ (8 + b) 10) (σ (23 + b) 15) σ σ4 := ef_R_trans F03 (ef_R_cf f4)
          rw [k_100_91 hb (by omega) c4, b_100_94 hb, b_238_169, p9, if_pos (show js_w 0 = 0 from rfl), js_w_of (x := ρ4 83 28) (by omega) (by omega), js_w_of (x := ρ1 83 28) (by omega) (by omega)]
          by_cases qq : ρ4 83 28 < ρ1 83 28
          · have pl : 0 ≤ ρ4 83 29 ∧ ρ4 83 29 < 100000 := by rw [z29]; exact rd_place R3
            have hx4 := xs_R_ef hb hx F04 (eg_R_tf (N := 0) tf04)
            obtain ⟨hF5, h9e⟩ := rx_bad_new (τ := ρ4) (k := 4) (p := ρ4 83 29) p9 (by decide) (by decide) pl.1 pl.2
            have c50 : js_J E (d - 1) 50 0 [(2, 21 + b), (0, ρ1 83 28)] [] σ4 = th_P E σ4 (rx_bad ρ4 4 (ρ4 83 29) 83 9) := by
              rw [b_50_0 hb, y1, js_w_of (x := ρ4 83 28) (by omega) (by omega), js_w_of (x := ρ1 83 28) (by omega) (by omega), if_pos qq, kt_50_17 (by omega) (c_fail hx4.1.2.2.1 (by omega)), y2, h9e, z29]
              rfl
            have y511 : rx_bad ρ4 4 (ρ4 83 29) 83 11 = ρ 83 11 := by rw [rx_bad_o _ _ _ (by omega)]; exact y411
            obtain ⟨ρ', e9, h9⟩ := r_238_198F (E := E) (e := e) (x1 := x1) (x2 := x2) (x3 := x3) (x4 := x4) (x5 := ρ1 83 28) (x6 := ρ4 83 28) (x7 := 1) (u8 := u8) hF5 (by omega) (by omega) (by omega)
            rw [if_pos qq, k_238_195 (by omega) (r_bad (by omega) (by omega)), e9, kt_100_101 hb (by omega) c50]
            exact Or.inr ⟨ρ', rfl, ar_F hb hx hF5 (tf_R_trans tf04 (tf_R_bad _ _ _)) F04 rfl h9⟩
          · have c50 : js_J E (d - 1) 50 0 [(2, 21 + b), (0, ρ1 83 28)] [] σ4 = js_r0 E σ4 := by
              rw [b_50_0 hb, y1, js_w_of (x := ρ4 83 28) (by omega) (by omega), js_w_of (x := ρ1 83 28) (by omega) (by omega), if_neg qq, b_50_20]
            have hx4 := xs_R_ef hb hx F04 (eg_R_tf (N := 0) (tf_R_trans tf04 (tf_R_next _)))
            have g4 : ∀ a i : Int, 7 + b ≤ a → a ≤ 20 + b → σ4 a i = σ2 a i := fun a i g1 g2 => by rw [f4 _ _ (by omega) (by omega) (by omega), f3 _ _ (by omega) (by omega)]
            have g46 := g4 (8 + b) 6 (by omega) (by omega)
            have g47 := g4 (8 + b) 7 (by omega) (by omega)
            have hz4 : cz_R σ4 b := by
              unfold cz_R
              omega
            have u4 : σ4 (8 + b) 8 = σ (8 + b) 8 := by rw [g4 _ _ (by omega) (by omega), sO2 _ _ (by omega) (by omega), a8]
            have hj4' := rd_j R4
            obtain ⟨σ5, e5, c5⟩ := c_test (E := E) (d := d - 1) (u := σ (8 + b) 8) (σ := σ4) (v := ρ4 83 28) (t := tm) (op := 14) (sk := σ1 (8 + b) 6 + 4) hb hz4 (xs_hg hx4) (by omega) htm u4 (by omega)
            rw [g4 (17 + b) tm (by omega) (by omega), g4 (18 + b) tm (by omega) (by omega), sO2 (17 + b) tm (by omega) (by omega), sO2 (18 + b) tm (by omega) (by omega), a17 _ _ (by omega) (by omega), a17 _ _ (by omega) (by omega)] at c5
            have c5' := c5
            obtain ⟨⟨g5, z5⟩, s56, s57, sc5, sO5⟩ := c5
            have s56 : σ5 (8 + b) 6 = σ4 (8 + b) 6 + 5 := s56
            have s57 : σ5 (8 + b) 7 = min 400000 (σ4 (8 + b) 7 + 5) := s57
            have R5 : rd_R σ5 (rx_next ρ4) j4 := rd_R_of R4 (fun i _ => sO5 _ _ (by omega) (by omega)) (fun a i _ _ => sO5 _ _ (by omega) (by omega)) (fun _ _ _ => rfl) (fun _ => rfl)
            have F45 : ∀ n t p : Int, n ≤ σ4 (8 + b) 6 → ef_R b n t p σ4 σ5 := fun n t p h => ef_R_cl c5' h
            have F05 : ef_R b (σ (8 + b) 6) (σ (8 + b) 10) (σ (23 + b) 15) σ σ5 := ef_R_trans F04 (F45 _ _ _ (by omega))
            have tf05 : tf_R ρ (rx_next ρ4) := tf_R_trans tf04 (tf_R_next _)
            have hx5 := xs_R_ef hb hx F05 (eg_R_tf (N := 0) tf05)
            obtain ⟨ρ6, e6, t6, hor6⟩ := y_take (E := E) (d := d - 1) (e := e - 1) (k := 58) hx5.1.2.2.1 R5 (by omega) (by omega) (by unfold tk_V; omega) (by decide)
            rw [t58] at hor6
            have tf06 : tf_R ρ ρ6 := tf_R_trans tf05 (fun a i h => t6 a i (by omega))
            rw [if_neg qq, k_100_101 hb (by omega) c50, b_100_104, k_100_112 hb (by omega) e5, b_100_115, b_100_117 hb, b_238_198, k_238_199 (by omega) (r_next' ok4 (by omega)), b_238_202, k_238_205 (by omega) e6]
            rcases hor6 with ⟨σ6, j6, c6, R6, f6, hj6⟩ | ⟨hF6, c6⟩
            · rw [k_100_123 (by omega) c6, b_100_126]
              have F06 : ef_R b (σ (8 + b) 6) (σ (8 + b) 10) (σ (23 + b) 15) σ σ6 := ef_R_trans F05 (ef_R_tk f6)
              have k8 : ∀ k : Int, σ6 (8 + b) k = σ5 (8 + b) k := fun k => f6 _ _ (by omega) (by omega)
              have k86 := k8 6
              have k87 := k8 7
              refine Or.inl ⟨σ6, ρ6, j6, _, ρ1 83 28, ρ4 83 28, 1, rfl, rfl, ⟨R6, by omega, tf06, F06⟩, ⟨hg_ef hb (xs_hg hx) F06, fun i h1 h2 => ?_, ?_⟩, ⟨⟨v28.1, by omega, z28.2⟩, by omega⟩, Or.inr ⟨rfl, by omega, by omega, fun hs => ⟨?_, ?_⟩⟩⟩
              · rw [k8, sO5 _ _ (by omega) (by omega), g4 _ _ (by omega) (by omega), sO2 _ _ (by omega) (by omega), a8]
              · rw [f6 _ _ (by omega) (by omega), sO5 _ _ (by omega) (by omega), f4 _ _ (by omega) (by omega) (by omega), f3 _ _ (by omega) (by omega), sO2 _ _ (by omega) (by omega), a15]
              · have k := cl_P_ef (n := σ2 (8 + b) 6) (t := 0) (p := 0) hb g2 (ef_R_trans (ef_R_tk f3) (ef_R_trans (ef_R_cf f4) (ef_R_trans (F45 _ _ _ (by omega)) (ef_R_tk f6)))) (by rw [s26]; exact Int.le_refl _) (sc2 (by omega))
                rw [a86] at k
                exact k
              · have k := cl_P_ef (n := σ5 (8 + b) 6) (t := 0) (p := 0) hb g5 (ef_R_tk f6) (by rw [s56]; exact Int.le_refl _) (sc5 (by omega))
                have e0 : σ4 (8 + b) 6 = σ (8 + b) 6 + 5 := by omega
                rw [a86, e0] at k
                exact k
            · obtain ⟨ρ', e9, h9⟩ := r_238_208F (E := E) (e := e) (x1 := x1) (x2 := x2) (x3 := x3) (x4 := x4) (x5 := ρ1 83 28) (x6 := ρ4 83 28) (x7 := 1) (u8 := u8) hF6 (by omega) (by rw [tf06 _ _ (by omega)]; exact hs1) (by rw [tf06 _ _ (by omega)]; exact hs2)
              rw [kt_100_123 (by omega) c6, e9]
              exact Or.inr ⟨ρ', rfl, ar_F hb hx hF6 tf06 F05 rfl h9⟩
        · obtain ⟨ρ', e9, h9⟩ := r_238_169F (E := E) (e := e) (x1 := x1) (x2 := x2) (x3 := x3) (x4 := x4) (x5 := ρ1 83 28) (x6 := ρ1 83 28) (x7 := 1) (u8 := u8) hF4 (by omega) (by omega) (by omega)
          rw [kt_100_91 hb (by omega) c4, e9]
          exact Or.inr ⟨ρ', rfl, ar_F hb hx hF4 tf04 (ef_R_trans F03 (ef_R_cf f4)) rfl h9⟩
      · have pl := rd_place R1
        obtain ⟨hF5, h9e⟩ := rx_bad_new (τ := rx_next ρ1) (k := 4) (p := rx_next ρ1 83 6) n9 (by decide) (by decide) pl.1 pl.2
        have y511 : rx_bad (rx_next ρ1) 4 (rx_next ρ1 83 6) 83 11 = ρ 83 11 := by rw [rx_bad_o _ _ _ (by omega)]; exact n11
        obtain ⟨ρ', e9, h9⟩ := r_238_160F (E := E) (e := e) (x1 := x1) (x2 := x2) (x3 := x3) (x4 := x4) (x5 := ρ1 83 28) (x6 := ρ1 83 28) (x7 := 1) (u8 := u8) hF5 (by omega) (by omega) (by omega)
        have c36 := c_fail (E := E) (d := d - 1) (k := 4) (p := σ1 1 2) hx1.1.2.2.1 (by omega)
        have e12 : σ1 1 2 = rx_next ρ1 83 6 := (rd_V R1).2.2
        rw [if_neg qt, if_neg qt, kt_100_50 (by omega) c36, k_238_157 (by omega) (r_bad (by omega) (by omega)), e9]
        refine Or.inr ⟨ρ', rfl, ar_F hb hx (rx_F_up hF5 (by decide) (by decide)) (tf_R_trans (tf_R_trans tf2 (tf_R_bad _ _ _)) (tf_R_up (by decide) (by decide))) (F01 _ _ _) ?_ h9⟩
        rw [js_up_ni _ (by decide), h9e, e12]
        rfl
    · have nq : ¬ js_w (σ1 1 1) = 128 := fun h => q (tk1.mp h)
      obtain ⟨σ2, e2, c2⟩ := c_test (E := E) (d := d - 1) (u := σ (8 + b) 8) (σ := σ1) (v := ρ1 83 28) (t := tm) (op := 17) (sk := -1) hb hz1 (xs_hg hx1) (by omega) htm (a8 8) (by omega)
      rw [a17 _ _ (by omega) (by omega), a17 _ _ (by omega) (by omega)] at c2
      have c2' := c2
      obtain ⟨⟨g2, z2⟩, s26, s27, sc2, sO2⟩ := c2
      have s26 : σ2 (8 + b) 6 = σ1 (8 + b) 6 + 5 := s26
      have s27 : σ2 (8 + b) 7 = min 400000 (σ1 (8 + b) 7 + 5) := s27
      have R2 : rd_R σ2 (rx_next ρ1) j1 := rd_R_of R1 (fun i _ => sO2 _ _ (by omega) (by omega)) (fun a i _ _ => sO2 _ _ (by omega) (by omega)) (fun _ _ _ => rfl) (fun _ => rfl)
      have F02 : ef_R b (σ (8 + b) 6) (σ (8 + b) 10) (σ (23 + b) 15) σ σ2 := ef_R_trans (F01 _ _ _) (ef_R_cl c2' (by omega))
      have hx2' := xs_R_ef hb hx F02 (eg_R_tf (N := 0) tf2)
      obtain ⟨ρ3, e3, t3, hor3⟩ := y_take (E := E) (d := d - 1) (e := e - 1) (k := 58) hx2'.1.2.2.1 R2 (by omega) (by omega) (by unfold tk_V; omega) (by decide)
      rw [t58] at hor3
      have tf03 : tf_R ρ ρ3 := tf_R_trans tf2 (fun a i h => t3 a i (by omega))
      rw [if_neg nq, if_neg q, b_100_27 hb, if_pos (show js_w 0 = 0 from rfl), b_100_53, if_pos (show js_w 0 = 0 from rfl), b_100_68, k_100_69 hb (by omega) e2, b_100_72 hb, if_pos (show js_w 0 = 0 from rfl), b_100_117 hb, b_238_135, if_pos (show js_w 0 = 0 from rfl), b_238_202, k_238_205 (by omega) e3]
      rcases hor3 with ⟨σ3, j3, c3, R3, f3, hj3⟩ | ⟨hF3, c3⟩
      · rw [k_100_123 (by omega) c3, b_100_126]
        have F03 : ef_R b (σ (8 + b) 6) (σ (8 + b) 10) (σ (23 + b) 15) σ σ3 := ef_R_trans F02 (ef_R_tk f3)
        have k8 : ∀ k : Int, σ3 (8 + b) k = σ2 (8 + b) k := fun k => f3 _ _ (by omega) (by omega)
        have k86 := k8 6
        have k87 := k8 7
        refine Or.inl ⟨σ3, ρ3, j3, _, ρ1 83 28, ρ1 83 28, 0, rfl, rfl, ⟨R3, by omega, tf03, F03⟩, ⟨hg_ef hb (xs_hg hx) F03, fun i h1 h2 => ?_, ?_⟩, ⟨⟨v28.1, Int.le_refl _, v28.2⟩, by omega⟩, Or.inl ⟨rfl, rfl, by omega, by omega, fun hs => ?_⟩⟩
        · rw [k8, sO2 _ _ (by omega) (by omega), a8]
        · rw [f3 _ _ (by omega) (by omega), sO2 _ _ (by omega) (by omega), a15]
        · have k := cl_P_ef (n := σ2 (8 + b) 6) (t := 0) (p := 0) hb g2 (ef_R_tk f3) (by rw [s26]; exact Int.le_refl _) (sc2 (by omega))
          rw [a86] at k
          exact k
      · obtain ⟨ρ', e9, h9⟩ := r_238_208F (E := E) (e := e) (x1 := x1) (x2 := x2) (x3 := x3) (x4 := x4) (x5 := ρ1 83 28) (x6 := ρ1 83 28) (x7 := 0) (u8 := u8) hF3 (by omega) (by rw [tf03 _ _ (by omega)]; exact hs1) (by rw [tf03 _ _ (by omega)]; exact hs2)
        rw [kt_100_123 (by omega) c3, e9]
        exact Or.inr ⟨ρ', rfl, ar_F hb hx hF3 tf03 F02 rfl h9⟩
  · obtain ⟨ρ', e9, h9⟩ := r_238_106F (E := E) (e := e) (x1 := x1) (x2 := x2) (x3 := x3) (x4 := x4) (u5 := u5) (u6 := u6) (u7 := u7) (u8 := u8) hF (by omega) (by omega) (by omega)
    rw [kt_100_5 hb (by omega) c1, e9]
    exact Or.inr ⟨ρ', rfl, ar_F hb hx hF tf1 (ef_R_cf f1) rfl h9⟩
end ST
