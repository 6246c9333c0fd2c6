/-! part 99.zzz: case ( e ) { in step, and the end of a case -/
section CA1
variable {E : js_E} {e : Nat} {ρ : js_S} {x1 x2 x3 x4 : Int}
theorem r_238_70F {u5 u6 u7 u8 : js_v} (h : rx_F ρ) (he : 6 ≤ e) : js_J E e 238 70 [(2, 83), (0, x1), (0, x2), (0, x3), (0, x4), u5, u6, u7, u8] [] ρ = js_r E (0, 0) (js_up ρ 83 10 (ρ 83 10 - 1)) := by
  have hF : rx_F (js_up ρ 83 10 (ρ 83 10 - 1)) := rx_F_up h (by decide) (by decide)
  have n9 : ¬ js_w (ρ 83 9) = 0 := by have := rx_F_9 h; omega
  have n5 : ¬ js_w (ρ 83 5) = 308 := by rw [h.2.2]; decide
  rw [b_238_70, if_neg n9, b_238_274, if_neg n5, b_238_292, if_pos (show js_w 0 = 0 from rfl), b_238_309, k_238_312 (by omega) (r_leaveF h (by omega) (by decide) (by decide)), b_238_315, if_pos (show js_w 0 = 0 from rfl), b_238_328, k_238_334 (by omega) (r_nodeF hF), b_238_337]
theorem r_238_65F (h : rx_F ρ) (he : 6 ≤ e) : js_J E e 238 65 [(2, 83), (0, x1), (0, x2), (9, 0), (9, 0), (9, 0), (9, 0), (9, 0), (9, 0)] [] ρ = js_r E (0, 0) (js_up ρ 83 10 (ρ 83 10 - 1)) := by
  rw [b_238_65, r_238_70F h he]
theorem r_238_59F (h : rx_F ρ) (he : 6 ≤ e) : ∃ ρ' : js_S, js_J E e 238 59 [(2, 83), (0, x1), (0, x2), (9, 0), (9, 0), (9, 0), (9, 0), (9, 0), (9, 0)] [] ρ = js_r E (0, 0) ρ' ∧ hf_R ρ ρ' := by
  have hF : rx_F (js_up ρ 83 10 (ρ 83 10 + 1)) := rx_F_up h (by decide) (by decide)
  refine ⟨js_up (js_up ρ 83 10 (ρ 83 10 + 1)) 83 10 (js_up ρ 83 10 (ρ 83 10 + 1) 83 10 - 1), ?_, hf_trans hf_up hf_up⟩
  rw [b_238_59, k_238_62 (by omega) (r_openF h (by omega) (by decide) (by decide)), r_238_65F hF he]
theorem r_238_53F (h : rx_F ρ) (he : 6 ≤ e) : ∃ ρ' : js_S, js_J E e 238 53 [(2, 83), (0, x1), (0, x2), (9, 0), (9, 0), (9, 0), (9, 0), (9, 0), (9, 0)] [] ρ = js_r E (0, 0) ρ' ∧ hf_R ρ ρ' := by
  have hF : rx_F (js_up ρ 83 10 (ρ 83 10 - 1)) := rx_F_up h (by decide) (by decide)
  obtain ⟨ρ', e1, f1⟩ := r_238_59F (E := E) (e := e) (x1 := x1) (x2 := x2) hF he
  refine ⟨ρ', ?_, hf_trans hf_up f1⟩
  rw [b_238_53, k_238_56 (by omega) (r_leaveF h (by omega) (by decide) (by decide)), e1]
theorem r_238_19F (h : rx_F ρ) (he : 6 ≤ e) {z0 : Int} : ∃ ρ' : js_S, js_J E e 238 19 [(2, 83), (0, x1), (9, 0), (9, 0), (9, 0), (9, 0), (9, 0), (9, 0), (9, 0)] [(0, z0)] ρ = js_r E (0, 0) ρ' ∧ hf_R ρ ρ' := by
  have n9 : ¬ js_w (ρ 83 9) = 0 := by have := rx_F_9 h; omega
  rw [b_238_19, if_neg n9]
  exact r_238_53F h he
theorem r_238_10F (h : rx_F ρ) (he : 9 ≤ e) : ∃ ρ' : js_S, js_J E e 238 10 [(2, 83), (9, 0), (9, 0), (9, 0), (9, 0), (9, 0), (9, 0), (9, 0), (9, 0)] [] ρ = js_r E (0, 0) ρ' ∧ hf_R ρ ρ' := by
  rw [b_238_10, k_238_16 (by omega) (r_termF h (by omega))]
  exact r_238_19F h (by omega)
end CA1
/-- case ( e ) { was read by both -/
def ch_R (E : js_E) (b F : Int) (B U : Int → Int) (X : Int → Prop) (σ ρ : js_S) (j : Nat) (σ' ρ' : js_S) (j' : Nat) (nc : Int) (l : tr_T) : Prop := (rd_R σ' ρ' j' ∧ j + 4 ≤ j' ∧ ρ' 83 10 = ρ 83 10 + 1 ∧ ef_R b (σ (8 + b) 6) (σ (8 + b) 10) (σ (23 + b) 15) σ σ' ∧ eg_R (ρ 83 33) ρ ρ' ∧ ρ 83 33 ≤ ρ' 83 33 ∧ ρ' 83 33 + j + 4 ≤ ρ 83 33 + j') ∧ xr_L b σ ρ σ' ρ' ∧ (σ' (23 + b) 15 = σ (23 + b) 15 ∧ σ' (8 + b) 10 = σ (8 + b) 10 + 1 ∧ σ' (8 + b) 6 = σ (8 + b) 6 + xt_ln l + 1 ∧ σ' (8 + b) 7 = min 400000 (σ (8 + b) 7 + xt_cn B l + 1) ∧ σ' (8 + b) 11 = max (σ (8 + b) 11) (max (xt_mt l (σ (8 + b) 10)) (σ (8 + b) 10 + 1))) ∧ (σ' (17 + b) (σ (8 + b) 10) = xt_lo l ∧ σ' (18 + b) (σ (8 + b) 10) = xt_hi l) ∧ (σ' (8 + b) 6 ≤ 8192 → xt_cd (ci_P σ' b (σ (8 + b) 8)) l (σ (8 + b) 10) (σ (8 + b) 6) ∧ ci_P σ' b (σ (8 + b) 8) (σ (8 + b) 6 + xt_ln l) (2, 2, σ (8 + b) 10, 0, 0, 1, 0)) ∧ (xt_nd ρ' (ρ 83 33) l (ρ' 83 33) nc 0 ∧ (xt_e l ∧ xt_w l ∧ xt_G ρ' F l) ∧ (xt_ln l ≤ 8 * ((j' : Int) - j) ∧ 0 ≤ xt_cn B l ∧ xt_mt l (σ (8 + b) 10) ≤ 1024 ∧ xt_dp l ≤ zz_b b σ ρ) ∧ 0 ≤ xt_ty l ∧ xt_ty l < 1000) ∧ xn_R b σ' ρ' j' ∧ ux_R E b F B U X σ' ρ'
theorem ch_m1 {a b c : Int} : max (max a b) c = max a (max b c) := by omega
theorem ch_m2 {a c : Int} (h : 0 ≤ a) (h2 : 0 ≤ c) : min 400000 (min 400000 (a + c) + 1) = min 400000 (a + c + 1) := by omega
theorem ch_of {E : js_E} {b F : Int} {B U : Int → Int} {X : Int → Prop} {σ ρ σ2 ρ2 σ3 ρ3 σ4 ρ4 σ5 σ6 ρ6 : js_S} {j j3 : Nat} {nc : Int} {l : tr_T} (hb : b = 0 ∨ b = 25) (hx : ux_R E b F B U X σ ρ) (hn : xn_R b σ ρ j) (ht : σ (8 + b) 10 < 1000) (o2 : of_R σ σ2) (g2 : og_R ρ ρ2) (d2 : ρ2 83 10 = ρ 83 10 + 1) (H : xr_R b F B σ2 ρ2 (j + 2) σ3 ρ3 j3 nc l) (o4 : of_R σ3 σ4) (g4 : og_R ρ3 ρ4) (d4 : ρ4 83 10 = ρ3 83 10 - 1) (h5 : kp_R b σ4 σ5 (xt_lo l) (xt_hi l)) (o6 : of_R σ5 σ6) (g6 : og_R ρ4 ρ6) (d6 : ρ6 83 10 = ρ4 83 10 + 1) (r6 : rd_R σ6 ρ6 (j3 + 2)) : ch_R E b F B U X σ ρ j σ6 ρ6 (j3 + 2) nc l := by
  have hz1 := xr_zz H
  obtain ⟨⟨r3, q3, dp3, F23, G23, m3, m3'⟩, hL3, ⟨⟨_, _, _, y15⟩, ⟨c10, c6, c7, c11⟩, cc⟩, ⟨nd3, ⟨te, tw, tG⟩, ⟨tln, tcn, tmt⟩, yl, _⟩⟩ := H
  have v2 : ∀ k : Int, σ2 (8 + b) k = σ (8 + b) k := fun k => o2 _ _ (by omega) (by omega)
  have v4 : ∀ k : Int, σ4 (8 + b) k = σ3 (8 + b) k := fun k => o4 _ _ (by omega) (by omega)
  have v6 : ∀ k : Int, σ6 (8 + b) k = σ5 (8 + b) k := fun k => o6 _ _ (by omega) (by omega)
  have v2_15 : σ2 (23 + b) 15 = σ (23 + b) 15 := o2 _ _ (by omega) (by omega)
  obtain ⟨⟨k10, k11, k17, k18⟩, k6, k7, kc, O5⟩ := h5
  have hkp : kp_R b σ4 σ5 (xt_lo l) (xt_hi l) := ⟨⟨k10, k11, k17, k18⟩, k6, k7, kc, O5⟩
  have v15 : σ6 (23 + b) 15 = σ3 (23 + b) 15 := by rw [o6 _ _ (by omega) (by omega), O5 _ _ (by omega) (by omega) (by omega), o4 _ _ (by omega) (by omega)]
  have e6 : σ2 (8 + b) 6 = σ (8 + b) 6 := v2 6
  have e10 : σ2 (8 + b) 10 = σ (8 + b) 10 := v2 10
  rw [v2, v2 10] at c11
  rw [e6] at c6
  rw [v2] at c7
  rw [e10] at c10 tmt cc
  rw [v2 8, e6] at cc
  have f10 : σ4 (8 + b) 10 = σ (8 + b) 10 := by rw [v4, c10]
  have f6 : σ4 (8 + b) 6 = σ (8 + b) 6 + xt_ln l := by rw [v4, c6]
  have f8 : σ4 (8 + b) 8 = σ3 (8 + b) 8 := v4 8
  have g33 : ρ2 83 33 = ρ 83 33 := g2 _ _ (by omega)
  have g433 : ρ4 83 33 = ρ3 83 33 := g4 _ _ (by omega)
  have g633 : ρ6 83 33 = ρ4 83 33 := g6 _ _ (by omega)
  have ll := xt_ln_0 l
  have F02 : ∀ n t p : Int, ef_R b n t p σ σ2 := fun n t p => ef_R_of o2
  have F03 : ef_R b (σ (8 + b) 6) (σ (8 + b) 10) (σ (23 + b) 15) σ σ3 := ef_R_trans (F02 _ _ _) (ef_R_mono F23 (by omega) (by omega) (by omega))
  have F35 : ∀ p : Int, ef_R b (σ (8 + b) 6 + xt_ln l) (σ (8 + b) 10) p σ3 σ5 := fun p => ef_R_trans (ef_R_of o4) (ef_R_kp hkp (by omega) (by omega))
  have F36 : ∀ p : Int, ef_R b (σ (8 + b) 6 + xt_ln l) (σ (8 + b) 10) p σ3 σ6 := fun p => ef_R_trans (F35 p) (ef_R_of o6)
  have F06 : ef_R b (σ (8 + b) 6) (σ (8 + b) 10) (σ (23 + b) 15) σ σ6 := ef_R_trans F03 (ef_R_mono (F36 (σ (23 + b) 15)) (by omega) (Int.le_refl _) (Int.le_refl _))
  have G06 : eg_R (ρ 83 33) ρ ρ6 := eg_R_trans (eg_R_og g2) (eg_R_trans (N' := ρ3 83 33) G23 (eg_R_trans (N' := ρ3 83 33) (N := ρ3 83 33) (eg_R_og g4) (eg_R_og g6) (Int.le_refl _)) (by omega)) (by omega)
  have G36 : eg_R (ρ3 83 33) ρ3 ρ6 := fun a i h1 h2 => by rw [g6 a i (by omega), g4 a i (by omega)]
  have hg : hg_R σ b := xs_hg hx.1
  have hg3 : hg_R σ3 b := hg_ef hb hg F03
  have hg5 : hg_R σ5 b := hg_ef hb hg3 (F35 0)
  have e8 : σ3 (8 + b) 8 = σ (8 + b) 8 := by
    have a1 := F03 (8 + b) 8 (by unfold ef_D; omega)
    exact a1
  push_cast at m3' tln q3
  have hn0 := hn
  unfold xn_R at hn0
  have h7 : σ6 (8 + b) 7 = min 400000 (σ (8 + b) 7 + xt_cn B l + 1) := by
    rw [v6, k7, v4, c7]
    exact ch_m2 hn0.2.1.1 tcn
  have h11 : σ6 (8 + b) 11 = max (σ (8 + b) 11) (max (xt_mt l (σ (8 + b) 10)) (σ (8 + b) 10 + 1)) := by
    rw [v6, k11, v4, c11, f10]
    exact ch_m1
  have h6 : σ6 (8 + b) 6 = σ (8 + b) 6 + xt_ln l + 1 := by rw [v6, k6, f6]
  have h10 : σ6 (8 + b) 10 = σ (8 + b) 10 + 1 := by rw [v6, k10, f10]
  have hL : xr_L b σ ρ σ6 ρ6 := by
    obtain ⟨x, x1, x2, x3, x4⟩ := hL3
    refine ⟨x, x1, x2, ?_, ?_⟩
    · rw [g6 _ _ (by omega), g4 _ _ (by omega), x3, g2 _ _ (by omega)]
    · rw [v6, O5 _ _ (by omega) (by omega) (by omega), v4, x4, v2]
  refine ⟨⟨r6, by omega, by omega, F06, G06, by omega, ?_⟩, hL, ⟨?_, h10, h6, h7, h11⟩, ⟨?_, ?_⟩, fun hs => ⟨?_, ?_⟩, ⟨?_, ⟨te, tw, xt_G_eg tG G36 (by rw [g6 _ _ (by omega), g4 _ _ (by omega)]; exact Int.le_refl _)⟩, ⟨?_, tcn, tmt, by unfold zz_b; omega⟩, yl.1, yl.2.1⟩, ?_, ux_ef hb hx F06 G06⟩
  · push_cast
    omega
  · rw [v15, y15, v2_15]
  · rw [o6 _ _ (by omega) (by omega), ← f10]
    exact k17
  · rw [o6 _ _ (by omega) (by omega), ← f10]
    exact k18
  · exact xt_cd_ef hb (F36 0) hg3 (Int.le_refl _) (cc (by omega))
  · have k := kc (by omega)
    rw [f8, e8, f6, f10] at k
    exact ci_ef (n := σ6 (8 + b) 6) (t := 0) (p := 0) hb (ef_R_of o6) hg5 (by omega) k
  · rw [g33] at nd3
    exact xt_nd_eg nd3 G36 (by omega)
  · push_cast
    omega
  · obtain ⟨x, x1, x2, x3, x4⟩ := hL
    unfold xn_R
    push_cast
    omega
section CA2
variable {E : js_E} {d e : Nat} {b F : Int} {B U : Int → Int} {X : Int → Prop} {σ ρ : js_S} {j : Nat}
theorem y_chead (hb : b = 0 ∨ b = 25) (hx : ux_R E b F B U X σ ρ) (hn : xn_R b σ ρ j) (hR : rd_R σ ρ j) (h5 : ρ 83 5 = 309) (ht : σ (8 + b) 10 ≤ 2 * ρ 83 10 + 2) (hp : σ (23 + b) 15 ≤ 6 * ρ 83 10) (hd : 4 * (65 - ρ 83 10) + 31 ≤ (d : Int)) (he : 12 * (65 - ρ 83 10) + 33 ≤ (e : Int)) : (∃ (σ' ρ' : js_S) (j' : Nat) (x1 nc : Int) (l : tr_T), js_J E d 99 0 [(2, 22 + b), (9, 0), (9, 0), (9, 0), (9, 0), (9, 0), (9, 0), (9, 0)] [] σ = js_J E d 99 99 [(2, 22 + b), (0, xt_ty l), (0, σ (8 + b) 10), (0, -1), (0, 0), (0, 0), (9, 0), (9, 0)] [] σ' ∧ js_J E e 238 0 [(2, 83), (9, 0), (9, 0), (9, 0), (9, 0), (9, 0), (9, 0), (9, 0), (9, 0)] [] ρ = js_J E e 238 70 [(2, 83), (0, x1), (0, nc), (0, -1), (0, -1), (9, 0), (9, 0), (9, 0), (9, 0)] [] ρ' ∧ ch_R E b F B U X σ ρ j σ' ρ' j' nc l) ∨ (∃ (ρ' : js_S) (v : Int), js_J E e 238 0 [(2, 83), (9, 0), (9, 0), (9, 0), (9, 0), (9, 0), (9, 0), (9, 0), (9, 0)] [] ρ = js_r E (0, v) ρ' ∧ sF_P E b σ ρ ρ' (js_J E d 99 0 [(2, 22 + b), (9, 0), (9, 0), (9, 0), (9, 0), (9, 0), (9, 0), (9, 0)] [] σ)) := by
  have hok := hR.2.2.1
  have D0 := hR.2.2.2.2.1
  have D1 := hR.2.2.2.2.2
  have hs1 := hx.1.1.1.1
  have hs2 := hx.1.1.1.2.1
  have t40 : tk_m 40 = 40 := by decide
  have t41 : tk_m 41 = 41 := by decide
  have t123 : tk_m 123 = 123 := by decide
  obtain ⟨σ1, j1, e1, hR1, f1, _, hj1⟩ := y_next (E := E) (d := d - 1) hR
  have hj1' := hj1 (by omega)
  subst hj1'
  clear hj1
  have p1 : og_R ρ (rx_next ρ) := fun a i g => rx_next_o _ (by omega)
  have o1 : of_R σ σ1 := fun a i g1 g2 => f1 a i (by omega) g2
  have hx1 := ux_ef hb hx (ef_R_of (n := 0) (t := 0) (p := 0) o1) (eg_R_og (N := 0) p1)
  have u10 : rx_next ρ 83 10 = ρ 83 10 := rx_next_o _ (by omega)
  rw [b_99_0 hb, k_99_4 (by omega) e1, b_99_7 hb, b_238_0, k_238_1 (by omega) (r_next' hok (by omega)), b_238_4]
  obtain ⟨ρ2, eo, og, hor⟩ := y_open (E := E) (d := d - 1) (e := e - 1) (k := 40) hx1.1.1.2.2.1 hR1 (by omega) (by omega) (by unfold tk_V; omega) (by decide)
  rw [t40] at hor
  have og02 : og_R ρ ρ2 := fun a i g => by rw [og a i g, p1 a i g]
  have x211 : ρ2 83 11 = ρ 83 11 := og02 _ _ (by omega)
  rw [k_238_7 (by omega) eo]
  rcases hor with ⟨σ2, j2, c2, hR2, o2, hj2, hD64, hD2⟩ | ⟨hF2, c2⟩
  · subst hj2
    have o02 : of_R σ σ2 := fun a i g1 g2 => by rw [o2 a i g1 g2, o1 a i g1 g2]
    have hx2 := ux_ef hb hx (ef_R_of (n := 0) (t := 0) (p := 0) o02) (eg_R_og (N := 0) og02)
    have v : ∀ k : Int, σ2 (8 + b) k = σ (8 + b) k := fun k => o02 _ _ (by omega) (by omega)
    have v6 := v 6
    have v7 := v 7
    have v10 := v 10
    have v11 := v 11
    have v12 := v 12
    have v15 : σ2 (23 + b) 15 = σ (23 + b) 15 := o02 _ _ (by omega) (by omega)
    have u33 : ρ2 83 33 = ρ 83 33 := og02 _ _ (by omega)
    have u44 : ρ2 83 44 = ρ 83 44 := og02 _ _ (by omega)
    have hn2 : xn_R b σ2 ρ2 (j + 1 + 1) := by
      unfold xn_R at hn ⊢
      push_cast
      omega
    have pl := rd_place hR2
    rw [k_99_13 (by omega) c2, b_99_16 hb, b_238_10]
    rcases y_e (E := E) (B := B) (X := X) (F := F) hb 0 (d - 1) (e - 1) σ2 ρ2 (j + 1 + 1) (Nat.zero_le _) hx2.1 hn2 hR2 (by omega) (by omega) (by omega) (by omega) with ⟨σ3, ρ3, j3, nc, l, er, ec, H, h3⟩ | ⟨ρ', vv, er, hf⟩
    · have r3 := H.1.1
      have hj3 := rd_j r3
      have dp3 := H.1.2.2.1
      have q3 := H.1.2.1
      have hn3 := xn_next hn2 H
      have F23 := H.1.2.2.2.1
      have G23 := H.1.2.2.2.2.1
      have hx3 := ux_ef hb hx2 F23 G23
      have c10 := H.2.2.1.2.1.1
      have y0 := H.2.2.1.1.1
      have y1 := H.2.2.1.1.2.1
      have y2 := H.2.2.1.1.2.2.1
      have yl := H.2.2.2.2.2.2.1
      have tb := H.2.2.2.2.2.2.2.1
      have nd := xt_nd_in H.2.2.2.1 H.2.2.2.2.1.1
      have hnod := hn3.2.2.2.2.1
      have h9 := r3.2.2.1.2.2.1
      have frc : fr_R b σ σ3 := fr_R_trans (fr_R_ef hb (ef_R_of (n := 0) (t := 0) (p := 0) o02)) (fr_R_ef hb F23)
      have rf3 : rf_R ρ ρ3 := rf_R_trans (rf_R_eg (N := 0) (eg_R_og og02)) (rf_R_eg G23)
      have x311 : ρ3 83 11 = ρ 83 11 := by rw [G23 _ _ (by omega) (by omega), x211]
      rw [k_99_20 hb (by omega) ec, b_99_23 hb, y0, js_w_of (x := xt_ty l) (by omega) (by omega), k_238_16 (by omega) er, b_238_19, h9, if_pos (show js_w 0 = 0 from rfl), js_w_of (x := nc) (by omega) (by omega), if_pos (show 0 ≤ nc ∧ nc < 66000 by omega), nd.2.2.1, js_w_of (x := xt_ty l) (by omega) (by omega)]
      by_cases q : xt_ty l = 1
      · obtain ⟨hF, h9e⟩ := rx_bad_new (τ := ρ3) (k := 5) (p := ρ2 83 6) h9 (by decide) (by decide) pl.1 pl.2
        rw [if_pos q, if_pos q, b_238_47, k_238_50 (by omega) (r_bad (by omega) (by omega)), kt_99_48 (by omega) (c_fail hx3.1.1.2.2.1 (by omega)), h3]
        obtain ⟨ρ9, e9, h9'⟩ := r_238_53F (E := E) (e := e) (x1 := ρ2 83 6) (x2 := nc) hF (by omega)
        rw [e9]
        have t3 := tf_R_bad ρ3 5 (ρ2 83 6)
        have b11 : rx_bad ρ3 5 (ρ2 83 6) 83 11 = ρ 83 11 := by rw [t3 _ _ (by omega), x311]
        have f0 : sF_P E b σ ρ (rx_bad ρ3 5 (ρ2 83 6)) (th_P E σ3 (rx_bad ρ3 5 (ρ2 83 6) 83 9)) := ⟨rf_R_trans rf3 (rf_R_tf t3), hF, by omega, by omega, σ3, rfl, frc, hx3.1.1.2.2.2.1, hx3.1.1.2.2.1⟩
        rw [h9e] at f0
        exact Or.inr ⟨ρ9, 0, rfl, sF_more f0 h9'⟩
      · have q2 : ¬ xt_ty l = 2 := tb.1
        rw [if_neg q, if_neg q, if_neg q2, b_99_51 hb, b_238_53]
        obtain ⟨ρ4, e4, g4, hor⟩ := y_close (E := E) (d := d - 1) (e := e - 1) (k := 41) hx3.1.1.2.2.1 r3 (by omega) (by omega) (by unfold tk_V; omega) (by decide) (by omega)
        rw [t41] at hor
        rw [k_238_56 (by omega) e4]
        have x411 : ρ4 83 11 = ρ 83 11 := by rw [g4 _ _ (by omega), x311]
        have rf4 : rf_R ρ ρ4 := rf_R_trans rf3 (rf_R_eg (N := 0) (eg_R_og g4))
        rcases hor with ⟨σ4, j4, c4, R4, o4, hj4, d4⟩ | ⟨hF4, c4⟩
        · subst hj4
          have hx4 := ux_ef hb hx3 (ef_R_of (n := 0) (t := 0) (p := 0) o4) (eg_R_og (N := 0) g4)
          have w : ∀ k : Int, σ4 (8 + b) k = σ3 (8 + b) k := fun k => o4 _ _ (by omega) (by omega)
          have w10 := w 10
          have w11 := w 11
          have hn30 := hn3
          unfold xn_R at hn30
          have hz4 : cz_R σ4 b := by
            have k := xn_cz hn3 r3
            unfold cz_R at k ⊢
            rw [w, w]
            exact k
          have s1 : σ4 (23 + b) 1 = xt_lo l := by rw [o4 _ _ (by omega) (by omega)]; exact y1
          have s2 : σ4 (23 + b) 2 = xt_hi l := by rw [o4 _ _ (by omega) (by omega)]; exact y2
          obtain ⟨σ5, e5, h5e⟩ := c_keep (E := E) (d := d - 1) (σ := σ4) (lo := xt_lo l) (hi := xt_hi l) hb hz4 (by omega) (by omega) (by omega) (by omega) (by omega)
          have O5 := h5e.2.2.2.2
          have hx5 := ux_ef hb hx4 (ef_R_kp (n := 0) (t := 0) (p := 0) h5e hz4.1 (by omega)) (eg_R_refl 0 _)
          have R5 : rd_R σ5 ρ4 (j3 + 1) := rd_R_of R4 (fun i _ => O5 _ _ (by omega) (by omega) (by omega)) (fun a i _ _ => O5 _ _ (by omega) (by omega) (by omega)) (fun _ _ _ => rfl) (fun _ => rfl)
          have ev : σ4 (8 + b) 10 = σ (8 + b) 10 := by omega
          rw [k_99_57 (by omega) c4, b_99_60 hb, s1, s2, k_99_78 hb (by omega) e5, b_99_81 hb, ev, b_238_59]
          have fr5 : fr_R b σ σ5 := fr_R_trans frc (fr_R_trans (fr_R_ef hb (ef_R_of (n := 0) (t := 0) (p := 0) o4)) (fr_R_ef hb (ef_R_kp (n := 0) (t := 0) (p := 0) h5e hz4.1 (by omega))))
          obtain ⟨ρ6, e6, g6, hor⟩ := y_open (E := E) (d := d - 1) (e := e - 1) (k := 123) hx5.1.1.2.2.1 R5 (by omega) (by omega) (by unfold tk_V; omega) (by decide)
          rw [t123] at hor
          rw [k_238_62 (by omega) e6]
          have x611 : ρ6 83 11 = ρ 83 11 := by rw [g6 _ _ (by omega), x411]
          have rf6 : rf_R ρ ρ6 := rf_R_trans rf4 (rf_R_eg (N := 0) (eg_R_og g6))
          rcases hor with ⟨σ6, j6, c6, R6, o6, hj6, _, d6⟩ | ⟨hF6, c6⟩
          · subst hj6
            rw [k_99_88 (by omega) c6, b_99_91, b_238_65]
            exact Or.inl ⟨σ6, ρ6, j3 + 1 + 1, ρ2 83 6, nc, l, rfl, rfl, ch_of hb hx hn (by omega) o02 og02 (by omega) H o4 g4 d4 h5e o6 g6 d6 R6⟩
          · have f0 : sF_P E b σ ρ ρ6 (th_P E σ5 (ρ6 83 9)) := ⟨rf6, hF6, by omega, by omega, σ5, rfl, fr5, hx5.1.1.2.2.2.1, hx5.1.1.2.2.1⟩
            rw [kt_99_88 (by omega) c6, r_238_65F hF6 (by omega)]
            exact Or.inr ⟨_, 0, rfl, sF_more f0 hf_up⟩
        · obtain ⟨ρ', e9, h9'⟩ := r_238_59F (E := E) (e := e) (x1 := ρ2 83 6) (x2 := nc) hF4 (by omega)
          have f0 : sF_P E b σ ρ ρ4 (th_P E σ3 (ρ4 83 9)) := ⟨rf4, hF4, by omega, by omega, σ3, rfl, frc, hx3.1.1.2.2.2.1, hx3.1.1.2.2.1⟩
          rw [kt_99_57 (by omega) c4, e9]
          exact Or.inr ⟨ρ', 0, rfl, sF_more f0 h9'⟩
    · have f0 := sF_up (fr_R_ef hb (ef_R_of (n := 0) (t := 0) (p := 0) o02)) (rf_R_eg (N := 0) (eg_R_og og02)) (sF_xf hb hx2.1 hf)
      have f0' := f0
      obtain ⟨a1, a2, a3, a4, σz, a5, a6⟩ := f0
      obtain ⟨ρ9, e9, h9⟩ := r_238_19F (E := E) (e := e) (x1 := ρ2 83 6) (z0 := vv) a2 (by omega)
      rw [kt_99_20 hb (by omega) a5, k_238_16 (by omega) er, e9]
      rw [a5] at f0'
      exact Or.inr ⟨ρ9, 0, rfl, sF_more f0' h9⟩
  · obtain ⟨ρ', e9, h9⟩ := r_238_10F (E := E) (e := e) hF2 (by omega)
    have f0 : sF_P E b σ ρ ρ2 (th_P E σ1 (ρ2 83 9)) := ⟨rf_R_eg (N := 0) (eg_R_og og02), hF2, by omega, by omega, σ1, rfl, fr_R_ef hb (ef_R_of (n := 0) (t := 0) (p := 0) o1), hx1.1.1.2.2.2.1, hx1.1.1.2.2.1⟩
    rw [kt_99_13 (by omega) c2, e9]
    exact Or.inr ⟨ρ', 0, rfl, sF_more f0 h9⟩
end CA2
