/-! part 99.zzb: statements that begin with a name, in step -/
section RC
variable {E : js_E} {d e : Nat} {b F : Int} {B : Int → Int} {X : Int → Prop} {σ ρ : js_S} {j : Nat}
theorem r_243_228F (h : rx_F ρ) (he : 4 ≤ e) {x1 x2 x3 x4 x5 z : Int} : js_J E e 243 228 [(2, 83), (0, x1), (0, x2), (0, x3), (0, x4), (0, x5), (9, 0)] [(0, z)] ρ = js_r E (0, 0) ρ := by
  have s : ∀ k : Int, js_J E e 243 249 [(2, 83), (0, x1), (0, x2), (0, x3), (0, x4), (0, x5), (0, z)] [(0, k), (2, 83)] ρ = js_r E (0, 0) ρ := fun k => by
    rw [b_243_249, k_243_257 (by omega) (r_nodeF h), b_243_260]
  rw [b_243_228, k_243_233 (by omega) (r_takeF h (by omega) (by decide) (by decide)), b_243_236, s, s]
  split <;> rfl
theorem r_243_204F (h : rx_F ρ) (he : 10 ≤ e) {x1 x2 x3 x4 x5 : Int} (h1 : 0 ≤ x1 ∧ x1 < 400) : js_J E e 243 204 [(2, 83), (0, x1), (0, x2), (0, x3), (0, x4), (0, x5), (9, 0)] [] ρ = js_r E (0, 0) ρ := by
  rw [b_243_204, js_w_of (x := x1) (by omega) (by omega), if_pos h1, k_243_225 (by omega) (r_218F h (by omega)), r_243_228F h (by omega)]
/-- NAME = e ; -/
theorem y_set {σ1 : js_S} {i x2 x3 : Int} (hb : b = 0 ∨ b = 25) (hE : xe_P E b F B X (j + 1)) (hx : xs_R E b F B X σ ρ) (hn : xn_R b σ ρ j) (hR : rd_R σ ρ j) (hnm : nm_R E b X σ1 ρ i) (hR1 : rd_R σ1 (rx_next ρ) (j + 1)) (f1 : tk_fr σ σ1) (hk : 2 ≤ ρ 86 i ∧ ρ 86 i ≤ 6 ∧ ρ 86 i ≠ 4) (h92 : ρ 92 i = 0) (ht : σ (8 + b) 10 ≤ 2 * ρ 83 10) (hp : σ (23 + b) 15 ≤ 6 * ρ 83 10) (hd : 4 * (65 - ρ 83 10) + 27 ≤ (d : Int)) (he : 12 * (65 - ρ 83 10) + 27 ≤ (e : Int)) : so_P E b F B σ ρ j (js_J E d 56 169 [(2, 22 + b), (0, ρ 83 6), (2, σ1 (19 + b) i)] [(2, σ1 (19 + b) i), (2, 22 + b)] σ1) (js_J E e 243 175 [(2, 83), (0, i), (0, x2), (0, x3), (0, 1), (9, 0), (9, 0)] [(2, 83)] ρ) := by
  obtain ⟨⟨i0, i1, i2⟩, nX, hvis, _, ⟨_, _, t0, t1, _, _⟩, hsym, hf⟩ := hnm
  have ok := hR.2.2.1
  have hj := rd_j hR1
  have D0 := hR.2.2.2.2.1
  have D1 := hR.2.2.2.2.2
  have gs := hx.2.2.1 i i0 i1 nX
  have g := gs.2.2.1 (by omega)
  have g93 : 5 ≤ ρ 86 i ∧ ρ 86 i ≤ 7 → ρ 93 i = F := fun h => (gs.2.2.2.1 h hvis).trans hx.2.2.2.2.2.1
  clear gs
  have hge := js_sym_ge hsym
  have t61 : tk_m 61 = 61 := by decide
  have t59 : tk_m 59 = 59 := by decide
  have h400 := hx.1.1.2.1
  have p1 : og_R ρ (rx_next ρ) := fun a i g => rx_next_o _ (by omega)
  have o1 : of_R σ σ1 := fun a i g1 g2 => f1 a i (by omega) g2
  have F01 : ∀ n t p : Int, ef_R b n t p σ σ1 := fun n t p => ef_R_of o1
  have hx1 := xs_R_ef hb hx (F01 0 0 0) (eg_R_og (N := 0) p1)
  have s12 : σ1 (σ1 (19 + b) i) 12 = 0 := by rw [hf.2.2.2.2.2.2.2.2]; exact h92
  have n92 : rx_next ρ 92 i = 0 := by rw [rx_next_o _ (by omega)]; exact h92
  have wi : js_w i = i := js_w_of (by omega) (by omega)
  have hi : 0 ≤ i ∧ i < 400 := ⟨i0, i2⟩
  have e108 : js_J E (d - 1) 108 0 [(2, 22 + b), (2, σ1 (19 + b) i), (9, 0)] [] σ1 = js_J E (d - 1) 108 51 [(2, 22 + b), (2, σ1 (19 + b) i), (0, σ1 (8 + b) 10)] [(0, 61), (2, 1)] σ1 := by
    rw [b_108_0 hb hsym, s12, if_pos (show js_w 0 = 0 from rfl), b_108_45 hb]
  rw [k_243_175 (by omega) (r_next' ok (by omega)), b_243_178, wi, if_pos hi, n92, if_pos (show js_w 0 = 0 from rfl), b_243_196]
  obtain ⟨ρ2, e2, t12, hor⟩ := y_take (E := E) (d := d - 1 - 1) (e := e - 1) (k := 61) hx1.1.2.2.1 hR1 (by omega) (by omega) (by unfold tk_V; omega) (by decide)
  rw [t61] at hor
  rw [k_243_201 (by omega) e2]
  have g02 : og_R ρ ρ2 := fun a i g => (t12 a i (by omega)).trans (p1 a i g)
  have G02 : eg_R (ρ 83 33) ρ ρ2 := eg_R_og g02
  rcases hor with ⟨σ2, j2, c2, hR2, f2, hj2⟩ | ⟨hF2, c2⟩
  · subst hj2
    have o2 : of_R σ σ2 := fun a i g1 g2 => (f2 a i (by omega) g2).trans (o1 a i g1 g2)
    have F02 : ∀ n t p : Int, ef_R b n t p σ σ2 := fun n t p => ef_R_of o2
    have v : ∀ k : Int, σ2 (8 + b) k = σ (8 + b) k := fun k => o2 _ _ (by omega) (by omega)
    have v6 := v 6
    have v10 := v 10
    have v15 : σ2 (23 + b) 15 = σ (23 + b) 15 := o2 _ _ (by omega) (by omega)
    have u10 : ρ2 83 10 = ρ 83 10 := by rw [t12 _ _ (by omega), rx_next_o _ (by omega)]
    have u33 : ρ2 83 33 = ρ 83 33 := g02 _ _ (by omega)
    have u44 : ρ2 83 44 = ρ 83 44 := g02 _ _ (by omega)
    have hx2 := xs_R_ef hb hx (F02 0 0 0) G02
    have hn2 : xn_R b σ2 ρ2 (j + 1 + 1) := by
      have v7 := v 7
      have v11 := v 11
      have v12 := v 12
      unfold xn_R at hn ⊢
      push_cast
      omega
    have m2 : ∀ k : Int, σ2 (σ1 (19 + b) i) k = σ1 (σ1 (19 + b) i) k := fun k => f2 _ _ (by omega) (by omega)
    have hsym2 : js_desc E.1 σ2 (σ1 (19 + b) i) = some (0, 11, js_sym) := js_desc_mono hsym (by rw [f2 _ _ (by omega) (by omega)]; exact Int.le_refl _) (fun _ => m2 _)
    have z : ∀ a k : Int, 86 ≤ a → ρ2 a k = ρ a k := fun a k h => g02 _ _ (by omega)
    rw [k_108_51 (by omega) c2, b_108_54 hb] at e108
    rw [b_243_204, wi, if_pos hi, z 87 i (by decide), z 88 i (by decide), z 89 i (by decide), js_w_of (x := ρ 88 i) (by omega) (by omega), js_w_of (x := ρ 89 i) (by omega) (by omega)]
    rcases y_for (E := E) (d := d - 1 - 1) (e := e - 1) (t := ρ 87 i) (lo := ρ 88 i) (hi := ρ 89 i) hb hE (by omega) hx2 hn2 hR2 (by omega) (by omega) (by omega) (by omega) ⟨t0, t1⟩ (by omega) (by omega) with ⟨σ3, ρ3, j3, n, l, er, ec, ea, h, _⟩ | ⟨ρ', vv, er, hff⟩
    · have r3 := h.1.1
      have hj3 := rd_j r3
      have F23 := h.1.2.2.2.1
      have G23 := h.1.2.2.2.2.1
      have m1 := h.1.2.2.2.2.2.1
      have hn3 := xn_next hn2 h
      have hnod := hn3.2.2.2.2.1
      have c10 := h.2.2.1.2.1.1
      have c6 := h.2.2.1.2.1.2.1
      have ll := xt_ln_0 l
      have F03 : ef_R b (σ (8 + b) 6) (σ (8 + b) 10) (σ (23 + b) 15) σ σ3 := ef_R_trans (F02 _ _ _) (ef_R_mono F23 (by omega) (by omega) (by omega))
      have G03 : eg_R (ρ 83 33) ρ ρ3 := eg_R_trans G02 G23 (by omega)
      have hx3 := xs_R_ef hb hx F03 G03
      have m3 : ∀ k : Int, σ3 (σ1 (19 + b) i) k = σ1 (σ1 (19 + b) i) k := fun k => by rw [F23 _ _ (by unfold ef_D; omega), m2]
      have hsym3 : js_desc E.1 σ3 (σ1 (19 + b) i) = some (0, 11, js_sym) := js_desc_mono hsym2 (by rw [F23 _ _ (by unfold ef_D; omega)]; exact Int.le_refl _) (fun _ => by rw [m3, m2])
      have e19 : σ3 (19 + b) i = σ1 (19 + b) i := by rw [F23 _ _ (by unfold ef_D; omega), f2 _ _ (by omega) (by omega)]
      have z11 : ρ3 83 11 = ρ 83 11 := G03 _ _ (by omega) (by omega)
      have hu := hx3.2.2.2.1 i i0 (by rw [z11]; exact i1)
      rw [e19] at hu
      obtain ⟨σ4, e4, h4⟩ := c_store (E := E) (d := d - 1 - 1) (σ := σ3) (x := σ1 (19 + b) i) (y := 0) hb (xn_cz hn3 r3) (by omega) hsym3 hu.1 hu.2.1
      have kO := h4.2.2.2
      rw [k_108_58 hb (by omega) ec, b_108_61 hb hsym3, m3, m3, m3, hf.2.1, hf.2.2.1, hf.2.2.2.1, k_108_77 hb (by omega) ea, b_108_80 hsym3 hb, m3, s12, if_pos (show js_w 0 = 0 from rfl), k_108_162 hb (by omega) e4, b_108_165] at e108
      have F34 : ef_R b (σ3 (8 + b) 6) (σ3 (8 + b) 10) (σ3 (23 + b) 15) σ3 σ4 := ef_R_em h4 (Int.le_refl _)
      have y15 := h.2.2.1.1.2.2.2
      have F04 : ef_R b (σ (8 + b) 6) (σ (8 + b) 10) (σ (23 + b) 15) σ σ4 := ef_R_trans F03 (ef_R_mono F34 (by omega) (by omega) (by omega))
      have hx4 := xs_R_ef hb hx F04 G03
      have r4 : rd_R σ4 ρ3 j3 := rd_R_of r3 (fun i _ => kO _ _ (by omega) (by omega)) (fun a i _ _ => kO _ _ (by omega) (by omega)) (fun _ _ _ => rfl) (fun _ => rfl)
      rw [k_56_169 hb (by omega) e108, b_56_172 hb, k_243_225 (by omega) er]
      obtain ⟨ρ4, e5, t34, hor5⟩ := y_take (E := E) (d := d - 1) (e := e - 1) (k := 59) hx4.1.2.2.1 r4 (by omega) (by omega) (by unfold tk_V; omega) (by decide)
      rw [t59] at hor5
      rcases hor5 with ⟨σ5, j5, c5, R5, f5, hj5⟩ | ⟨hF5, c5⟩
      · subst hj5
        have n33 : ρ4 83 33 = ρ3 83 33 := t34 _ _ (by omega)
        obtain ⟨ρ5, er5, hw⟩ := r_node (E := E) (e := e - 1) (ρ := ρ4) (k := 20) (ty := 0) (lo := 0) (hi := 0) (a := i) (b := n) (c := -1) R5.2.2.1.2.2.1 (by omega) (by omega) (by decide) (by decide)
        have hwO := hw.2.2.2.2.2.2
        rw [k_56_178 (by omega) c5, b_56_181, b_56_199, b_243_228, k_243_233 (by omega) e5, b_243_236, if_pos (show js_w (-1) < 0 by decide), b_243_249, k_243_257 (by omega) er5, b_243_260]
        have zz : ∀ a k : Int, 86 ≤ a → a < 100 → ρ5 a k = ρ a k := fun a k h1 h2 => by rw [hwO _ _ (by omega) (by omega), t34 _ _ (by omega), G03 _ _ (by omega) (by omega)]
        have z5 : ρ5 83 11 = ρ 83 11 := by rw [hwO _ _ (by omega) (by omega), t34 _ _ (by omega), z11]
        have hsv : sv_P ρ5 F i := by
          refine ⟨i0, by rw [z5]; exact i1, ?_⟩
          rw [zz _ _ (by decide) (by decide), zz _ _ (by decide) (by decide)]
          by_cases q5 : 5 ≤ ρ 86 i
          · exact Or.inr ⟨q5, by omega, g93 ⟨q5, by omega⟩⟩
          · exact Or.inl ⟨by omega, by omega⟩
        have h4' : em_R b σ3 σ4 2 (σ3 (σ3 (19 + b) i) 5 + 0) 0 1 0 (sh_P (σ3 (σ3 (19 + b) i) 11)) := by rw [e19]; exact h4
        refine Or.inl ⟨σ5, ρ5, j3 + 1, ρ4 83 33, tr_n 20 0 0 0 i 0 0 l .leaf, rfl, rfl, ?_⟩
        exact ss_set (xs_hg hx) hb hn.2.2.2.2.1.1 hn.2.1 o2 g02 (by omega) h h4' f5 t34 R5 u10 hw ⟨i0, by rw [hx3.1.2.2.2.2.1, z11]; exact i1⟩ hsv
      · rw [kt_56_178 (by omega) c5, b_243_228, k_243_233 (by omega) e5, b_243_236, if_pos (show js_w (-1) < 0 by decide), b_243_249, k_243_257 (by omega) (r_nodeF hF5), b_243_260]
        exact Or.inr ⟨ρ4, 0, rfl, hF5, eg_R_trans (N' := ρ 83 33) G03 (eg_R_t9 t34) (Int.le_refl _), σ4, rfl, F04⟩
    · have hF' : rx_F ρ' := by
        rcases hff with h | ⟨_, _, _, h⟩
        · exact h.1
        · exact h.1
      rw [k_243_225 (by omega) er, r_243_228F hF' (by omega)]
      rcases hff with h | ⟨σ3, ec, F23, h⟩
      · obtain ⟨a1, a2, σ', a3, a4⟩ := xf_ef (F02 _ _ _) G02 (by omega) (by omega) (by omega) (by omega) h
        rw [kt_108_58 hb (by omega) a3] at e108
        rw [kt_56_169 hb (by omega) e108]
        exact Or.inr ⟨ρ', 0, rfl, a1, a2, σ', rfl, a4⟩
      · obtain ⟨a1, a2, σ', a3, a4⟩ := xf_ef (F02 _ _ _) G02 (by omega) (by omega) (by omega) (by omega) h
        have m3 : ∀ k : Int, σ3 (σ1 (19 + b) i) k = σ1 (σ1 (19 + b) i) k := fun k => by rw [F23 _ _ (by unfold ef_D; omega), m2]
        have hsym3 : js_desc E.1 σ3 (σ1 (19 + b) i) = some (0, 11, js_sym) := js_desc_mono hsym2 (by rw [F23 _ _ (by unfold ef_D; omega)]; exact Int.le_refl _) (fun _ => by rw [m3, m2])
        rw [k_108_58 hb (by omega) ec, b_108_61 hb hsym3, m3, m3, m3, hf.2.1, hf.2.2.1, hf.2.2.2.1, kt_108_77 hb (by omega) a3] at e108
        rw [kt_56_169 hb (by omega) e108]
        exact Or.inr ⟨ρ', 0, rfl, a1, a2, σ', rfl, a4⟩
  · rw [kt_108_51 (by omega) c2] at e108
    rw [kt_56_169 hb (by omega) e108, r_243_204F hF2 (by omega) hi]
    exact Or.inr ⟨ρ2, 0, rfl, hF2, G02, σ1, rfl, ef_R_tk f1⟩
/-- NAME [ e ] = e ; -/
theorem y_put {σ1 : js_S} {i x2 x3 : Int} (hb : b = 0 ∨ b = 25) (hE : xe_P E b F B X (j + 1)) (hx : xs_R E b F B X σ ρ) (hn : xn_R b σ ρ j) (hR : rd_R σ ρ j) (hnm : nm_R E b X σ1 ρ i) (hR1 : rd_R σ1 (rx_next ρ) (j + 1)) (f1 : tk_fr σ σ1) (hk : 2 ≤ ρ 86 i ∧ ρ 86 i ≤ 6 ∧ ρ 86 i ≠ 4) (h92 : ρ 92 i = 1) (hD : 1 ≤ ρ 83 10) (ht : σ (8 + b) 10 ≤ 2 * ρ 83 10) (hp : σ (23 + b) 15 ≤ 6 * ρ 83 10) (hd : 4 * (65 - ρ 83 10) + 27 ≤ (d : Int)) (he : 12 * (65 - ρ 83 10) + 27 ≤ (e : Int)) : so_P E b F B σ ρ j (js_J E d 56 169 [(2, 22 + b), (0, ρ 83 6), (2, σ1 (19 + b) i)] [(2, σ1 (19 + b) i), (2, 22 + b)] σ1) (js_J E e 243 175 [(2, 83), (0, i), (0, x2), (0, x3), (0, 1), (9, 0), (9, 0)] [(2, 83)] ρ) := by
  have hnm' := hnm
  obtain ⟨⟨i0, i1, i2⟩, nX, hvis, _, ⟨_, _, t0, t1, _, _⟩, hsym, hf⟩ := hnm
  have ok := hR.2.2.1
  have hj := rd_j hR1
  have D1 := hR.2.2.2.2.2
  have gs := hx.2.2.1 i i0 i1 nX
  have g := gs.2.2.1 (by omega)
  have g93 : 5 ≤ ρ 86 i ∧ ρ 86 i ≤ 7 → ρ 93 i = F := fun h => (gs.2.2.2.1 h hvis).trans hx.2.2.2.2.2.1
  clear gs
  have hge := js_sym_ge hsym
  have t61 : tk_m 61 = 61 := by decide
  have t59 : tk_m 59 = 59 := by decide
  have h400 := hx.1.1.2.1
  have p1 : og_R ρ (rx_next ρ) := fun a i g => rx_next_o _ (by omega)
  have e10 : σ1 (8 + b) 10 = σ (8 + b) 10 := f1 _ _ (by omega) (by omega)
  have s12 : σ1 (σ1 (19 + b) i) 12 = 1 := by rw [hf.2.2.2.2.2.2.2.2]; exact h92
  have n92 : rx_next ρ 92 i = 1 := by rw [rx_next_o _ (by omega)]; exact h92
  have wi : js_w i = i := js_w_of (by omega) (by omega)
  have hi : 0 ≤ i ∧ i < 400 := ⟨i0, i2⟩
  have e108 : js_J E (d - 1) 108 0 [(2, 22 + b), (2, σ1 (19 + b) i), (9, 0)] [] σ1 = js_J E (d - 1) 108 20 [(2, 22 + b), (2, σ1 (19 + b) i), (0, σ (8 + b) 10)] [(2, σ1 (19 + b) i), (2, 23 + b)] σ1 := by
    rw [b_108_0 hb hsym, s12, if_neg (show ¬ js_w 1 = 0 by decide), e10]
  rw [k_243_175 (by omega) (r_next' ok (by omega)), b_243_178, wi, if_pos hi, n92, if_neg (show ¬ js_w 1 = 0 by decide)]
  rcases y_index (E := E) (d := d - 1 - 1) (e := e - 1) hb hE hx hn hR hnm' hR1 f1 (by omega) (by omega) (by omega) (by omega) (by omega) with ⟨σ2, ρ2, j2, n1, l, er, ec, H1⟩ | ⟨ρ', vv, er, hff⟩
  · have r2 := H1.1.1
    have hj2 := rd_j r2
    have q2 := H1.1.2.1
    have dp2 := H1.1.2.2.1
    have F02 := H1.1.2.2.2.1
    have G02 := H1.1.2.2.2.2.1
    have g2 := H1.1.2.2.2.2.2.1
    have g2' := H1.1.2.2.2.2.2.2
    have y15 := H1.2.2.1.1.2.2.2
    have c10 := H1.2.2.1.2.1.1
    have c6 := H1.2.2.1.2.1.2.1
    have ll := xt_ln_0 l
    have ln1 := H1.2.2.2.2.2.1.1
    have nd1 := xt_nd_in H1.2.2.2.1 H1.2.2.2.2.1.1
    have hn2 := xn_next hn H1
    have hnod2 := hn2.2.2.2.2.1
    have m2 : ∀ k : Int, σ2 (σ1 (19 + b) i) k = σ1 (σ1 (19 + b) i) k := fun k => (F02 _ _ (by unfold ef_D; omega)).trans (f1 _ _ (by omega) (by omega)).symm
    have m20 : σ2 (-1) 0 = σ1 (-1) 0 := by rw [F02 _ _ (by unfold ef_D; omega), f1 _ _ (by omega) (by omega)]
    have hsym2 : js_desc E.1 σ2 (σ1 (19 + b) i) = some (0, 11, js_sym) := js_desc_mono hsym (by rw [m20]; exact Int.le_refl _) (fun _ => m2 _)
    obtain ⟨σ3, e3, k3⟩ := c_keep (E := E) (d := d - 1 - 1) (σ := σ2) (lo := σ2 (23 + b) 1) (hi := σ2 (23 + b) 2) hb (xn_cz hn2 r2) (by omega) hn2.2.2.1 (by omega) hn2.2.2.2.1.1 (by have := hn2.2.2.2.1.2; omega)
    have kO := k3.2.2.2.2
    have k6 := k3.2.1
    have k10 := k3.1.1
    have k15 : σ3 (23 + b) 15 = σ2 (23 + b) 15 := kO _ _ (by omega) (by omega) (by omega)
    have F23 : ef_R b (σ2 (8 + b) 6) (σ2 (8 + b) 10) (σ2 (23 + b) 15) σ2 σ3 := ef_R_kp k3 (Int.le_refl _) (Int.le_refl _)
    have F03 : ef_R b (σ (8 + b) 6) (σ (8 + b) 10) (σ (23 + b) 15) σ σ3 := ef_R_trans F02 (ef_R_mono F23 (by omega) (by omega) (by omega))
    have hx3 := xs_R_ef hb hx F03 G02
    have r3 : rd_R σ3 ρ2 j2 := rd_R_of r2 (fun i _ => kO _ _ (by omega) (by omega) (by omega)) (fun a i _ _ => kO _ _ (by omega) (by omega) (by omega)) (fun _ _ _ => rfl) (fun _ => rfl)
    have m3 : ∀ k : Int, σ3 (σ1 (19 + b) i) k = σ1 (σ1 (19 + b) i) k := fun k => by rw [kO _ _ (by omega) (by omega) (by omega), m2]
    have hsym3 : js_desc E.1 σ3 (σ1 (19 + b) i) = some (0, 11, js_sym) := js_desc_mono hsym2 (by rw [kO _ _ (by omega) (by omega) (by omega)]; exact Int.le_refl _) (fun _ => by rw [m3, m2])
    rw [k_108_20 hb (by omega) ec, b_108_23 hb, k_108_41 hb (by omega) e3, b_108_44, b_108_45 hb] at e108
    rw [k_243_189 (by omega) er, b_243_192, b_243_196]
    obtain ⟨ρ3, e4, t23, hor⟩ := y_take (E := E) (d := d - 1 - 1) (e := e - 1) (k := 61) hx3.1.2.2.1 r3 (by omega) (by omega) (by unfold tk_V; omega) (by decide)
    rw [t61] at hor
    rw [k_243_201 (by omega) e4]
    have G03 : eg_R (ρ 83 33) ρ ρ3 := eg_R_trans (N' := ρ 83 33) G02 (eg_R_t9 t23) (Int.le_refl _)
    rcases hor with ⟨σ4, j4, c4, hR4, f4, hj4⟩ | ⟨hF4, c4⟩
    · subst hj4
      have F04 : ef_R b (σ (8 + b) 6) (σ (8 + b) 10) (σ (23 + b) 15) σ σ4 := ef_R_trans F03 (ef_R_tk f4)
      have v : ∀ k : Int, σ4 (8 + b) k = σ3 (8 + b) k := fun k => f4 _ _ (by omega) (by omega)
      have v6 := v 6
      have v10 := v 10
      have v15 : σ4 (23 + b) 15 = σ3 (23 + b) 15 := f4 _ _ (by omega) (by omega)
      have u10 : ρ3 83 10 = ρ2 83 10 := t23 _ _ (by omega)
      have u33 : ρ3 83 33 = ρ2 83 33 := t23 _ _ (by omega)
      have u44 : ρ3 83 44 = ρ2 83 44 := t23 _ _ (by omega)
      have hx4 := xs_R_ef hb hx F04 G03
      have hn4 : xn_R b σ4 ρ3 (j2 + 1) := by
        have a7 := k3.2.2.1
        have a11 := k3.1.2.1
        have a12 : σ3 (8 + b) 12 = σ2 (8 + b) 12 := kO _ _ (by omega) (by omega) (by omega)
        have v7 := v 7
        have v11 := v 11
        have v12 := v 12
        unfold xn_R at hn2 ⊢
        push_cast
        omega
      have m4 : ∀ k : Int, σ4 (σ1 (19 + b) i) k = σ1 (σ1 (19 + b) i) k := fun k => by rw [f4 _ _ (by omega) (by omega), m3]
      have hsym4 : js_desc E.1 σ4 (σ1 (19 + b) i) = some (0, 11, js_sym) := js_desc_mono hsym3 (by rw [f4 _ _ (by omega) (by omega)]; exact Int.le_refl _) (fun _ => by rw [m4, m3])
      have z : ∀ a k : Int, 86 ≤ a → a < 100 → ρ3 a k = ρ a k := fun a k h1 h2 => G03 _ _ (by omega) (by omega)
      rw [k_108_51 (by omega) c4, b_108_54 hb] at e108
      rw [b_243_204, wi, if_pos hi, z 87 i (by decide) (by decide), z 88 i (by decide) (by decide), z 89 i (by decide) (by decide), js_w_of (x := ρ 88 i) (by omega) (by omega), js_w_of (x := ρ 89 i) (by omega) (by omega)]
      rcases y_for (E := E) (d := d - 1 - 1) (e := e - 1) (t := ρ 87 i) (lo := ρ 88 i) (hi := ρ 89 i) hb hE (by omega) hx4 hn4 hR4 (by omega) (by omega) (by omega) (by omega) ⟨t0, t1⟩ (by omega) (by omega) with ⟨σ5, ρ4, j5, n2, r, er5, ec5, ea5, H2, _⟩ | ⟨ρ', vv, er5, hff⟩
      · have r5 := H2.1.1
        have hj5 := rd_j r5
        have q5 := H2.1.2.1
        have F45 := H2.1.2.2.2.1
        have G34 := H2.1.2.2.2.2.1
        have g5 := H2.1.2.2.2.2.2.1
        have hn5 := xn_next hn4 H2
        have hnod := hn5.2.2.2.2.1
        have d10 := H2.2.2.1.2.1.1
        have d6 := H2.2.2.1.2.1.2.1
        have z15 := H2.2.2.1.1.2.2.2
        have lr := xt_ln_0 r
        have G04 : eg_R (ρ 83 33) ρ ρ4 := eg_R_trans G03 G34 (by omega)
        have F05 : ef_R b (σ (8 + b) 6) (σ (8 + b) 10) (σ (23 + b) 15) σ σ5 := ef_R_trans F04 (ef_R_mono F45 (by omega) (by omega) (by omega))
        have m5 : ∀ k : Int, σ5 (σ1 (19 + b) i) k = σ1 (σ1 (19 + b) i) k := fun k => by rw [F45 _ _ (by unfold ef_D; omega), m4]
        have hsym5 : js_desc E.1 σ5 (σ1 (19 + b) i) = some (0, 11, js_sym) := js_desc_mono hsym4 (by rw [F45 _ _ (by unfold ef_D; omega)]; exact Int.le_refl _) (fun _ => by rw [m5, m4])
        have t10 := hn.2.2.1
        obtain ⟨σ6, e6, k2⟩ := c_keep (E := E) (d := d - 1 - 1) (σ := σ5) (lo := σ5 (23 + b) 1) (hi := σ5 (23 + b) 2) hb (xn_cz hn5 r5) (by omega) hn5.2.2.1 (by omega) hn5.2.2.2.1.1 (by have := hn5.2.2.2.1.2; omega)
        have k2O := k2.2.2.2.2
        have hz5 := xn_cz hn5 r5
        have b6 := hn5.1
        have hz6 : cz_R σ6 b := by
          have a6 := k2.2.1
          have a7 := k2.2.2.1
          unfold cz_R at hz5 ⊢
          omega
        have l6 := k2.2.1
        obtain ⟨σ7, e7, n7⟩ := c_loadT (E := E) (d := d - 1 - 1) (σ := σ6) (t := σ (8 + b) 10) hb hz6 (by omega) (by omega) (by omega)
        have hz7 : cz_R σ7 b := cz_em hz6 (by omega) n7
        have l7 := n7.1
        obtain ⟨σ8, e8, n8⟩ := c_add (E := E) (d := d - 1 - 1) (σ := σ7) (op := 3) (x := 0) hb hz7 (by omega)
        have hz8 : cz_R σ8 b := cz_em hz7 (by omega) n8
        have l8 := n8.1
        obtain ⟨σ9, e9, n9⟩ := c_loadT (E := E) (d := d - 1 - 1) (σ := σ8) (t := σ (8 + b) 10 + 1) hb hz8 (by omega) (by omega) (by omega)
        have hz9 : cz_R σ9 b := cz_em hz8 (by omega) n9
        have l9 := n9.1
        have F56 : ef_R b (σ (8 + b) 6) (σ (8 + b) 10) (σ (23 + b) 15) σ5 σ6 := ef_R_kp k2 (by omega) (by omega)
        have F67 : ef_R b (σ (8 + b) 6) (σ (8 + b) 10) (σ (23 + b) 15) σ6 σ7 := ef_R_em n7 (by omega)
        have F78 : ef_R b (σ (8 + b) 6) (σ (8 + b) 10) (σ (23 + b) 15) σ7 σ8 := ef_R_em n8 (by omega)
        have F89 : ef_R b (σ (8 + b) 6) (σ (8 + b) 10) (σ (23 + b) 15) σ8 σ9 := ef_R_em n9 (by omega)
        have F59 : ef_R b (σ (8 + b) 6) (σ (8 + b) 10) (σ (23 + b) 15) σ5 σ9 := ef_R_trans F56 (ef_R_trans F67 (ef_R_trans F78 F89))
        have F09 : ef_R b (σ (8 + b) 6) (σ (8 + b) 10) (σ (23 + b) 15) σ σ9 := ef_R_trans F05 F59
        have hx9 := xs_R_ef hb hx F09 G04
        have m9 : ∀ k : Int, σ9 (σ1 (19 + b) i) k = σ1 (σ1 (19 + b) i) k := fun k => by rw [F59 _ _ (by unfold ef_D; omega), m5]
        have hsym9 : js_desc E.1 σ9 (σ1 (19 + b) i) = some (0, 11, js_sym) := js_desc_mono hsym5 (by rw [F59 _ _ (by unfold ef_D; omega)]; exact Int.le_refl _) (fun _ => by rw [m9, m5])
        have e19 : σ9 (19 + b) i = σ1 (19 + b) i := by rw [F09 _ _ (by unfold ef_D; omega), f1 _ _ (by omega) (by omega)]
        have z11 : ρ4 83 11 = ρ 83 11 := G04 _ _ (by omega) (by omega)
        have hu := hx9.2.2.2.1 i i0 (by rw [z11]; exact i1)
        rw [e19] at hu
        obtain ⟨σA, eA, nA⟩ := c_storeE (E := E) (d := d - 1 - 1) (σ := σ9) (x := σ1 (19 + b) i) hb hz9 (by omega) hsym9 hu.1 hu.2.1
        have F9A : ef_R b (σ (8 + b) 6) (σ (8 + b) 10) (σ (23 + b) 15) σ9 σA := ef_R_em nA (by omega)
        have FAB : ef_R b (σ (8 + b) 6) (σ (8 + b) 10) (σ (23 + b) 15) σA (js_up σA (8 + b) 10 (σ (8 + b) 10)) := fun a k g => js_up_ne _ (fun hh => g (ef_D8 ⟨hh.1, by omega⟩))
        have F0B : ef_R b (σ (8 + b) 6) (σ (8 + b) 10) (σ (23 + b) 15) σ (js_up σA (8 + b) 10 (σ (8 + b) 10)) := ef_R_trans F09 (ef_R_trans F9A FAB)
        have F5B : ef_R b (σ (8 + b) 6) (σ (8 + b) 10) (σ (23 + b) 15) σ5 (js_up σA (8 + b) 10 (σ (8 + b) 10)) := ef_R_trans F59 (ef_R_trans F9A FAB)
        have hxB := xs_R_ef hb hx F0B G04
        rw [k_108_58 hb (by omega) ec5, b_108_61 hb hsym5, m5, m5, m5, hf.2.1, hf.2.2.1, hf.2.2.2.1, k_108_77 hb (by omega) ea5, b_108_80 hsym5 hb, m5, s12, if_neg (show ¬ js_w 1 = 0 by decide), k_108_105 hb (by omega) e6, b_108_108 hb, k_108_114 hb (by omega) e7, b_108_117 hb, k_108_123 hb (by omega) e8, b_108_126 hb, k_108_134 hb (by omega) e9, b_108_137 hb, k_108_142 hb (by omega) eA, b_108_145 hb, b_108_165] at e108
        have oA : ∀ a k : Int, ¬ (a = 8 + b) → ¬ (9 + b ≤ a ∧ a ≤ 14 + b) → ¬ (17 + b ≤ a ∧ a ≤ 18 + b) → js_up σA (8 + b) 10 (σ (8 + b) 10) a k = σ5 a k := fun a k g1 g2 g3 => by
          rw [js_up_ne _ (by omega), nA.2.2.2 _ _ (by omega) (by omega), n9.2.2.2 _ _ (by omega) (by omega), n8.2.2.2 _ _ (by omega) (by omega), n7.2.2.2 _ _ (by omega) (by omega), k2O _ _ (by omega) (by omega) (by omega)]
        have rB : rd_R (js_up σA (8 + b) 10 (σ (8 + b) 10)) ρ4 j5 := rd_R_of r5 (fun k _ => oA _ _ (by omega) (by omega) (by omega)) (fun a k _ _ => oA _ _ (by omega) (by omega) (by omega)) (fun _ _ _ => rfl) (fun _ => rfl)
        rw [k_56_169 hb (by omega) e108, b_56_172 hb, k_243_225 (by omega) er5]
        obtain ⟨ρ5, eE, t45, horE⟩ := y_take (E := E) (d := d - 1) (e := e - 1) (k := 59) hxB.1.2.2.1 rB (by omega) (by omega) (by unfold tk_V; omega) (by decide)
        rw [t59] at horE
        rcases horE with ⟨σC, jC, cC, RC, fC, hjC⟩ | ⟨hFC, cC⟩
        · subst hjC
          have n33 : ρ5 83 33 = ρ4 83 33 := t45 _ _ (by omega)
          obtain ⟨ρ6, er6, hw⟩ := r_node (E := E) (e := e - 1) (ρ := ρ5) (k := 21) (ty := 0) (lo := 0) (hi := 0) (a := i) (b := n2) (c := n1) RC.2.2.1.2.2.1 (by omega) (by omega) (by decide) (by decide)
          have hwO := hw.2.2.2.2.2.2
          rw [k_56_178 (by omega) cC, b_56_181, b_56_199, b_243_228, k_243_233 (by omega) eE, b_243_236, js_w_of (x := n1) (by omega) (by omega), if_neg (show ¬ n1 < 0 by omega), b_243_249, k_243_257 (by omega) er6, b_243_260]
          have zz : ∀ a k : Int, 86 ≤ a → a < 100 → ρ6 a k = ρ a k := fun a k h1 h2 => by rw [hwO _ _ (by omega) (by omega), t45 _ _ (by omega), G04 _ _ (by omega) (by omega)]
          have z5 : ρ6 83 11 = ρ 83 11 := by rw [hwO _ _ (by omega) (by omega), t45 _ _ (by omega), z11]
          have hsv : sv_P ρ6 F i := by
            refine ⟨i0, by rw [z5]; exact i1, ?_⟩
            rw [zz _ _ (by decide) (by decide), zz _ _ (by decide) (by decide)]
            by_cases q5 : 5 ≤ ρ 86 i
            · exact Or.inr ⟨q5, by omega, g93 ⟨q5, by omega⟩⟩
            · exact Or.inl ⟨by omega, by omega⟩
          have hsz : sz_P ρ6 i (ρ 91 i) := ⟨i0, by rw [z5]; exact i1, zz _ _ (by decide) (by decide)⟩
          have nA' : em_R b σ9 σA 5 (σ9 (σ9 (19 + b) i) 5 + 0) (ρ 91 i) 1 0 (sh_P (σ9 (σ9 (19 + b) i) 11)) := by
            rw [e19, Int.add_zero]
            have := nA
            rw [m9 6, hf.2.2.2.2.1] at this
            exact this
          refine Or.inl ⟨σC, ρ6, j5 + 1, ρ5 83 33, tr_n 21 0 0 0 i 0 (ρ 91 i) l r, rfl, rfl, ?_⟩
          exact ss_put (xs_hg hx) hb hn.2.2.2.2.1.1 hn.2.1 (by omega) H1 k3 f4 t23 H2 k2 n7 n8 n9 nA' fC t45 RC hw ⟨i0, by rw [hx9.1.2.2.2.2.1, z11]; exact i1⟩ hsv hsz
        · rw [kt_56_178 (by omega) cC, b_243_228, k_243_233 (by omega) eE, b_243_236, js_w_of (x := n1) (by omega) (by omega), if_neg (show ¬ n1 < 0 by omega), b_243_249, k_243_257 (by omega) (r_nodeF hFC), b_243_260]
          exact Or.inr ⟨ρ5, 0, rfl, hFC, eg_R_trans (N' := ρ 83 33) G04 (eg_R_t9 t45) (Int.le_refl _), _, rfl, F0B⟩
      · have hF' : rx_F ρ' := by
          rcases hff with h | ⟨_, _, _, h⟩
          · exact h.1
          · exact h.1
        rw [k_243_225 (by omega) er5, r_243_228F hF' (by omega)]
        rcases hff with h | ⟨σ5, ec5, F45, h⟩
        · obtain ⟨a1, a2, σ', a3, a4⟩ := xf_ef F04 G03 (by omega) (by omega) (by omega) (by omega) h
          rw [kt_108_58 hb (by omega) a3] at e108
          rw [kt_56_169 hb (by omega) e108]
          exact Or.inr ⟨ρ', 0, rfl, a1, a2, σ', rfl, a4⟩
        · obtain ⟨a1, a2, σ', a3, a4⟩ := xf_ef F04 G03 (by omega) (by omega) (by omega) (by omega) h
          have m5 : ∀ k : Int, σ5 (σ1 (19 + b) i) k = σ1 (σ1 (19 + b) i) k := fun k => by rw [F45 _ _ (by unfold ef_D; omega), m4]
          have hsym5 : js_desc E.1 σ5 (σ1 (19 + b) i) = some (0, 11, js_sym) := js_desc_mono hsym4 (by rw [F45 _ _ (by unfold ef_D; omega)]; exact Int.le_refl _) (fun _ => by rw [m5, m4])
          rw [k_108_58 hb (by omega) ec5, b_108_61 hb hsym5, m5, m5, m5, hf.2.1, hf.2.2.1, hf.2.2.2.1, kt_108_77 hb (by omega) a3] at e108
          rw [kt_56_169 hb (by omega) e108]
          exact Or.inr ⟨ρ', 0, rfl, a1, a2, σ', rfl, a4⟩
    · rw [kt_108_51 (by omega) c4] at e108
      rw [kt_56_169 hb (by omega) e108, r_243_204F hF4 (by omega) hi]
      exact Or.inr ⟨ρ3, 0, rfl, hF4, G03, σ3, rfl, F03⟩
  · obtain ⟨a1, a2, σ', a3, a4⟩ := hff
    rw [kt_108_20 hb (by omega) a3] at e108
    rw [kt_56_169 hb (by omega) e108, k_243_189 (by omega) er, b_243_192, b_243_196, k_243_201 (by omega) (r_takeF a1 (by omega) (by decide) (by decide)), r_243_204F a1 (by omega) hi]
    exact Or.inr ⟨ρ', 0, rfl, a1, a2, σ', rfl, a4⟩
/-- a statement that begins with a name -/
theorem y_plain (hb : b = 0 ∨ b = 25) (hE : xe_P E b F B X (j + 1)) (hx : xs_R E b F B X σ ρ) (hn : xn_R b σ ρ j) (hR : rd_R σ ρ j) (h5 : ρ 83 5 = 2) (hD : 1 ≤ ρ 83 10) (ht : σ (8 + b) 10 ≤ 2 * ρ 83 10) (hp : σ (23 + b) 15 ≤ 6 * ρ 83 10) (hd : 4 * (65 - ρ 83 10) + 27 ≤ (d : Int)) (he : 12 * (65 - ρ 83 10) + 28 ≤ (e : Int)) : so_P E b F B σ ρ j (js_J E d 56 0 [(2, 22 + b), (9, 0), (9, 0)] [] σ) (js_J E e 213 0 [(2, 83), (9, 0)] [] ρ) := by
  have D1 := hR.2.2.2.2.2
  have c1 : σ 1 1 = 2 := by rw [(rd_V hR).2.1, h5]; decide
  have t59 : tk_m 59 = 59 := by decide
  have key : so_P E b F B σ ρ j (js_J E d 56 126 [(2, 22 + b), (9, 0), (9, 0)] [] σ) (js_J E (e - 1) 243 0 [(2, 83), (9, 0), (9, 0), (9, 0), (9, 0), (9, 0), (9, 0)] [] ρ) := by
    rcases y_beg (E := E) (d := d) (e := e - 1) hb hx hR h5 (by omega) (by omega) with ⟨ρ', v, er, hf⟩ | ⟨σ1, i, c, y3, hnm, hR1, f1, hk, ec, er⟩
    · exact Or.inr ⟨ρ', v, er, hf⟩
    · rw [ec, er]
      have hnm' := hnm
      obtain ⟨⟨i0, i1, i2⟩, nX, hvis, _, ⟨k0, k9, t0, t1, _, _⟩, hsym, hf⟩ := hnm
      have s1 : σ1 (σ1 (19 + b) i) 1 = ρ 86 i := hf.1
      clear hf
      have hge := js_sym_ge hsym
      have r0 := (hx.2.2.1 i i0 i1 nX).1
      rw [b_56_143 hsym hb, s1, js_w_of (x := ρ 86 i) (by omega) (by omega)]
      by_cases q4 : ρ 86 i = 4
      · rw [if_pos q4, if_pos q4]
        rcases y_call (E := E) (d := d - 1) (e := e - 1 - 1) hb (xe_mono hE (by omega)) hx hn hR hnm' hR1 f1 q4 (by omega) (by omega) (by omega) (by omega) with ⟨σ2, ρ2, j2, n, t, er2, ec2, H, _, _, _, hk10⟩ | ⟨ρ', v, er2, hff⟩
        · have r2 := H.1.1
          have hj2 := rd_j r2
          have F02 := H.1.2.2.2.1
          have G02 := H.1.2.2.2.2.1
          have g2 := H.1.2.2.2.2.2.1
          have hx2 := xs_R_ef hb hx F02 G02
          have hn2 := xn_nextw hn H
          have hnod := hn2.2.2.2.2.1
          rw [k_56_157 hb (by omega) ec2, b_56_160, b_56_172 hb, k_243_149 (by omega) er2, b_243_152]
          obtain ⟨ρ3, e4, t23, hor⟩ := y_take (E := E) (d := d - 1) (e := e - 1 - 1) (k := 59) hx2.1.2.2.1 r2 (by omega) (by omega) (by unfold tk_V; omega) (by decide)
          rw [t59] at hor
          rw [k_243_157 (by omega) e4, b_243_160]
          rcases hor with ⟨σ4, j4, c4, R4, f4, hj4⟩ | ⟨hF, c4⟩
          · subst hj4
            have n33 : ρ3 83 33 = ρ2 83 33 := t23 _ _ (by omega)
            obtain ⟨ρ4, er5, hw⟩ := r_node (E := E) (e := e - 1 - 1) (ρ := ρ3) (k := 28) (ty := 0) (lo := 0) (hi := 0) (a := n) (b := 0) (c := 0) R4.2.2.1.2.2.1 (by omega) (by omega) (by decide) (by decide)
            rw [k_56_178 (by omega) c4, b_56_181, b_56_199, k_243_170 (by omega) er5, b_243_173]
            exact Or.inl ⟨σ4, ρ4, j2 + 1, ρ3 83 33, tr_n 28 0 0 0 0 0 0 t .leaf, rfl, rfl, ss_call (xs_hg hx) hb hn.2.2.2.2.1.1 hn.2.1 H hk10 f4 t23 R4 hw⟩
          · rw [kt_56_178 (by omega) c4, k_243_170 (by omega) (r_nodeF hF), b_243_173]
            exact Or.inr ⟨ρ3, 0, rfl, hF, eg_R_trans (N' := ρ 83 33) G02 (eg_R_t9 t23) (Int.le_refl _), σ2, rfl, F02⟩
        · obtain ⟨a1, a2, σ', a3, a4⟩ := hff
          rw [kt_56_157 hb (by omega) a3, k_243_149 (by omega) er2, b_243_152, k_243_157 (by omega) (r_takeF a1 (by omega) (by decide) (by decide)), b_243_160, k_243_170 (by omega) (r_nodeF a1), b_243_173]
          exact Or.inr ⟨ρ', 0, rfl, a1, a2, σ', rfl, a4⟩
      · rw [if_neg q4, if_neg q4, b_56_163, if_neg (show ¬ σ1 (19 + b) i < 0 by omega), b_56_167]
        rcases r0 with h | h
        · exact y_set hb hE hx hn hR hnm' hR1 f1 ⟨hk.1, hk.2, q4⟩ h ht hp (by omega) (by omega)
        · exact y_put hb hE hx hn hR hnm' hR1 f1 ⟨hk.1, hk.2, q4⟩ h hD ht hp (by omega) (by omega)
  rw [b_56_0 hb, c1, s_56_7_2 (by decide), b_213_0, h5, s_213_4_2 (by decide), b_213_112]
  rcases key with ⟨σ', ρ', j', n, s, e1, e2, h⟩ | ⟨ρ', v, e1, hf⟩
  · rw [k_213_113 (by omega) e1, b_213_116]
    exact Or.inl ⟨σ', ρ', j', n, s, rfl, e2, h⟩
  · rw [k_213_113 (by omega) e1, b_213_116]
    exact Or.inr ⟨ρ', v, rfl, hf⟩
end RC
