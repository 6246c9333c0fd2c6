/-! part 99.zi: min and max in step -/
section OS
variable {E : js_E} {d e : Nat} {b F : Int} {B : Int → Int} {X : Int → Prop} {σ ρ : js_S} {j : Nat}
theorem rd_place (h : rd_R σ ρ j) : 0 ≤ ρ 83 6 ∧ ρ 83 6 < 100000 := by
  have ok := h.2.2.1
  have a1 := ok.2.2.2.1
  have a2 := ok.2.2.2.2.1
  have a3 := ok.2.2.2.2.2.1
  have a4 := ok.1.2.1
  omega
/-- what happens behind ( in min, max -/
theorem y_mm2 {σ2 ρ2 : js_S} {x1 p : Int} (hb : b = 0 ∨ b = 25) (hE : xe_P E b F B X (j + 2)) (hx : xs_R E b F B X σ ρ) (hn : xn_R b σ ρ j) (hx2 : xs_R E b F B X σ2 ρ2) (hn2 : xn_R b σ2 ρ2 (j + 2)) (hR2 : rd_R σ2 ρ2 (j + 2)) (o2 : of_R σ σ2) (g2 : og_R ρ ρ2) (D0 : 0 ≤ ρ 83 10) (hD : ρ2 83 10 = ρ 83 10 + 1) (hx1 : x1 = 0 ∨ x1 = 1) (hp0 : 0 ≤ p ∧ p < 100000) (ht : σ (8 + b) 10 ≤ 12 * ρ 83 10 + 3) (hp : σ (23 + b) 15 ≤ 6 * ρ 83 10 + 5) (hd : 4 * (65 - ρ 83 10) + 23 ≤ (d : Int)) (he : 12 * (65 - ρ 83 10) + 17 ≤ (e : Int)) : xo_P E b F B σ ρ j (js_J E d 80 24 [(2, 23 + b), (0, x1), (0, p), (9, 0), (9, 0), (9, 0)] [] σ2) (js_J E e 227 31 [(2, 83), (0, p), (0, x1), (9, 0), (9, 0), (9, 0), (9, 0), (9, 0), (9, 0)] [] ρ2) := by
  have D1 := hR2.2.2.2.2.2
  have hj := rd_j hR2
  have t44 : tk_m 44 = 44 := by decide
  have t41 : tk_m 41 = 41 := by decide
  have v : ∀ i : Int, σ2 (8 + b) i = σ (8 + b) i := fun i => o2 _ _ (by omega) (by omega)
  have v6 := v 6
  have v10 := v 10
  have v15 : σ2 (23 + b) 15 = σ (23 + b) 15 := o2 _ _ (by omega) (by omega)
  have u33 : ρ2 83 33 = ρ 83 33 := g2 _ _ (by omega)
  have u44 : ρ2 83 44 = ρ 83 44 := g2 _ _ (by omega)
  have F02 : ∀ n t p : Int, ef_R b n t p σ σ2 := fun n t p => ef_R_of o2
  have G02 : eg_R (ρ 83 33) ρ ρ2 := eg_R_og g2
  rw [b_80_24, b_227_31]
  rcases hE (d - 1) (e - 1) σ2 ρ2 (j + 2) (Nat.le_refl _) hx2 hn2 hR2 (by omega) (by omega) (by omega) (by omega) with ⟨σ3, ρ3, j3, n1, l, er1, ec1, h1, _⟩ | ⟨ρ', vv, er, hf⟩
  · rw [k_80_25 hb (by omega) ec1, b_80_28 hb, k_227_32 (by omega) er1, b_227_35]
    have r3 := h1.1.1
    have hj3 := rd_j r3
    have q1 := h1.1.2.1
    have dp1 := h1.1.2.2.1
    have F23 := h1.1.2.2.2.1
    have G23 := h1.1.2.2.2.2.1
    have m1 := h1.1.2.2.2.2.2.1
    have m1' := h1.1.2.2.2.2.2.2
    have y0 := h1.2.2.1.1.1
    have y1 := h1.2.2.1.1.2.1
    have y2 := h1.2.2.1.1.2.2.1
    have y15 := h1.2.2.1.1.2.2.2
    have c10 := h1.2.2.1.2.1.1
    have c6 := h1.2.2.1.2.1.2.1
    have ll := xt_ln_0 l
    have yl := h1.2.2.2.2.2.2.1
    have hn3 := xn_next hn2 h1
    have hx3 := xs_R_ef hb hx2 F23 G23
    have hz3 := xn_cz hn3 r3
    have t0 := hn3.2.2.1
    have mt0 := hn3.2.2.2.1.1
    have mt1 := hn3.2.2.2.1.2
    obtain ⟨σ4, e4, k4⟩ := c_keep (E := E) (d := d - 1) (σ := σ3) (lo := σ3 (23 + b) 1) (hi := σ3 (23 + b) 2) hb hz3 (by omega) t0 (by omega) mt0 (by omega)
    have kO := k4.2.2.2.2
    have F34 : ef_R b (σ3 (8 + b) 6) (σ3 (8 + b) 10) (σ3 (23 + b) 15) σ3 σ4 := ef_R_kp k4 (Int.le_refl _) (Int.le_refl _)
    have hx4 := xs_R_ef hb hx3 F34 (eg_R_og (N := 0) (fun _ _ _ => rfl))
    have r4 : rd_R σ4 ρ3 j3 := rd_R_of r3 (fun i _ => kO _ _ (by omega) (by omega) (by omega)) (fun a i _ _ => kO _ _ (by omega) (by omega) (by omega)) (fun _ _ _ => rfl) (fun _ => rfl)
    rw [k_80_57 hb (by omega) e4, b_80_60 hb]
    obtain ⟨ρ5, e5, o5, hor5⟩ := y_take (E := E) (d := d - 1) (e := e - 1) (k := 44) hx4.1.2.2.1 r4 (by omega) (by omega) (by unfold tk_V; omega) (by decide)
    rw [t44] at hor5
    have G35 : eg_R (ρ3 83 33) ρ3 ρ5 := eg_R_t9 o5
    rw [k_227_39 (by omega) e5]
    have k6 := k4.2.1
    have k10 := k4.1.1
    have k15 : σ4 (23 + b) 15 = σ3 (23 + b) 15 := kO _ _ (by omega) (by omega) (by omega)
    have F04 : ef_R b (σ (8 + b) 6) (σ (8 + b) 10) (σ (23 + b) 15) σ σ4 := ef_R_trans (F02 _ _ _) (ef_R_trans (ef_R_mono F23 (by omega) (by omega) (by omega)) (ef_R_mono F34 (by omega) (by omega) (by omega)))
    have G03 : eg_R (ρ 83 33) ρ ρ3 := eg_R_trans G02 G23 (by omega)
    have G05 : eg_R (ρ 83 33) ρ ρ5 := eg_R_trans G03 G35 (by omega)
    rcases hor5 with ⟨σ5, j5, c5, hR5, f5, hj5⟩ | ⟨hF5, c5⟩
    · subst hj5
      rw [k_80_67 (by omega) c5, b_80_70, b_227_42]
      have v5 : ∀ i : Int, σ5 (8 + b) i = σ4 (8 + b) i := fun i => f5 _ _ (by omega) (by omega)
      have v56 := v5 6
      have v510 := v5 10
      have v515 : σ5 (23 + b) 15 = σ4 (23 + b) 15 := f5 _ _ (by omega) (by omega)
      have F45 : ∀ n t p : Int, ef_R b n t p σ4 σ5 := fun n t p => ef_R_tk f5
      have F05 : ef_R b (σ (8 + b) 6) (σ (8 + b) 10) (σ (23 + b) 15) σ σ5 := ef_R_trans F04 (F45 _ _ _)
      have n33 : ρ5 83 33 = ρ3 83 33 := o5 _ _ (by omega)
      have n44 : ρ5 83 44 = ρ3 83 44 := o5 _ _ (by omega)
      have n10 : ρ5 83 10 = ρ3 83 10 := o5 _ _ (by omega)
      have hx5 := xs_R_ef hb hx F05 G05
      have hn5 : xn_R b σ5 ρ5 (j3 + 1) := by
        have a7 := k4.2.2.1
        have a11 := k4.1.2.1
        have a12 : σ4 (8 + b) 12 = σ3 (8 + b) 12 := kO _ _ (by omega) (by omega) (by omega)
        have v7 := v5 7
        have v11 := v5 11
        have v12 := v5 12
        unfold xn_R at hn3 ⊢
        push_cast
        omega
      rcases hE (d - 1) (e - 1) σ5 ρ5 (j3 + 1) (by omega) hx5 hn5 hR5 (by omega) (by omega) (by omega) (by omega) with ⟨σ6, ρ6, j6, n2, r, er2, ec2, h2, _⟩ | ⟨ρ', vv, er, hf⟩
      · rw [k_80_71 hb (by omega) ec2, b_80_74, k_227_43 (by omega) er2, b_227_46]
        have r6 := h2.1.1
        have hj6 := rd_j r6
        have ok6 := r6.2.2.1
        have h69 := ok6.2.2.1
        have q2 := h2.1.2.1
        have dp2 := h2.1.2.2.1
        have F56 := h2.1.2.2.2.1
        have G56 := h2.1.2.2.2.2.1
        have m2 := h2.1.2.2.2.2.2.1
        have m2' := h2.1.2.2.2.2.2.2
        have z0 := h2.2.2.1.1.1
        have z1 := h2.2.2.1.1.2.1
        have z2 := h2.2.2.1.1.2.2.1
        have z15 := h2.2.2.1.1.2.2.2
        have d10 := h2.2.2.1.2.1.1
        have d6 := h2.2.2.1.2.1.2.1
        have lr := xt_ln_0 r
        have yr := h2.2.2.2.2.2.2.1
        have hn6 := xn_next hn5 h2
        have hx6 := xs_R_ef hb hx5 F56 G56
        have hz6 := xn_cz hn6 r6
        have hnod := hn.2.2.2.2.1
        have nd1 := xt_nd_in h1.2.2.2.1 h1.2.2.2.2.1.1
        have nd2 := xt_nd_in h2.2.2.2.1 h2.2.2.2.2.1.1
        have w1 : ∀ a : Int, 100 ≤ a → a ≤ 106 → ρ6 a n1 = ρ3 a n1 := fun a x1 x2 => by rw [G56 _ _ (by omega) (by omega), G35 _ _ (by omega) (by omega)]
        have w101 := w1 101 (by decide) (by decide)
        have w105 := w1 105 (by decide) (by decide)
        have w106 := w1 106 (by decide) (by decide)
        have F06 : ef_R b (σ (8 + b) 6) (σ (8 + b) 10) (σ (23 + b) 15) σ σ6 := ef_R_trans F05 (ef_R_mono F56 (by omega) (by omega) (by omega))
        have G06 : eg_R (ρ 83 33) ρ ρ6 := eg_R_trans G05 G56 (by omega)
        rw [h69, if_pos (show js_w 0 = 0 by decide), js_w_of (x := n1) (by omega) (by omega), if_pos (show 0 ≤ n1 ∧ n1 < 66000 by omega), w101, nd1.2.2.1, js_w_of (x := xt_ty l) (by omega) (by omega), js_w_of (x := n2) (by omega) (by omega), if_pos (show 0 ≤ n2 ∧ n2 < 66000 by omega), nd2.2.2.1, js_w_of (x := xt_ty r) (by omega) (by omega), y0]
        by_cases q : xt_ty l = 0 ∧ xt_ty r = 0
        · rw [if_pos q.1, if_pos q.2, b_227_80, q.1, k_80_77 hb (by omega) (c_ask_ok hb (by rw [z0]; exact q.2))]
          have mb := hn6.1.2
          obtain ⟨σ8, e8, c8⟩ := c_mm (E := E) (d := d) (σ := σ6) (x1 := x1) (x2 := p) (x3 := 0) (x4 := σ3 (23 + b) 1) (x5 := σ3 (23 + b) 2) hb hz6 (by omega) (by omega) (by omega) (by omega) (xs_hg hx6) hx1 (by omega) (by omega) (by omega) (by omega)
          rw [e8]
          have bO := c8.2.2.2.2
          have r8 : rd_R σ8 ρ6 j6 := rd_R_of r6 (fun i _ => by rw [bO _ _ (by omega) (by omega), s3_o _ (by omega)]) (fun a i _ _ => by rw [bO _ _ (by omega) (by omega), s3_o _ (by omega)]) (fun _ _ _ => rfl) (fun _ => rfl)
          have F67 : ∀ n t p lo hi : Int, ef_R b n t p σ6 (s3_S σ6 b 0 lo hi) := fun n t p lo hi a i g => s3_o _ (fun hh => g (ef_D23 ⟨hh.1, by omega⟩))
          have s36 : ∀ lo hi : Int, s3_S σ6 b 0 lo hi (8 + b) 6 = σ6 (8 + b) 6 := fun lo hi => s3_o _ (by omega)
          have F68 : ef_R b (σ (8 + b) 6) (σ (8 + b) 10) (σ (23 + b) 15) σ6 σ8 := ef_R_trans (F67 _ _ _ _ _) (ef_R_cb c8 (by rw [s36]; omega))
          have F08 := ef_R_trans F06 F68
          have hx8 := xs_R_ef hb hx F08 G06
          obtain ⟨ρ9, e9, og9, hor9⟩ := y_close (E := E) (d := d - 1) (e := e - 1) (k := 41) hx8.1.2.2.1 r8 (by omega) (by omega) (by unfold tk_V; omega) (by decide) (by omega)
          rw [t41] at hor9
          rw [k_227_83 (by omega) e9]
          have G69 : eg_R (ρ6 83 33) ρ6 ρ9 := eg_R_og og9
          rcases hor9 with ⟨σ9, j9, c9, hR9, f9, hj9, hD9⟩ | ⟨hF9, c9⟩
          · subst hj9
            have x33 : ρ9 83 33 = ρ6 83 33 := og9 _ _ (by omega)
            have xn : ∀ a i : Int, 100 ≤ a → ρ9 a i = ρ6 a i := fun a i h => og9 _ _ (by omega)
            obtain ⟨ρ10, e10, hw⟩ := r_mm (E := E) (e := e) (ρ := ρ9) (x1 := p) (x2 := x1) (x3 := n1) (x4 := n2) (by omega) hR9.2.2.1.2.2.1 (by omega) (by omega) hx1 (by omega) (by omega) (by rw [xn _ _ (by decide), w105, nd1.2.2.2.1]; omega) (by rw [xn _ _ (by decide), nd2.2.2.2.1]; omega) (by rw [xn _ _ (by decide), w106, nd1.2.2.2.2]; omega) (by rw [xn _ _ (by decide), nd2.2.2.2.2]; omega)
            rw [e10, k_80_165 (by omega) c9, b_80_168, x33]
            rw [xn _ _ (by decide), xn _ _ (by decide), xn _ _ (by decide), xn _ _ (by decide), w105, w106, nd1.2.2.2.1, nd1.2.2.2.2, nd2.2.2.2.1, nd2.2.2.2.2] at hw
            rw [z1, z2, y1, y2] at c8
            have mi := mm_in (x := x1) (a := xt_lo l) (b := xt_lo r) (c := xt_hi l) (d := xt_hi r) (by omega) (by omega)
            have hv := ns_nw og9 hw
            refine Or.inl ⟨σ9, ρ10, j6 + 1, ρ6 83 33, tr_n 4 0 (mm_f x1 (xt_lo l) (xt_lo r)) (mm_f x1 (xt_hi l) (xt_hi r)) 0 0 (mm_o x1) l r, rfl, rfl, ?_⟩
            have hzz : xt_dp l ≤ zz_b b σ ρ ∧ 1 + xt_dp r ≤ zz_b b σ ρ := by
              have a1 := xr_zz h1
              have a2 := xr_zz h2
              have a3 := h1.1.2.2.1
              have a4 := h1.2.2.1.1.2.2.2
              unfold zz_b
              omega
            have hj := xr_op (z := zz_b b σ ρ) (σ1 := σ3) (ρ1 := ρ3) (j1 := j3) (σ2 := σ4) (σ4 := σ5) (ρ2 := ρ5) (j4 := j3 + 1) (σ5 := σ6) (ρ5 := ρ6) (j5 := j6) (σ7 := s3_S σ6 b 0 (mm_f x1 (xt_lo l) (xt_lo r)) (mm_f x1 (xt_hi l) (xt_hi r))) (σ8 := σ8) (ρ6 := ρ6) (ρ7 := ns_S ρ6 ρ10) (op := mm_o x1) (ty := 0) (lo := mm_f x1 (xt_lo l) (xt_lo r)) (hi := mm_f x1 (xt_hi l) (xt_hi r)) hb hx2 hn2 h1 (by omega) k4 (ef_R_tk f5) (fun i _ _ => v5 i) (by omega) G35 n33 n44 n10 (Nat.le_refl _) h2 (fun a i g => s3_o _ (by omega)) (s3_0 _ _ _ _ _) (s3_1 _ _ _ _ _) (s3_2 _ _ _ _ _) (by rw [s3_o _ (by omega)]; omega) c8 (fun _ _ _ => rfl) hv ⟨by decide, by decide, mi.1, mi.2.1, mi.2.2⟩ ⟨by decide, fun h => absurd h (by decide)⟩ hzz (by unfold mm_o; split <;> decide)
            have j15 := hj.2.2.1.1.2.2.2
            exact xr_frame (σ1 := σ2) (ρ1 := ρ2) (j1 := j + 2) (σ2 := σ8) (ρ2 := ns_S ρ6 ρ10) (j2 := j6) hb (xs_hg hx) (F02 _ _ _) (fun i _ _ => v i) (by omega) G02 u33 u44 (by omega) hj (ef_R_of f9) (fun i _ _ => f9 _ _ (by omega) (by omega)) (fun i _ _ => f9 _ _ (by omega) (by omega)) (by rw [f9 _ _ (by omega) (by omega), j15, v15]) (ns_eg og9 hw) (by rw [ns_2 (by omega)]) (by rw [ns_1 (by decide), hw.2.2.2.2.2.2 _ _ (by omega) (by omega), og9 _ _ (by omega)]) (by rw [hw.2.2.2.2.2.2 _ _ (by omega) (by omega)]; omega) (by omega) (rd_R_of hR9 (fun _ _ => rfl) (fun _ _ _ _ => rfl) (fun i _ _ => hw.2.2.2.2.2.2 _ _ (by omega) (by omega)) (fun i => hw.2.2.2.2.2.2 _ _ (by omega) (by omega))) (Int.le_refl _)
          · rw [r_227_86F hF9 (by omega), kt_80_165 (by omega) c9]
            exact Or.inr ⟨ρ9, 0, rfl, hF9, eg_R_trans G06 G69 (by omega), σ8, rfl, F08⟩
        · obtain ⟨hF, h9e⟩ := rx_bad_new (τ := ρ6) (k := 5) (p := p) h69 (by decide) (by decide) hp0.1 hp0.2
          have rr : (if xt_ty l = 0 then if xt_ty r = 0 then js_J E e 227 80 [(2, 83), (0, p), (0, x1), (0, n1), (0, n2), (9, 0), (9, 0), (9, 0), (9, 0)] [] ρ6 else js_J E e 227 74 [(2, 83), (0, p), (0, x1), (0, n1), (0, n2), (9, 0), (9, 0), (9, 0), (9, 0)] [] ρ6 else js_J E e 227 74 [(2, 83), (0, p), (0, x1), (0, n1), (0, n2), (9, 0), (9, 0), (9, 0), (9, 0)] [] ρ6) = js_J E e 227 74 [(2, 83), (0, p), (0, x1), (0, n1), (0, n2), (9, 0), (9, 0), (9, 0), (9, 0)] [] ρ6 := by
            by_cases q1 : xt_ty l = 0
            · rw [if_pos q1, if_neg (fun hh => q ⟨q1, hh⟩)]
            · rw [if_neg q1]
          rw [rr, b_227_74, k_227_77 (by omega) (r_bad (by omega) (by omega)), r_227_80F hF (by omega), kt_80_77 hb (by omega) (c_ask_bad hb hx6.1.2.2.1 (by omega) (by omega) (by omega) (by rw [z0]; exact q))]
          exact Or.inr ⟨_, 0, rfl, xf_deep ⟨hF, eg_R_trans G06 (eg_R_tf (N := ρ6 83 33) (tf_R_bad _ _ _)) (by omega), σ6, by rw [h9e], F06⟩⟩
      · rw [k_227_43 (by omega) er, r_227_46F hf.1 (by omega)]
        have hf2 := xf_ef F05 G05 (by omega) (by omega) (by omega) (by omega) hf
        obtain ⟨s1, s2, σ', s3, s4⟩ := xf_deep hf2
        exact Or.inr ⟨_, 0, rfl, s1, s2, σ', by rw [kt_80_71 hb (by omega) s3], s4⟩
    · rw [r_227_42F hF5 (by omega), kt_80_67 (by omega) c5]
      exact Or.inr ⟨_, 0, rfl, xf_deep ⟨hF5, G05, σ4, rfl, F04⟩⟩
  · rw [k_227_32 (by omega) er, r_227_35F hf.1 (by omega)]
    have hf2 := xf_ef (F02 _ _ _) G02 (by omega) (by omega) (by omega) (by omega) hf
    obtain ⟨s1, s2, σ', s3, s4⟩ := xf_deep hf2
    exact Or.inr ⟨_, 0, rfl, s1, s2, σ', by rw [kt_80_25 hb (by omega) s3], s4⟩
theorem y_mm {x1 : Int} (hb : b = 0 ∨ b = 25) (hE : xe_P E b F B X (j + 2)) (hx : xs_R E b F B X σ ρ) (hn : xn_R b σ ρ j) (hR : rd_R σ ρ j) (ht : σ (8 + b) 10 ≤ 12 * ρ 83 10 + 3) (hp : σ (23 + b) 15 ≤ 6 * ρ 83 10 + 5) (hd : 4 * (65 - ρ 83 10) + 23 ≤ (d : Int)) (he : 12 * (65 - ρ 83 10) + 17 ≤ (e : Int)) (h5 : ρ 83 5 = 318 ∧ x1 = 1 ∨ ρ 83 5 = 319 ∧ x1 = 0) : xo_P E b F B σ ρ j (js_J E d 80 0 [(2, 23 + b), (0, x1), (9, 0), (9, 0), (9, 0), (9, 0)] [] σ) (js_J E e 227 0 [(2, 83), (9, 0), (9, 0), (9, 0), (9, 0), (9, 0), (9, 0), (9, 0), (9, 0)] [] ρ) := by
  have D1 := hR.2.2.2.2.2
  have c8 := (rd_V hR).2.2
  have hpl := rd_place hR
  obtain ⟨σ1, ρ1, ρ2, c1, e1, e2, og2, hor⟩ := y_fopen (E := E) (d := d - 1) (e := e - 1) hb hx hn hR (by omega) (by omega) (by omega)
  have k0 : js_J E e 227 0 [(2, 83), (9, 0), (9, 0), (9, 0), (9, 0), (9, 0), (9, 0), (9, 0), (9, 0)] [] ρ = js_J E e 227 31 [(2, 83), (0, ρ 83 6), (0, x1), (9, 0), (9, 0), (9, 0), (9, 0), (9, 0), (9, 0)] [] ρ2 := by
    rcases h5 with ⟨h, h'⟩ | ⟨h, h'⟩
    · subst h'
      rw [b_227_0, h, if_pos (by decide), b_227_20, k_227_22 (by omega) e1, b_227_25, k_227_28 (by omega) e2]
    · subst h'
      rw [b_227_0, h, if_neg (by decide), b_227_20, k_227_22 (by omega) e1, b_227_25, k_227_28 (by omega) e2]
  rw [k0, b_80_0 hb, c8, k_80_12 (by omega) c1, b_80_15 hb]
  rcases hor with ⟨σ2, c2, hx2, hn2, hR2, o2, hD64, hD⟩ | ⟨hF2, c2, o1⟩
  · rw [k_80_21 (by omega) c2]
    exact y_mm2 hb hE hx hn hx2 hn2 hR2 o2 og2 hR.2.2.2.2.1 hD (by omega) hpl ht hp hd he
  · rw [r_227_31F hF2 (by omega), kt_80_21 (by omega) c2]
    exact Or.inr ⟨_, 0, rfl, xf_deep ⟨hF2, eg_R_og og2, σ1, rfl, ef_R_of o1⟩⟩
theorem y_79_mm (hb : b = 0 ∨ b = 25) (hE : xe_P E b F B X (j + 1)) (hx : xs_R E b F B X σ ρ) (hn : xn_R b σ ρ j) (hR : rd_R σ ρ j) (ht : σ (8 + b) 10 ≤ 12 * ρ 83 10 + 3) (hp : σ (23 + b) 15 ≤ 6 * ρ 83 10 + 5) (hd : 4 * (65 - ρ 83 10) + 24 ≤ (d : Int)) (he : 12 * (65 - ρ 83 10) + 18 ≤ (e : Int)) (h5 : ρ 83 5 = 318 ∨ ρ 83 5 = 319) : xo_P E b F B σ ρ j (js_J E d 79 0 [(2, 23 + b), (9, 0)] [] σ) (js_J E e 226 0 [(2, 83), (9, 0)] [] ρ) := by
  have D1 := hR.2.2.2.2.2
  have c7 := (rd_V hR).2.1
  have t318 : tk_m 318 = 218 := by decide
  have t319 : tk_m 319 = 219 := by decide
  have key : ∃ x1 : Int, (ρ 83 5 = 318 ∧ x1 = 1 ∨ ρ 83 5 = 319 ∧ x1 = 0) ∧ js_J E d 79 0 [(2, 23 + b), (9, 0)] [] σ = js_J E d 79 216 [(2, 23 + b), (0, σ 1 1)] [(0, x1), (2, 23 + b)] σ ∧ js_J E e 226 0 [(2, 83), (9, 0)] [] ρ = js_J E e 226 169 [(2, 83), (9, 0)] [(2, 83)] ρ := by
    rcases h5 with h | h
    · refine ⟨1, Or.inl ⟨h, rfl⟩, ?_, by rw [b_226_0, s_226_4_318 (by rw [h]; decide), b_226_168]⟩
      rw [h, t318] at c7
      rw [b_79_0 hb, c7, s_79_9_218 (by decide), b_79_203, if_pos (by decide)]
    · refine ⟨0, Or.inr ⟨h, rfl⟩, ?_, by rw [b_226_0, s_226_4_319 (by rw [h]; decide), b_226_168]⟩
      rw [h, t319] at c7
      rw [b_79_0 hb, c7, s_79_9_219 (by decide), b_79_203, if_neg (by decide)]
  obtain ⟨x1, hx1, ec, er⟩ := key
  rw [ec, er]
  rcases y_mm (d := d - 1) (e := e - 1) hb (xe_mono hE (by omega)) hx hn hR ht hp (by omega) (by omega) hx1 with ⟨σ', ρ', j', n, t, g1, g2, g3⟩ | ⟨ρ', v, g1, g2, g3, σ', g4, g5⟩
  · refine Or.inl ⟨σ', ρ', j', n, t, ?_, ?_, g3⟩
    · rw [k_226_169 (by omega) g1, b_226_172]
    · rw [k_79_216 hb (by omega) g2, b_79_219, b_79_251]
  · refine Or.inr ⟨ρ', v, ?_, g2, g3, σ', ?_, g5⟩
    · rw [k_226_169 (by omega) g1, b_226_172]
    · rw [kt_79_216 hb (by omega) g4]
end OS
