/-! part 99.zl: clamp in step -/
section OV
variable {E : js_E} {d e : Nat} {b F : Int} {B : Int → Int} {X : Int → Prop} {σ ρ : js_S} {j : Nat}
/-- from the second C on -/
theorem y_clamp3 {σ2 ρ2 σ3 ρ3 σ4 σ5 ρ5 : js_S} {p a n1 : Int} {j3 j5 : Nat} {l : tr_T} (hb : b = 0 ∨ b = 25) (hx : xs_R E b F B X σ ρ) (hn : xn_R b σ ρ j) (hx2 : xs_R E b F B X σ2 ρ2) (hn2 : xn_R b σ2 ρ2 (j + 2)) (o2 : of_R σ σ2) (g2 : og_R ρ ρ2) (D0 : 0 ≤ ρ 83 10) (hD : ρ2 83 10 = ρ 83 10 + 1) (h1 : xr_R b F B σ2 ρ2 (j + 2) σ3 ρ3 j3 n1 l) (f34 : cf_R b σ3 σ4) (he1 : em_R b (s3_S σ4 b 0 (max a (xt_lo l)) (max a (xt_hi l))) σ5 22 a 0 (max a (xt_lo l)) (max a (xt_hi l)) 0) (hR5 : rd_R σ5 ρ5 j5) (G35 : tf_R ρ3 ρ5) (hj5 : j3 + 1 ≤ j5) (ha : -2000000000 ≤ a ∧ a ≤ 2000000000) (hd : 20 ≤ d) (he : 20 ≤ e) : xo_P E b F B σ ρ j (js_J E d 84 94 [(2, 23 + b), (0, p), (0, a), (9, 0)] [] σ5) (js_J E e 229 62 [(2, 83), (0, p), (0, n1), (0, a), (9, 0), (9, 0), (9, 0), (9, 0), (9, 0)] [] ρ5) := by
  have t44 : tk_m 44 = 44 := by decide
  have t41 : tk_m 41 = 41 := by decide
  have v : ∀ i : Int, σ2 (8 + b) i = σ (8 + b) i := fun i => o2 _ _ (by omega) (by omega)
  have v6 := v 6
  have v10 := v 10
  have v15 : σ2 (23 + b) 15 = σ (23 + b) 15 := o2 _ _ (by omega) (by omega)
  have u33 : ρ2 83 33 = ρ 83 33 := g2 _ _ (by omega)
  have u44 : ρ2 83 44 = ρ 83 44 := g2 _ _ (by omega)
  have F02 : ∀ n t p : Int, ef_R b n t p σ σ2 := fun n t p => ef_R_of o2
  have G02 : eg_R (ρ 83 33) ρ ρ2 := eg_R_og g2
  have r3 := h1.1.1
  have hj3 := rd_j r3
  have dp1 := h1.1.2.2.1
  have q1 := h1.1.2.1
  have F23 := h1.1.2.2.2.1
  have G23 := h1.1.2.2.2.2.1
  have m1 := h1.1.2.2.2.2.2.1
  have m1' := h1.1.2.2.2.2.2.2
  have y15 := h1.2.2.1.1.2.2.2
  have c10 := h1.2.2.1.2.1.1
  have c6 := h1.2.2.1.2.1.2.1
  have ll := xt_ln_0 l
  have yl := h1.2.2.2.2.2.2.1
  have hn3 := xn_next hn2 h1
  have hz3 := xn_cz hn3 r3
  have mb := hn3.1.2
  have hnod := hn.2.2.2.2.1
  have nd1 := xt_nd_in h1.2.2.2.1 h1.2.2.2.2.1.1
  have s3f : ∀ (n t p ty lo hi : Int) (σ : js_S), ef_R b n t p σ (s3_S σ b ty lo hi) := fun n t p ty lo hi σ a i g => s3_o _ (fun hh => g (ef_D23 ⟨hh.1, by omega⟩))
  have w4 : ∀ i lo hi : Int, s3_S σ4 b 0 lo hi (8 + b) i = σ3 (8 + b) i := fun i lo hi => by rw [s3_o _ (by omega), f34 _ _ (by omega) (by omega) (by omega)]
  have F03 : ef_R b (σ (8 + b) 6) (σ (8 + b) 10) (σ (23 + b) 15) σ σ3 := ef_R_trans (F02 _ _ _) (ef_R_mono F23 (by omega) (by omega) (by omega))
  have F05 : ef_R b (σ (8 + b) 6) (σ (8 + b) 10) (σ (23 + b) 15) σ σ5 := ef_R_trans F03 (ef_R_trans (ef_R_cf f34) (ef_R_trans (s3f _ _ _ _ _ _ _) (ef_R_em he1 (by rw [w4]; omega))))
  have G03 : eg_R (ρ 83 33) ρ ρ3 := eg_R_trans G02 G23 (by omega)
  have G05 : eg_R (ρ 83 33) ρ ρ5 := eg_R_trans G03 (eg_R_tf (N := ρ3 83 33) G35) (by omega)
  have hx5 := xs_R_ef hb hx F05 G05
  have cz5 : cz_R σ5 b := by
    have e6 := he1.1
    have e7 := he1.2.1
    rw [w4] at e6 e7
    unfold cz_R at hz3 ⊢
    omega
  have y51 : σ5 (23 + b) 1 = max a (xt_lo l) := by rw [he1.2.2.2 _ _ (by omega) (by omega), s3_1]
  have y52 : σ5 (23 + b) 2 = max a (xt_hi l) := by rw [he1.2.2.2 _ _ (by omega) (by omega), s3_2]
  obtain ⟨ρ6, e6, o6, hor6⟩ := y_take (E := E) (d := d - 1) (e := e - 1) (k := 44) hx5.1.2.2.1 hR5 (by omega) (by omega) (by unfold tk_V; omega) (by decide)
  rw [t44] at hor6
  have t56 : tf_R ρ5 ρ6 := fun a i g => o6 a i (by omega)
  rw [b_84_94 hb, b_229_62, k_229_65 (by omega) e6]
  rcases hor6 with ⟨σ6, j6, c6', hR6, f6, hj6⟩ | ⟨hF6, c6'⟩
  · subst hj6
    have F06 : ef_R b (σ (8 + b) 6) (σ (8 + b) 10) (σ (23 + b) 15) σ σ6 := ef_R_trans F05 (ef_R_tk f6)
    have G06 : eg_R (ρ 83 33) ρ ρ6 := eg_R_trans (N' := ρ 83 33) G05 (eg_R_tf t56) (Int.le_refl _)
    have hx6 := xs_R_ef hb hx F06 G06
    obtain ⟨ρ7, e7, t67, hor7⟩ := y_cof (E := E) (d := d - 1) (e := e - 1) hb hx6 hR6 (by omega) (by omega)
    have G07 : eg_R (ρ 83 33) ρ ρ7 := eg_R_trans (N' := ρ 83 33) G06 (eg_R_tf t67) (Int.le_refl _)
    rw [k_84_100 (by omega) c6', b_84_103 hb, b_229_68, k_229_70 (by omega) e7]
    rcases hor7 with ⟨h79, hok7, p29, hc, σ7, j7, c7, hR7, f7, s1, s2, hj7⟩ | ⟨hF7, σ7, c7, f7⟩
    · rw [k_84_108 hb (by omega) c7, b_84_111 hb, b_229_73, h79, if_pos (show js_w 0 = 0 by decide), js_w_of (x := ρ7 83 28) (by omega) (by omega), js_w_of (x := a) (by omega) (by omega), p29]
      have F07 : ef_R b (σ (8 + b) 6) (σ (8 + b) 10) (σ (23 + b) 15) σ σ7 := ef_R_trans F06 (ef_R_cf f7)
      have hx7 := xs_R_ef hb hx F07 G07
      by_cases q : ρ7 83 28 < a
      · have pl := rd_place hR6
        obtain ⟨hF, h9e⟩ := rx_bad_new (τ := ρ7) (k := 4) (p := ρ6 83 6) h79 (by decide) (by decide) pl.1 pl.2
        have e50 : js_J E (d - 1) 50 0 [(2, 21 + b), (0, a)] [] σ7 = th_P E σ7 (4 + 16 * ρ6 83 6) := by
          rw [b_50_0 hb, s1, s2, js_w_of (x := ρ7 83 28) (by omega) (by omega), js_w_of (x := a) (by omega) (by omega), if_pos q, kt_50_17 (by omega) (c_fail hx7.1.2.2.1 (by omega))]
          rfl
        rw [if_pos q, k_229_98 (by omega) (r_bad (by omega) (by omega)), kt_84_117 hb (by omega) e50]
        exact xf_fu ⟨hF, eg_R_trans (N' := ρ 83 33) G07 (eg_R_tf (tf_R_bad _ _ _)) (Int.le_refl _), σ7, by rw [h9e], F07⟩ (r_229_101F hF (by omega))
      · have e50 : js_J E (d - 1) 50 0 [(2, 21 + b), (0, a)] [] σ7 = js_r0 E σ7 := by
          rw [b_50_0 hb, s1, js_w_of (x := ρ7 83 28) (by omega) (by omega), js_w_of (x := a) (by omega) (by omega), if_neg q, b_50_20]
        have f57 : cf_R b σ5 σ7 := cf_R_trans (cf_R_fr f6) f7
        have y71 : σ7 (23 + b) 1 = max a (xt_lo l) := by rw [f57 _ _ (by omega) (by omega) (by omega), y51]
        have y72 : σ7 (23 + b) 2 = max a (xt_hi l) := by rw [f57 _ _ (by omega) (by omega) (by omega), y52]
        have w7 : ∀ i lo hi : Int, s3_S σ7 b 0 lo hi (8 + b) i = σ5 (8 + b) i := fun i lo hi => by rw [s3_o _ (by omega), f57 _ _ (by omega) (by omega) (by omega)]
        have e75 : ∀ lo hi : Int, js_J E (d - 1) 75 0 [(2, 23 + b), (0, 0), (0, lo), (0, hi)] [] σ7 = js_r0 E (s3_S σ7 b 0 lo hi) := fun lo hi => b_75_0 hb
        have mi := cl_in (a := a) (c := ρ7 83 28) (lo := xt_lo l) (hi := xt_hi l) (by omega) ha hc
        have cl1 : (if js_w (ρ7 83 28) < js_w (σ7 (23 + b) 1) then ρ7 83 28 else σ7 (23 + b) 1) = cl_f a (ρ7 83 28) (xt_lo l) := by
          rw [y71, w_min (by omega) (by omega) (by omega) (by omega)]
          unfold cl_f
          omega
        have cl2 : (if js_w (ρ7 83 28) < js_w (σ7 (23 + b) 2) then ρ7 83 28 else σ7 (23 + b) 2) = cl_f a (ρ7 83 28) (xt_hi l) := by
          rw [y72, w_min (by omega) (by omega) (by omega) (by omega)]
          unfold cl_f
          omega
        obtain ⟨σ8, e8, c8⟩ := c_set (E := E) (d := d - 1) (σ := s3_S σ7 b 0 (cl_f a (ρ7 83 28) (xt_lo l)) (cl_f a (ρ7 83 28) (xt_hi l))) (op := 23) (x := ρ7 83 28) (lo := cl_f a (ρ7 83 28) (xt_lo l)) (hi := cl_f a (ρ7 83 28) (xt_hi l)) hb (by unfold cz_R; rw [w7, w7]; exact cz5) (by omega)
        rw [if_neg q, k_84_117 hb (by omega) e50, b_84_120 (by omega) hb, cl1, cl2, k_84_138 hb (by omega) (e75 _ _), b_84_141 hb, s3_1, s3_2, k_84_156 hb (by omega) e8, b_84_159 hb]
        have bO := c8.2.2.2
        have r8 : rd_R σ8 (rx_next ρ7) j7 := rd_R_of hR7 (fun i _ => by rw [bO _ _ (by omega) (by omega), s3_o _ (by omega)]) (fun a i _ _ => by rw [bO _ _ (by omega) (by omega), s3_o _ (by omega)]) (fun _ _ _ => rfl) (fun _ => rfl)
        have t57 : tf_R ρ5 (rx_next ρ7) := tf_R_trans (tf_R_trans t56 t67) (tf_R_next _)
        have k56 : σ5 (8 + b) 6 = σ3 (8 + b) 6 + 1 := by rw [he1.1, w4]
        have F08 : ef_R b (σ (8 + b) 6) (σ (8 + b) 10) (σ (23 + b) 15) σ σ8 := ef_R_trans F07 (ef_R_trans (s3f _ _ _ _ _ _ _) (ef_R_em c8 (by rw [w7]; omega)))
        have G08 : eg_R (ρ 83 33) ρ (rx_next ρ7) := eg_R_trans (N' := ρ 83 33) G07 (eg_R_tf (tf_R_next _)) (Int.le_refl _)
        rw [b_229_101, k_229_102 (by omega) (r_next' hok7 (by omega)), b_229_105]
        have t37 : tf_R ρ3 (rx_next ρ7) := tf_R_trans G35 t57
        generalize rx_next ρ7 = ρ8 at r8 t57 G08 t37 hR7 ⊢
        have hx8 := xs_R_ef hb hx F08 G08
        have x10 : ρ8 83 10 = ρ3 83 10 := t37 _ _ (by omega)
        have x33 : ρ8 83 33 = ρ3 83 33 := t37 _ _ (by omega)
        have x44 : ρ8 83 44 = ρ3 83 44 := t37 _ _ (by omega)
        have xn8 : ∀ a i : Int, 100 ≤ a → ρ8 a i = ρ3 a i := fun a i h => t37 _ _ (by omega)
        obtain ⟨ρ9, e9, og9, hor9⟩ := y_close (E := E) (d := d - 1) (e := e - 1) (k := 41) hx8.1.2.2.1 r8 (by omega) (by omega) (by unfold tk_V; omega) (by decide) (by omega)
        rw [t41] at hor9
        rw [k_229_108 (by omega) e9]
        rcases hor9 with ⟨σ9, j9, c9, hR9, f9, hj9, hD9⟩ | ⟨hF9, c9⟩
        · subst hj9
          have z33 : ρ9 83 33 = ρ8 83 33 := og9 _ _ (by omega)
          have xn : ∀ a i : Int, 100 ≤ a → ρ9 a i = ρ3 a i := fun a i h => by rw [og9 _ _ (by omega), xn8 _ _ h]
          obtain ⟨ρ10, e10, hw⟩ := r_clamp (E := E) (e := e) (ρ := ρ9) (x1 := p) (x2 := n1) (x3 := a) (x4 := ρ7 83 28) (by omega) hR9.2.2.1.2.2.1 (by omega) (by omega) (by omega) ha hc (by rw [xn _ _ (by decide), xn _ _ (by decide), nd1.2.2.2.1, nd1.2.2.2.2]; omega)
          rw [e10, k_84_165 (by omega) c9, b_84_168, z33]
          rw [xn _ _ (by decide), xn _ _ (by decide), nd1.2.2.2.1, nd1.2.2.2.2] at hw
          have hv := ns_nw og9 hw
          refine Or.inl ⟨σ9, ρ10, j7 + 1, ρ8 83 33, tr_n 9 0 (cl_f a (ρ7 83 28) (xt_lo l)) (cl_f a (ρ7 83 28) (xt_hi l)) 0 a (ρ7 83 28) l .leaf, rfl, rfl, ?_⟩
          have hzz : 2 + xt_dp l ≤ zz_b b σ ρ := by
            have a1 := xr_zz h1
            unfold zz_b
            omega
          have hj := xr_clamp (z := zz_b b σ ρ) (σ1 := σ3) (ρ1 := ρ3) (j1 := j3) (σ3 := σ4) (σ4 := σ5) (σ6 := σ7) (σ8 := σ8) (ρ6 := ρ8) (ρ7 := ns_S ρ8 ρ10) (j6 := j7) (a := a) (c := ρ7 83 28) (lo := cl_f a (ρ7 83 28) (xt_lo l)) (hi := cl_f a (ρ7 83 28) (xt_hi l)) hb hx2 hn2 h1 f34 he1 f57 c8 r8 (eg_R_tf t37) x33 x44 x10 hv (by omega) ⟨by decide, by decide, mi.1, mi.2.1, mi.2.2⟩ ⟨by decide, fun h => absurd h (by decide)⟩ (by omega) hzz
          have j15 := hj.2.2.1.1.2.2.2
          exact xr_frame (σ1 := σ2) (ρ1 := ρ2) (j1 := j + 2) (σ2 := σ8) (ρ2 := ns_S ρ8 ρ10) (j2 := j7) hb (xs_hg hx) (F02 _ _ _) (fun i _ _ => v i) (by omega) G02 u33 u44 (by omega) hj (ef_R_of f9) (fun i _ _ => f9 _ _ (by omega) (by omega)) (fun i _ _ => f9 _ _ (by omega) (by omega)) (by rw [f9 _ _ (by omega) (by omega), j15, v15]) (ns_eg og9 hw) (by rw [ns_2 (by omega)]) (by rw [ns_1 (by decide), hw.2.2.2.2.2.2 _ _ (by omega) (by omega), og9 _ _ (by omega)]) (by rw [hw.2.2.2.2.2.2 _ _ (by omega) (by omega)]; omega) (by omega) (rd_R_of hR9 (fun _ _ => rfl) (fun _ _ _ _ => rfl) (fun i _ _ => hw.2.2.2.2.2.2 _ _ (by omega) (by omega)) (fun i => hw.2.2.2.2.2.2 _ _ (by omega) (by omega))) (Int.le_refl _)
        · rw [r_229_111F hF9 (by omega), kt_84_165 (by omega) c9]
          exact Or.inr ⟨ρ9, 0, rfl, hF9, eg_R_trans (N' := ρ 83 33) G08 (eg_R_og og9) (Int.le_refl _), σ8, rfl, F08⟩
    · rw [kt_84_108 hb (by omega) c7]
      exact xf_fu ⟨hF7, G07, σ7, rfl, ef_R_trans F06 (ef_R_cf f7)⟩ (r_229_73F hF7 (by omega))
  · rw [kt_84_100 (by omega) c6']
    exact xf_fu ⟨hF6, eg_R_trans (N' := ρ 83 33) G05 (eg_R_tf t56) (Int.le_refl _), σ5, rfl, F05⟩ (r_229_68F hF6 (by omega))
/-- behind clamp ( -/
theorem y_clamp2 {σ2 ρ2 : js_S} {p : Int} (hb : b = 0 ∨ b = 25) (hE : xe_P E b F B X (j + 2)) (hx : xs_R E b F B X σ ρ) (hn : xn_R b σ ρ j) (hx2 : xs_R E b F B X σ2 ρ2) (hn2 : xn_R b σ2 ρ2 (j + 2)) (hR2 : rd_R σ2 ρ2 (j + 2)) (o2 : of_R σ σ2) (g2 : og_R ρ ρ2) (D0 : 0 ≤ ρ 83 10) (hD : ρ2 83 10 = ρ 83 10 + 1) (hp0 : 0 ≤ p ∧ p < 100000) (ht : σ (8 + b) 10 ≤ 12 * ρ 83 10 + 3) (hp : σ (23 + b) 15 ≤ 6 * ρ 83 10 + 5) (hd : 4 * (65 - ρ 83 10) + 23 ≤ (d : Int)) (he : 12 * (65 - ρ 83 10) + 17 ≤ (e : Int)) : xo_P E b F B σ ρ j (js_J E d 84 24 [(2, 23 + b), (0, p), (9, 0), (9, 0)] [] σ2) (js_J E e 229 15 [(2, 83), (0, p), (9, 0), (9, 0), (9, 0), (9, 0), (9, 0), (9, 0), (9, 0)] [] ρ2) := by
  have D1 := hR2.2.2.2.2.2
  have hj := rd_j hR2
  have t44 : tk_m 44 = 44 := by decide
  have v : ∀ i : Int, σ2 (8 + b) i = σ (8 + b) i := fun i => o2 _ _ (by omega) (by omega)
  have v6 := v 6
  have v10 := v 10
  have v15 : σ2 (23 + b) 15 = σ (23 + b) 15 := o2 _ _ (by omega) (by omega)
  have u33 : ρ2 83 33 = ρ 83 33 := g2 _ _ (by omega)
  have F02 : ∀ n t p : Int, ef_R b n t p σ σ2 := fun n t p => ef_R_of o2
  have G02 : eg_R (ρ 83 33) ρ ρ2 := eg_R_og g2
  rw [b_84_24, b_229_15]
  rcases hE (d - 1) (e - 1) σ2 ρ2 (j + 2) (Nat.le_refl _) hx2 hn2 hR2 (by omega) (by omega) (by omega) (by omega) with ⟨σ3, ρ3, j3, n1, l, er1, ec1, h1, _⟩ | ⟨ρ', vv, er, hf⟩
  · rw [k_84_25 hb (by omega) ec1, b_84_28 hb, k_229_16 (by omega) er1, b_229_19]
    have r3 := h1.1.1
    have hj3 := rd_j r3
    have ok3 := r3.2.2.1
    have h39 := ok3.2.2.1
    have dp1 := h1.1.2.2.1
    have F23 := h1.1.2.2.2.1
    have G23 := h1.1.2.2.2.2.1
    have m1 := h1.1.2.2.2.2.2.1
    have m1' := h1.1.2.2.2.2.2.2
    have y0 := h1.2.2.1.1.1
    have y1 := h1.2.2.1.1.2.1
    have y2 := h1.2.2.1.1.2.2.1
    have c10 := h1.2.2.1.2.1.1
    have c6 := h1.2.2.1.2.1.2.1
    have ll := xt_ln_0 l
    have yl := h1.2.2.2.2.2.2.1
    have hn3 := xn_next hn2 h1
    have hx3 := xs_R_ef hb hx2 F23 G23
    have hz3 := xn_cz hn3 r3
    have hnod := hn.2.2.2.2.1
    have nd1 := xt_nd_in h1.2.2.2.1 h1.2.2.2.2.1.1
    have F03 : ef_R b (σ (8 + b) 6) (σ (8 + b) 10) (σ (23 + b) 15) σ σ3 := ef_R_trans (F02 _ _ _) (ef_R_mono F23 (by omega) (by omega) (by omega))
    have G03 : eg_R (ρ 83 33) ρ ρ3 := eg_R_trans G02 G23 (by omega)
    rw [h39, if_pos (show js_w 0 = 0 by decide), js_w_of (x := n1) (by omega) (by omega), if_pos (show 0 ≤ n1 ∧ n1 < 66000 by omega), nd1.2.2.1, js_w_of (x := xt_ty l) (by omega) (by omega), y0]
    by_cases q : xt_ty l = 0
    · rw [if_pos q, b_229_42, q, k_84_34 hb (by omega) (c_ask_ok hb (by rw [y0]; exact q)), b_84_37 hb]
      obtain ⟨ρ4, e4, o4, hor4⟩ := y_take (E := E) (d := d - 1) (e := e - 1) (k := 44) hx3.1.2.2.1 r3 (by omega) (by omega) (by unfold tk_V; omega) (by decide)
      rw [t44] at hor4
      have t34 : tf_R ρ3 ρ4 := fun a i g => o4 a i (by omega)
      have G04 : eg_R (ρ 83 33) ρ ρ4 := eg_R_trans (N' := ρ 83 33) G03 (eg_R_tf t34) (Int.le_refl _)
      rw [k_229_45 (by omega) e4]
      rcases hor4 with ⟨σ4, j4, c4, hR4, f4, hj4⟩ | ⟨hF4, c4⟩
      · subst hj4
        have F04 : ef_R b (σ (8 + b) 6) (σ (8 + b) 10) (σ (23 + b) 15) σ σ4 := ef_R_trans F03 (ef_R_tk f4)
        have hx4 := xs_R_ef hb hx F04 G04
        obtain ⟨ρ5, e5, t45, hor5⟩ := y_cof (E := E) (d := d - 1) (e := e - 1) hb hx4 hR4 (by omega) (by omega)
        have G05 : eg_R (ρ 83 33) ρ ρ5 := eg_R_trans (N' := ρ 83 33) G04 (eg_R_tf t45) (Int.le_refl _)
        rw [k_84_43 (by omega) c4, b_84_46 hb, b_229_48, k_229_50 (by omega) e5]
        rcases hor5 with ⟨h59, hok5, p29, hc, σ5, j5, c5, hR5, f5, s1, s2, hj5⟩ | ⟨hF5, σ5, c5, f5⟩
        · have f35 : cf_R b σ3 σ5 := cf_R_trans (cf_R_fr f4) f5
          have y51 : σ5 (23 + b) 1 = xt_lo l := by rw [f35 _ _ (by omega) (by omega) (by omega), y1]
          have y52 : σ5 (23 + b) 2 = xt_hi l := by rw [f35 _ _ (by omega) (by omega) (by omega), y2]
          have e75 : ∀ lo hi : Int, js_J E (d - 1) 75 0 [(2, 23 + b), (0, 0), (0, lo), (0, hi)] [] σ5 = js_r0 E (s3_S σ5 b 0 lo hi) := fun lo hi => b_75_0 hb
          have w5 : ∀ i lo hi : Int, s3_S σ5 b 0 lo hi (8 + b) i = σ3 (8 + b) i := fun i lo hi => by rw [s3_o _ (by omega), f35 _ _ (by omega) (by omega) (by omega)]
          obtain ⟨σ6, e6, c6'⟩ := c_set (E := E) (d := d - 1) (σ := s3_S σ5 b 0 (max (ρ5 83 28) (xt_lo l)) (max (ρ5 83 28) (xt_hi l))) (op := 22) (x := ρ5 83 28) (lo := max (ρ5 83 28) (xt_lo l)) (hi := max (ρ5 83 28) (xt_hi l)) hb (by unfold cz_R; rw [w5, w5]; exact hz3) (by omega)
          rw [k_84_51 hb (by omega) c5, b_84_54 (by omega) hb, y51, y52, w_max (x := xt_lo l) (y := ρ5 83 28) (by omega) (by omega) (by omega) (by omega), w_max (x := xt_hi l) (y := ρ5 83 28) (by omega) (by omega) (by omega) (by omega), Int.max_comm (xt_lo l) (ρ5 83 28), Int.max_comm (xt_hi l) (ρ5 83 28), k_84_73 hb (by omega) (e75 _ _), b_84_76 hb, s3_1, s3_2, k_84_91 hb (by omega) e6, b_229_53, k_229_59 (by omega) (r_next' hok5 (by omega))]
          have bO := c6'.2.2.2
          have r6 : rd_R σ6 (rx_next ρ5) j5 := rd_R_of hR5 (fun i _ => by rw [bO _ _ (by omega) (by omega), s3_o _ (by omega)]) (fun a i _ _ => by rw [bO _ _ (by omega) (by omega), s3_o _ (by omega)]) (fun _ _ _ => rfl) (fun _ => rfl)
          exact y_clamp3 hb hx hn hx2 hn2 o2 g2 D0 hD h1 f35 c6' r6 (tf_R_trans (tf_R_trans t34 t45) (tf_R_next _)) (by omega) hc (by omega) (by omega)
        · rw [kt_84_51 hb (by omega) c5]
          exact xf_fu ⟨hF5, G05, σ5, rfl, ef_R_trans F04 (ef_R_cf f5)⟩ (r_229_53F hF5 (by omega))
      · rw [kt_84_43 (by omega) c4]
        exact xf_fu ⟨hF4, G04, σ3, rfl, F03⟩ (r_229_48F hF4 (by omega))
    · obtain ⟨hF, h9e⟩ := rx_bad_new (τ := ρ3) (k := 5) (p := p) h39 (by decide) (by decide) hp0.1 hp0.2
      rw [if_neg q, k_229_39 (by omega) (r_bad (by omega) (by omega)), kt_84_34 hb (by omega) (c_ask_bad hb hx3.1.2.2.1 (by omega) (by omega) (by omega) (fun hh => q hh.1))]
      exact xf_fu ⟨hF, eg_R_trans (N' := ρ 83 33) G03 (eg_R_tf (tf_R_bad _ _ _)) (Int.le_refl _), σ3, by rw [h9e], F03⟩ (r_229_42F hF (by omega))
  · rw [k_229_16 (by omega) er]
    obtain ⟨s1, s2, σ', s3, s4⟩ := xf_ef (F02 _ _ _) G02 (by omega) (by omega) (by omega) (by omega) hf
    rw [kt_84_25 hb (by omega) s3]
    exact xf_fu ⟨s1, s2, σ', rfl, s4⟩ (r_229_19F hf.1 (by omega))
theorem y_79_clamp (hb : b = 0 ∨ b = 25) (hE : xe_P E b F B X (j + 1)) (hx : xs_R E b F B X σ ρ) (hn : xn_R b σ ρ j) (hR : rd_R σ ρ j) (ht : σ (8 + b) 10 ≤ 12 * ρ 83 10 + 3) (hp : σ (23 + b) 15 ≤ 6 * ρ 83 10 + 5) (hd : 4 * (65 - ρ 83 10) + 24 ≤ (d : Int)) (he : 12 * (65 - ρ 83 10) + 18 ≤ (e : Int)) (h5 : ρ 83 5 = 321) : xo_P E b F B σ ρ j (js_J E d 79 0 [(2, 23 + b), (9, 0)] [] σ) (js_J E e 226 0 [(2, 83), (9, 0)] [] ρ) := by
  have D1 := hR.2.2.2.2.2
  have c7 := (rd_V hR).2.1
  have c8 := (rd_V hR).2.2
  have t321 : tk_m 321 = 221 := by decide
  rw [h5, t321] at c7
  have hpl := rd_place hR
  obtain ⟨σ1, ρ1, ρ2, c1, e1, e2, og2, hor⟩ := y_fopen (E := E) (d := d - 1 - 1) (e := e - 1 - 1) hb hx hn hR (by omega) (by omega) (by omega)
  have key : xo_P E b F B σ ρ j (js_J E (d - 1) 84 0 [(2, 23 + b), (9, 0), (9, 0), (9, 0)] [] σ) (js_J E (e - 1) 229 0 [(2, 83), (9, 0), (9, 0), (9, 0), (9, 0), (9, 0), (9, 0), (9, 0), (9, 0)] [] ρ) := by
    rw [b_229_0, k_229_6 (by omega) e1, b_229_9, k_229_12 (by omega) e2, b_84_0 hb, c8, k_84_12 (by omega) c1, b_84_15 hb]
    rcases hor with ⟨σ2, c2, hx2, hn2, hR2, o2, hD64, hD⟩ | ⟨hF2, c2, o1⟩
    · rw [k_84_21 (by omega) c2]
      exact y_clamp2 hb (xe_mono hE (by omega)) hx hn hx2 hn2 hR2 o2 og2 hR.2.2.2.2.1 hD hpl ht hp (by omega) (by omega)
    · rw [kt_84_21 (by omega) c2]
      exact xf_fu ⟨hF2, eg_R_og og2, σ1, rfl, ef_R_of o1⟩ (r_229_15F hF2 (by omega))
  rw [b_79_0 hb, c7, s_79_9_221 (by decide), b_79_229, b_226_0, s_226_4_321 (by rw [h5]; decide), b_226_178]
  rcases key with ⟨σ', ρ', j', n, t, g1, g2, g3⟩ | ⟨ρ', v, g1, g2, g3, σ', g4, g5⟩
  · refine Or.inl ⟨σ', ρ', j', n, t, ?_, ?_, g3⟩
    · rw [k_226_179 (by omega) g1, b_226_182]
    · rw [k_79_230 hb (by omega) g2, b_79_233, b_79_251]
  · refine Or.inr ⟨ρ', v, ?_, g2, g3, σ', ?_, g5⟩
    · rw [k_226_179 (by omega) g1, b_226_182]
    · rw [kt_79_230 hb (by omega) g4]
end OV
