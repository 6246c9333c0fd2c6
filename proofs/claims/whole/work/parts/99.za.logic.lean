/-! part 99.za: && and || in step -/
theorem r_logic {E : js_E} {e : Nat} {ρ : js_S} (h9 : ρ 83 9 = 0) (he : 3 ≤ e) (n0 : 0 ≤ ρ 83 33) (n1 : ρ 83 33 < 66000) {k l r p : Int} (hk : 0 ≤ k) (hk2 : k ≤ 100) (hp0 : 0 ≤ p) (hp1 : p < 100000) (l0 : 0 ≤ l) (l1 : l < 66000) (r0 : 0 ≤ r) (r1 : r < 66000) (tl : 0 ≤ ρ 101 l ∧ ρ 101 l < 1000) (tr : 0 ≤ ρ 101 r ∧ ρ 101 r < 1000) : ∃ (v : Int) (ρ' : js_S), js_J E e 236 0 [(2, 83), (0, k), (0, l), (0, r), (0, p)] [] ρ = js_r E (0, v) ρ' ∧ (if ρ 101 l = 1 ∧ ρ 101 r = 1 then v = ρ 83 33 ∧ nw_R ρ ρ' k 1 0 1 l r 0 else ρ' = rx_bad ρ 5 p) := by
  have wl := js_w_of (x := l) (by omega) (by omega)
  have wr := js_w_of (x := r) (by omega) (by omega)
  have wtl := js_w_of (x := ρ 101 l) (by omega) (by omega)
  have wtr := js_w_of (x := ρ 101 r) (by omega) (by omega)
  have hF := (rx_bad_new (τ := ρ) (k := 5) (p := p) h9 (by decide) (by decide) hp0 hp1).1
  have bad : js_J E e 236 29 [(2, 83), (0, k), (0, l), (0, r), (0, p)] [] ρ = js_r E (0, 0) (rx_bad ρ 5 p) := by
    rw [b_236_29, k_236_33 (by omega) (r_bad (by omega) (by omega)), b_236_36, k_236_44 (by omega) (r_nodeF hF), b_236_47]
  obtain ⟨ρ', e2, hw⟩ := r_node (E := E) (e := e - 1) (ρ := ρ) (k := k) (ty := 1) (lo := 0) (hi := 1) (a := l) (b := r) (c := 0) h9 n0 n1 hk hk2
  have good : js_J E e 236 36 [(2, 83), (0, k), (0, l), (0, r), (0, p)] [] ρ = js_r E (0, ρ 83 33) ρ' := by
    rw [b_236_36, k_236_44 (by omega) e2, b_236_47]
  rw [b_236_0, h9, if_neg (show ¬ 0 < js_w 0 by decide), wl, wr, if_pos ⟨l0, l1⟩, wtl, wtr]
  by_cases q1 : ρ 101 l = 1
  · rw [if_pos q1, if_pos ⟨r0, r1⟩]
    by_cases q2 : ρ 101 r = 1
    · rw [if_pos q2, good]
      refine ⟨_, _, rfl, ?_⟩
      rw [if_pos (show ρ 101 l = 1 ∧ ρ 101 r = 1 from ⟨q1, q2⟩)]
      exact ⟨rfl, hw⟩
    · rw [if_neg q2, bad]
      refine ⟨_, _, rfl, ?_⟩
      rw [if_neg (show ¬ (ρ 101 l = 1 ∧ ρ 101 r = 1) from fun hh => q2 hh.2)]
  · rw [if_neg q1, bad]
    refine ⟨_, _, rfl, ?_⟩
    rw [if_neg (show ¬ (ρ 101 l = 1 ∧ ρ 101 r = 1) from fun hh => q1 hh.1)]
/-- the class: an operator with a jump begins, and the next operand is due -/
theorem y_go1 {E : js_E} {d : Nat} {σ ρ : js_S} {b : Int} {j : Nat} (hb : b = 0 ∨ b = 25) (hR : rd_R σ ρ j) (hn : xn_R b σ ρ j) (h1 : σ (23 + b) 15 < 510) {x1 x2 x4 x6 lv : Int} (hl : lv = 1 ∨ lv = 2) (h5 : ρ 83 5 ≠ 1) (hd : 8 ≤ d) (h20 : 0 ≤ x2) (h21 : x2 ≤ σ (23 + b) 15) (x60 : 0 ≤ x6) (x61 : x6 < 512) (x40 : 0 ≤ x4) (x41 : x4 ≤ j) (hlev : ∀ k : Int, x2 ≤ k → k < σ (23 + b) 15 → 1 ≤ σ (25 + b) k ∧ σ (25 + b) k < lv) : ∃ (σ1 σ4 : js_S), js_J E d 61 65 [(2, 23 + b), (0, x1), (0, x2), (0, 1), (0, x4), (0, lv), (0, x6)] [] σ = js_J E d 61 18 [(2, 23 + b), (0, x1), (0, x2), (0, 1), (0, x4 + 1), (0, lv), (0, x6)] [] σ4 ∧ em_R b σ σ1 (if lv = 1 then 26 else 25) 0 0 1 0 0 ∧ rd_R σ4 (rx_next ρ) (j + 1) ∧ ef_R b (σ (8 + b) 6 + 1) (σ (8 + b) 10) (σ (23 + b) 15) σ1 σ4 ∧ (∀ i : Int, 6 ≤ i → i ≤ 12 → σ4 (8 + b) i = σ1 (8 + b) i) ∧ σ4 (23 + b) 15 = σ (23 + b) 15 + 1 ∧ (σ4 (25 + b) (σ (23 + b) 15) = lv ∧ σ4 (26 + b) (σ (23 + b) 15) = σ 1 2 ∧ σ4 (27 + b) (σ (23 + b) 15) = σ (23 + b) 0 ∧ σ4 (30 + b) (σ (23 + b) 15) = σ (8 + b) 6) ∧ (∀ a k : Int, 24 + b ≤ a → a ≤ 30 + b → k < σ (23 + b) 15 → σ4 a k = σ a k) := by
  have hz := xn_cz hn hR
  have p0 := hn.2.2.2.2.2.2
  have hj := rd_j hR
  obtain ⟨σ1, σ2, σ4, e1, k1, k2, f1, hR4⟩ := y_begin1 (E := E) (d := d - 1) hb hR hz p0 (by omega) hl h5 (by omega)
  have kO := k1.2.2.2
  have pO := k2.2.2
  have q15 := k2.1
  obtain ⟨r24, r25, r26, r27, r28, r29, r30⟩ := k2.2.1
  have e23 : ∀ i : Int, σ1 (23 + b) i = σ (23 + b) i := fun i => kO _ _ (by omega) (by omega)
  have e1' : ∀ i : Int, σ1 1 i = σ 1 i := fun i => kO _ _ (by omega) (by omega)
  rw [e23] at q15 r24 r25 r26 r27 r28 r29 r30
  refine ⟨σ1, σ4, ?_, k1, hR4, fun a i g => ?_, fun i g1 g2 => by rw [f1 _ _ (by omega) (by omega), pO _ _ (by omega) (by omega)], by rw [f1 _ _ (by omega) (by omega), q15], ⟨?_, ?_, ?_, ?_⟩, fun a k g1 g2 g3 => ?_⟩
  · rw [c_stay hb h20 h21 (by omega) x60 x61 hlev (by omega) (by omega), b_61_236, js_w_of (x := lv) (by omega) (by omega), if_pos (show 0 < lv by omega), b_61_246, if_neg (show ¬ js_w 1 = 0 by decide), k_61_254 hb (by omega) e1, b_61_257]
  · rw [f1 a i (fun hh => g (ef_D1 ⟨hh.1, by omega⟩)) (fun hh => g (ef_D2 hh)), pO a i (fun hh => g (ef_D23 ⟨hh.1, Or.inr hh.2⟩)) (fun hh => g (ef_D24 ⟨hh.1, hh.2.1, by rw [hh.2.2, e23]; exact Int.le_refl _⟩))]
  · rw [f1 _ _ (by omega) (by omega), r25]
  · rw [f1 _ _ (by omega) (by omega), r26, e1']
  · rw [f1 _ _ (by omega) (by omega), r27, e23]
  · rw [f1 _ _ (by omega) (by omega), r30]
  · rw [f1 _ _ (by omega) (by omega), pO _ _ (by omega) (by rw [e23]; omega), kO _ _ (by omega) (by omega)]
theorem r_221_in {E : js_E} {e : Nat} {ρ : js_S} {n : Int} {ux2 : js_v} (h : ρ 83 5 = 205) : js_J E e 221 5 [(2, 83), (0, n), ux2] [] ρ = js_J E e 221 21 [(2, 83), (0, n), (0, ρ 83 6)] [(2, 83)] ρ := by
  rw [b_221_5, if_pos (by rw [h]; decide)]
theorem r_221_out {E : js_E} {e : Nat} {ρ : js_S} (h0 : 0 ≤ ρ 83 5) (h1 : ρ 83 5 < 3000) {n : Int} {ux2 : js_v} (h : ρ 83 5 ≠ 205) : js_J E e 221 5 [(2, 83), (0, n), ux2] [] ρ = js_r E (0, n) ρ := by
  rw [b_221_5, js_w_of (x := ρ 83 5) (by omega) (by omega), if_neg h]
theorem lv_is2 {t : Int} : lv_t t = 2 ↔ t = 205 := by
  constructor
  · intro h
    unfold lv_t at h
    repeat' split at h
    all_goals omega
  · intro h
    rw [h]
    decide
/-- &&, from its loop on -/
theorem y_221_l {E : js_E} {b F : Int} {B : Int → Int} {X : Int → Prop} {d e : Nat} {x1 x2 D : Int} {J0 : Nat} (hb : b = 0 ∨ b = 25) (hD : 0 ≤ D ∧ D ≤ 64) (hd : 20 ≤ d) (he : 20 ≤ e) (hS : xl_P E b F B X d x1 x2 D 0 2 3 3 (fun _ => true) J0 (fun ρ => js_J E (e - 1) 222 0 [(2, 83), (9, 0), (9, 0), (9, 0), (9, 0)] [] ρ)) : ∀ (G : Nat) (σ0 ρ0 : js_S) (j0 : Nat) (σ1 ρ1 : js_S) (j1 : Nat) (n1 lv x4 x6 : Int) (l : tr_T) (c : Bool) (ux2 : js_v), 8200 ≤ G + j1 → J0 ≤ j0 → xs_R E b F B X σ0 ρ0 → xn_R b σ0 ρ0 j0 → xq_R b x2 D 0 1 2 c σ0 ρ0 → xk_R b F B σ0 ρ0 j0 σ1 ρ1 j1 n1 l → lv = lv_c true (ρ1 83 5) → lv < 3 → 0 ≤ x4 ∧ x4 ≤ j1 → 0 ≤ x6 → x6 + σ0 (23 + b) 15 ≤ 511 → xc_P E b F B d x1 x2 2 true σ0 ρ0 j0 (js_J E d 61 65 [(2, 23 + b), (0, x1), (0, x2), (0, 1), (0, x4), (0, lv), (0, x6)] [] σ1) (js_J E e 221 5 [(2, 83), (0, n1), ux2] [] ρ1)
  | 0, σ0, ρ0, j0, σ1, ρ1, j1, n1, lv, x4, x6, l, c, ux2, hG, _, _, _, _, h1, _, _, _, _, _ => by
    have := rd_j h1.1.1
    omega
  | G + 1, σ0, ρ0, j0, σ1, ρ1, j1, n1, lv, x4, x6, l, c, ux2, hG, hJ, hx, hn, hq, h1, hlv, hlt, hx4, hx6, hx6' => by
    have r1 := h1.1.1
    have ok1 := r1.2.2.1
    have t5a := ok1.2.2.2.2.2.2.1
    have t5b := ok1.2.2.2.2.2.2.2.1
    have hj1 := rd_j r1
    by_cases q : ρ1 83 5 = 205
    · have lvL : lv = 2 := by
        rw [hlv, q]
        decide
      subst lvL
      clear hlv hlt
      obtain ⟨qD, qt, ⟨q20, q21, qp⟩, qlev, qc⟩ := hq
      have F01 := h1.1.2.2.2.1
      have G01 := h1.1.2.2.2.2.1
      have y15 := h1.2.2.1.1.2.2.2
      have c10 := h1.2.2.1.2.1.1
      have hn1 := xn_next hn h1
      have lev1 : ∀ k : Int, x2 ≤ k → k < σ1 (23 + b) 15 → 1 ≤ σ1 (25 + b) k ∧ σ1 (25 + b) k < 2 := fun k g1 g2 => by
        rw [F01 _ _ (by unfold ef_D; omega)]
        exact qlev k g1 (by omega)
      obtain ⟨σa, σ4, e1, k1, hR4, F24, v, v15, ⟨w25, w26, w27, w30⟩, wrow⟩ := y_go1 (E := E) (d := d) (x1 := x1) (x2 := x2) (x4 := x4) (x6 := x6) (lv := 2) hb r1 hn1 (by omega) (by decide) (by omega) (by omega) q20 (by omega) hx6 (by omega) hx4.1 hx4.2 lev1
      rw [if_neg (show ¬ (2 : Int) = 1 by decide)] at k1
      have F1a : ef_R b (σ1 (8 + b) 6) (σ1 (8 + b) 10) (σ1 (23 + b) 15) σ1 σa := ef_R_em k1 (Int.le_refl _)
      have F14 : ef_R b (σ1 (8 + b) 6) (σ1 (8 + b) 10) (σ1 (23 + b) 15) σ1 σ4 := ef_R_trans F1a (ef_R_mono F24 (by omega) (by omega) (by omega))
      have c6 := h1.2.2.1.2.1.2.1
      have ll := xt_ln_0 l
      have F04 : ef_R b (σ0 (8 + b) 6) (σ0 (8 + b) 10) (σ0 (23 + b) 15) σ0 σ4 := ef_R_trans F01 (ef_R_mono F14 (by omega) (by omega) (by omega))
      have tz := tf_R_next ρ1
      have G12 : eg_R (ρ1 83 33) ρ1 (rx_next ρ1) := eg_R_tf tz
      have n33 : rx_next ρ1 83 33 = ρ1 83 33 := tz _ _ (by omega)
      have n44 : rx_next ρ1 83 44 = ρ1 83 44 := tz _ _ (by omega)
      have n10 : rx_next ρ1 83 10 = ρ1 83 10 := tz _ _ (by omega)
      have m1 := h1.1.2.2.2.2.2.1
      have G02 : eg_R (ρ0 83 33) ρ0 (rx_next ρ1) := eg_R_trans G01 G12 m1
      have k6 := k1.1
      have k10 : σa (8 + b) 10 = σ1 (8 + b) 10 := k1.2.2.2 _ _ (by omega) (by omega)
      have v6 := v 6 (by decide) (by decide)
      have v10 := v 10 (by decide) (by decide)
      have hx4' := xs_R_ef hb hx F04 G02
      have hn4 : xn_R b σ4 (rx_next ρ1) (j1 + 1) := by
        have a7 := k1.2.1
        have a11 : σa (8 + b) 11 = σ1 (8 + b) 11 := k1.2.2.2 _ _ (by omega) (by omega)
        have a12 : σa (8 + b) 12 = σ1 (8 + b) 12 := k1.2.2.2 _ _ (by omega) (by omega)
        have v7 := v 7 (by decide) (by decide)
        have v11 := v 11 (by decide) (by decide)
        have v12 := v 12 (by decide) (by decide)
        unfold xn_R at hn1 ⊢
        push_cast
        omega
      have hq4 : xq_R b x2 D 0 2 3 c σ4 (rx_next ρ1) := by
        refine ⟨by rw [n10, h1.1.2.2.1]; exact qD, by omega, ⟨q20, by omega, by omega⟩, fun k g1 g2 => ?_, ?_⟩
        · by_cases qk : k = σ1 (23 + b) 15
          · rw [qk, w25]
            decide
          · rw [wrow _ _ (by omega) (by omega) (by omega)]
            have := lev1 k g1 (by omega)
            omega
        · exact rc_push qc rfl (by omega) (fun k g1 g2 => by rw [wrow _ _ (by omega) (by omega) (by omega), F01 _ _ (by unfold ef_D; omega)]) (by rw [← y15, w25]; decide)
      have hc := hS σ4 (rx_next ρ1) (j1 + 1) (x4 + 1) (0, 2) (0, x6) c (by have := h1.1.2.1; omega) hx4' hn4 hR4 hq4 (by omega) (by push_cast; omega)
      rw [r_221_in q, k_221_21 (by omega) (r_next' ok1 (by omega)), b_221_24, e1]
      have hplace : 0 ≤ ρ1 83 6 ∧ ρ1 83 6 < 100000 := by
        have a1 := ok1.2.2.2.1
        have a2 := ok1.2.2.2.2.1
        have a3 := ok1.2.2.2.2.2.1
        have a4 := ok1.1.2.1
        omega
      rcases hc with ⟨σ5, ρ5, j5, n2, lv5, x45, x65, r, er, ec, h2, hlv5, hlt5, hx45, hx65, hx65'⟩ | ⟨ρ', vv, er, hf⟩
      · rw [k_221_29 (by omega) er, b_221_32, ec]
        have F45 := h2.1.2.2.2.1
        have d15 := h2.2.2.1.1.2.2.2
        have d10 := h2.2.2.1.2.1.1
        have d6 := h2.2.2.1.2.1.2.1
        have lr := xt_ln_0 r
        have r5 := h2.1.1
        have ok5 := r5.2.2.1
        have hj5 := rd_j r5
        have l5 : 0 ≤ lv5 := by rw [hlv5]; exact (lv_c_in _ (ρ5 83 5)).1
        have p5 : σ5 (23 + b) 15 = σ0 (23 + b) 15 + 1 := by omega
        have row5 : ∀ a : Int, 24 + b ≤ a → a ≤ 30 + b → σ5 a (σ0 (23 + b) 15) = σ4 a (σ0 (23 + b) 15) := fun a g1 g2 => F45 _ _ (by unfold ef_D; omega)
        rw [y15] at w25 w26 w27 w30
        have z25 : σ5 (25 + b) (σ0 (23 + b) 15) = 2 := by rw [row5 _ (by omega) (by omega)]; exact w25
        rw [c_pop hb p5 q20 q21 (by omega) hx65 (by omega) (by rw [z25]; decide) l5 (by rw [z25]; omega)]
        have u15 : js_up σ5 (23 + b) 15 (σ0 (23 + b) 15) (23 + b) 15 = σ0 (23 + b) 15 := js_up_same _ _ _ _
        have uO : ∀ a i : Int, ¬ (a = 23 + b ∧ i = 15) → js_up σ5 (23 + b) 15 (σ0 (23 + b) 15) a i = σ5 a i := fun a i h => js_up_ne _ h
        have hx5 : xs_R E b F B X σ5 ρ5 := xs_R_ef hb hx4' F45 h2.1.2.2.2.2.1
        have hn5 := xn_next hn4 h2
        generalize js_up σ5 (23 + b) 15 (σ0 (23 + b) 15) = τ at u15 uO ⊢
        have yl := h1.2.2.2.2.2.2.1
        have yr := h2.2.2.2.2.2.2.1
        have c0 := h1.2.2.1.1.1
        have d0 := h2.2.2.1.1.1
        have d1 := h2.2.2.1.1.2.1
        have d2 := h2.2.2.1.1.2.2.1
        have y25 : τ (25 + b) (τ (23 + b) 15) = 2 := by rw [u15, uO _ _ (by omega)]; exact z25
        have z26 : τ (26 + b) (τ (23 + b) 15) = ρ1 83 6 := by rw [u15, uO _ _ (by omega), row5 _ (by omega) (by omega), w26, (rd_V r1).2.2]
        have z27 : τ (27 + b) (τ (23 + b) 15) = xt_ty l := by rw [u15, uO _ _ (by omega), row5 _ (by omega) (by omega), w27, c0]
        have z0 : τ (23 + b) 0 = xt_ty r := by rw [uO _ _ (by omega)]; exact d0
        have cxn : cx_n τ := ⟨by rw [uO _ _ (by omega)]; exact hx5.1.2.2.1.1, by rw [uO _ _ (by omega)]; exact hx5.1.2.2.1.2⟩
        have cf := c_fin12 (E := E) (d := d - 1) (σ := τ) hb cxn (by omega) (by omega) (by omega) (by omega) (by omega) (by omega)
        rw [z26, z27, z0] at cf
        have nd1 := xt_nd_in h1.2.2.2.1 h1.2.2.2.2.1.1
        have nd2 := xt_nd_in h2.2.2.2.1 h2.2.2.2.2.1.1
        have G25 := h2.1.2.2.2.2.1
        have ndn : ∀ a : Int, 100 ≤ a → a ≤ 106 → ρ5 a n1 = ρ1 a n1 := fun a g1 g2 => by rw [G25 _ _ (by omega) (by omega), G12 _ _ (by omega) (by omega)]
        have m5 := h2.1.2.2.2.2.2.1
        have m5' := h2.1.2.2.2.2.2.2
        have m1' := h1.1.2.2.2.2.2.2
        have hnodes := hn.2.2.2.2.1
        obtain ⟨vv, ρ6, e6, hor⟩ := r_logic (E := E) (e := e - 1) (ρ := ρ5) (k := 6) (l := n1) (r := n2) (p := ρ1 83 6) ok5.2.2.1 (by omega) (by omega) (by omega) (by decide) (by decide) hplace.1 hplace.2 nd1.1 (by omega) nd2.1 (by omega) (by rw [ndn _ (by decide) (by decide), nd1.2.2.1]; omega) (by rw [nd2.2.2.1]; omega)
        rw [ndn _ (by decide) (by decide), nd1.2.2.1, nd2.2.2.1] at hor
        rw [k_221_33 (by omega) e6, b_221_36]
        have Fτ : ef_R b (σ0 (8 + b) 6) (σ0 (8 + b) 10) (σ0 (23 + b) 15) σ0 τ := ef_R_trans F04 (ef_R_trans (ef_R_mono F45 (by omega) (by omega) (by omega)) (fun a i g => uO a i (fun hh => g (ef_D23 ⟨hh.1, Or.inr hh.2⟩))))
        have G05 : eg_R (ρ0 83 33) ρ0 ρ5 := eg_R_trans G02 G25 (by omega)
        have h59 : ρ5 83 9 = 0 := ok5.2.2.1
        by_cases t0 : xt_ty l = 1 ∧ xt_ty r = 1
        · rw [if_pos t0] at cf hor
          obtain ⟨hv, hw⟩ := hor
          rw [k_61_108 hb (by omega) cf]
          have hb01 := h2.2.2.2.2.2.2.2.1.2 t0.2
          have hz5 := xn_cz hn5 r5
          have g6 : τ (8 + b) 6 = σ5 (8 + b) 6 := uO _ _ (by omega)
          have g7 : τ (8 + b) 7 = σ5 (8 + b) 7 := uO _ _ (by omega)
          have hz7 : cz_R τ b := by unfold cz_R; rw [g6, g7]; exact hz5
          have hz1 := hn1.1.1
          obtain ⟨σ8, e8, hl1, hl2⟩ := c_land (E := E) (d := d - 1) (σ := τ) (x := σ1 (8 + b) 6) hb hz7 (by omega) (by omega) (by omega)
          have y30 : τ (30 + b) (σ0 (23 + b) 15) = σ1 (8 + b) 6 := by rw [uO _ _ (by omega), row5 _ (by omega) (by omega), w30]
          have y25' : τ (25 + b) (σ0 (23 + b) 15) = 2 := by rw [uO _ _ (by omega)]; exact z25
          have ecl : js_J E d 61 111 [(2, 23 + b), (0, x1), (0, x2), (0, 1), (0, x45), (0, lv5), (0, x65)] [] τ = js_J E d 61 65 [(2, 23 + b), (0, x1), (0, x2), (0, 1), (0, x45), (0, lv5), (0, x65 + 1)] [] σ8 := by
            rw [b_61_111 hb, u15, js_w_of (x := σ0 (23 + b) 15) (by omega) (by omega), if_pos (show 0 ≤ σ0 (23 + b) 15 ∧ σ0 (23 + b) 15 < 512 by omega), y25', if_neg (show ¬ 2 < js_w 2 by decide), y30, k_61_137 hb (by omega) e8, b_61_140, b_61_230]
          have hjn := xr_jp6 (σ2 := σa) (ρ2 := rx_next ρ1) (ρ7 := ρ6) (σ7 := τ) hb hx hn h1 k1 F24 v (by omega) G12 n33 n44 n10 (Nat.le_refl _) h2 (fun a i h => uO a i (fun hh => h ⟨hh.1, Or.inr hh.2⟩)) (by rw [z0]; exact t0.2) (by rw [uO _ _ (by omega), d1]; exact hb01.1) (by rw [uO _ _ (by omega), d2]; exact hb01.2) u15 hl1 hl2 hw (xr_z2 h1 h2 n10 (by omega))
          have e65 : ρ6 83 5 = ρ5 83 5 := hw.2.2.2.2.2.2 _ _ (by omega) (by omega)
          rw [ecl, hv]
          exact y_221_l hb hD hd he hS G σ0 ρ0 j0 σ8 ρ6 j5 (ρ5 83 33) lv5 x45 (x65 + 1) _ c (0, ρ1 83 6) (by have := h2.1.2.1; omega) hJ hx hn ⟨qD, qt, ⟨q20, q21, qp⟩, qlev, qc⟩ hjn (by rw [e65]; exact hlv5) hlt5 hx45 (by omega) (by omega)
        · rw [if_neg t0] at cf hor
          obtain ⟨hF, h9e⟩ := rx_bad_new (τ := ρ5) (k := 5) (p := ρ1 83 6) h59 (by decide) (by decide) hplace.1 hplace.2
          refine Or.inr ⟨ρ6, vv, ?_, ?_⟩
          · rw [hor, r_both5F hF]
          · refine ⟨by rw [hor]; exact hF, ?_, τ, ?_, Fτ⟩
            · rw [hor]
              exact eg_R_trans G05 (eg_R_tf (tf_R_bad _ _ _)) (Int.le_refl _)
            · rw [kt_61_108 hb (by omega) cf, hor, h9e]
      · refine Or.inr ⟨ρ', 0, ?_, xf_ef F04 G02 (by omega) (by omega) (by omega) (by omega) hf⟩
        rw [k_221_29 (by omega) er, b_221_32, k_221_33 (by omega) (r_logicF hf.1), b_221_36, r_both5F hf.1]
    · refine Or.inl ⟨σ1, ρ1, j1, n1, lv, x4, x6, l, r_221_out t5a t5b q, rfl, h1, hlv, ?_, hx4, hx6, hx6'⟩
      have : lv ≠ 2 := by
        rw [hlv]
        unfold lv_c
        split
        · decide
        · exact fun h => q (lv_is2.mp h)
      omega
/-- && -/
theorem y_221 {E : js_E} {b F : Int} {B : Int → Int} {X : Int → Prop} {d e : Nat} {x1 x2 D : Int} {J0 : Nat} (hb : b = 0 ∨ b = 25) (hD : 0 ≤ D ∧ D ≤ 64) (hd : 20 ≤ d) (he : 20 ≤ e) (hS : xl_P E b F B X d x1 x2 D 0 2 3 3 (fun _ => true) J0 (fun ρ => js_J E (e - 1) 222 0 [(2, 83), (9, 0), (9, 0), (9, 0), (9, 0)] [] ρ)) : xl_P E b F B X d x1 x2 D 0 1 2 2 (fun _ => true) J0 (fun ρ => js_J E e 221 0 [(2, 83), (9, 0), (9, 0)] [] ρ) := by
  intro σ ρ j x4 ux5 ux6 c hJ hx hn hR hq h40 h41
  have hc := hS σ ρ j x4 ux5 ux6 c hJ hx hn hR ⟨hq.1, by have := hq.2.1; omega, ⟨hq.2.2.1.1, hq.2.2.1.2.1, by have := hq.2.2.1.2.2; omega⟩, fun k g1 g2 => by have := hq.2.2.2.1 k g1 g2; omega, hq.2.2.2.2⟩ h40 h41
  show xc_P E b F B d x1 x2 2 true σ ρ j _ (js_J E e 221 0 [(2, 83), (9, 0), (9, 0)] [] ρ)
  rw [b_221_0]
  rcases hc with ⟨σ1, ρ1, j1, n1, lv, x4', x6, l, er, ec, h1, hlv, hlt, hx4, hx6, hx6'⟩ | ⟨ρ', vv, er, hf⟩
  · rw [k_221_1 (by omega) er, b_221_4, ec]
    exact y_221_l hb hD hd he hS 8200 σ ρ j σ1 ρ1 j1 n1 lv x4' x6 l c (9, 0) (by omega) hJ hx hn hq h1 hlv hlt hx4 hx6 hx6'
  · exact Or.inr ⟨ρ', vv, by rw [k_221_1 (by omega) er, b_221_4, r_both5F hf.1], hf⟩
theorem r_220_in {E : js_E} {e : Nat} {ρ : js_S} {n : Int} {ux2 : js_v} (h : ρ 83 5 = 206) : js_J E e 220 5 [(2, 83), (0, n), ux2] [] ρ = js_J E e 220 21 [(2, 83), (0, n), (0, ρ 83 6)] [(2, 83)] ρ := by
  rw [b_220_5, if_pos (by rw [h]; decide)]
theorem r_220_out {E : js_E} {e : Nat} {ρ : js_S} (h0 : 0 ≤ ρ 83 5) (h1 : ρ 83 5 < 3000) {n : Int} {ux2 : js_v} (h : ρ 83 5 ≠ 206) : js_J E e 220 5 [(2, 83), (0, n), ux2] [] ρ = js_r E (0, n) ρ := by
  rw [b_220_5, js_w_of (x := ρ 83 5) (by omega) (by omega), if_neg h]
theorem lv_is1 {t : Int} : lv_t t = 1 ↔ t = 206 := by
  constructor
  · intro h
    unfold lv_t at h
    repeat' split at h
    all_goals omega
  · intro h
    rw [h]
    decide
/-- ||, from its loop on -/
theorem y_220_l {E : js_E} {b F : Int} {B : Int → Int} {X : Int → Prop} {d e : Nat} {x1 x2 D : Int} {J0 : Nat} (hb : b = 0 ∨ b = 25) (hD : 0 ≤ D ∧ D ≤ 64) (hd : 20 ≤ d) (he : 20 ≤ e) (hS : xl_P E b F B X d x1 x2 D 0 1 2 2 (fun _ => true) J0 (fun ρ => js_J E (e - 1) 221 0 [(2, 83), (9, 0), (9, 0)] [] ρ)) : ∀ (G : Nat) (σ0 ρ0 : js_S) (j0 : Nat) (σ1 ρ1 : js_S) (j1 : Nat) (n1 lv x4 x6 : Int) (l : tr_T) (c : Bool) (ux2 : js_v), 8200 ≤ G + j1 → J0 ≤ j0 → xs_R E b F B X σ0 ρ0 → xn_R b σ0 ρ0 j0 → xq_R b x2 D 0 0 1 c σ0 ρ0 → xk_R b F B σ0 ρ0 j0 σ1 ρ1 j1 n1 l → lv = lv_c true (ρ1 83 5) → lv < 2 → 0 ≤ x4 ∧ x4 ≤ j1 → 0 ≤ x6 → x6 + σ0 (23 + b) 15 ≤ 511 → xc_P E b F B d x1 x2 1 true σ0 ρ0 j0 (js_J E d 61 65 [(2, 23 + b), (0, x1), (0, x2), (0, 1), (0, x4), (0, lv), (0, x6)] [] σ1) (js_J E e 220 5 [(2, 83), (0, n1), ux2] [] ρ1)
  | 0, σ0, ρ0, j0, σ1, ρ1, j1, n1, lv, x4, x6, l, c, ux2, hG, _, _, _, _, h1, _, _, _, _, _ => by
    have := rd_j h1.1.1
    omega
  | G + 1, σ0, ρ0, j0, σ1, ρ1, j1, n1, lv, x4, x6, l, c, ux2, hG, hJ, hx, hn, hq, h1, hlv, hlt, hx4, hx6, hx6' => by
    have r1 := h1.1.1
    have ok1 := r1.2.2.1
    have t5a := ok1.2.2.2.2.2.2.1
    have t5b := ok1.2.2.2.2.2.2.2.1
    have hj1 := rd_j r1
    by_cases q : ρ1 83 5 = 206
    · have lvL : lv = 1 := by
        rw [hlv, q]
        decide
      subst lvL
      clear hlv hlt
      obtain ⟨qD, qt, ⟨q20, q21, qp⟩, qlev, qc⟩ := hq
      have F01 := h1.1.2.2.2.1
      have G01 := h1.1.2.2.2.2.1
      have y15 := h1.2.2.1.1.2.2.2
      have c10 := h1.2.2.1.2.1.1
      have hn1 := xn_next hn h1
      have lev1 : ∀ k : Int, x2 ≤ k → k < σ1 (23 + b) 15 → 1 ≤ σ1 (25 + b) k ∧ σ1 (25 + b) k < 1 := fun k g1 g2 => by
        rw [F01 _ _ (by unfold ef_D; omega)]
        exact qlev k g1 (by omega)
      obtain ⟨σa, σ4, e1, k1, hR4, F24, v, v15, ⟨w25, w26, w27, w30⟩, wrow⟩ := y_go1 (E := E) (d := d) (x1 := x1) (x2 := x2) (x4 := x4) (x6 := x6) (lv := 1) hb r1 hn1 (by omega) (by decide) (by omega) (by omega) q20 (by omega) hx6 (by omega) hx4.1 hx4.2 lev1
      rw [if_pos rfl] at k1
      have F1a : ef_R b (σ1 (8 + b) 6) (σ1 (8 + b) 10) (σ1 (23 + b) 15) σ1 σa := ef_R_em k1 (Int.le_refl _)
      have F14 : ef_R b (σ1 (8 + b) 6) (σ1 (8 + b) 10) (σ1 (23 + b) 15) σ1 σ4 := ef_R_trans F1a (ef_R_mono F24 (by omega) (by omega) (by omega))
      have c6 := h1.2.2.1.2.1.2.1
      have ll := xt_ln_0 l
      have F04 : ef_R b (σ0 (8 + b) 6) (σ0 (8 + b) 10) (σ0 (23 + b) 15) σ0 σ4 := ef_R_trans F01 (ef_R_mono F14 (by omega) (by omega) (by omega))
      have tz := tf_R_next ρ1
      have G12 : eg_R (ρ1 83 33) ρ1 (rx_next ρ1) := eg_R_tf tz
      have n33 : rx_next ρ1 83 33 = ρ1 83 33 := tz _ _ (by omega)
      have n44 : rx_next ρ1 83 44 = ρ1 83 44 := tz _ _ (by omega)
      have n10 : rx_next ρ1 83 10 = ρ1 83 10 := tz _ _ (by omega)
      have m1 := h1.1.2.2.2.2.2.1
      have G02 : eg_R (ρ0 83 33) ρ0 (rx_next ρ1) := eg_R_trans G01 G12 m1
      have k6 := k1.1
      have k10 : σa (8 + b) 10 = σ1 (8 + b) 10 := k1.2.2.2 _ _ (by omega) (by omega)
      have v6 := v 6 (by decide) (by decide)
      have v10 := v 10 (by decide) (by decide)
      have hx4' := xs_R_ef hb hx F04 G02
      have hn4 : xn_R b σ4 (rx_next ρ1) (j1 + 1) := by
        have a7 := k1.2.1
        have a11 : σa (8 + b) 11 = σ1 (8 + b) 11 := k1.2.2.2 _ _ (by omega) (by omega)
        have a12 : σa (8 + b) 12 = σ1 (8 + b) 12 := k1.2.2.2 _ _ (by omega) (by omega)
        have v7 := v 7 (by decide) (by decide)
        have v11 := v 11 (by decide) (by decide)
        have v12 := v 12 (by decide) (by decide)
        unfold xn_R at hn1 ⊢
        push_cast
        omega
      have hq4 : xq_R b x2 D 0 1 2 c σ4 (rx_next ρ1) := by
        refine ⟨by rw [n10, h1.1.2.2.1]; exact qD, by omega, ⟨q20, by omega, by omega⟩, fun k g1 g2 => ?_, ?_⟩
        · by_cases qk : k = σ1 (23 + b) 15
          · rw [qk, w25]
            decide
          · rw [wrow _ _ (by omega) (by omega) (by omega)]
            have := lev1 k g1 (by omega)
            omega
        · exact rc_push qc rfl (by omega) (fun k g1 g2 => by rw [wrow _ _ (by omega) (by omega) (by omega), F01 _ _ (by unfold ef_D; omega)]) (by rw [← y15, w25]; decide)
      have hc := hS σ4 (rx_next ρ1) (j1 + 1) (x4 + 1) (0, 1) (0, x6) c (by have := h1.1.2.1; omega) hx4' hn4 hR4 hq4 (by omega) (by push_cast; omega)
      rw [r_220_in q, k_220_21 (by omega) (r_next' ok1 (by omega)), b_220_24, e1]
      have hplace : 0 ≤ ρ1 83 6 ∧ ρ1 83 6 < 100000 := by
        have a1 := ok1.2.2.2.1
        have a2 := ok1.2.2.2.2.1
        have a3 := ok1.2.2.2.2.2.1
        have a4 := ok1.1.2.1
        omega
      rcases hc with ⟨σ5, ρ5, j5, n2, lv5, x45, x65, r, er, ec, h2, hlv5, hlt5, hx45, hx65, hx65'⟩ | ⟨ρ', vv, er, hf⟩
      · rw [k_220_29 (by omega) er, b_220_32, ec]
        have F45 := h2.1.2.2.2.1
        have d15 := h2.2.2.1.1.2.2.2
        have d10 := h2.2.2.1.2.1.1
        have d6 := h2.2.2.1.2.1.2.1
        have lr := xt_ln_0 r
        have r5 := h2.1.1
        have ok5 := r5.2.2.1
        have hj5 := rd_j r5
        have l5 : 0 ≤ lv5 := by rw [hlv5]; exact (lv_c_in _ (ρ5 83 5)).1
        have p5 : σ5 (23 + b) 15 = σ0 (23 + b) 15 + 1 := by omega
        have row5 : ∀ a : Int, 24 + b ≤ a → a ≤ 30 + b → σ5 a (σ0 (23 + b) 15) = σ4 a (σ0 (23 + b) 15) := fun a g1 g2 => F45 _ _ (by unfold ef_D; omega)
        rw [y15] at w25 w26 w27 w30
        have z25 : σ5 (25 + b) (σ0 (23 + b) 15) = 1 := by rw [row5 _ (by omega) (by omega)]; exact w25
        rw [c_pop hb p5 q20 q21 (by omega) hx65 (by omega) (by rw [z25]; decide) l5 (by rw [z25]; omega)]
        have u15 : js_up σ5 (23 + b) 15 (σ0 (23 + b) 15) (23 + b) 15 = σ0 (23 + b) 15 := js_up_same _ _ _ _
        have uO : ∀ a i : Int, ¬ (a = 23 + b ∧ i = 15) → js_up σ5 (23 + b) 15 (σ0 (23 + b) 15) a i = σ5 a i := fun a i h => js_up_ne _ h
        have hx5 : xs_R E b F B X σ5 ρ5 := xs_R_ef hb hx4' F45 h2.1.2.2.2.2.1
        have hn5 := xn_next hn4 h2
        generalize js_up σ5 (23 + b) 15 (σ0 (23 + b) 15) = τ at u15 uO ⊢
        have yl := h1.2.2.2.2.2.2.1
        have yr := h2.2.2.2.2.2.2.1
        have c0 := h1.2.2.1.1.1
        have d0 := h2.2.2.1.1.1
        have d1 := h2.2.2.1.1.2.1
        have d2 := h2.2.2.1.1.2.2.1
        have y25 : τ (25 + b) (τ (23 + b) 15) = 1 := by rw [u15, uO _ _ (by omega)]; exact z25
        have z26 : τ (26 + b) (τ (23 + b) 15) = ρ1 83 6 := by rw [u15, uO _ _ (by omega), row5 _ (by omega) (by omega), w26, (rd_V r1).2.2]
        have z27 : τ (27 + b) (τ (23 + b) 15) = xt_ty l := by rw [u15, uO _ _ (by omega), row5 _ (by omega) (by omega), w27, c0]
        have z0 : τ (23 + b) 0 = xt_ty r := by rw [uO _ _ (by omega)]; exact d0
        have cxn : cx_n τ := ⟨by rw [uO _ _ (by omega)]; exact hx5.1.2.2.1.1, by rw [uO _ _ (by omega)]; exact hx5.1.2.2.1.2⟩
        have cf := c_fin12 (E := E) (d := d - 1) (σ := τ) hb cxn (by omega) (by omega) (by omega) (by omega) (by omega) (by omega)
        rw [z26, z27, z0] at cf
        have nd1 := xt_nd_in h1.2.2.2.1 h1.2.2.2.2.1.1
        have nd2 := xt_nd_in h2.2.2.2.1 h2.2.2.2.2.1.1
        have G25 := h2.1.2.2.2.2.1
        have ndn : ∀ a : Int, 100 ≤ a → a ≤ 106 → ρ5 a n1 = ρ1 a n1 := fun a g1 g2 => by rw [G25 _ _ (by omega) (by omega), G12 _ _ (by omega) (by omega)]
        have m5 := h2.1.2.2.2.2.2.1
        have m5' := h2.1.2.2.2.2.2.2
        have m1' := h1.1.2.2.2.2.2.2
        have hnodes := hn.2.2.2.2.1
        obtain ⟨vv, ρ6, e6, hor⟩ := r_logic (E := E) (e := e - 1) (ρ := ρ5) (k := 7) (l := n1) (r := n2) (p := ρ1 83 6) ok5.2.2.1 (by omega) (by omega) (by omega) (by decide) (by decide) hplace.1 hplace.2 nd1.1 (by omega) nd2.1 (by omega) (by rw [ndn _ (by decide) (by decide), nd1.2.2.1]; omega) (by rw [nd2.2.2.1]; omega)
        rw [ndn _ (by decide) (by decide), nd1.2.2.1, nd2.2.2.1] at hor
        rw [k_220_33 (by omega) e6, b_220_36]
        have Fτ : ef_R b (σ0 (8 + b) 6) (σ0 (8 + b) 10) (σ0 (23 + b) 15) σ0 τ := ef_R_trans F04 (ef_R_trans (ef_R_mono F45 (by omega) (by omega) (by omega)) (fun a i g => uO a i (fun hh => g (ef_D23 ⟨hh.1, Or.inr hh.2⟩))))
        have G05 : eg_R (ρ0 83 33) ρ0 ρ5 := eg_R_trans G02 G25 (by omega)
        have h59 : ρ5 83 9 = 0 := ok5.2.2.1
        by_cases t0 : xt_ty l = 1 ∧ xt_ty r = 1
        · rw [if_pos t0] at cf hor
          obtain ⟨hv, hw⟩ := hor
          rw [k_61_108 hb (by omega) cf]
          have hb01 := h2.2.2.2.2.2.2.2.1.2 t0.2
          have hz5 := xn_cz hn5 r5
          have g6 : τ (8 + b) 6 = σ5 (8 + b) 6 := uO _ _ (by omega)
          have g7 : τ (8 + b) 7 = σ5 (8 + b) 7 := uO _ _ (by omega)
          have hz7 : cz_R τ b := by unfold cz_R; rw [g6, g7]; exact hz5
          have hz1 := hn1.1.1
          obtain ⟨σ8, e8, hl1, hl2⟩ := c_land (E := E) (d := d - 1) (σ := τ) (x := σ1 (8 + b) 6) hb hz7 (by omega) (by omega) (by omega)
          have y30 : τ (30 + b) (σ0 (23 + b) 15) = σ1 (8 + b) 6 := by rw [uO _ _ (by omega), row5 _ (by omega) (by omega), w30]
          have y25' : τ (25 + b) (σ0 (23 + b) 15) = 1 := by rw [uO _ _ (by omega)]; exact z25
          have ecl : js_J E d 61 111 [(2, 23 + b), (0, x1), (0, x2), (0, 1), (0, x45), (0, lv5), (0, x65)] [] τ = js_J E d 61 65 [(2, 23 + b), (0, x1), (0, x2), (0, 1), (0, x45), (0, lv5), (0, x65 + 1)] [] σ8 := by
            rw [b_61_111 hb, u15, js_w_of (x := σ0 (23 + b) 15) (by omega) (by omega), if_pos (show 0 ≤ σ0 (23 + b) 15 ∧ σ0 (23 + b) 15 < 512 by omega), y25', if_neg (show ¬ 2 < js_w 1 by decide), y30, k_61_137 hb (by omega) e8, b_61_140, b_61_230]
          have hjn := xr_jp7 (σ2 := σa) (ρ2 := rx_next ρ1) (ρ7 := ρ6) (σ7 := τ) hb hx hn h1 k1 F24 v (by omega) G12 n33 n44 n10 (Nat.le_refl _) h2 (fun a i h => uO a i (fun hh => h ⟨hh.1, Or.inr hh.2⟩)) (by rw [z0]; exact t0.2) (by rw [uO _ _ (by omega), d1]; exact hb01.1) (by rw [uO _ _ (by omega), d2]; exact hb01.2) u15 hl1 hl2 hw (xr_z2 h1 h2 n10 (by omega))
          have e65 : ρ6 83 5 = ρ5 83 5 := hw.2.2.2.2.2.2 _ _ (by omega) (by omega)
          rw [ecl, hv]
          exact y_220_l hb hD hd he hS G σ0 ρ0 j0 σ8 ρ6 j5 (ρ5 83 33) lv5 x45 (x65 + 1) _ c (0, ρ1 83 6) (by have := h2.1.2.1; omega) hJ hx hn ⟨qD, qt, ⟨q20, q21, qp⟩, qlev, qc⟩ hjn (by rw [e65]; exact hlv5) hlt5 hx45 (by omega) (by omega)
        · rw [if_neg t0] at cf hor
          obtain ⟨hF, h9e⟩ := rx_bad_new (τ := ρ5) (k := 5) (p := ρ1 83 6) h59 (by decide) (by decide) hplace.1 hplace.2
          refine Or.inr ⟨ρ6, vv, ?_, ?_⟩
          · rw [hor, r_either5F hF]
          · refine ⟨by rw [hor]; exact hF, ?_, τ, ?_, Fτ⟩
            · rw [hor]
              exact eg_R_trans G05 (eg_R_tf (tf_R_bad _ _ _)) (Int.le_refl _)
            · rw [kt_61_108 hb (by omega) cf, hor, h9e]
      · refine Or.inr ⟨ρ', 0, ?_, xf_ef F04 G02 (by omega) (by omega) (by omega) (by omega) hf⟩
        rw [k_220_29 (by omega) er, b_220_32, k_220_33 (by omega) (r_logicF hf.1), b_220_36, r_either5F hf.1]
    · refine Or.inl ⟨σ1, ρ1, j1, n1, lv, x4, x6, l, r_220_out t5a t5b q, rfl, h1, hlv, ?_, hx4, hx6, hx6'⟩
      have : lv ≠ 1 := by
        rw [hlv]
        unfold lv_c
        split
        · decide
        · exact fun h => q (lv_is1.mp h)
      omega
/-- || -/
theorem y_220 {E : js_E} {b F : Int} {B : Int → Int} {X : Int → Prop} {d e : Nat} {x1 x2 D : Int} {J0 : Nat} (hb : b = 0 ∨ b = 25) (hD : 0 ≤ D ∧ D ≤ 64) (hd : 20 ≤ d) (he : 20 ≤ e) (hS : xl_P E b F B X d x1 x2 D 0 1 2 2 (fun _ => true) J0 (fun ρ => js_J E (e - 1) 221 0 [(2, 83), (9, 0), (9, 0)] [] ρ)) : xl_P E b F B X d x1 x2 D 0 0 1 1 (fun _ => true) J0 (fun ρ => js_J E e 220 0 [(2, 83), (9, 0), (9, 0)] [] ρ) := by
  intro σ ρ j x4 ux5 ux6 c hJ hx hn hR hq h40 h41
  have hc := hS σ ρ j x4 ux5 ux6 c hJ hx hn hR ⟨hq.1, by have := hq.2.1; omega, ⟨hq.2.2.1.1, hq.2.2.1.2.1, by have := hq.2.2.1.2.2; omega⟩, fun k g1 g2 => by have := hq.2.2.2.1 k g1 g2; omega, hq.2.2.2.2⟩ h40 h41
  show xc_P E b F B d x1 x2 1 true σ ρ j _ (js_J E e 220 0 [(2, 83), (9, 0), (9, 0)] [] ρ)
  rw [b_220_0]
  rcases hc with ⟨σ1, ρ1, j1, n1, lv, x4', x6, l, er, ec, h1, hlv, hlt, hx4, hx6, hx6'⟩ | ⟨ρ', vv, er, hf⟩
  · rw [k_220_1 (by omega) er, b_220_4, ec]
    exact y_220_l hb hD hd he hS 8200 σ ρ j σ1 ρ1 j1 n1 lv x4' x6 l c (9, 0) (by omega) hJ hx hn hq h1 hlv hlt hx4 hx6 hx6'
  · exact Or.inr ⟨ρ', vv, by rw [k_220_1 (by omega) er, b_220_4, r_either5F hf.1], hf⟩
