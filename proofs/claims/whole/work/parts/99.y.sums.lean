/-! part 99.y: sums and products in step -/
/-- what comes of reading on a level: both stand behind it (the class at the end of operators), or have the same fault -/
def xc_P (E : js_E) (b F : Int) (B : Int → Int) (d : Nat) (x1 x2 ℓ : Int) (c : Bool) (σ ρ : js_S) (j : Nat) (Rc Rr : Option (Outcome × ip_W)) : Prop := (∃ (σ' ρ' : js_S) (j' : Nat) (n lv x4 x6 : Int) (e : tr_T), Rr = js_r E (0, n) ρ' ∧ Rc = js_J E d 61 65 [(2, 23 + b), (0, x1), (0, x2), (0, 1), (0, x4), (0, lv), (0, x6)] [] σ' ∧ xk_R b F B σ ρ j σ' ρ' j' n e ∧ lv = lv_c c (ρ' 83 5) ∧ lv < ℓ ∧ (0 ≤ x4 ∧ x4 ≤ j') ∧ 0 ≤ x6 ∧ x6 + σ (23 + b) 15 ≤ 511) ∨ (∃ (ρ' : js_S) (v : Int), Rr = js_r E (0, v) ρ' ∧ xf_P E b σ ρ ρ' Rc)
/-- whether a comparison waits -/
def rc_P (b x2 : Int) (c : Bool) (σ : js_S) : Prop := c = true ↔ ∃ k : Int, x2 ≤ k ∧ k < σ (23 + b) 15 ∧ σ (25 + b) k = 3
theorem rc_push {b x2 p : Int} {c : Bool} {σ σ' : js_S} (h : rc_P b x2 c σ) (h0 : σ (23 + b) 15 = p) (h1 : σ' (23 + b) 15 = p + 1) (h2 : ∀ k : Int, x2 ≤ k → k < p → σ' (25 + b) k = σ (25 + b) k) (h3 : σ' (25 + b) p ≠ 3) : rc_P b x2 c σ' := by
  unfold rc_P at h ⊢
  rw [h, h0, h1]
  constructor
  · rintro ⟨k, g1, g2, g3⟩
    exact ⟨k, g1, by omega, by rw [h2 k g1 g2]; exact g3⟩
  · rintro ⟨k, g1, g2, g3⟩
    by_cases q : k = p
    · rw [q] at g3
      exact absurd g3 h3
    · exact ⟨k, g1, by omega, by rw [← h2 k g1 (by omega)]; exact g3⟩
/-- what must hold of the class's rows and numbers when a level is begun -/
def xq_R (b x2 D tb pb rl : Int) (c : Bool) (σ ρ : js_S) : Prop := ρ 83 10 = D ∧ σ (8 + b) 10 ≤ 12 * D + tb ∧ (0 ≤ x2 ∧ x2 ≤ σ (23 + b) 15 ∧ σ (23 + b) 15 ≤ 6 * D + pb) ∧ (∀ k : Int, x2 ≤ k → k < σ (23 + b) 15 → 1 ≤ σ (25 + b) k ∧ σ (25 + b) k < rl) ∧ rc_P b x2 c σ
/-- a level is read in step, from token J0 on -/
def xl_P (E : js_E) (b F : Int) (B : Int → Int) (X : Int → Prop) (d : Nat) (x1 x2 D tb pb rl ℓ : Int) (cc : Bool → Bool) (J0 : Nat) (RM : js_S → Option (Outcome × ip_W)) : Prop := ∀ (σ ρ : js_S) (j : Nat) (x4 : Int) (ux5 ux6 : js_v) (c : Bool), J0 ≤ j → xs_R E b F B X σ ρ → xn_R b σ ρ j → rd_R σ ρ j → xq_R b x2 D tb pb rl c σ ρ → 0 ≤ x4 → x4 ≤ j → xc_P E b F B d x1 x2 ℓ (cc c) σ ρ j (js_J E d 61 18 [(2, 23 + b), (0, x1), (0, x2), (0, 1), (0, x4), ux5, ux6] [] σ) (RM ρ)
theorem rk_ok {op a b c d : Int} (h : rk_x op a b c d = 0) (h2 : op ≤ 10) : -2000000000 ≤ rk_lo op a b c d ∧ rk_lo op a b c d ≤ rk_hi op a b c d ∧ rk_hi op a b c d ≤ 2000000000 := by
  have h3 : ¬ (8 < op ∧ c ≤ 0 ∧ 0 ≤ d) := fun hh => by
    unfold rk_x at h
    rw [if_pos hh] at h
    omega
  have h4 : ¬ (rk_lo op a b c d < -2000000000 ∨ 2000000000 < rk_hi op a b c d) := fun hh => by
    unfold rk_x at h
    rw [if_neg h3, if_pos hh] at h
    omega
  have h5 : rk_lo op a b c d ≤ rk_hi op a b c d := by
    unfold rk_lo rk_hi
    by_cases q : op = 10
    · have ra := rk_a_in c
      have rb := rk_a_in d
      have rm : rk_m c d = max (rk_a c) (rk_a d) - 1 := rfl
      have r1 : 0 ≤ rk_m c d := by
        have : 0 < c ∨ d < 0 := by omega
        rcases this with h | h <;> omega
      rw [if_pos q, if_pos q]
      split <;> split <;> omega
    · rw [if_neg q, if_neg q]
      omega
  omega
/-- the class: an operator with a TEMP begins, and the next operand is due -/
theorem y_go3 {E : js_E} {d : Nat} {σ ρ : js_S} {b : Int} {j : Nat} (hb : b = 0 ∨ b = 25) (hR : rd_R σ ρ j) (hn : xn_R b σ ρ j) (ht2 : σ (8 + b) 10 < 1024) (h1 : σ (23 + b) 15 < 510) {x1 x2 x4 x6 lv : Int} (hl : 3 ≤ lv) (hl2 : lv ≤ 5) (h5 : ρ 83 5 ≠ 1) (hd : 8 ≤ d) (h20 : 0 ≤ x2) (h21 : x2 ≤ σ (23 + b) 15) (x60 : 0 ≤ x6) (x61 : x6 < 512) (x40 : 0 ≤ x4) (x41 : x4 ≤ j) (hlev : ∀ k : Int, x2 ≤ k → k < σ (23 + b) 15 → 1 ≤ σ (25 + b) k ∧ σ (25 + b) k < lv) : ∃ (σ1 σ4 : js_S), js_J E d 61 65 [(2, 23 + b), (0, x1), (0, x2), (0, 1), (0, x4), (0, lv), (0, x6)] [] σ = js_J E d 61 18 [(2, 23 + b), (0, x1), (0, x2), (0, 1), (0, x4 + 1), (0, lv), (0, x6)] [] σ4 ∧ kp_R b σ σ1 (σ (23 + b) 1) (σ (23 + b) 2) ∧ rd_R σ4 (rx_next ρ) (j + 1) ∧ ef_R b (σ (8 + b) 6 + 1) (σ (8 + b) 10 + 1) (σ (23 + b) 15) σ1 σ4 ∧ (∀ i : Int, 6 ≤ i → i ≤ 12 → σ4 (8 + b) i = σ1 (8 + b) i) ∧ σ4 (23 + b) 15 = σ (23 + b) 15 + 1 ∧ (σ4 (24 + b) (σ (23 + b) 15) = σ 1 1 ∧ σ4 (25 + b) (σ (23 + b) 15) = lv ∧ σ4 (26 + b) (σ (23 + b) 15) = σ 1 2 ∧ σ4 (27 + b) (σ (23 + b) 15) = σ (23 + b) 0 ∧ σ4 (28 + b) (σ (23 + b) 15) = σ (23 + b) 1 ∧ σ4 (29 + b) (σ (23 + b) 15) = σ (23 + b) 2) ∧ (∀ a k : Int, 24 + b ≤ a → a ≤ 30 + b → k < σ (23 + b) 15 → σ4 a k = σ a k) := by
  have hz := xn_cz hn hR
  have p0 := hn.2.2.2.2.2.2
  have t0 := hn.2.2.1
  have m0 := hn.2.2.2.1.1
  have m1 := hn.2.2.2.1.2
  have hj := rd_j hR
  obtain ⟨σ1, σ2, σ4, e1, k1, k2, f1, hR4⟩ := y_begin3 (E := E) (d := d - 1) hb hR hz t0 ht2 m0 (by omega) p0 (by omega) hl hl2 h5 (by omega)
  have kO := k1.2.2.2.2
  have pO := k2.2.2
  have q15 := k2.1
  obtain ⟨r24, r25, r26, r27, r28, r29, r30⟩ := k2.2.1
  have e23 : ∀ i : Int, σ1 (23 + b) i = σ (23 + b) i := fun i => kO _ _ (by omega) (by omega) (by omega)
  have e1' : ∀ i : Int, σ1 1 i = σ 1 i := fun i => kO _ _ (by omega) (by omega) (by omega)
  rw [e23] at q15 r24 r25 r26 r27 r28 r29
  refine ⟨σ1, σ4, ?_, k1, hR4, fun a i g => ?_, fun i g1 g2 => by rw [f1 _ _ (by omega) (by omega), pO _ _ (by omega) (by omega)], by rw [f1 _ _ (by omega) (by omega), q15], ⟨?_, ?_, ?_, ?_, ?_, ?_⟩, fun a k g1 g2 g3 => ?_⟩
  · rw [c_stay hb h20 h21 (by omega) x60 x61 hlev (by omega) (by omega), b_61_236, js_w_of (x := lv) (by omega) (by omega), if_pos (show 0 < lv by omega), b_61_246, if_neg (show ¬ js_w 1 = 0 by decide), k_61_254 hb (by omega) e1, b_61_257]
  · rw [f1 a i (fun hh => g (ef_D1 ⟨hh.1, by omega⟩)) (fun hh => g (ef_D2 hh)), pO a i (fun hh => g (ef_D23 ⟨hh.1, Or.inr hh.2⟩)) (fun hh => g (ef_D24 ⟨hh.1, hh.2.1, by rw [hh.2.2, e23]; exact Int.le_refl _⟩))]
  · rw [f1 _ _ (by omega) (by omega), r24, e1']
  · rw [f1 _ _ (by omega) (by omega), r25]
  · rw [f1 _ _ (by omega) (by omega), r26, e1']
  · rw [f1 _ _ (by omega) (by omega), r27, e23]
  · rw [f1 _ _ (by omega) (by omega), r28, e23]
  · rw [f1 _ _ (by omega) (by omega), r29, e23]
  · rw [f1 _ _ (by omega) (by omega), pO _ _ (by omega) (by rw [e23]; omega), kO _ _ (by omega) (by omega) (by omega)]
theorem r_224_in {E : js_E} {e : Nat} {ρ : js_S} (h0 : 0 ≤ ρ 83 5) (h1 : ρ 83 5 < 3000) {n : Int} {ux2 ux3 : js_v} (h : lv_t (ρ 83 5) = 5) : js_J E e 224 5 [(2, 83), (0, n), ux2, ux3] [] ρ = js_J E e 224 69 [(2, 83), (0, n), (0, ρ 83 6), (0, op_t (ρ 83 5))] [(2, 83)] ρ := by
  have w := js_w_of (x := ρ 83 5) (by omega) (by omega)
  have ht : ρ 83 5 = 42 ∨ ρ 83 5 = 47 ∨ ρ 83 5 = 37 := by
    unfold lv_t at h
    repeat' split at h
    all_goals omega
  rw [b_224_5, w]
  rcases ht with hh | hh | hh
  · rw [if_pos hh, b_224_32, w, if_pos hh, b_224_67, hh]
    rfl
  · rw [if_neg (show ¬ ρ 83 5 = 42 by omega), if_pos hh, b_224_32, w, if_neg (show ¬ ρ 83 5 = 42 by omega), if_pos hh, b_224_67, hh]
    rfl
  · rw [if_neg (show ¬ ρ 83 5 = 42 by omega), if_neg (show ¬ ρ 83 5 = 47 by omega), if_pos hh, b_224_32, w, if_neg (show ¬ ρ 83 5 = 42 by omega), if_neg (show ¬ ρ 83 5 = 47 by omega), b_224_67, hh]
    rfl
theorem r_224_out {E : js_E} {e : Nat} {ρ : js_S} (h0 : 0 ≤ ρ 83 5) (h1 : ρ 83 5 < 3000) {n : Int} {ux2 ux3 : js_v} (h : lv_t (ρ 83 5) ≠ 5) : js_J E e 224 5 [(2, 83), (0, n), ux2, ux3] [] ρ = js_r E (0, n) ρ := by
  have w := js_w_of (x := ρ 83 5) (by omega) (by omega)
  have ht : ¬ (ρ 83 5 = 42 ∨ ρ 83 5 = 47 ∨ ρ 83 5 = 37) := fun hh => h (by
    rcases hh with hh | hh | hh <;> rw [hh] <;> decide)
  rw [b_224_5, w, if_neg (show ¬ ρ 83 5 = 42 by omega), if_neg (show ¬ ρ 83 5 = 47 by omega), if_neg (show ¬ ρ 83 5 = 37 by omega)]
/-- products, from its loop on -/
theorem y_224_l {E : js_E} {b F : Int} {B : Int → Int} {X : Int → Prop} {d e : Nat} {x1 x2 D : Int} {J0 : Nat} (hb : b = 0 ∨ b = 25) (hD : 0 ≤ D ∧ D ≤ 64) (hd : 20 ≤ d) (he : 20 ≤ e) (hS : xl_P E b F B X d x1 x2 D 3 5 7 6 (fun c => c) J0 (fun ρ => js_J E (e - 1) 225 0 [(2, 83), (9, 0), (9, 0), (9, 0)] [] ρ)) : ∀ (G : Nat) (σ0 ρ0 : js_S) (j0 : Nat) (σ1 ρ1 : js_S) (j1 : Nat) (n1 lv x4 x6 : Int) (l : tr_T) (c : Bool) (ux2 ux3 : js_v), 8200 ≤ G + j1 → J0 ≤ j0 → xs_R E b F B X σ0 ρ0 → xn_R b σ0 ρ0 j0 → xq_R b x2 D 2 4 5 c σ0 ρ0 → xk_R b F B σ0 ρ0 j0 σ1 ρ1 j1 n1 l → lv = lv_c c (ρ1 83 5) → lv < 6 → 0 ≤ x4 ∧ x4 ≤ j1 → 0 ≤ x6 → x6 + σ0 (23 + b) 15 ≤ 511 → xc_P E b F B d x1 x2 5 c σ0 ρ0 j0 (js_J E d 61 65 [(2, 23 + b), (0, x1), (0, x2), (0, 1), (0, x4), (0, lv), (0, x6)] [] σ1) (js_J E e 224 5 [(2, 83), (0, n1), ux2, ux3] [] ρ1)
  | 0, σ0, ρ0, j0, σ1, ρ1, j1, n1, lv, x4, x6, l, c, ux2, ux3, hG, _, _, _, _, h1, _, _, _, _, _ => by
    have := rd_j h1.1.1
    omega
  | G + 1, σ0, ρ0, j0, σ1, ρ1, j1, n1, lv, x4, x6, l, c, ux2, ux3, hG, hJ, hx, hn, hq, h1, hlv, hlt, hx4, hx6, hx6' => by
    have r1 := h1.1.1
    have ok1 := r1.2.2.1
    have t5a := ok1.2.2.2.2.2.2.1
    have t5b := ok1.2.2.2.2.2.2.2.1
    have hj1 := rd_j r1
    have lin := lv_t_in (ρ1 83 5)
    by_cases q : lv_t (ρ1 83 5) = 5
    · have lvL : lv = 5 := by
        rw [hlv]
        unfold lv_c
        rw [if_neg (fun hh => by omega), q]
      subst lvL
      clear hlv hlt lin
      have n5 : ρ1 83 5 ≠ 1 := fun hh => by
        rw [hh] at q
        revert q
        decide
      obtain ⟨qD, qt, ⟨q20, q21, qp⟩, qlev, qc⟩ := hq
      have F01 := h1.1.2.2.2.1
      have G01 := h1.1.2.2.2.2.1
      have y15 := h1.2.2.1.1.2.2.2
      have c10 := h1.2.2.1.2.1.1
      have hn1 := xn_next hn h1
      have lev1 : ∀ k : Int, x2 ≤ k → k < σ1 (23 + b) 15 → 1 ≤ σ1 (25 + b) k ∧ σ1 (25 + b) k < 5 := fun k g1 g2 => by
        rw [F01 _ _ (by unfold ef_D; omega)]
        exact qlev k g1 (by omega)
      obtain ⟨σa, σ4, e1, k1, hR4, F24, v, v15, ⟨w24, w25, w26, w27, w28, w29⟩, wrow⟩ := y_go3 (E := E) (d := d) (x1 := x1) (x2 := x2) (x4 := x4) (x6 := x6) (lv := 5) hb r1 hn1 (by omega) (by omega) (by decide) (by decide) n5 (by omega) q20 (by omega) hx6 (by omega) hx4.1 hx4.2 lev1
      have F1a : ef_R b (σ1 (8 + b) 6) (σ1 (8 + b) 10) (σ1 (23 + b) 15) σ1 σa := ef_R_kp k1 (Int.le_refl _) (Int.le_refl _)
      have F14 : ef_R b (σ1 (8 + b) 6) (σ1 (8 + b) 10) (σ1 (23 + b) 15) σ1 σ4 := ef_R_trans F1a (ef_R_mono F24 (by omega) (by omega) (by omega))
      have c6 := h1.2.2.1.2.1.2.1
      have ll := xt_ln_0 l
      have F04 : ef_R b (σ0 (8 + b) 6) (σ0 (8 + b) 10) (σ0 (23 + b) 15) σ0 σ4 := ef_R_trans F01 (ef_R_mono F14 (by omega) (by omega) (by omega))
      have tz := tf_R_next ρ1
      have G12 : eg_R (ρ1 83 33) ρ1 (rx_next ρ1) := eg_R_tf tz
      have n33 : rx_next ρ1 83 33 = ρ1 83 33 := tz _ _ (by omega)
      have n44 : rx_next ρ1 83 44 = ρ1 83 44 := tz _ _ (by omega)
      have n10 : rx_next ρ1 83 10 = ρ1 83 10 := tz _ _ (by omega)
      have m1 := h1.1.2.2.2.2.2.1
      have G02 : eg_R (ρ0 83 33) ρ0 (rx_next ρ1) := eg_R_trans G01 G12 m1
      have k10 := k1.1.1
      have k6 := k1.2.1
      have v6 := v 6 (by decide) (by decide)
      have v10 := v 10 (by decide) (by decide)
      have hx4' := xs_R_ef hb hx F04 G02
      have hn4 : xn_R b σ4 (rx_next ρ1) (j1 + 1) := by
        have a7 := k1.2.2.1
        have a11 := k1.1.2.1
        have a12 : σa (8 + b) 12 = σ1 (8 + b) 12 := k1.2.2.2.2 _ _ (by omega) (by omega) (by omega)
        have v7 := v 7 (by decide) (by decide)
        have v11 := v 11 (by decide) (by decide)
        have v12 := v 12 (by decide) (by decide)
        unfold xn_R at hn1 ⊢
        push_cast
        omega
      have hq4 : xq_R b x2 D 3 5 7 c σ4 (rx_next ρ1) := by
        refine ⟨by rw [n10, h1.1.2.2.1]; exact qD, by omega, ⟨q20, by omega, by omega⟩, fun k g1 g2 => ?_, ?_⟩
        · by_cases qk : k = σ1 (23 + b) 15
          · rw [qk, w25]
            decide
          · rw [wrow _ _ (by omega) (by omega) (by omega)]
            have := lev1 k g1 (by omega)
            omega
        · exact rc_push qc rfl (by omega) (fun k g1 g2 => by rw [wrow _ _ (by omega) (by omega) (by omega), F01 _ _ (by unfold ef_D; omega)]) (by rw [← y15, w25]; decide)
      have hc := hS σ4 (rx_next ρ1) (j1 + 1) (x4 + 1) (0, 5) (0, x6) c (by have := h1.1.2.1; omega) hx4' hn4 hR4 hq4 (by omega) (by push_cast; omega)
      rw [r_224_in t5a t5b q, k_224_69 (by omega) (r_next' ok1 (by omega)), b_224_72, e1]
      have hop : 6 ≤ op_t (ρ1 83 5) ∧ op_t (ρ1 83 5) ≤ 10 := by
        have ht : ρ1 83 5 = 42 ∨ ρ1 83 5 = 47 ∨ ρ1 83 5 = 37 := by
          unfold lv_t at q
          repeat' split at q
          all_goals omega
        rcases ht with hh | hh | hh <;> rw [hh] <;> decide
      have htk : ρ1 83 5 = 43 ∨ ρ1 83 5 = 45 ∨ ρ1 83 5 = 42 ∨ ρ1 83 5 = 47 ∨ ρ1 83 5 = 37 := by
        unfold lv_t at q
        repeat' split at q
        all_goals omega
      have hplace : 0 ≤ ρ1 83 6 ∧ ρ1 83 6 < 100000 := by
        have a1 := ok1.2.2.2.1
        have a2 := ok1.2.2.2.2.1
        have a3 := ok1.2.2.2.2.2.1
        have a4 := ok1.1.2.1
        omega
      rcases hc with ⟨σ5, ρ5, j5, n2, lv5, x45, x65, r, er, ec, h2, hlv5, hlt5, hx45, hx65, hx65'⟩ | ⟨ρ', vv, er, hf⟩
      · rw [k_224_76 (by omega) er, b_224_79, ec]
        have F45 := h2.1.2.2.2.1
        have d15 := h2.2.2.1.1.2.2.2
        have d10 := h2.2.2.1.2.1.1
        have d6 := h2.2.2.1.2.1.2.1
        have lr := xt_ln_0 r
        have r5 := h2.1.1
        have ok5 := r5.2.2.1
        have hj5 := rd_j r5
        have l5 : 0 ≤ lv5 := by rw [hlv5]; exact (lv_c_in c (ρ5 83 5)).1
        have p5 : σ5 (23 + b) 15 = σ0 (23 + b) 15 + 1 := by omega
        have row5 : ∀ a : Int, 24 + b ≤ a → a ≤ 30 + b → σ5 a (σ0 (23 + b) 15) = σ4 a (σ0 (23 + b) 15) := fun a g1 g2 => F45 _ _ (by unfold ef_D; omega)
        rw [y15] at w24 w25 w26 w27 w28 w29
        have z25 : σ5 (25 + b) (σ0 (23 + b) 15) = 5 := by rw [row5 _ (by omega) (by omega)]; exact w25
        rw [c_pop hb p5 q20 q21 (by omega) hx65 (by omega) (by rw [z25]; decide) l5 (by rw [z25]; omega)]
        -- the class's store with the operator taken out
        have u15 : js_up σ5 (23 + b) 15 (σ0 (23 + b) 15) (23 + b) 15 = σ0 (23 + b) 15 := js_up_same _ _ _ _
        have uO : ∀ a i : Int, ¬ (a = 23 + b ∧ i = 15) → js_up σ5 (23 + b) 15 (σ0 (23 + b) 15) a i = σ5 a i := fun a i h => js_up_ne _ h
        have hx5 : xs_R E b F B X σ5 ρ5 := xs_R_ef hb hx4' F45 h2.1.2.2.2.2.1
        have hn5 := xn_next hn4 h2
        generalize js_up σ5 (23 + b) 15 (σ0 (23 + b) 15) = τ at u15 uO ⊢
        have yl := h1.2.2.2.2.2.2.1
        have yr := h2.2.2.2.2.2.2.1
        have c0 := h1.2.2.1.1.1
        have c1 := h1.2.2.1.1.2.1
        have c2 := h1.2.2.1.1.2.2.1
        have d0 := h2.2.2.1.1.1
        have d1 := h2.2.2.1.1.2.1
        have d2 := h2.2.2.1.1.2.2.1
        have z24 : τ (24 + b) (τ (23 + b) 15) = ρ1 83 5 := by
          rw [u15, uO _ _ (by omega), row5 _ (by omega) (by omega), w24, (rd_V r1).2.1]
          rcases htk with h | h | h | h | h <;> rw [h] <;> decide
        have y25 : τ (25 + b) (τ (23 + b) 15) = 5 := by rw [u15, uO _ _ (by omega)]; exact z25
        have z26 : τ (26 + b) (τ (23 + b) 15) = ρ1 83 6 := by rw [u15, uO _ _ (by omega), row5 _ (by omega) (by omega), w26, (rd_V r1).2.2]
        have z27 : τ (27 + b) (τ (23 + b) 15) = xt_ty l := by rw [u15, uO _ _ (by omega), row5 _ (by omega) (by omega), w27, c0]
        have z28 : τ (28 + b) (τ (23 + b) 15) = xt_lo l := by rw [u15, uO _ _ (by omega), row5 _ (by omega) (by omega), w28, c1]
        have z29 : τ (29 + b) (τ (23 + b) 15) = xt_hi l := by rw [u15, uO _ _ (by omega), row5 _ (by omega) (by omega), w29, c2]
        have z0 : τ (23 + b) 0 = xt_ty r := by rw [uO _ _ (by omega)]; exact d0
        have z1 : τ (23 + b) 1 = xt_lo r := by rw [uO _ _ (by omega)]; exact d1
        have z2 : τ (23 + b) 2 = xt_hi r := by rw [uO _ _ (by omega)]; exact d2
        have cxn : cx_n τ := ⟨by rw [uO _ _ (by omega)]; exact hx5.1.2.2.1.1, by rw [uO _ _ (by omega)]; exact hx5.1.2.2.1.2⟩
        have cf := c_fin45 (E := E) (d := d - 1) (σ := τ) (t := ρ1 83 5) hb cxn (by omega) (by omega) (by omega) htk z24 (by omega) (by omega) (by omega) (by omega) (by omega)
        rw [z26, z27, z28, z29, z0, z1, z2] at cf
        -- the reference's
        have nd1 := xt_nd_in h1.2.2.2.1 h1.2.2.2.2.1.1
        have nd2 := xt_nd_in h2.2.2.2.1 h2.2.2.2.2.1.1
        have G25 := h2.1.2.2.2.2.1
        have ndn : ∀ a : Int, 100 ≤ a → a ≤ 106 → ρ5 a n1 = ρ1 a n1 := fun a g1 g2 => by rw [G25 _ _ (by omega) (by omega), G12 _ _ (by omega) (by omega)]
        have m5 := h2.1.2.2.2.2.2.1
        have m5' := h2.1.2.2.2.2.2.2
        have m1' := h1.1.2.2.2.2.2.2
        have hnodes := hn.2.2.2.2.1
        obtain ⟨vv, ρ6, e6, hor⟩ := r_reckoned (E := E) (e := e - 1) (ρ := ρ5) (op := op_t (ρ1 83 5)) (l := n1) (r := n2) (p := ρ1 83 6) ok5.2.2.1 (by omega) (by omega) (by omega) hop.1 hop.2 hplace.1 hplace.2 nd1.1 (by omega) nd2.1 (by omega) (by rw [ndn _ (by decide) (by decide), nd1.2.2.1]; omega) (by rw [nd2.2.2.1]; omega) (by rw [ndn _ (by decide) (by decide), nd1.2.2.2.1]; omega) (by rw [ndn _ (by decide) (by decide), nd1.2.2.2.1]; omega) (by rw [ndn _ (by decide) (by decide), nd1.2.2.2.2]; omega) (by rw [ndn _ (by decide) (by decide), nd1.2.2.2.2]; omega) (by rw [nd2.2.2.2.1]; omega) (by rw [nd2.2.2.2.1]; omega) (by rw [nd2.2.2.2.2]; omega) (by rw [nd2.2.2.2.2]; omega) (by rw [nd2.2.2.2.1, nd2.2.2.2.2]; omega)
        rw [ndn _ (by decide) (by decide), ndn _ (by decide) (by decide), ndn _ (by decide) (by decide), nd1.2.2.1, nd1.2.2.2.1, nd1.2.2.2.2, nd2.2.2.1, nd2.2.2.2.1, nd2.2.2.2.2] at hor
        rw [k_224_80 (by omega) e6, b_224_83]
        have Fτ : ef_R b (σ0 (8 + b) 6) (σ0 (8 + b) 10) (σ0 (23 + b) 15) σ0 τ := ef_R_trans F04 (ef_R_trans (ef_R_mono F45 (by omega) (by omega) (by omega)) (fun a i g => uO a i (fun hh => g (ef_D23 ⟨hh.1, Or.inr hh.2⟩))))
        have G05 : eg_R (ρ0 83 33) ρ0 ρ5 := eg_R_trans G02 G25 (by omega)
        have h59 : ρ5 83 9 = 0 := ok5.2.2.1
        by_cases t0 : xt_ty l = 0 ∧ xt_ty r = 0
        · rw [if_pos t0] at cf hor
          by_cases x0 : rk_x (op_t (ρ1 83 5)) (xt_lo l) (xt_hi l) (xt_lo r) (xt_hi r) = 0
          · rw [if_pos x0] at cf hor
            obtain ⟨hv, ρ7, h67, hw⟩ := hor
            have rko := rk_ok x0 hop.2
            rw [k_61_108 hb (by omega) cf]
            have f15 : js_up (js_up τ (23 + b) 1 (rk_lo (op_t (ρ1 83 5)) (xt_lo l) (xt_hi l) (xt_lo r) (xt_hi r))) (23 + b) 2 (rk_hi (op_t (ρ1 83 5)) (xt_lo l) (xt_hi l) (xt_lo r) (xt_hi r)) (23 + b) 15 = σ0 (23 + b) 15 := by rw [js_up_ni _ (by decide), js_up_ni _ (by decide)]; exact u15
            have f0 : js_up (js_up τ (23 + b) 1 (rk_lo (op_t (ρ1 83 5)) (xt_lo l) (xt_hi l) (xt_lo r) (xt_hi r))) (23 + b) 2 (rk_hi (op_t (ρ1 83 5)) (xt_lo l) (xt_hi l) (xt_lo r) (xt_hi r)) (23 + b) 0 = 0 := by rw [js_up_ni _ (by decide), js_up_ni _ (by decide), z0]; exact t0.2
            have f1 : js_up (js_up τ (23 + b) 1 (rk_lo (op_t (ρ1 83 5)) (xt_lo l) (xt_hi l) (xt_lo r) (xt_hi r))) (23 + b) 2 (rk_hi (op_t (ρ1 83 5)) (xt_lo l) (xt_hi l) (xt_lo r) (xt_hi r)) (23 + b) 1 = rk_lo (op_t (ρ1 83 5)) (xt_lo l) (xt_hi l) (xt_lo r) (xt_hi r) := by rw [js_up_ni _ (by decide), js_up_same]
            have f2 : js_up (js_up τ (23 + b) 1 (rk_lo (op_t (ρ1 83 5)) (xt_lo l) (xt_hi l) (xt_lo r) (xt_hi r))) (23 + b) 2 (rk_hi (op_t (ρ1 83 5)) (xt_lo l) (xt_hi l) (xt_lo r) (xt_hi r)) (23 + b) 2 = rk_hi (op_t (ρ1 83 5)) (xt_lo l) (xt_hi l) (xt_lo r) (xt_hi r) := js_up_same _ _ _ _
            have fO : ∀ a i : Int, ¬ (a = 23 + b ∧ (0 ≤ i ∧ i ≤ 2 ∨ i = 15)) → js_up (js_up τ (23 + b) 1 (rk_lo (op_t (ρ1 83 5)) (xt_lo l) (xt_hi l) (xt_lo r) (xt_hi r))) (23 + b) 2 (rk_hi (op_t (ρ1 83 5)) (xt_lo l) (xt_hi l) (xt_lo r) (xt_hi r)) a i = σ5 a i := fun a i h => by rw [js_up_ne _ (by omega), js_up_ne _ (by omega), uO _ _ (by omega)]
            generalize js_up (js_up τ (23 + b) 1 (rk_lo (op_t (ρ1 83 5)) (xt_lo l) (xt_hi l) (xt_lo r) (xt_hi r))) (23 + b) 2 (rk_hi (op_t (ρ1 83 5)) (xt_lo l) (xt_hi l) (xt_lo r) (xt_hi r)) = σ7 at f15 f0 f1 f2 fO ⊢
            have hz5 := xn_cz hn5 r5
            have g6 : σ7 (8 + b) 6 = σ5 (8 + b) 6 := fO _ _ (by omega)
            have g7 : σ7 (8 + b) 7 = σ5 (8 + b) 7 := fO _ _ (by omega)
            have g10 : σ7 (8 + b) 10 = σ5 (8 + b) 10 := fO _ _ (by omega)
            have hz7 : cz_R σ7 b := by unfold cz_R; rw [g6, g7]; exact hz5
            have hg7 : hg_R σ7 b := hg_ef hb (xs_hg hx5) (n := 0) (t := 0) (p := 0) (fun a i g => fO a i (fun hh => g (ef_D23 ⟨hh.1, by omega⟩)))
            have hsz : σ5 (8 + b) 6 ≤ 5000 * j5 := hn5.1.2
            have htm := hn.2.2.1
            obtain ⟨σ8, e8, hcb⟩ := c_combine (E := E) (d := d - 1) (σ := σ7) (op := op_t (ρ1 83 5)) (lo := rk_lo (op_t (ρ1 83 5)) (xt_lo l) (xt_hi l) (xt_lo r) (xt_hi r)) (hi := rk_hi (op_t (ρ1 83 5)) (xt_lo l) (xt_hi l) (xt_lo r) (xt_hi r)) hb hz7 (by omega) (by omega) (by omega) (by omega) hg7
            have y24 : σ7 (24 + b) (σ0 (23 + b) 15) = tk_m (ρ1 83 5) := by rw [fO _ _ (by omega), row5 _ (by omega) (by omega), w24, (rd_V r1).2.1]
            have y25' : σ7 (25 + b) (σ0 (23 + b) 15) = 5 := by rw [fO _ _ (by omega)]; exact z25
            have ecl : js_J E d 61 111 [(2, 23 + b), (0, x1), (0, x2), (0, 1), (0, x45), (0, lv5), (0, x65)] [] σ7 = js_J E d 61 65 [(2, 23 + b), (0, x1), (0, x2), (0, 1), (0, x45), (0, lv5), (0, x65 + 1)] [] σ8 := by
              rw [b_61_111 hb, f15, js_w_of (x := σ0 (23 + b) 15) (by omega) (by omega), if_pos (show 0 ≤ σ0 (23 + b) 15 ∧ σ0 (23 + b) 15 < 512 by omega), y25', if_pos (show 2 < js_w 5 by decide), if_neg (show ¬ js_w 5 = 6 by decide), y24, k_61_216 (by omega) (c_opOf (by rw [q]; decide)), b_61_219 hb, f1, f2, k_61_227 hb (by omega) e8, b_61_230]
            have hjn := xr_op (σ2 := σa) (ρ2 := rx_next ρ1) (ρ6 := ρ7) (ρ7 := ρ6) (σ7 := σ7) (ty := 0) hb hx hn h1 (by omega) k1 F24 v (by omega) G12 n33 n44 n10 (Nat.le_refl _) h2 fO f0 f1 f2 f15 hcb h67 hw ⟨by decide, by decide, rko.1, rko.2.1, rko.2.2⟩ ⟨by decide, fun h => absurd h (by decide)⟩ (xr_z2 h1 h2 n10 (by omega)) ⟨hop.1, by omega⟩
            have e65 : ρ6 83 5 = ρ5 83 5 := by rw [hw.2.2.2.2.2.2 _ _ (by omega) (by omega), h67 _ _ (by omega)]
            rw [ecl, hv]
            exact y_224_l hb hD hd he hS G σ0 ρ0 j0 σ8 ρ6 j5 (ρ5 83 33) lv5 x45 (x65 + 1) _ c (0, ρ1 83 6) (0, op_t (ρ1 83 5)) (by have := h2.1.2.1; omega) hJ hx hn ⟨qD, qt, ⟨q20, q21, qp⟩, qlev, qc⟩ hjn (by rw [e65]; exact hlv5) hlt5 hx45 (by omega) (by omega)
          · rw [if_neg x0] at cf hor
            obtain ⟨ρ7, h67, hbad⟩ := hor
            have k97 : ρ7 83 9 = 0 := by rw [h67 _ _ (by omega)]; exact h59
            have kx : 1 ≤ rk_x (op_t (ρ1 83 5)) (xt_lo l) (xt_hi l) (xt_lo r) (xt_hi r) ∧ rk_x (op_t (ρ1 83 5)) (xt_lo l) (xt_hi l) (xt_lo r) (xt_hi r) ≤ 15 := by
              unfold rk_x at x0 ⊢
              split
              · omega
              · split
                · omega
                · exfalso
                  rename_i a1 a2
                  rw [if_neg a1, if_neg a2] at x0
                  exact x0 rfl
            obtain ⟨hF, h9e⟩ := rx_bad_new (τ := ρ7) k97 kx.1 kx.2 hplace.1 hplace.2
            refine Or.inr ⟨ρ6, vv, ?_, ?_⟩
            · rw [hbad, r_product5F hF]
            · refine ⟨by rw [hbad]; exact hF, ?_, τ, ?_, Fτ⟩
              · rw [hbad]
                exact eg_R_trans G05 (eg_R_trans (N := ρ0 83 33) (N' := ρ0 83 33) (fun a i g1 g2 => h67 a i (by omega)) (eg_R_tf (tf_R_bad _ _ _)) (Int.le_refl _)) (Int.le_refl _)
              · rw [kt_61_108 hb (by omega) cf, hbad, h9e]
        · rw [if_neg t0] at cf hor
          obtain ⟨hF, h9e⟩ := rx_bad_new (τ := ρ5) (k := 5) (p := ρ1 83 6) h59 (by decide) (by decide) hplace.1 hplace.2
          refine Or.inr ⟨ρ6, vv, ?_, ?_⟩
          · rw [hor, r_product5F hF]
          · refine ⟨by rw [hor]; exact hF, ?_, τ, ?_, Fτ⟩
            · rw [hor]
              exact eg_R_trans G05 (eg_R_tf (tf_R_bad _ _ _)) (Int.le_refl _)
            · rw [kt_61_108 hb (by omega) cf, hor, h9e]
      · refine Or.inr ⟨ρ', 0, ?_, xf_ef F04 G02 (by omega) (by omega) (by omega) (by omega) hf⟩
        rw [k_224_76 (by omega) er, b_224_79, k_224_80 (by omega) (r_reckonedF hf.1), b_224_83, r_product5F hf.1]
    · refine Or.inl ⟨σ1, ρ1, j1, n1, lv, x4, x6, l, r_224_out t5a t5b q, rfl, h1, hlv, ?_, hx4, hx6, hx6'⟩
      have : lv ≠ 5 := by
        rw [hlv]
        unfold lv_c
        split
        · decide
        · exact q
      omega
/-- products -/
theorem y_224 {E : js_E} {b F : Int} {B : Int → Int} {X : Int → Prop} {d e : Nat} {x1 x2 D : Int} {J0 : Nat} (hb : b = 0 ∨ b = 25) (hD : 0 ≤ D ∧ D ≤ 64) (hd : 20 ≤ d) (he : 20 ≤ e) (hS : xl_P E b F B X d x1 x2 D 3 5 7 6 (fun c => c) J0 (fun ρ => js_J E (e - 1) 225 0 [(2, 83), (9, 0), (9, 0), (9, 0)] [] ρ)) : xl_P E b F B X d x1 x2 D 2 4 5 5 (fun c => c) J0 (fun ρ => js_J E e 224 0 [(2, 83), (9, 0), (9, 0), (9, 0)] [] ρ) := by
  intro σ ρ j x4 ux5 ux6 c hJ hx hn hR hq h40 h41
  have hc := hS σ ρ j x4 ux5 ux6 c hJ hx hn hR ⟨hq.1, by have := hq.2.1; omega, ⟨hq.2.2.1.1, hq.2.2.1.2.1, by have := hq.2.2.1.2.2; omega⟩, fun k g1 g2 => by have := hq.2.2.2.1 k g1 g2; omega, hq.2.2.2.2⟩ h40 h41
  show xc_P E b F B d x1 x2 5 c σ ρ j _ (js_J E e 224 0 [(2, 83), (9, 0), (9, 0), (9, 0)] [] ρ)
  rw [b_224_0]
  rcases hc with ⟨σ1, ρ1, j1, n1, lv, x4', x6, l, er, ec, h1, hlv, hlt, hx4, hx6, hx6'⟩ | ⟨ρ', vv, er, hf⟩
  · rw [k_224_1 (by omega) er, b_224_4, ec]
    exact y_224_l hb hD hd he hS 8200 σ ρ j σ1 ρ1 j1 n1 lv x4' x6 l c (9, 0) (9, 0) (by omega) hJ hx hn hq h1 hlv hlt hx4 hx6 hx6'
  · exact Or.inr ⟨ρ', vv, by rw [k_224_1 (by omega) er, b_224_4, r_product5F hf.1], hf⟩
theorem r_223_in {E : js_E} {e : Nat} {ρ : js_S} (h0 : 0 ≤ ρ 83 5) (h1 : ρ 83 5 < 3000) {n : Int} {ux2 ux3 : js_v} (h : lv_t (ρ 83 5) = 4) : js_J E e 223 5 [(2, 83), (0, n), ux2, ux3] [] ρ = js_J E e 223 46 [(2, 83), (0, n), (0, ρ 83 6), (0, op_t (ρ 83 5))] [(2, 83)] ρ := by
  have w := js_w_of (x := ρ 83 5) (by omega) (by omega)
  have ht : ρ 83 5 = 43 ∨ ρ 83 5 = 45 := by
    unfold lv_t at h
    repeat' split at h
    all_goals omega
  rw [b_223_5, w]
  rcases ht with hh | hh
  · rw [if_pos hh, b_223_23, w, if_pos hh, b_223_44, hh]
    rfl
  · rw [if_neg (show ¬ ρ 83 5 = 43 by omega), if_pos hh, b_223_23, w, if_neg (show ¬ ρ 83 5 = 43 by omega), b_223_44, hh]
    rfl
theorem r_223_out {E : js_E} {e : Nat} {ρ : js_S} (h0 : 0 ≤ ρ 83 5) (h1 : ρ 83 5 < 3000) {n : Int} {ux2 ux3 : js_v} (h : lv_t (ρ 83 5) ≠ 4) : js_J E e 223 5 [(2, 83), (0, n), ux2, ux3] [] ρ = js_r E (0, n) ρ := by
  have w := js_w_of (x := ρ 83 5) (by omega) (by omega)
  have ht : ¬ (ρ 83 5 = 43 ∨ ρ 83 5 = 45) := fun hh => h (by
    rcases hh with hh | hh <;> rw [hh] <;> decide)
  rw [b_223_5, w, if_neg (show ¬ ρ 83 5 = 43 by omega), if_neg (show ¬ ρ 83 5 = 45 by omega)]
/-- sums, from its loop on -/
theorem y_223_l {E : js_E} {b F : Int} {B : Int → Int} {X : Int → Prop} {d e : Nat} {x1 x2 D : Int} {J0 : Nat} (hb : b = 0 ∨ b = 25) (hD : 0 ≤ D ∧ D ≤ 64) (hd : 20 ≤ d) (he : 20 ≤ e) (hS : xl_P E b F B X d x1 x2 D 2 4 5 5 (fun c => c) J0 (fun ρ => js_J E (e - 1) 224 0 [(2, 83), (9, 0), (9, 0), (9, 0)] [] ρ)) : ∀ (G : Nat) (σ0 ρ0 : js_S) (j0 : Nat) (σ1 ρ1 : js_S) (j1 : Nat) (n1 lv x4 x6 : Int) (l : tr_T) (c : Bool) (ux2 ux3 : js_v), 8200 ≤ G + j1 → J0 ≤ j0 → xs_R E b F B X σ0 ρ0 → xn_R b σ0 ρ0 j0 → xq_R b x2 D 1 3 4 c σ0 ρ0 → xk_R b F B σ0 ρ0 j0 σ1 ρ1 j1 n1 l → lv = lv_c c (ρ1 83 5) → lv < 5 → 0 ≤ x4 ∧ x4 ≤ j1 → 0 ≤ x6 → x6 + σ0 (23 + b) 15 ≤ 511 → xc_P E b F B d x1 x2 4 c σ0 ρ0 j0 (js_J E d 61 65 [(2, 23 + b), (0, x1), (0, x2), (0, 1), (0, x4), (0, lv), (0, x6)] [] σ1) (js_J E e 223 5 [(2, 83), (0, n1), ux2, ux3] [] ρ1)
  | 0, σ0, ρ0, j0, σ1, ρ1, j1, n1, lv, x4, x6, l, c, ux2, ux3, hG, _, _, _, _, h1, _, _, _, _, _ => by
    have := rd_j h1.1.1
    omega
  | G + 1, σ0, ρ0, j0, σ1, ρ1, j1, n1, lv, x4, x6, l, c, ux2, ux3, hG, hJ, hx, hn, hq, h1, hlv, hlt, hx4, hx6, hx6' => by
    have r1 := h1.1.1
    have ok1 := r1.2.2.1
    have t5a := ok1.2.2.2.2.2.2.1
    have t5b := ok1.2.2.2.2.2.2.2.1
    have hj1 := rd_j r1
    have lin := lv_t_in (ρ1 83 5)
    by_cases q : lv_t (ρ1 83 5) = 4
    · have lvL : lv = 4 := by
        rw [hlv]
        unfold lv_c
        rw [if_neg (fun hh => by omega), q]
      subst lvL
      clear hlv hlt lin
      have n5 : ρ1 83 5 ≠ 1 := fun hh => by
        rw [hh] at q
        revert q
        decide
      obtain ⟨qD, qt, ⟨q20, q21, qp⟩, qlev, qc⟩ := hq
      have F01 := h1.1.2.2.2.1
      have G01 := h1.1.2.2.2.2.1
      have y15 := h1.2.2.1.1.2.2.2
      have c10 := h1.2.2.1.2.1.1
      have hn1 := xn_next hn h1
      have lev1 : ∀ k : Int, x2 ≤ k → k < σ1 (23 + b) 15 → 1 ≤ σ1 (25 + b) k ∧ σ1 (25 + b) k < 4 := fun k g1 g2 => by
        rw [F01 _ _ (by unfold ef_D; omega)]
        exact qlev k g1 (by omega)
      obtain ⟨σa, σ4, e1, k1, hR4, F24, v, v15, ⟨w24, w25, w26, w27, w28, w29⟩, wrow⟩ := y_go3 (E := E) (d := d) (x1 := x1) (x2 := x2) (x4 := x4) (x6 := x6) (lv := 4) hb r1 hn1 (by omega) (by omega) (by decide) (by decide) n5 (by omega) q20 (by omega) hx6 (by omega) hx4.1 hx4.2 lev1
      have F1a : ef_R b (σ1 (8 + b) 6) (σ1 (8 + b) 10) (σ1 (23 + b) 15) σ1 σa := ef_R_kp k1 (Int.le_refl _) (Int.le_refl _)
      have F14 : ef_R b (σ1 (8 + b) 6) (σ1 (8 + b) 10) (σ1 (23 + b) 15) σ1 σ4 := ef_R_trans F1a (ef_R_mono F24 (by omega) (by omega) (by omega))
      have c6 := h1.2.2.1.2.1.2.1
      have ll := xt_ln_0 l
      have F04 : ef_R b (σ0 (8 + b) 6) (σ0 (8 + b) 10) (σ0 (23 + b) 15) σ0 σ4 := ef_R_trans F01 (ef_R_mono F14 (by omega) (by omega) (by omega))
      have tz := tf_R_next ρ1
      have G12 : eg_R (ρ1 83 33) ρ1 (rx_next ρ1) := eg_R_tf tz
      have n33 : rx_next ρ1 83 33 = ρ1 83 33 := tz _ _ (by omega)
      have n44 : rx_next ρ1 83 44 = ρ1 83 44 := tz _ _ (by omega)
      have n10 : rx_next ρ1 83 10 = ρ1 83 10 := tz _ _ (by omega)
      have m1 := h1.1.2.2.2.2.2.1
      have G02 : eg_R (ρ0 83 33) ρ0 (rx_next ρ1) := eg_R_trans G01 G12 m1
      have k10 := k1.1.1
      have k6 := k1.2.1
      have v6 := v 6 (by decide) (by decide)
      have v10 := v 10 (by decide) (by decide)
      have hx4' := xs_R_ef hb hx F04 G02
      have hn4 : xn_R b σ4 (rx_next ρ1) (j1 + 1) := by
        have a7 := k1.2.2.1
        have a11 := k1.1.2.1
        have a12 : σa (8 + b) 12 = σ1 (8 + b) 12 := k1.2.2.2.2 _ _ (by omega) (by omega) (by omega)
        have v7 := v 7 (by decide) (by decide)
        have v11 := v 11 (by decide) (by decide)
        have v12 := v 12 (by decide) (by decide)
        unfold xn_R at hn1 ⊢
        push_cast
        omega
      have hq4 : xq_R b x2 D 2 4 5 c σ4 (rx_next ρ1) := by
        refine ⟨by rw [n10, h1.1.2.2.1]; exact qD, by omega, ⟨q20, by omega, by omega⟩, fun k g1 g2 => ?_, ?_⟩
        · by_cases qk : k = σ1 (23 + b) 15
          · rw [qk, w25]
            decide
          · rw [wrow _ _ (by omega) (by omega) (by omega)]
            have := lev1 k g1 (by omega)
            omega
        · exact rc_push qc rfl (by omega) (fun k g1 g2 => by rw [wrow _ _ (by omega) (by omega) (by omega), F01 _ _ (by unfold ef_D; omega)]) (by rw [← y15, w25]; decide)
      have hc := hS σ4 (rx_next ρ1) (j1 + 1) (x4 + 1) (0, 4) (0, x6) c (by have := h1.1.2.1; omega) hx4' hn4 hR4 hq4 (by omega) (by push_cast; omega)
      rw [r_223_in t5a t5b q, k_223_46 (by omega) (r_next' ok1 (by omega)), b_223_49, e1]
      have hop : 6 ≤ op_t (ρ1 83 5) ∧ op_t (ρ1 83 5) ≤ 10 := by
        have ht : ρ1 83 5 = 43 ∨ ρ1 83 5 = 45 := by
          unfold lv_t at q
          repeat' split at q
          all_goals omega
        rcases ht with hh | hh <;> rw [hh] <;> decide
      have htk : ρ1 83 5 = 43 ∨ ρ1 83 5 = 45 ∨ ρ1 83 5 = 42 ∨ ρ1 83 5 = 47 ∨ ρ1 83 5 = 37 := by
        unfold lv_t at q
        repeat' split at q
        all_goals omega
      have hplace : 0 ≤ ρ1 83 6 ∧ ρ1 83 6 < 100000 := by
        have a1 := ok1.2.2.2.1
        have a2 := ok1.2.2.2.2.1
        have a3 := ok1.2.2.2.2.2.1
        have a4 := ok1.1.2.1
        omega
      rcases hc with ⟨σ5, ρ5, j5, n2, lv5, x45, x65, r, er, ec, h2, hlv5, hlt5, hx45, hx65, hx65'⟩ | ⟨ρ', vv, er, hf⟩
      · rw [k_223_53 (by omega) er, b_223_56, ec]
        have F45 := h2.1.2.2.2.1
        have d15 := h2.2.2.1.1.2.2.2
        have d10 := h2.2.2.1.2.1.1
        have d6 := h2.2.2.1.2.1.2.1
        have lr := xt_ln_0 r
        have r5 := h2.1.1
        have ok5 := r5.2.2.1
        have hj5 := rd_j r5
        have l5 : 0 ≤ lv5 := by rw [hlv5]; exact (lv_c_in c (ρ5 83 5)).1
        have p5 : σ5 (23 + b) 15 = σ0 (23 + b) 15 + 1 := by omega
        have row5 : ∀ a : Int, 24 + b ≤ a → a ≤ 30 + b → σ5 a (σ0 (23 + b) 15) = σ4 a (σ0 (23 + b) 15) := fun a g1 g2 => F45 _ _ (by unfold ef_D; omega)
        rw [y15] at w24 w25 w26 w27 w28 w29
        have z25 : σ5 (25 + b) (σ0 (23 + b) 15) = 4 := by rw [row5 _ (by omega) (by omega)]; exact w25
        rw [c_pop hb p5 q20 q21 (by omega) hx65 (by omega) (by rw [z25]; decide) l5 (by rw [z25]; omega)]
        -- the class's store with the operator taken out
        have u15 : js_up σ5 (23 + b) 15 (σ0 (23 + b) 15) (23 + b) 15 = σ0 (23 + b) 15 := js_up_same _ _ _ _
        have uO : ∀ a i : Int, ¬ (a = 23 + b ∧ i = 15) → js_up σ5 (23 + b) 15 (σ0 (23 + b) 15) a i = σ5 a i := fun a i h => js_up_ne _ h
        have hx5 : xs_R E b F B X σ5 ρ5 := xs_R_ef hb hx4' F45 h2.1.2.2.2.2.1
        have hn5 := xn_next hn4 h2
        generalize js_up σ5 (23 + b) 15 (σ0 (23 + b) 15) = τ at u15 uO ⊢
        have yl := h1.2.2.2.2.2.2.1
        have yr := h2.2.2.2.2.2.2.1
        have c0 := h1.2.2.1.1.1
        have c1 := h1.2.2.1.1.2.1
        have c2 := h1.2.2.1.1.2.2.1
        have d0 := h2.2.2.1.1.1
        have d1 := h2.2.2.1.1.2.1
        have d2 := h2.2.2.1.1.2.2.1
        have z24 : τ (24 + b) (τ (23 + b) 15) = ρ1 83 5 := by
          rw [u15, uO _ _ (by omega), row5 _ (by omega) (by omega), w24, (rd_V r1).2.1]
          rcases htk with h | h | h | h | h <;> rw [h] <;> decide
        have y25 : τ (25 + b) (τ (23 + b) 15) = 4 := by rw [u15, uO _ _ (by omega)]; exact z25
        have z26 : τ (26 + b) (τ (23 + b) 15) = ρ1 83 6 := by rw [u15, uO _ _ (by omega), row5 _ (by omega) (by omega), w26, (rd_V r1).2.2]
        have z27 : τ (27 + b) (τ (23 + b) 15) = xt_ty l := by rw [u15, uO _ _ (by omega), row5 _ (by omega) (by omega), w27, c0]
        have z28 : τ (28 + b) (τ (23 + b) 15) = xt_lo l := by rw [u15, uO _ _ (by omega), row5 _ (by omega) (by omega), w28, c1]
        have z29 : τ (29 + b) (τ (23 + b) 15) = xt_hi l := by rw [u15, uO _ _ (by omega), row5 _ (by omega) (by omega), w29, c2]
        have z0 : τ (23 + b) 0 = xt_ty r := by rw [uO _ _ (by omega)]; exact d0
        have z1 : τ (23 + b) 1 = xt_lo r := by rw [uO _ _ (by omega)]; exact d1
        have z2 : τ (23 + b) 2 = xt_hi r := by rw [uO _ _ (by omega)]; exact d2
        have cxn : cx_n τ := ⟨by rw [uO _ _ (by omega)]; exact hx5.1.2.2.1.1, by rw [uO _ _ (by omega)]; exact hx5.1.2.2.1.2⟩
        have cf := c_fin45 (E := E) (d := d - 1) (σ := τ) (t := ρ1 83 5) hb cxn (by omega) (by omega) (by omega) htk z24 (by omega) (by omega) (by omega) (by omega) (by omega)
        rw [z26, z27, z28, z29, z0, z1, z2] at cf
        -- the reference's
        have nd1 := xt_nd_in h1.2.2.2.1 h1.2.2.2.2.1.1
        have nd2 := xt_nd_in h2.2.2.2.1 h2.2.2.2.2.1.1
        have G25 := h2.1.2.2.2.2.1
        have ndn : ∀ a : Int, 100 ≤ a → a ≤ 106 → ρ5 a n1 = ρ1 a n1 := fun a g1 g2 => by rw [G25 _ _ (by omega) (by omega), G12 _ _ (by omega) (by omega)]
        have m5 := h2.1.2.2.2.2.2.1
        have m5' := h2.1.2.2.2.2.2.2
        have m1' := h1.1.2.2.2.2.2.2
        have hnodes := hn.2.2.2.2.1
        obtain ⟨vv, ρ6, e6, hor⟩ := r_reckoned (E := E) (e := e - 1) (ρ := ρ5) (op := op_t (ρ1 83 5)) (l := n1) (r := n2) (p := ρ1 83 6) ok5.2.2.1 (by omega) (by omega) (by omega) hop.1 hop.2 hplace.1 hplace.2 nd1.1 (by omega) nd2.1 (by omega) (by rw [ndn _ (by decide) (by decide), nd1.2.2.1]; omega) (by rw [nd2.2.2.1]; omega) (by rw [ndn _ (by decide) (by decide), nd1.2.2.2.1]; omega) (by rw [ndn _ (by decide) (by decide), nd1.2.2.2.1]; omega) (by rw [ndn _ (by decide) (by decide), nd1.2.2.2.2]; omega) (by rw [ndn _ (by decide) (by decide), nd1.2.2.2.2]; omega) (by rw [nd2.2.2.2.1]; omega) (by rw [nd2.2.2.2.1]; omega) (by rw [nd2.2.2.2.2]; omega) (by rw [nd2.2.2.2.2]; omega) (by rw [nd2.2.2.2.1, nd2.2.2.2.2]; omega)
        rw [ndn _ (by decide) (by decide), ndn _ (by decide) (by decide), ndn _ (by decide) (by decide), nd1.2.2.1, nd1.2.2.2.1, nd1.2.2.2.2, nd2.2.2.1, nd2.2.2.2.1, nd2.2.2.2.2] at hor
        rw [k_223_57 (by omega) e6, b_223_60]
        have Fτ : ef_R b (σ0 (8 + b) 6) (σ0 (8 + b) 10) (σ0 (23 + b) 15) σ0 τ := ef_R_trans F04 (ef_R_trans (ef_R_mono F45 (by omega) (by omega) (by omega)) (fun a i g => uO a i (fun hh => g (ef_D23 ⟨hh.1, Or.inr hh.2⟩))))
        have G05 : eg_R (ρ0 83 33) ρ0 ρ5 := eg_R_trans G02 G25 (by omega)
        have h59 : ρ5 83 9 = 0 := ok5.2.2.1
        by_cases t0 : xt_ty l = 0 ∧ xt_ty r = 0
        · rw [if_pos t0] at cf hor
          by_cases x0 : rk_x (op_t (ρ1 83 5)) (xt_lo l) (xt_hi l) (xt_lo r) (xt_hi r) = 0
          · rw [if_pos x0] at cf hor
            obtain ⟨hv, ρ7, h67, hw⟩ := hor
            have rko := rk_ok x0 hop.2
            rw [k_61_108 hb (by omega) cf]
            have f15 : js_up (js_up τ (23 + b) 1 (rk_lo (op_t (ρ1 83 5)) (xt_lo l) (xt_hi l) (xt_lo r) (xt_hi r))) (23 + b) 2 (rk_hi (op_t (ρ1 83 5)) (xt_lo l) (xt_hi l) (xt_lo r) (xt_hi r)) (23 + b) 15 = σ0 (23 + b) 15 := by rw [js_up_ni _ (by decide), js_up_ni _ (by decide)]; exact u15
            have f0 : js_up (js_up τ (23 + b) 1 (rk_lo (op_t (ρ1 83 5)) (xt_lo l) (xt_hi l) (xt_lo r) (xt_hi r))) (23 + b) 2 (rk_hi (op_t (ρ1 83 5)) (xt_lo l) (xt_hi l) (xt_lo r) (xt_hi r)) (23 + b) 0 = 0 := by rw [js_up_ni _ (by decide), js_up_ni _ (by decide), z0]; exact t0.2
            have f1 : js_up (js_up τ (23 + b) 1 (rk_lo (op_t (ρ1 83 5)) (xt_lo l) (xt_hi l) (xt_lo r) (xt_hi r))) (23 + b) 2 (rk_hi (op_t (ρ1 83 5)) (xt_lo l) (xt_hi l) (xt_lo r) (xt_hi r)) (23 + b) 1 = rk_lo (op_t (ρ1 83 5)) (xt_lo l) (xt_hi l) (xt_lo r) (xt_hi r) := by rw [js_up_ni _ (by decide), js_up_same]
            have f2 : js_up (js_up τ (23 + b) 1 (rk_lo (op_t (ρ1 83 5)) (xt_lo l) (xt_hi l) (xt_lo r) (xt_hi r))) (23 + b) 2 (rk_hi (op_t (ρ1 83 5)) (xt_lo l) (xt_hi l) (xt_lo r) (xt_hi r)) (23 + b) 2 = rk_hi (op_t (ρ1 83 5)) (xt_lo l) (xt_hi l) (xt_lo r) (xt_hi r) := js_up_same _ _ _ _
            have fO : ∀ a i : Int, ¬ (a = 23 + b ∧ (0 ≤ i ∧ i ≤ 2 ∨ i = 15)) → js_up (js_up τ (23 + b) 1 (rk_lo (op_t (ρ1 83 5)) (xt_lo l) (xt_hi l) (xt_lo r) (xt_hi r))) (23 + b) 2 (rk_hi (op_t (ρ1 83 5)) (xt_lo l) (xt_hi l) (xt_lo r) (xt_hi r)) a i = σ5 a i := fun a i h => by rw [js_up_ne _ (by omega), js_up_ne _ (by omega), uO _ _ (by omega)]
            generalize js_up (js_up τ (23 + b) 1 (rk_lo (op_t (ρ1 83 5)) (xt_lo l) (xt_hi l) (xt_lo r) (xt_hi r))) (23 + b) 2 (rk_hi (op_t (ρ1 83 5)) (xt_lo l) (xt_hi l) (xt_lo r) (xt_hi r)) = σ7 at f15 f0 f1 f2 fO ⊢
            have hz5 := xn_cz hn5 r5
            have g6 : σ7 (8 + b) 6 = σ5 (8 + b) 6 := fO _ _ (by omega)
            have g7 : σ7 (8 + b) 7 = σ5 (8 + b) 7 := fO _ _ (by omega)
            have g10 : σ7 (8 + b) 10 = σ5 (8 + b) 10 := fO _ _ (by omega)
            have hz7 : cz_R σ7 b := by unfold cz_R; rw [g6, g7]; exact hz5
            have hg7 : hg_R σ7 b := hg_ef hb (xs_hg hx5) (n := 0) (t := 0) (p := 0) (fun a i g => fO a i (fun hh => g (ef_D23 ⟨hh.1, by omega⟩)))
            have hsz : σ5 (8 + b) 6 ≤ 5000 * j5 := hn5.1.2
            have htm := hn.2.2.1
            obtain ⟨σ8, e8, hcb⟩ := c_combine (E := E) (d := d - 1) (σ := σ7) (op := op_t (ρ1 83 5)) (lo := rk_lo (op_t (ρ1 83 5)) (xt_lo l) (xt_hi l) (xt_lo r) (xt_hi r)) (hi := rk_hi (op_t (ρ1 83 5)) (xt_lo l) (xt_hi l) (xt_lo r) (xt_hi r)) hb hz7 (by omega) (by omega) (by omega) (by omega) hg7
            have y24 : σ7 (24 + b) (σ0 (23 + b) 15) = tk_m (ρ1 83 5) := by rw [fO _ _ (by omega), row5 _ (by omega) (by omega), w24, (rd_V r1).2.1]
            have y25' : σ7 (25 + b) (σ0 (23 + b) 15) = 4 := by rw [fO _ _ (by omega)]; exact z25
            have ecl : js_J E d 61 111 [(2, 23 + b), (0, x1), (0, x2), (0, 1), (0, x45), (0, lv5), (0, x65)] [] σ7 = js_J E d 61 65 [(2, 23 + b), (0, x1), (0, x2), (0, 1), (0, x45), (0, lv5), (0, x65 + 1)] [] σ8 := by
              rw [b_61_111 hb, f15, js_w_of (x := σ0 (23 + b) 15) (by omega) (by omega), if_pos (show 0 ≤ σ0 (23 + b) 15 ∧ σ0 (23 + b) 15 < 512 by omega), y25', if_pos (show 2 < js_w 4 by decide), if_neg (show ¬ js_w 4 = 6 by decide), y24, k_61_216 (by omega) (c_opOf (by rw [q]; decide)), b_61_219 hb, f1, f2, k_61_227 hb (by omega) e8, b_61_230]
            have hjn := xr_op (σ2 := σa) (ρ2 := rx_next ρ1) (ρ6 := ρ7) (ρ7 := ρ6) (σ7 := σ7) (ty := 0) hb hx hn h1 (by omega) k1 F24 v (by omega) G12 n33 n44 n10 (Nat.le_refl _) h2 fO f0 f1 f2 f15 hcb h67 hw ⟨by decide, by decide, rko.1, rko.2.1, rko.2.2⟩ ⟨by decide, fun h => absurd h (by decide)⟩ (xr_z2 h1 h2 n10 (by omega)) ⟨hop.1, by omega⟩
            have e65 : ρ6 83 5 = ρ5 83 5 := by rw [hw.2.2.2.2.2.2 _ _ (by omega) (by omega), h67 _ _ (by omega)]
            rw [ecl, hv]
            exact y_223_l hb hD hd he hS G σ0 ρ0 j0 σ8 ρ6 j5 (ρ5 83 33) lv5 x45 (x65 + 1) _ c (0, ρ1 83 6) (0, op_t (ρ1 83 5)) (by have := h2.1.2.1; omega) hJ hx hn ⟨qD, qt, ⟨q20, q21, qp⟩, qlev, qc⟩ hjn (by rw [e65]; exact hlv5) hlt5 hx45 (by omega) (by omega)
          · rw [if_neg x0] at cf hor
            obtain ⟨ρ7, h67, hbad⟩ := hor
            have k97 : ρ7 83 9 = 0 := by rw [h67 _ _ (by omega)]; exact h59
            have kx : 1 ≤ rk_x (op_t (ρ1 83 5)) (xt_lo l) (xt_hi l) (xt_lo r) (xt_hi r) ∧ rk_x (op_t (ρ1 83 5)) (xt_lo l) (xt_hi l) (xt_lo r) (xt_hi r) ≤ 15 := by
              unfold rk_x at x0 ⊢
              split
              · omega
              · split
                · omega
                · exfalso
                  rename_i a1 a2
                  rw [if_neg a1, if_neg a2] at x0
                  exact x0 rfl
            obtain ⟨hF, h9e⟩ := rx_bad_new (τ := ρ7) k97 kx.1 kx.2 hplace.1 hplace.2
            refine Or.inr ⟨ρ6, vv, ?_, ?_⟩
            · rw [hbad, r_sum5F hF]
            · refine ⟨by rw [hbad]; exact hF, ?_, τ, ?_, Fτ⟩
              · rw [hbad]
                exact eg_R_trans G05 (eg_R_trans (N := ρ0 83 33) (N' := ρ0 83 33) (fun a i g1 g2 => h67 a i (by omega)) (eg_R_tf (tf_R_bad _ _ _)) (Int.le_refl _)) (Int.le_refl _)
              · rw [kt_61_108 hb (by omega) cf, hbad, h9e]
        · rw [if_neg t0] at cf hor
          obtain ⟨hF, h9e⟩ := rx_bad_new (τ := ρ5) (k := 5) (p := ρ1 83 6) h59 (by decide) (by decide) hplace.1 hplace.2
          refine Or.inr ⟨ρ6, vv, ?_, ?_⟩
          · rw [hor, r_sum5F hF]
          · refine ⟨by rw [hor]; exact hF, ?_, τ, ?_, Fτ⟩
            · rw [hor]
              exact eg_R_trans G05 (eg_R_tf (tf_R_bad _ _ _)) (Int.le_refl _)
            · rw [kt_61_108 hb (by omega) cf, hor, h9e]
      · refine Or.inr ⟨ρ', 0, ?_, xf_ef F04 G02 (by omega) (by omega) (by omega) (by omega) hf⟩
        rw [k_223_53 (by omega) er, b_223_56, k_223_57 (by omega) (r_reckonedF hf.1), b_223_60, r_sum5F hf.1]
    · refine Or.inl ⟨σ1, ρ1, j1, n1, lv, x4, x6, l, r_223_out t5a t5b q, rfl, h1, hlv, ?_, hx4, hx6, hx6'⟩
      have : lv ≠ 4 := by
        rw [hlv]
        unfold lv_c
        split
        · decide
        · exact q
      omega
/-- sums -/
theorem y_223 {E : js_E} {b F : Int} {B : Int → Int} {X : Int → Prop} {d e : Nat} {x1 x2 D : Int} {J0 : Nat} (hb : b = 0 ∨ b = 25) (hD : 0 ≤ D ∧ D ≤ 64) (hd : 20 ≤ d) (he : 20 ≤ e) (hS : xl_P E b F B X d x1 x2 D 2 4 5 5 (fun c => c) J0 (fun ρ => js_J E (e - 1) 224 0 [(2, 83), (9, 0), (9, 0), (9, 0)] [] ρ)) : xl_P E b F B X d x1 x2 D 1 3 4 4 (fun c => c) J0 (fun ρ => js_J E e 223 0 [(2, 83), (9, 0), (9, 0), (9, 0)] [] ρ) := by
  intro σ ρ j x4 ux5 ux6 c hJ hx hn hR hq h40 h41
  have hc := hS σ ρ j x4 ux5 ux6 c hJ hx hn hR ⟨hq.1, by have := hq.2.1; omega, ⟨hq.2.2.1.1, hq.2.2.1.2.1, by have := hq.2.2.1.2.2; omega⟩, fun k g1 g2 => by have := hq.2.2.2.1 k g1 g2; omega, hq.2.2.2.2⟩ h40 h41
  show xc_P E b F B d x1 x2 4 c σ ρ j _ (js_J E e 223 0 [(2, 83), (9, 0), (9, 0), (9, 0)] [] ρ)
  rw [b_223_0]
  rcases hc with ⟨σ1, ρ1, j1, n1, lv, x4', x6, l, er, ec, h1, hlv, hlt, hx4, hx6, hx6'⟩ | ⟨ρ', vv, er, hf⟩
  · rw [k_223_1 (by omega) er, b_223_4, ec]
    exact y_223_l hb hD hd he hS 8200 σ ρ j σ1 ρ1 j1 n1 lv x4' x6 l c (9, 0) (9, 0) (by omega) hJ hx hn hq h1 hlv hlt hx4 hx6 hx6'
  · exact Or.inr ⟨ρ', vv, by rw [k_223_1 (by omega) er, b_223_4, r_sum5F hf.1], hf⟩
