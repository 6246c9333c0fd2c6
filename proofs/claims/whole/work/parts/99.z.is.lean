/-! part 99.z: comparisons in step -/
theorem r_222_in {E : js_E} {e : Nat} {ρ : js_S} (h0 : 0 ≤ ρ 83 5) (h1 : ρ 83 5 < 3000) {n : Int} (h : lv_t (ρ 83 5) = 3) : js_J E e 222 4 [(2, 83), (9, 0), (9, 0), (9, 0), (9, 0)] [(0, n)] ρ = js_J E e 222 107 [(2, 83), (0, n), (0, op_t (ρ 83 5)), (0, ρ 83 6), (9, 0)] [(2, 83)] ρ := by
  have w := js_w_of (x := ρ 83 5) (by omega) (by omega)
  have ht : ρ 83 5 = 60 ∨ ρ 83 5 = 201 ∨ ρ 83 5 = 62 ∨ ρ 83 5 = 202 ∨ ρ 83 5 = 203 ∨ ρ 83 5 = 204 := by
    unfold lv_t at h
    repeat' split at h
    all_goals omega
  have n1 : ∀ k : Int, ρ 83 5 ≠ k → ¬ ρ 83 5 = k := fun k hk => hk
  rw [b_222_4, w]
  rcases ht with hh | hh | hh | hh | hh | hh
  · rw [if_pos hh, b_222_94, if_neg (show ¬ js_w 13 < 0 by decide), hh]; rfl
  · rw [if_neg (show ¬ ρ 83 5 = 60 by omega), if_pos hh, b_222_94, if_neg (show ¬ js_w 14 < 0 by decide), hh]; rfl
  · rw [if_neg (show ¬ ρ 83 5 = 60 by omega), if_neg (show ¬ ρ 83 5 = 201 by omega), if_pos hh, b_222_94, if_neg (show ¬ js_w 15 < 0 by decide), hh]; rfl
  · rw [if_neg (show ¬ ρ 83 5 = 60 by omega), if_neg (show ¬ ρ 83 5 = 201 by omega), if_neg (show ¬ ρ 83 5 = 62 by omega), if_pos hh, b_222_94, if_neg (show ¬ js_w 16 < 0 by decide), hh]; rfl
  · rw [if_neg (show ¬ ρ 83 5 = 60 by omega), if_neg (show ¬ ρ 83 5 = 201 by omega), if_neg (show ¬ ρ 83 5 = 62 by omega), if_neg (show ¬ ρ 83 5 = 202 by omega), if_pos hh, b_222_94, if_neg (show ¬ js_w 17 < 0 by decide), hh]; rfl
  · rw [if_neg (show ¬ ρ 83 5 = 60 by omega), if_neg (show ¬ ρ 83 5 = 201 by omega), if_neg (show ¬ ρ 83 5 = 62 by omega), if_neg (show ¬ ρ 83 5 = 202 by omega), if_neg (show ¬ ρ 83 5 = 203 by omega), if_pos hh, b_222_94, if_neg (show ¬ js_w 18 < 0 by decide), hh]; rfl
theorem r_222_out {E : js_E} {e : Nat} {ρ : js_S} (h0 : 0 ≤ ρ 83 5) (h1 : ρ 83 5 < 3000) {n : Int} (h : lv_t (ρ 83 5) ≠ 3) : js_J E e 222 4 [(2, 83), (9, 0), (9, 0), (9, 0), (9, 0)] [(0, n)] ρ = js_r E (0, n) ρ := by
  have w := js_w_of (x := ρ 83 5) (by omega) (by omega)
  have ht : ¬ (ρ 83 5 = 60 ∨ ρ 83 5 = 201 ∨ ρ 83 5 = 62 ∨ ρ 83 5 = 202 ∨ ρ 83 5 = 203 ∨ ρ 83 5 = 204) := fun hh => h (by
    rcases hh with hh | hh | hh | hh | hh | hh <;> rw [hh] <;> decide)
  rw [b_222_4, w, if_neg (show ¬ ρ 83 5 = 60 by omega), if_neg (show ¬ ρ 83 5 = 201 by omega), if_neg (show ¬ ρ 83 5 = 62 by omega), if_neg (show ¬ ρ 83 5 = 202 by omega), if_neg (show ¬ ρ 83 5 = 203 by omega), if_neg (show ¬ ρ 83 5 = 204 by omega), b_222_94, if_pos (show js_w (-1) < 0 by decide)]
/-- the end of a comparison in the reference -/
theorem r_is_end {E : js_E} {e : Nat} {ρ : js_S} (h9 : ρ 83 9 = 0) (he : 3 ≤ e) (n0 : 0 ≤ ρ 83 33) (n1 : ρ 83 33 < 66000) {op l r p : Int} (hop : 13 ≤ op) (hop2 : op ≤ 18) (hp0 : 0 ≤ p) (hp1 : p < 100000) (l0 : 0 ≤ l) (l1 : l < 66000) (r0 : 0 ≤ r) (r1 : r < 66000) (tl : 0 ≤ ρ 101 l ∧ ρ 101 l < 1000) (tr : 0 ≤ ρ 101 r ∧ ρ 101 r < 1000) (t2 : ρ 101 l ≠ 2) : ∃ (v : Int) (ρ' : js_S), js_J E e 222 114 [(2, 83), (0, l), (0, op), (0, p), (9, 0)] [(0, r)] ρ = js_r E (0, v) ρ' ∧ (if ρ 101 l = ρ 101 r ∧ (17 ≤ op ∨ ρ 101 r = 0) then v = ρ 83 33 ∧ nw_R ρ ρ' 4 1 0 1 l r op else ρ' = rx_bad ρ 5 p) := by
  have wl := js_w_of (x := l) (by omega) (by omega)
  have wr := js_w_of (x := r) (by omega) (by omega)
  have wtl := js_w_of (x := ρ 101 l) (by omega) (by omega)
  have wtr := js_w_of (x := ρ 101 r) (by omega) (by omega)
  have wo := js_w_of (x := op) (by omega) (by omega)
  have hF := (rx_bad_new (τ := ρ) (k := 5) (p := p) h9 (by decide) (by decide) hp0 hp1).1
  have bad : js_J E e 222 166 [(2, 83), (0, l), (0, op), (0, p), (0, r)] [] ρ = js_r E (0, 0) (rx_bad ρ 5 p) := by
    rw [b_222_166, k_222_169 (by omega) (r_bad (by omega) (by omega)), b_222_172, k_222_181 (by omega) (r_nodeF hF), b_222_184]
  obtain ⟨ρ', e2, hw⟩ := r_node (E := E) (e := e - 1) (ρ := ρ) (k := 4) (ty := 1) (lo := 0) (hi := 1) (a := l) (b := r) (c := op) h9 n0 n1 (by decide) (by decide)
  have good : js_J E e 222 156 [(2, 83), (0, l), (0, op), (0, p), (0, r)] [] ρ = js_r E (0, ρ 83 33) ρ' := by
    rw [b_222_156, wl, if_pos ⟨l0, l1⟩, wtl, if_neg t2, b_222_172, k_222_181 (by omega) e2, b_222_184]
  rw [b_222_114, h9, if_neg (show ¬ 0 < js_w 0 by decide), wl, wr, if_pos ⟨l0, l1⟩, if_pos ⟨r0, r1⟩, wtl, wtr, wo]
  by_cases q1 : ρ 101 l = ρ 101 r
  · rw [if_pos q1]
    by_cases q2 : op < 17
    · rw [if_pos q2]
      by_cases q3 : ρ 101 l = 0
      · rw [if_pos q3, good]
        refine ⟨_, _, rfl, ?_⟩
        rw [if_pos (show ρ 101 l = ρ 101 r ∧ (17 ≤ op ∨ ρ 101 r = 0) from ⟨q1, Or.inr (by omega)⟩)]
        exact ⟨rfl, hw⟩
      · rw [if_neg q3, bad]
        refine ⟨_, _, rfl, ?_⟩
        rw [if_neg (show ¬ (ρ 101 l = ρ 101 r ∧ (17 ≤ op ∨ ρ 101 r = 0)) from fun hh => hh.2.elim (fun h => by omega) (fun h => q3 (by omega)))]
    · rw [if_neg q2, good]
      refine ⟨_, _, rfl, ?_⟩
      rw [if_pos (show ρ 101 l = ρ 101 r ∧ (17 ≤ op ∨ ρ 101 r = 0) from ⟨q1, Or.inl (by omega)⟩)]
      exact ⟨rfl, hw⟩
  · rw [if_neg q1, bad]
    refine ⟨_, _, rfl, ?_⟩
    rw [if_neg (show ¬ (ρ 101 l = ρ 101 r ∧ (17 ≤ op ∨ ρ 101 r = 0)) from fun hh => q1 hh.1)]
/-- comparisons -/
theorem y_222 {E : js_E} {b F : Int} {B : Int → Int} {X : Int → Prop} {d e : Nat} {x1 x2 D : Int} {J0 : Nat} (hb : b = 0 ∨ b = 25) (hD : 0 ≤ D ∧ D ≤ 64) (hd : 20 ≤ d) (he : 20 ≤ e) (hS : xl_P E b F B X d x1 x2 D 1 3 4 4 (fun c => c) J0 (fun ρ => js_J E (e - 1) 223 0 [(2, 83), (9, 0), (9, 0), (9, 0)] [] ρ)) : xl_P E b F B X d x1 x2 D 0 2 3 3 (fun _ => true) J0 (fun ρ => js_J E e 222 0 [(2, 83), (9, 0), (9, 0), (9, 0), (9, 0)] [] ρ) := by
  intro σ0 ρ0 j0 x40 ux5 ux6 c hJ hx hn hR0 hq h40 h41
  have hc0 := hS σ0 ρ0 j0 x40 ux5 ux6 c hJ hx hn hR0 ⟨hq.1, by have := hq.2.1; omega, ⟨hq.2.2.1.1, hq.2.2.1.2.1, by have := hq.2.2.1.2.2; omega⟩, fun k g1 g2 => by have := hq.2.2.2.1 k g1 g2; omega, hq.2.2.2.2⟩ h40 h41
  show xc_P E b F B d x1 x2 3 true σ0 ρ0 j0 _ (js_J E e 222 0 [(2, 83), (9, 0), (9, 0), (9, 0), (9, 0)] [] ρ0)
  have cf0 : c = false := by
    have h5 := hq.2.2.2.2
    have h4 := hq.2.2.2.1
    cases c
    · rfl
    · exfalso
      obtain ⟨k, g1, g2, g3⟩ := (show true = true ↔ _ from h5).mp rfl
      have := h4 k g1 g2
      omega
  subst cf0
  rw [b_222_0]
  rcases hc0 with ⟨σ1, ρ1, j1, n1, lv, x4, x6, l, er1, ec1, h1, hlv, hlt, hx4, hx6, hx6'⟩ | ⟨ρ', vv, er, hf⟩
  · rw [k_222_1 (by omega) er1, ec1]
    have r1 := h1.1.1
    have ok1 := r1.2.2.1
    have t5a := ok1.2.2.2.2.2.2.1
    have t5b := ok1.2.2.2.2.2.2.2.1
    have hj1 := rd_j r1
    have lvt : lv = lv_t (ρ1 83 5) := by
      rw [hlv]
      unfold lv_c
      rw [if_neg (fun hh => absurd hh.1 (by decide))]
    have lin := lv_t_in (ρ1 83 5)
    clear hlv
    by_cases q : lv_t (ρ1 83 5) = 3
    · have lvL : lv = 3 := by omega
      subst lvL
      clear lvt hlt lin
      have n5 : ρ1 83 5 ≠ 1 := fun hh => by
        rw [hh] at q
        revert q
        decide
      obtain ⟨qD, qt, ⟨q20, q21, qp⟩, qlev, qc⟩ := hq
      have F01 := h1.1.2.2.2.1
      have G01 := h1.1.2.2.2.2.1
      have y15 := h1.2.2.1.1.2.2.2
      have c10 := h1.2.2.1.2.1.1
      have hn1 := xn_next hn h1
      have lev1 : ∀ k : Int, x2 ≤ k → k < σ1 (23 + b) 15 → 1 ≤ σ1 (25 + b) k ∧ σ1 (25 + b) k < 3 := fun k g1 g2 => by
        rw [F01 _ _ (by unfold ef_D; omega)]
        exact qlev k g1 (by omega)
      obtain ⟨σa, σ4, e1, k1, hR4, F24, v, v15, ⟨w24, w25, w26, w27, w28, w29⟩, wrow⟩ := y_go3 (E := E) (d := d) (x1 := x1) (x2 := x2) (x4 := x4) (x6 := x6) (lv := 3) hb r1 hn1 (by omega) (by omega) (by decide) (by decide) n5 (by omega) q20 (by omega) hx6 (by omega) hx4.1 hx4.2 lev1
      have F1a : ef_R b (σ1 (8 + b) 6) (σ1 (8 + b) 10) (σ1 (23 + b) 15) σ1 σa := ef_R_kp k1 (Int.le_refl _) (Int.le_refl _)
      have F14 : ef_R b (σ1 (8 + b) 6) (σ1 (8 + b) 10) (σ1 (23 + b) 15) σ1 σ4 := ef_R_trans F1a (ef_R_mono F24 (by omega) (by omega) (by omega))
      have c6 := h1.2.2.1.2.1.2.1
      have ll := xt_ln_0 l
      have F04 : ef_R b (σ0 (8 + b) 6) (σ0 (8 + b) 10) (σ0 (23 + b) 15) σ0 σ4 := ef_R_trans F01 (ef_R_mono F14 (by omega) (by omega) (by omega))
      have tz := tf_R_next ρ1
      have G12 : eg_R (ρ1 83 33) ρ1 (rx_next ρ1) := eg_R_tf tz
      have n33 : rx_next ρ1 83 33 = ρ1 83 33 := tz _ _ (by omega)
      have n44 : rx_next ρ1 83 44 = ρ1 83 44 := tz _ _ (by omega)
      have n10 : rx_next ρ1 83 10 = ρ1 83 10 := tz _ _ (by omega)
      have m1 := h1.1.2.2.2.2.2.1
      have G02 : eg_R (ρ0 83 33) ρ0 (rx_next ρ1) := eg_R_trans G01 G12 m1
      have k10 := k1.1.1
      have k6 := k1.2.1
      have v6 := v 6 (by decide) (by decide)
      have v10 := v 10 (by decide) (by decide)
      have hx4' := xs_R_ef hb hx F04 G02
      have hn4 : xn_R b σ4 (rx_next ρ1) (j1 + 1) := by
        have a7 := k1.2.2.1
        have a11 := k1.1.2.1
        have a12 : σa (8 + b) 12 = σ1 (8 + b) 12 := k1.2.2.2.2 _ _ (by omega) (by omega) (by omega)
        have v7 := v 7 (by decide) (by decide)
        have v11 := v 11 (by decide) (by decide)
        have v12 := v 12 (by decide) (by decide)
        unfold xn_R at hn1 ⊢
        push_cast
        omega
      have hq4 : xq_R b x2 D 1 3 4 true σ4 (rx_next ρ1) := by
        refine ⟨by rw [n10, h1.1.2.2.1]; exact qD, by omega, ⟨q20, by omega, by omega⟩, fun k g1 g2 => ?_, ?_⟩
        · by_cases qk : k = σ1 (23 + b) 15
          · rw [qk, w25]
            decide
          · rw [wrow _ _ (by omega) (by omega) (by omega)]
            have := lev1 k g1 (by omega)
            omega
        · exact ⟨fun _ => ⟨σ1 (23 + b) 15, by omega, by omega, w25⟩, fun _ => rfl⟩
      have hc := hS σ4 (rx_next ρ1) (j1 + 1) (x4 + 1) (0, 3) (0, x6) true (by have := h1.1.2.1; omega) hx4' hn4 hR4 hq4 (by omega) (by push_cast; omega)
      rw [r_222_in t5a t5b q, k_222_107 (by omega) (r_next' ok1 (by omega)), b_222_110, e1]
      have hop : 13 ≤ op_t (ρ1 83 5) ∧ op_t (ρ1 83 5) ≤ 18 := by
        have ht : ρ1 83 5 = 60 ∨ ρ1 83 5 = 201 ∨ ρ1 83 5 = 62 ∨ ρ1 83 5 = 202 ∨ ρ1 83 5 = 203 ∨ ρ1 83 5 = 204 := by
          unfold lv_t at q
          repeat' split at q
          all_goals omega
        rcases ht with hh | hh | hh | hh | hh | hh <;> rw [hh] <;> decide
      have hplace : 0 ≤ ρ1 83 6 ∧ ρ1 83 6 < 100000 := by
        have a1 := ok1.2.2.2.1
        have a2 := ok1.2.2.2.2.1
        have a3 := ok1.2.2.2.2.2.1
        have a4 := ok1.1.2.1
        omega
      rcases hc with ⟨σ5, ρ5, j5, n2, lv5, x45, x65, r, er, ec, h2, hlv5, hlt5, hx45, hx65, hx65'⟩ | ⟨ρ', vv, er, hf⟩
      · rw [k_222_111 (by omega) er, ec]
        have F45 := h2.1.2.2.2.1
        have d15 := h2.2.2.1.1.2.2.2
        have d10 := h2.2.2.1.2.1.1
        have d6 := h2.2.2.1.2.1.2.1
        have lr := xt_ln_0 r
        have r5 := h2.1.1
        have ok5 := r5.2.2.1
        have hj5 := rd_j r5
        have l5 : 0 ≤ lv5 := by rw [hlv5]; exact (lv_c_in _ (ρ5 83 5)).1
        have l53 : lv5 ≠ 3 := by
          rw [hlv5]
          unfold lv_c
          split
          · decide
          · rename_i hh
            exact fun h => hh ⟨rfl, h⟩
        have p5 : σ5 (23 + b) 15 = σ0 (23 + b) 15 + 1 := by omega
        have row5 : ∀ a : Int, 24 + b ≤ a → a ≤ 30 + b → σ5 a (σ0 (23 + b) 15) = σ4 a (σ0 (23 + b) 15) := fun a g1 g2 => F45 _ _ (by unfold ef_D; omega)
        rw [y15] at w24 w25 w26 w27 w28 w29
        have z25 : σ5 (25 + b) (σ0 (23 + b) 15) = 3 := by rw [row5 _ (by omega) (by omega)]; exact w25
        rw [c_pop hb p5 q20 q21 (by omega) hx65 (by omega) (by rw [z25]; decide) l5 (by rw [z25]; omega)]
        have u15 : js_up σ5 (23 + b) 15 (σ0 (23 + b) 15) (23 + b) 15 = σ0 (23 + b) 15 := js_up_same _ _ _ _
        have uO : ∀ a i : Int, ¬ (a = 23 + b ∧ i = 15) → js_up σ5 (23 + b) 15 (σ0 (23 + b) 15) a i = σ5 a i := fun a i h => js_up_ne _ h
        have hx5 : xs_R E b F B X σ5 ρ5 := xs_R_ef hb hx4' F45 h2.1.2.2.2.2.1
        have hn5 := xn_next hn4 h2
        generalize js_up σ5 (23 + b) 15 (σ0 (23 + b) 15) = τ at u15 uO ⊢
        have yl := h1.2.2.2.2.2.2.1
        have yr := h2.2.2.2.2.2.2.1
        have c0 := h1.2.2.1.1.1
        have d0 := h2.2.2.1.1.1
        have z24 : τ (24 + b) (τ (23 + b) 15) = tk_m (ρ1 83 5) := by rw [u15, uO _ _ (by omega), row5 _ (by omega) (by omega), w24, (rd_V r1).2.1]
        have y25 : τ (25 + b) (τ (23 + b) 15) = 3 := by rw [u15, uO _ _ (by omega)]; exact z25
        have z26 : τ (26 + b) (τ (23 + b) 15) = ρ1 83 6 := by rw [u15, uO _ _ (by omega), row5 _ (by omega) (by omega), w26, (rd_V r1).2.2]
        have z27 : τ (27 + b) (τ (23 + b) 15) = xt_ty l := by rw [u15, uO _ _ (by omega), row5 _ (by omega) (by omega), w27, c0]
        have z0 : τ (23 + b) 0 = xt_ty r := by rw [uO _ _ (by omega)]; exact d0
        have cxn : cx_n τ := ⟨by rw [uO _ _ (by omega)]; exact hx5.1.2.2.1.1, by rw [uO _ _ (by omega)]; exact hx5.1.2.2.1.2⟩
        have cf := c_fin3 (E := E) (d := d - 1) (σ := τ) (t := ρ1 83 5) hb cxn (by omega) (by omega) (by omega) q z24 y25 (by omega) (by omega)
        rw [z26, z27, z0] at cf
        have nd1 := xt_nd_in h1.2.2.2.1 h1.2.2.2.2.1.1
        have nd2 := xt_nd_in h2.2.2.2.1 h2.2.2.2.2.1.1
        have G25 := h2.1.2.2.2.2.1
        have ndn : ∀ a : Int, 100 ≤ a → a ≤ 106 → ρ5 a n1 = ρ1 a n1 := fun a g1 g2 => by rw [G25 _ _ (by omega) (by omega), G12 _ _ (by omega) (by omega)]
        have m5 := h2.1.2.2.2.2.2.1
        have m5' := h2.1.2.2.2.2.2.2
        have m1' := h1.1.2.2.2.2.2.2
        have hnodes := hn.2.2.2.2.1
        have tyl2 := h1.2.2.2.2.2.2.2.1.1
        obtain ⟨vv, ρ6, e6, hor⟩ := r_is_end (E := E) (e := e) (ρ := ρ5) (op := op_t (ρ1 83 5)) (l := n1) (r := n2) (p := ρ1 83 6) ok5.2.2.1 (by omega) (by omega) (by omega) hop.1 hop.2 hplace.1 hplace.2 nd1.1 (by omega) nd2.1 (by omega) (by rw [ndn _ (by decide) (by decide), nd1.2.2.1]; omega) (by rw [nd2.2.2.1]; omega) (by rw [ndn _ (by decide) (by decide), nd1.2.2.1]; exact tyl2)
        rw [ndn _ (by decide) (by decide), nd1.2.2.1, nd2.2.2.1] at hor
        rw [e6]
        have Fτ : ef_R b (σ0 (8 + b) 6) (σ0 (8 + b) 10) (σ0 (23 + b) 15) σ0 τ := ef_R_trans F04 (ef_R_trans (ef_R_mono F45 (by omega) (by omega) (by omega)) (fun a i g => uO a i (fun hh => g (ef_D23 ⟨hh.1, Or.inr hh.2⟩))))
        have G05 : eg_R (ρ0 83 33) ρ0 ρ5 := eg_R_trans G02 G25 (by omega)
        have h59 : ρ5 83 9 = 0 := ok5.2.2.1
        by_cases t0 : xt_ty l = xt_ty r ∧ (17 ≤ op_t (ρ1 83 5) ∨ xt_ty r = 0)
        · rw [if_pos t0] at cf hor
          obtain ⟨hv, hw⟩ := hor
          rw [k_61_108 hb (by omega) cf]
          have f15 : js_up (js_up (js_up τ (23 + b) 0 1) (23 + b) 1 0) (23 + b) 2 1 (23 + b) 15 = σ0 (23 + b) 15 := by rw [js_up_ni _ (by decide), js_up_ni _ (by decide), js_up_ni _ (by decide)]; exact u15
          have f0 : js_up (js_up (js_up τ (23 + b) 0 1) (23 + b) 1 0) (23 + b) 2 1 (23 + b) 0 = 1 := by rw [js_up_ni _ (by decide), js_up_ni _ (by decide), js_up_same]
          have f1 : js_up (js_up (js_up τ (23 + b) 0 1) (23 + b) 1 0) (23 + b) 2 1 (23 + b) 1 = 0 := by rw [js_up_ni _ (by decide), js_up_same]
          have f2 : js_up (js_up (js_up τ (23 + b) 0 1) (23 + b) 1 0) (23 + b) 2 1 (23 + b) 2 = 1 := js_up_same _ _ _ _
          have fO : ∀ a i : Int, ¬ (a = 23 + b ∧ (0 ≤ i ∧ i ≤ 2 ∨ i = 15)) → js_up (js_up (js_up τ (23 + b) 0 1) (23 + b) 1 0) (23 + b) 2 1 a i = σ5 a i := fun a i h => by rw [js_up_ne _ (by omega), js_up_ne _ (by omega), js_up_ne _ (by omega), uO _ _ (by omega)]
          generalize js_up (js_up (js_up τ (23 + b) 0 1) (23 + b) 1 0) (23 + b) 2 1 = σ7 at f15 f0 f1 f2 fO ⊢
          have hz5 := xn_cz hn5 r5
          have g6 : σ7 (8 + b) 6 = σ5 (8 + b) 6 := fO _ _ (by omega)
          have g7 : σ7 (8 + b) 7 = σ5 (8 + b) 7 := fO _ _ (by omega)
          have g10 : σ7 (8 + b) 10 = σ5 (8 + b) 10 := fO _ _ (by omega)
          have hz7 : cz_R σ7 b := by unfold cz_R; rw [g6, g7]; exact hz5
          have hg7 : hg_R σ7 b := hg_ef hb (xs_hg hx5) (n := 0) (t := 0) (p := 0) (fun a i g => fO a i (fun hh => g (ef_D23 ⟨hh.1, by omega⟩)))
          have hsz : σ5 (8 + b) 6 ≤ 5000 * j5 := hn5.1.2
          have htm := hn.2.2.1
          obtain ⟨σ8, e8, hcb⟩ := c_combine (E := E) (d := d - 1) (σ := σ7) (op := op_t (ρ1 83 5)) (lo := 0) (hi := 1) hb hz7 (by omega) (by omega) (by omega) (by omega) hg7
          have y24 : σ7 (24 + b) (σ0 (23 + b) 15) = tk_m (ρ1 83 5) := by rw [fO _ _ (by omega), row5 _ (by omega) (by omega), w24, (rd_V r1).2.1]
          have y25' : σ7 (25 + b) (σ0 (23 + b) 15) = 3 := by rw [fO _ _ (by omega)]; exact z25
          have ecl : js_J E d 61 111 [(2, 23 + b), (0, x1), (0, x2), (0, 1), (0, x45), (0, lv5), (0, x65)] [] σ7 = js_J E d 61 65 [(2, 23 + b), (0, x1), (0, x2), (0, 1), (0, x45), (0, lv5), (0, x65 + 1)] [] σ8 := by
            rw [b_61_111 hb, f15, js_w_of (x := σ0 (23 + b) 15) (by omega) (by omega), if_pos (show 0 ≤ σ0 (23 + b) 15 ∧ σ0 (23 + b) 15 < 512 by omega), y25', if_pos (show 2 < js_w 3 by decide), if_neg (show ¬ js_w 3 = 6 by decide), y24, k_61_216 (by omega) (c_opOf (by rw [q]; decide)), b_61_219 hb, f1, f2, k_61_227 hb (by omega) e8, b_61_230]
          have hjn := xr_op (σ2 := σa) (ρ2 := rx_next ρ1) (ρ6 := ρ5) (ρ7 := ρ6) (σ7 := σ7) (ty := 1) hb hx hn h1 (by omega) k1 F24 v (by omega) G12 n33 n44 n10 (Nat.le_refl _) h2 fO f0 f1 f2 f15 hcb (fun _ _ _ => rfl) hw ⟨by decide, by decide, by decide, by decide, by decide⟩ ⟨by decide, fun _ => ⟨rfl, rfl⟩⟩ (xr_z2 h1 h2 n10 (by omega)) ⟨by omega, hop.2⟩
          have e65 : ρ6 83 5 = ρ5 83 5 := hw.2.2.2.2.2.2 _ _ (by omega) (by omega)
          rw [ecl, hv]
          exact Or.inl ⟨σ8, ρ6, j5, ρ5 83 33, lv5, x45, x65 + 1, _, rfl, rfl, hjn, by rw [e65]; exact hlv5, by omega, hx45, by omega, by omega⟩
        · rw [if_neg t0] at cf hor
          obtain ⟨hF, h9e⟩ := rx_bad_new (τ := ρ5) (k := 5) (p := ρ1 83 6) h59 (by decide) (by decide) hplace.1 hplace.2
          refine Or.inr ⟨ρ6, vv, rfl, ?_⟩
          refine ⟨by rw [hor]; exact hF, ?_, τ, ?_, Fτ⟩
          · rw [hor]
            exact eg_R_trans G05 (eg_R_tf (tf_R_bad _ _ _)) (Int.le_refl _)
          · rw [kt_61_108 hb (by omega) cf, hor, h9e]
      · refine Or.inr ⟨ρ', 0, ?_, xf_ef F04 G02 (by omega) (by omega) (by omega) (by omega) hf⟩
        rw [k_222_111 (by omega) er, b_222_114, if_pos (rx_F_9 hf.1)]
    · refine Or.inl ⟨σ1, ρ1, j1, n1, lv, x4, x6, l, r_222_out t5a t5b q, rfl, h1, ?_, by omega, hx4, hx6, hx6'⟩
      unfold lv_c
      rw [if_neg (fun hh => q hh.2)]
      exact lvt
  · exact Or.inr ⟨ρ', vv, by rw [k_222_1 (by omega) er, r_is4F hf.1], hf⟩
