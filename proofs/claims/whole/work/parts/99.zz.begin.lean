/-! part 99.zz: a condition, assert; the name that a statement begins with -/
section RA
variable {E : js_E} {d e : Nat} {b F : Int} {B : Int → Int} {X : Int → Prop} {σ ρ : js_S} {j : Nat}
/-- a statement, or both have the fault -/
def so_P (E : js_E) (b F : Int) (B : Int → Int) (σ ρ : js_S) (j : Nat) (Rc Rr : Option (Outcome × ip_W)) : Prop := (∃ (σ' ρ' : js_S) (j' : Nat) (n : Int) (s : tr_T), Rr = js_r E (0, n) ρ' ∧ Rc = js_r0 E σ' ∧ ss_R b F B σ ρ j σ' ρ' j' n s) ∨ (∃ (ρ' : js_S) (v : Int), Rr = js_r E (0, v) ρ' ∧ xf_P E b σ ρ ρ' Rc)
/-- an e that is a BOOL -/
theorem y_truth {J0 : Nat} (hb : b = 0 ∨ b = 25) (hE : xe_P E b F B X J0) (hJ : J0 ≤ j) (hx : xs_R E b F B X σ ρ) (hn : xn_R b σ ρ j) (hR : rd_R σ ρ j) (ht : σ (8 + b) 10 ≤ 12 * ρ 83 10) (hp : σ (23 + b) 15 ≤ 6 * ρ 83 10) (hd : 4 * (65 - ρ 83 10) + 26 ≤ (d : Int)) (he : 12 * (65 - ρ 83 10) + 26 ≤ (e : Int)) : (∃ (σ' ρ' : js_S) (j' : Nat) (n : Int) (l : tr_T), js_J E e 237 0 [(2, 83), (9, 0), (9, 0)] [] ρ = js_r E (0, n) ρ' ∧ js_J E d 98 0 [(2, 22 + b)] [] σ = js_r0 E σ' ∧ xr_R b F B σ ρ j σ' ρ' j' n l ∧ xt_ty l = 1) ∨ (∃ (ρ' : js_S) (v : Int), js_J E e 237 0 [(2, 83), (9, 0), (9, 0)] [] ρ = js_r E (0, v) ρ' ∧ xf_P E b σ ρ ρ' (js_J E d 98 0 [(2, 22 + b)] [] σ)) := by
  have pl := rd_place hR
  have D1 := hR.2.2.2.2.2
  rw [b_237_0, b_98_0 hb]
  rcases hE (d - 1) (e - 1) σ ρ j hJ hx hn hR ht hp (by omega) (by omega) with ⟨σ1, ρ1, j1, n, l, er, ec, h1, h3⟩ | ⟨ρ', v, er, hf⟩
  · have r1 := h1.1.1
    have hj1 := rd_j r1
    have h9 := r1.2.2.1.2.2.1
    have F01 := h1.1.2.2.2.1
    have G01 := h1.1.2.2.2.2.1
    have hx1 := xs_R_ef hb hx F01 G01
    have hn1 := xn_next hn h1
    have hnod := hn1.2.2.2.2.1
    have yl := h1.2.2.2.2.2.2.1
    have tb := h1.2.2.2.2.2.2.2.1
    have y0 := h1.2.2.1.1.1
    have y1 := h1.2.2.1.1.2.1
    have y2 := h1.2.2.1.1.2.2.1
    have nd := xt_nd_in h1.2.2.2.1 h1.2.2.2.2.1.1
    have ask := c_ask3 (E := E) (d := d - 1) (σ := σ1) (t := 1) (lo := 0) (hi := 1) hb hx1.1.2.2.1 (by omega) (by omega) (by omega) (by omega) (by omega) (by omega) (by omega)
    rw [y0, y1, y2, h3] at ask
    rw [k_237_6 (by omega) er, b_237_9, h9, if_pos (show js_w 0 = 0 from rfl), js_w_of (x := n) (by omega) (by omega), if_pos (show 0 ≤ n ∧ n < 66000 by omega), nd.2.2.1, js_w_of (x := xt_ty l) (by omega) (by omega), k_98_4 hb (by omega) ec, b_98_7 hb]
    by_cases q : xt_ty l = 1
    · have hb1 := tb.2 q
      rw [if_pos q, if_neg (show ¬ (xt_lo l < 0 ∨ 1 < xt_hi l) by omega)] at ask
      rw [if_pos q, b_237_33, k_98_14 hb (by omega) ask, b_98_17]
      exact Or.inl ⟨σ1, ρ1, j1, n, l, rfl, rfl, h1, q⟩
    · rw [if_neg q] at ask
      obtain ⟨hF, h9e⟩ := rx_bad_new (τ := ρ1) (k := 5) (p := ρ 83 6) h9 (by decide) (by decide) pl.1 pl.2
      rw [if_neg q, k_237_30 (by omega) (r_bad (by omega) (by omega)), b_237_33, kt_98_14 hb (by omega) ask]
      exact Or.inr ⟨rx_bad ρ1 5 (ρ 83 6), n, rfl, hF, eg_R_trans (N' := ρ 83 33) G01 (eg_R_tf (tf_R_bad _ _ _)) (Int.le_refl _), σ1, by rw [h9e], F01⟩
  · obtain ⟨a1, a2, σ', a3, a4⟩ := hf
    have n9 : ¬ js_w (ρ' 83 9) = 0 := by have := rx_F_9 a1; omega
    rw [k_237_6 (by omega) er, b_237_9, if_neg n9, b_237_33, kt_98_4 hb (by omega) a3]
    exact Or.inr ⟨ρ', v, rfl, a1, a2, σ', rfl, a4⟩
/-- assert e ; -/
theorem y_assert (hb : b = 0 ∨ b = 25) (hE : xe_P E b F B X (j + 1)) (hx : xs_R E b F B X σ ρ) (hn : xn_R b σ ρ j) (hR : rd_R σ ρ j) (h5 : ρ 83 5 = 312) (ht : σ (8 + b) 10 ≤ 12 * ρ 83 10) (hp : σ (23 + b) 15 ≤ 6 * ρ 83 10) (hd : 4 * (65 - ρ 83 10) + 27 ≤ (d : Int)) (he : 12 * (65 - ρ 83 10) + 27 ≤ (e : Int)) : so_P E b F B σ ρ j (js_J E d 56 0 [(2, 22 + b), (9, 0), (9, 0)] [] σ) (js_J E e 213 0 [(2, 83), (9, 0)] [] ρ) := by
  have ok := hR.2.2.1
  have D1 := hR.2.2.2.2.2
  have c1 : σ 1 1 = 212 := by rw [(rd_V hR).2.1, h5]; decide
  have t59 : tk_m 59 = 59 := by decide
  obtain ⟨σ1, j1, ec1, hR1, f1, _, hj1⟩ := y_next (E := E) (d := d - 1) hR
  have hj1' := hj1 (by omega)
  subst hj1'
  clear hj1
  have p1 : og_R ρ (rx_next ρ) := fun a i g => rx_next_o _ (by omega)
  have o1 : of_R σ σ1 := fun a i g1 g2 => f1 a i (by omega) g2
  have F01 : ∀ n t p : Int, ef_R b n t p σ σ1 := fun n t p => ef_R_of o1
  have hx1 := xs_R_ef hb hx (F01 0 0 0) (eg_R_og (N := 0) p1)
  have v : ∀ i : Int, σ1 (8 + b) i = σ (8 + b) i := fun i => o1 _ _ (by omega) (by omega)
  have v6 := v 6
  have v10 := v 10
  have v15 : σ1 (23 + b) 15 = σ (23 + b) 15 := o1 _ _ (by omega) (by omega)
  have u10 : rx_next ρ 83 10 = ρ 83 10 := rx_next_o _ (by omega)
  have u33 : rx_next ρ 83 33 = ρ 83 33 := rx_next_o _ (by omega)
  have u44 : rx_next ρ 83 44 = ρ 83 44 := rx_next_o _ (by omega)
  have hn1 : xn_R b σ1 (rx_next ρ) (j + 1) := by
    have v7 := v 7
    have v11 := v 11
    have v12 := v 12
    unfold xn_R at hn ⊢
    push_cast
    omega
  rw [b_56_0 hb, c1, s_56_7_212 (by decide), b_56_71 hb, k_56_75 (by omega) ec1, b_56_78, b_213_0, h5, s_213_4_312 (by decide), b_213_69, k_213_70 (by omega) (r_next' ok (by omega)), b_213_73]
  rcases y_truth (E := E) (d := d - 1) (e := e - 1) hb hE (Nat.le_refl _) hx1 hn1 hR1 (by omega) (by omega) (by omega) (by omega) with ⟨σ2, ρ2, j2, n, l, er, ec, h, _⟩ | ⟨ρ', vv, er, hf⟩
  · have r2 := h.1.1
    have hj2 := rd_j r2
    have F12 := h.1.2.2.2.1
    have G12 := h.1.2.2.2.2.1
    have m1 := h.1.2.2.2.2.2.1
    have hn2 := xn_next hn1 h
    have hnod := hn2.2.2.2.2.1
    have c10 := h.2.2.1.2.1.1
    have c6 := h.2.2.1.2.1.2.1
    have y15 := h.2.2.1.1.2.2.2
    have ll := xt_ln_0 l
    obtain ⟨σ3, e3, h3⟩ := c_add (E := E) (d := d - 1) (σ := σ2) (op := 30) (x := 0) hb (xn_cz hn2 r2) (by omega)
    have kO := h3.2.2.2
    have F23 : ef_R b (σ2 (8 + b) 6) (σ2 (8 + b) 10) (σ2 (23 + b) 15) σ2 σ3 := ef_R_em h3 (Int.le_refl _)
    have F03 : ef_R b (σ (8 + b) 6) (σ (8 + b) 10) (σ (23 + b) 15) σ σ3 := ef_R_trans (F01 _ _ _) (ef_R_trans (ef_R_mono F12 (by omega) (by omega) (by omega)) (ef_R_mono F23 (by omega) (by omega) (by omega)))
    have G02 : eg_R (ρ 83 33) ρ ρ2 := eg_R_trans (eg_R_og p1) G12 (by omega)
    have hx3 := xs_R_ef hb hx F03 G02
    have r3 : rd_R σ3 ρ2 j2 := rd_R_of r2 (fun i _ => kO _ _ (by omega) (by omega)) (fun a i _ _ => kO _ _ (by omega) (by omega)) (fun _ _ _ => rfl) (fun _ => rfl)
    rw [k_56_79 hb (by omega) ec, b_56_82 hb, k_56_89 hb (by omega) e3, b_56_92 hb, k_213_74 (by omega) er, b_213_77]
    obtain ⟨ρ3, e4, t23, hor⟩ := y_take (E := E) (d := d - 1) (e := e - 1) (k := 59) hx3.1.2.2.1 r3 (by omega) (by omega) (by unfold tk_V; omega) (by decide)
    rw [t59] at hor
    rw [k_213_81 (by omega) e4, b_213_84]
    rcases hor with ⟨σ4, j4, c4, R4, f4, hj4⟩ | ⟨hF, c4⟩
    · subst hj4
      have n33 : ρ3 83 33 = ρ2 83 33 := t23 _ _ (by omega)
      obtain ⟨ρ4, er5, hw⟩ := r_node (E := E) (e := e - 1) (ρ := ρ3) (k := 23) (ty := 0) (lo := 0) (hi := 0) (a := n) (b := 0) (c := 0) R4.2.2.1.2.2.1 (by omega) (by omega) (by decide) (by decide)
      rw [k_56_99 (by omega) c4, b_56_102, b_56_199, k_213_93 (by omega) er5, b_213_96]
      exact Or.inl ⟨σ4, ρ4, j2 + 1, ρ3 83 33, tr_n 23 0 0 0 0 0 0 l .leaf, rfl, rfl, ss_assert (xs_hg hx) hb hn.2.2.2.2.1.1 hn.2.1 o1 p1 (Nat.lt_succ_self _) h h3 f4 t23 R4 u10 hw⟩
    · rw [kt_56_99 (by omega) c4, k_213_93 (by omega) (r_nodeF hF), b_213_96]
      exact Or.inr ⟨ρ3, 0, rfl, hF, eg_R_trans (N' := ρ 83 33) G02 (eg_R_t9 t23) (Int.le_refl _), σ3, rfl, F03⟩
  · obtain ⟨a1, a2, σ', a3, a4⟩ := xf_ef (F01 _ _ _) (eg_R_og p1) (by omega) (by omega) (by omega) (by omega) hf
    rw [kt_56_79 hb (by omega) a3, k_213_74 (by omega) er, b_213_77, k_213_81 (by omega) (r_takeF a1 (by omega) (by decide) (by decide)), b_213_84, k_213_93 (by omega) (r_nodeF a1), b_213_96]
    exact Or.inr ⟨ρ', 0, rfl, a1, a2, σ', rfl, a4⟩
/-- the reference: may a statement begin with this name -/
theorem r_beg {i c t : Int} (h0 : 0 ≤ i ∧ i < 400) (k0 : 0 ≤ ρ 86 i ∧ ρ 86 i ≤ 9) (r0 : ρ 92 i = 0 ∨ ρ 92 i = 1) (r4 : ρ 86 i = 4 → ρ 92 i = 0) (c0 : 0 ≤ c ∧ c ≤ 126) (e40 : c = 40 ↔ t = 40) (e91 : c = 91 ↔ t = 91) : ∃ y3 : Int, ((su_P ρ i t ∧ 2 ≤ ρ 86 i ∧ ρ 86 i ≤ 6) → js_J E e 243 9 [(2, 83), (0, i), (9, 0), (9, 0), (9, 0), (9, 0), (9, 0)] [(0, c)] ρ = (if ρ 86 i = 4 then js_J E e 243 149 [(2, 83), (0, i), (0, c), (0, y3), (0, 1), (9, 0), (9, 0)] [(0, i), (2, 83)] ρ else js_J E e 243 175 [(2, 83), (0, i), (0, c), (0, y3), (0, 1), (9, 0), (9, 0)] [(2, 83)] ρ)) ∧ (¬ (su_P ρ i t ∧ 2 ≤ ρ 86 i ∧ ρ 86 i ≤ 6) → js_J E e 243 9 [(2, 83), (0, i), (9, 0), (9, 0), (9, 0), (9, 0), (9, 0)] [(0, c)] ρ = js_J E e 243 132 [(2, 83), (0, i), (0, c), (0, y3), (0, 0), (9, 0), (9, 0)] [(0, ρ 83 6), (0, 3), (2, 83)] ρ) := by
  have wi := js_w_of (x := i) (by omega) (by omega)
  have wc := js_w_of (x := c) (by omega) (by omega)
  have wk := js_w_of (x := ρ 86 i) (by omega) (by omega)
  have w2 := js_w_of (x := ρ 92 i) (by omega) (by omega)
  have w0 : js_w 0 = 0 := rfl
  have w1 : js_w 1 = 1 := by decide
  have n0 : ¬ i < 0 := by omega
  have no : ∀ y3 : Int, js_J E e 243 118 [(2, 83), (0, i), (0, c), (0, y3), (9, 0), (9, 0), (9, 0)] [] ρ = js_J E e 243 132 [(2, 83), (0, i), (0, c), (0, y3), (0, 0), (9, 0), (9, 0)] [(0, ρ 83 6), (0, 3), (2, 83)] ρ := fun y3 => by
    rw [b_243_118, b_243_119, if_pos w0]
  have yes : ∀ y3 : Int, js_J E e 243 114 [(2, 83), (0, i), (0, c), (0, y3), (9, 0), (9, 0), (9, 0)] [] ρ = (if ρ 86 i = 4 then js_J E e 243 149 [(2, 83), (0, i), (0, c), (0, y3), (0, 1), (9, 0), (9, 0)] [(0, i), (2, 83)] ρ else js_J E e 243 175 [(2, 83), (0, i), (0, c), (0, y3), (0, 1), (9, 0), (9, 0)] [(2, 83)] ρ) := fun y3 => by
    rw [b_243_114, b_243_119, w1, if_neg (show ¬ (1 : Int) = 0 by decide), wi, if_pos h0, wk]
  by_cases q4 : ρ 86 i = 4
  · have s : js_J E e 243 9 [(2, 83), (0, i), (9, 0), (9, 0), (9, 0), (9, 0), (9, 0)] [(0, c)] ρ = (if c = 40 then js_J E e 243 114 [(2, 83), (0, i), (0, c), (0, 0), (9, 0), (9, 0), (9, 0)] [] ρ else js_J E e 243 118 [(2, 83), (0, i), (0, c), (0, 0), (9, 0), (9, 0), (9, 0)] [] ρ) := by
      rw [b_243_9, wi, if_neg n0, if_pos h0, wk, if_neg (show ¬ ρ 86 i = 2 by omega), if_neg (show ¬ ρ 86 i = 3 by omega), if_neg (show ¬ ρ 86 i = 5 by omega), if_neg (show ¬ ρ 86 i = 6 by omega), b_243_59, b_243_60, wi, if_neg n0, if_pos h0, wk, if_pos q4, wc]
    refine ⟨0, fun h => ?_, fun h => ?_⟩
    · rw [s, if_pos (e40.mpr (h.1.1.mpr q4)), yes]
    · have nc : ¬ c = 40 := fun hh => h ⟨⟨⟨fun _ => q4, fun _ => e40.mp hh⟩, ⟨fun h9 => by have := e40.mp hh; omega, fun h9 => by have := r4 q4; omega⟩⟩, by omega, by omega⟩
      rw [s, if_neg nc, no]
  · by_cases qs : ρ 86 i = 2 ∨ ρ 86 i = 3 ∨ ρ 86 i = 5 ∨ ρ 86 i = 6
    · have a : js_J E e 243 9 [(2, 83), (0, i), (9, 0), (9, 0), (9, 0), (9, 0), (9, 0)] [(0, c)] ρ = js_J E e 243 55 [(2, 83), (0, i), (0, c), (9, 0), (9, 0), (9, 0), (9, 0)] [] ρ := by
        rw [b_243_9, wi, if_neg n0, if_pos h0, wk]
        rcases qs with q | q | q | q
        · rw [if_pos q]
        · rw [if_neg (show ¬ ρ 86 i = 2 by omega), if_pos q]
        · rw [if_neg (show ¬ ρ 86 i = 2 by omega), if_neg (show ¬ ρ 86 i = 3 by omega), if_pos q]
        · rw [if_neg (show ¬ ρ 86 i = 2 by omega), if_neg (show ¬ ρ 86 i = 3 by omega), if_neg (show ¬ ρ 86 i = 5 by omega), if_pos q]
      have s : js_J E e 243 9 [(2, 83), (0, i), (9, 0), (9, 0), (9, 0), (9, 0), (9, 0)] [(0, c)] ρ = (if ρ 92 i = (if c = 91 then 1 else 0) then (if c = 40 then js_J E e 243 118 [(2, 83), (0, i), (0, c), (0, 1), (9, 0), (9, 0), (9, 0)] [] ρ else js_J E e 243 114 [(2, 83), (0, i), (0, c), (0, 1), (9, 0), (9, 0), (9, 0)] [] ρ) else js_J E e 243 118 [(2, 83), (0, i), (0, c), (0, 1), (9, 0), (9, 0), (9, 0)] [] ρ) := by
        rw [a, b_243_55, b_243_60, wi, if_neg n0, if_pos h0, wk, if_neg q4, w1, if_neg (show ¬ (1 : Int) = 0 by decide), wc]
        by_cases q91 : c = 91
        · rw [if_pos q91, if_pos q91, b_243_105, w2, w1, wc]
        · rw [if_neg q91, if_neg q91, b_243_105, w2, w0, wc]
      refine ⟨1, fun h => ?_, fun h => ?_⟩
      · have g1 : ρ 92 i = (if c = 91 then 1 else 0) := by
          by_cases q91 : c = 91
          · rw [if_pos q91]
            exact h.1.2.mp (e91.mp q91)
          · rw [if_neg q91]
            have : ¬ ρ 92 i = 1 := fun hh => q91 (e91.mpr (h.1.2.mpr hh))
            omega
        have g2 : ¬ c = 40 := fun hh => q4 (h.1.1.mp (e40.mp hh))
        rw [s, if_pos g1, if_neg g2, yes]
      · rw [s]
        by_cases g1 : ρ 92 i = (if c = 91 then 1 else 0)
        · by_cases g2 : c = 40
          · rw [if_pos g1, if_pos g2, no]
          · refine absurd ⟨⟨⟨fun h9 => absurd (e40.mpr h9) g2, fun h9 => absurd h9 q4⟩, ?_⟩, by omega, by omega⟩ h
            by_cases q91 : c = 91
            · rw [if_pos q91] at g1
              exact ⟨fun _ => g1, fun _ => e91.mp q91⟩
            · rw [if_neg q91] at g1
              exact ⟨fun h9 => absurd (e91.mpr h9) q91, fun h9 => by omega⟩
        · rw [if_neg g1, no]
    · have s : js_J E e 243 9 [(2, 83), (0, i), (9, 0), (9, 0), (9, 0), (9, 0), (9, 0)] [(0, c)] ρ = js_J E e 243 118 [(2, 83), (0, i), (0, c), (0, 0), (9, 0), (9, 0), (9, 0)] [] ρ := by
        rw [b_243_9, wi, if_neg n0, if_pos h0, wk, if_neg (show ¬ ρ 86 i = 2 by omega), if_neg (show ¬ ρ 86 i = 3 by omega), if_neg (show ¬ ρ 86 i = 5 by omega), if_neg (show ¬ ρ 86 i = 6 by omega), b_243_59, b_243_60, wi, if_neg n0, if_pos h0, wk, if_neg q4, if_pos w0]
      exact ⟨0, fun h => absurd h.2 (by omega), fun _ => by rw [s, no]⟩
/-- what a statement begins with, in both -/
theorem y_beg (hb : b = 0 ∨ b = 25) (hx : xs_R E b F B X σ ρ) (hR : rd_R σ ρ j) (h5 : ρ 83 5 = 2) (hd : 10 ≤ d) (he : 4 ≤ e) : (∃ (ρ' : js_S) (v : Int), js_J E e 243 0 [(2, 83), (9, 0), (9, 0), (9, 0), (9, 0), (9, 0), (9, 0)] [] ρ = js_r E (0, v) ρ' ∧ xf_P E b σ ρ ρ' (js_J E d 56 126 [(2, 22 + b), (9, 0), (9, 0)] [] σ)) ∨ (∃ (σ1 : js_S) (i c y3 : Int), nm_R E b X σ1 ρ i ∧ rd_R σ1 (rx_next ρ) (j + 1) ∧ tk_fr σ σ1 ∧ (2 ≤ ρ 86 i ∧ ρ 86 i ≤ 6) ∧ js_J E d 56 126 [(2, 22 + b), (9, 0), (9, 0)] [] σ = js_J E d 56 143 [(2, 22 + b), (0, ρ 83 6), (2, σ1 (19 + b) i)] [] σ1 ∧ js_J E e 243 0 [(2, 83), (9, 0), (9, 0), (9, 0), (9, 0), (9, 0), (9, 0)] [] ρ = (if ρ 86 i = 4 then js_J E e 243 149 [(2, 83), (0, i), (0, c), (0, y3), (0, 1), (9, 0), (9, 0)] [(0, i), (2, 83)] ρ else js_J E e 243 175 [(2, 83), (0, i), (0, c), (0, y3), (0, 1), (9, 0), (9, 0)] [(2, 83)] ρ)) := by
  have ok := hR.2.2.1
  have hY := hx.1
  have y1 := hY.1
  have a1 := ok.2.2.2.1
  have a2 := ok.2.2.2.2.1
  have a3 := ok.2.2.2.2.2.1
  have a4 := ok.1.2.1
  have a5 := ok.2.2.2.2.2.2.1
  have a6 := ok.2.2.2.2.2.2.2.1
  have a9 := ok.2.2.1
  have c8 := (rd_V hR).2.2
  have pl := rd_place hR
  have hs := rx_skip_in (σ := ρ) (rx_n ρ (ρ 83 7)) (ρ 83 7) a3
  have c0 := rx_at_in ok.1 (k := rx_fr ρ (ρ 83 7)) (by unfold rx_fr; omega)
  have e40 := bh_eq (σ := ρ) (k := 40) (Or.inl rfl)
  have e91 := bh_eq (σ := ρ) (k := 91) (Or.inr rfl)
  have fnd := y_find (E := E) (d := d - 1 - 1) hb hY hR h5
  have sid := sy_S_id ρ 0
  rw [sid] at fnd
  have rf := r_find (E := E) (d := e - 1) y1 ok.2.1 a1 a2 (by omega) a5 a6 (by omega)
  have hin := rx_sy_in y1
  have hF := rx_bad1 ok (k := 3) (by decide) (by decide)
  have b106 : js_J E (d - 1) 106 0 [(2, 22 + b), (9, 0), (9, 0)] [] σ = js_J E (d - 1) 106 19 [(2, 22 + b), (0, ρ 83 6), (9, 0)] [(2, if rx_sy ρ < 0 then -1 else σ (19 + b) (rx_sy ρ))] σ := by
    rw [b_106_0 hb, c8, k_106_16 hb (by omega) fnd]
  rw [b_56_126 hb, c8, b_243_0, k_243_1 (by omega) rf, b_243_4, k_243_6 (by omega) (r_behind ok (by omega))]
  generalize rx_at ρ (rx_fr ρ (ρ 83 7)) = c at c0 e40 e91 ⊢
  have rbad : ∀ x1 y3 : Int, js_J E e 243 132 [(2, 83), (0, x1), (0, c), (0, y3), (0, 0), (9, 0), (9, 0)] [(0, ρ 83 6), (0, 3), (2, 83)] ρ = js_r E (0, -1) (rx_bad ρ 3 (ρ 83 6)) := fun x1 y3 => by
    rw [k_243_132 (by omega) (r_bad (by omega) (by omega)), b_243_135]
  have cbad : ∀ x2 : Int, js_J E (d - 1) 106 34 [(2, 22 + b), (0, ρ 83 6), (2, x2)] [] σ = th_P E σ (3 + 16 * ρ 83 6) := fun x2 => by
    rw [b_106_34 hb, kt_106_40 (by omega) (c_fail hY.2.2.1 (by omega))]
    rfl
  have fin : xf_P E b σ ρ (rx_bad ρ 3 (ρ 83 6)) (th_P E σ (3 + 16 * ρ 83 6)) := ⟨hF.1, eg_R_tf (tf_R_bad _ _ _), σ, by rw [hF.2], ef_R_refl _ _ _ _ _⟩
  by_cases q1 : rx_sy ρ < 0
  · left
    rw [if_pos q1, b_106_19, if_pos (show (-1 : Int) < 0 by decide), cbad] at b106
    refine ⟨rx_bad ρ 3 (ρ 83 6), -1, ?_, ?_⟩
    · rw [b_243_9, js_w_of (x := rx_sy ρ) (by omega) (by omega), if_pos q1, b_243_59, b_243_60, js_w_of (x := rx_sy ρ) (by omega) (by omega), if_pos q1, b_243_118, b_243_119, if_pos (show js_w 0 = 0 from rfl), rbad]
    · rw [kt_56_135 hb (by omega) b106]
      exact fin
  · have hvis := sy_vis (p := 0) (q := 0) h5 (by rw [sid]; exact q1)
    rw [sid] at hvis
    have nX : ¬ X (rx_sy ρ) := fun hh => by
      have := hx.2.1.2.1 _ hh
      rw [sid] at this
      exact this hvis
    rw [if_neg q1] at b106
    generalize rx_sy ρ = i at hin q1 hvis nX b106 ⊢
    have hi : 0 ≤ i ∧ i < ρ 83 11 := by omega
    clear hin
    have h400 := y1.2.1
    have hv := hY.2.1 i hi.1 (by omega)
    have hsym := (hY.2.2.2.2.2.1 i hi.1 hi.2).1
    have hf := hY.2.2.2.2.2.2 i hi.1 hi.2 nX
    have hge := js_sym_ge hsym
    have gs := hx.2.2.1 i hi.1 hi.2 nX
    have r0 := gs.1
    have r4 : ρ 86 i = 4 → ρ 92 i = 0 := fun h => (gs.2.2.2.2.1 h).1
    clear gs
    have wk := js_w_of (x := ρ 86 i) (by omega) (by omega)
    obtain ⟨y3, ru1, ru2⟩ := r_beg (E := E) (e := e) (ρ := ρ) (i := i) (c := c) (t := rx_next ρ 83 5) (by omega) ⟨hv.1, hv.2.1⟩ r0 r4 c0 e40 e91
    by_cases qk : 2 ≤ ρ 86 i ∧ ρ 86 i ≤ 6
    · have c107 : js_J E (d - 1 - 1) 107 0 [(0, ρ 86 i)] [] σ = js_r E (0, 1) σ := by
        rw [b_107_0, wk]
        have h5' : ρ 86 i = 2 ∨ ρ 86 i = 3 ∨ ρ 86 i = 4 ∨ ρ 86 i = 5 ∨ ρ 86 i = 6 := by omega
        rcases h5' with h | h | h | h | h
        · rw [if_pos h]
        · rw [if_neg (show ¬ ρ 86 i = 2 by omega), if_pos h]
        · rw [if_neg (show ¬ ρ 86 i = 2 by omega), if_neg (show ¬ ρ 86 i = 3 by omega), if_pos h]
        · rw [if_neg (show ¬ ρ 86 i = 2 by omega), if_neg (show ¬ ρ 86 i = 3 by omega), if_neg (show ¬ ρ 86 i = 4 by omega), if_pos h]
        · rw [if_neg (show ¬ ρ 86 i = 2 by omega), if_neg (show ¬ ρ 86 i = 3 by omega), if_neg (show ¬ ρ 86 i = 4 by omega), if_neg (show ¬ ρ 86 i = 5 by omega), if_pos h]
      obtain ⟨σ1, j1, n1, hR1, f1, _, hj1⟩ := y_next (E := E) (d := d - 1 - 1) hR
      have hj1' := hj1 (by omega)
      subst hj1'
      clear hj1
      have v1 : ∀ k : Int, σ1 (σ (19 + b) i) k = σ (σ (19 + b) i) k := fun k => f1 _ _ (by omega) (by omega)
      have e19 : σ1 (19 + b) i = σ (19 + b) i := f1 _ _ (by omega) (by omega)
      have hY1 := xs_R_ef hb hx (ef_R_tk (b := b) (n := 0) (t := 0) (p := 0) f1) (eg_R_tf (N := 0) (tf_R_next ρ))
      have tkn := rd_V hR1
      have x11 : rx_next ρ 83 11 = ρ 83 11 := rx_next_o _ (by omega)
      have hsym1 : js_desc E.1 σ1 (σ (19 + b) i) = some (0, 11, js_sym) := by
        have := (hY1.1.2.2.2.2.2.1 i hi.1 (by rw [x11]; exact hi.2)).1
        rw [e19] at this
        exact this
      obtain ⟨su1, su2⟩ := c_suit (E := E) (d := d - 1 - 1) (σ := σ1) (ρ := ρ) (x := σ (19 + b) i) (i := i) (p := ρ 83 6) (t := rx_next ρ 83 5) hb hY1.1.2.2.1 (by omega) hsym1 (by rw [v1]; exact hf.1) (by rw [v1]; exact hf.2.2.2.2.2.2.2.2) ⟨hv.1, hv.2.1⟩ r0 tkn.2.1 tkn.1
      rw [b_106_19, if_neg (show ¬ σ (19 + b) i < 0 by omega), b_106_24 hsym, hf.1, k_106_28 (by omega) c107, b_106_31 hb, if_neg (show ¬ js_w 1 = 0 by decide), k_106_49 (by omega) n1, b_106_52 hb] at b106
      by_cases q : su_P ρ i (rx_next ρ 83 5)
      · right
        rw [k_106_58 hb (by omega) (su1 q), b_106_61] at b106
        refine ⟨σ1, i, c, y3, ⟨⟨hi.1, hi.2, by omega⟩, nX, hvis, by omega, ⟨hv.1, hv.2.1, hv.2.2.1, hv.2.2.2.1, hv.2.2.2.2.1, hv.2.2.2.2.2.1⟩, by rw [e19]; exact hsym1, ?_⟩, hR1, f1, qk, ?_, ru1 ⟨q, qk⟩⟩
        · unfold sy_F
          rw [e19, v1, v1, v1, v1, v1, v1, v1, v1, v1]
          exact hf
        · rw [k_56_135 hb (by omega) b106, b_56_138, if_neg (show ¬ σ (19 + b) i < 0 by omega), e19]
      · left
        rw [kt_106_58 hb (by omega) (su2 q)] at b106
        refine ⟨rx_bad ρ 3 (ρ 83 6), -1, ?_, ?_⟩
        · rw [ru2 (fun hh => q hh.1), rbad]
        · rw [kt_56_135 hb (by omega) b106]
          exact ⟨hF.1, eg_R_tf (tf_R_bad _ _ _), σ1, by rw [hF.2], ef_R_tk f1⟩
    · left
      have c107 : js_J E (d - 1 - 1) 107 0 [(0, ρ 86 i)] [] σ = js_r E (0, 0) σ := by
        rw [b_107_0, wk, if_neg (show ¬ ρ 86 i = 2 by omega), if_neg (show ¬ ρ 86 i = 3 by omega), if_neg (show ¬ ρ 86 i = 4 by omega), if_neg (show ¬ ρ 86 i = 5 by omega), if_neg (show ¬ ρ 86 i = 6 by omega)]
      rw [b_106_19, if_neg (show ¬ σ (19 + b) i < 0 by omega), b_106_24 hsym, hf.1, k_106_28 (by omega) c107, b_106_31 hb, if_pos (show js_w 0 = 0 from rfl), cbad] at b106
      refine ⟨rx_bad ρ 3 (ρ 83 6), -1, ?_, ?_⟩
      · rw [ru2 (fun hh => qk hh.2), rbad]
      · rw [kt_56_135 hb (by omega) b106]
        exact fin
end RA
