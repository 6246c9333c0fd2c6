/-! part 99.zc: - and ! in front, in step -/
/-- operands that begin at token J0 or behind it are read in step -/
def xm_P (E : js_E) (b F : Int) (B : Int → Int) (X : Int → Prop) (J0 : Nat) : Prop := ∀ (d e : Nat) (σ ρ : js_S) (j : Nat), J0 ≤ j → xs_R E b F B X σ ρ → xn_R b σ ρ j → rd_R σ ρ j → σ (8 + b) 10 ≤ 12 * ρ 83 10 + 3 → σ (23 + b) 15 ≤ 6 * ρ 83 10 + 5 → 4 * (65 - ρ 83 10) + 24 ≤ (d : Int) → 12 * (65 - ρ 83 10) + 18 ≤ (e : Int) → xo_P E b F B σ ρ j (if ρ 83 5 = 2 then js_J E d 64 0 [(2, 23 + b), (9, 0), (9, 0)] [] σ else js_J E d 79 0 [(2, 23 + b), (9, 0)] [] σ) (js_J E e 226 0 [(2, 83), (9, 0)] [] ρ)
theorem y_front {E : js_E} {b F : Int} {B : Int → Int} {X : Int → Prop} {d : Nat} {x1 x2 : Int} {J0 : Nat} (hb : b = 0 ∨ b = 25) (hM : xm_P E b F B X J0) : ∀ (G : Nat) (e : Nat) (σ ρ : js_S) (j : Nat) (x4 m : Int) (ux5 ux6 : js_v) (c : Bool), 8200 ≤ G + j → J0 ≤ j → xs_R E b F B X σ ρ → xn_R b σ ρ j → rd_R σ ρ j → xq_R b x2 (ρ 83 10) 3 5 7 c σ ρ → 0 ≤ x4 → x4 ≤ j → 0 ≤ m → m ≤ j → 4 * (65 - ρ 83 10) + 25 ≤ (d : Int) → 12 * (65 - ρ 83 10) + 19 ≤ (e : Int) → (∃ σ2 : js_S, js_J E (d - 1) 62 2 [(2, 23 + b), (0, m)] [] σ = js_r0 E σ2 ∧ xc_P E b F B d x1 x2 6 c σ ρ j (js_J E d 61 33 [(2, 23 + b), (0, x1), (0, x2), (0, 1), (0, x4), ux5, ux6] [] σ2) (js_J E e 225 0 [(2, 83), (9, 0), (9, 0), (9, 0)] [] ρ)) ∨ (∃ (ρ' : js_S) (v : Int), js_J E e 225 0 [(2, 83), (9, 0), (9, 0), (9, 0)] [] ρ = js_r E (0, v) ρ' ∧ xf_P E b σ ρ ρ' (js_J E (d - 1) 62 2 [(2, 23 + b), (0, m)] [] σ))
  | 0, e, σ, ρ, j, x4, m, ux5, ux6, c, hG, _, _, _, hR, _, _, _, _, _, _, _ => by
    have := rd_j hR
    omega
  | G + 1, e, σ, ρ, j, x4, m, ux5, ux6, c, hG, hJ, hx, hn, hR, hq, h40, h41, hm0, hm1, hd, he => by
    have ok := hR.2.2.1
    have hj := rd_j hR
    obtain ⟨hV, c7, c8⟩ := rd_V hR
    have mi := tk_m_in hV
    have D0 := hR.2.2.2.2.1
    have D1 := hR.2.2.2.2.2
    have i45 : tk_m (ρ 83 5) = 45 ↔ ρ 83 5 = 45 := tk_m_inj hV (show tk_V 45 by unfold tk_V; omega)
    have i33 : tk_m (ρ 83 5) = 33 ↔ ρ 83 5 = 33 := tk_m_inj hV (show tk_V 33 by unfold tk_V; omega)
    have w5 : js_w (ρ 83 5) = ρ 83 5 := js_w_of (by have := ok.2.2.2.2.2.2.1; omega) (by have := ok.2.2.2.2.2.2.2.1; omega)
    have q := hq
    obtain ⟨qD, qt, ⟨q20, q21, qp⟩, qlev, qc⟩ := q
    by_cases hf : ρ 83 5 = 45 ∨ ρ 83 5 = 33
    · have htk : tk_m (ρ 83 5) = ρ 83 5 := by rcases hf with h | h <;> rw [h] <;> decide
      clear i45 i33
      have p0 := hn.2.2.2.2.2.2
      -- the class's row
      obtain ⟨σ1, e1, k1⟩ := c_push (E := E) (d := d - 1 - 1) (σ := σ) (lv := 6) (jmp := -1) hb p0 (by omega)
      have pO := k1.2.2
      have p15 := k1.1
      obtain ⟨r24, r25, r26, r27, r28, r29, r30⟩ := k1.2.1
      have hR1 : rd_R σ1 ρ j := rd_R_of hR (fun i _ => pO _ _ (by omega) (by omega)) (fun a i _ _ => pO _ _ (by omega) (by omega)) (fun _ _ _ => rfl) (fun _ => rfl)
      have cxn : cx_n σ1 := ⟨by rw [pO _ _ (by omega) (by omega)]; exact hx.1.2.2.1.1, by rw [pO _ _ (by omega) (by omega)]; exact hx.1.2.2.1.2⟩
      obtain ⟨ρ1, e2, og1, hor⟩ := y_open (E := E) (d := d - 1 - 1) (e := e - 1) (k := ρ 83 5) cxn hR1 (by omega) (by omega) hV (by omega)
      rw [htk] at hor
      have F01 : ef_R b (σ (8 + b) 6) (σ (8 + b) 10) (σ (23 + b) 15) σ σ1 := ef_R_pu k1 (Int.le_refl _)
      have G01 : eg_R (ρ 83 33) ρ ρ1 := eg_R_og og1
      -- the class, up to the bracket
      have ecl : js_J E (d - 1) 62 2 [(2, 23 + b), (0, m)] [] σ = js_J E (d - 1) 62 50 [(2, 23 + b), (0, m)] [(0, ρ 83 5), (2, 1)] σ1 := by
        have e32 : js_J E (d - 1) 62 32 [(2, 23 + b), (0, m)] [] σ = js_J E (d - 1) 62 50 [(2, 23 + b), (0, m)] [(0, ρ 83 5), (2, 1)] σ1 := by
          rw [b_62_32, k_62_36 hb (by omega) e1, b_62_39 hb, pO _ _ (by omega) (by omega), c7, htk]
        rw [b_62_2 hb, js_w_of (x := m) (by omega) (by omega), if_pos (show m < 1000000 by omega), c7, htk, w5]
        rcases hf with h | h
        · rw [if_pos h, e32]
        · rw [if_neg (show ¬ ρ 83 5 = 45 by omega), if_pos h, e32]
      -- the reference, up to the operand
      have erf : js_J E e 225 0 [(2, 83), (9, 0), (9, 0), (9, 0)] [] ρ = js_J E e 225 52 [(2, 83), (0, if ρ 83 5 = 45 then 1 else 0), (0, ρ 83 6), (9, 0)] [(2, 83)] ρ1 := by
        rw [b_225_0, w5]
        rcases hf with h | h
        · rw [if_pos h, if_pos h, b_225_23, w5, if_pos h, b_225_37, k_225_48 (by omega) e2, b_225_51]
        · rw [if_neg (show ¬ ρ 83 5 = 45 by omega), if_neg (show ¬ ρ 83 5 = 45 by omega), if_pos h, b_225_23, w5, if_neg (show ¬ ρ 83 5 = 45 by omega), b_225_37, k_225_48 (by omega) e2, b_225_51]
      have hplace : 0 ≤ ρ 83 6 ∧ ρ 83 6 < 100000 := by
        have a1 := ok.2.2.2.1
        have a2 := ok.2.2.2.2.1
        have a3 := ok.2.2.2.2.2.1
        have a4 := ok.1.2.1
        omega
      rw [ecl, erf]
      -- what a fault within leaves
      have fin : ∀ (ρ' : js_S) (v z1 : Int), js_J E (e - 1) 225 0 [(2, 83), (9, 0), (9, 0), (9, 0)] [] ρ1 = js_r E (0, v) ρ' → rx_F ρ' → eg_R (ρ 83 33) ρ ρ' → js_J E e 225 52 [(2, 83), (0, z1), (0, ρ 83 6), (9, 0)] [(2, 83)] ρ1 = js_r E (0, 0) (js_up ρ' 83 10 (ρ' 83 10 - 1)) ∧ rx_F (js_up ρ' 83 10 (ρ' 83 10 - 1)) ∧ eg_R (ρ 83 33) ρ (js_up ρ' 83 10 (ρ' 83 10 - 1)) ∧ js_up ρ' 83 10 (ρ' 83 10 - 1) 83 9 = ρ' 83 9 := fun ρ' v z1 h1 h2 h3 => by
        refine ⟨by rw [k_225_52 (by omega) h1, b_225_55, if_pos (rx_F_9 h2)], rx_F_up h2 (by decide) (by decide), eg_R_trans h3 (eg_R_up (by omega)) (Int.le_refl _), js_up_ni _ (by decide)⟩
      rcases hor with ⟨σ2, j2, c2, hR2, f2, hj2, hD64, hD1⟩ | ⟨hF1, c2⟩
      · subst hj2
        have F12 : ∀ n t p : Int, ef_R b n t p σ1 σ2 := fun n t p => ef_R_of f2
        have F02 := ef_R_trans F01 (F12 _ _ _)
        have v : ∀ i : Int, σ2 (8 + b) i = σ (8 + b) i := fun i => by rw [f2 _ _ (by omega) (by omega), pO _ _ (by omega) (by omega)]
        have v6 := v 6
        have v10 := v 10
        have v15 : σ2 (23 + b) 15 = σ (23 + b) 15 + 1 := by rw [f2 _ _ (by omega) (by omega), p15]
        have n33 : ρ1 83 33 = ρ 83 33 := og1 _ _ (by omega)
        have n44 : ρ1 83 44 = ρ 83 44 := og1 _ _ (by omega)
        have hx2 := xs_R_ef hb hx F02 G01
        have hn2 : xn_R b σ2 ρ1 (j + 1) := by
          have v7 := v 7
          have v11 := v 11
          have v12 := v 12
          unfold xn_R at hn ⊢
          push_cast
          omega
        have w25 : σ2 (25 + b) (σ (23 + b) 15) = 6 := by rw [f2 _ _ (by omega) (by omega), r25]
        have wrow : ∀ a k : Int, 24 + b ≤ a → a ≤ 30 + b → k < σ (23 + b) 15 → σ2 a k = σ a k := fun a k g1 g2 g3 => by rw [f2 _ _ (by omega) (by omega), pO _ _ (by omega) (by omega)]
        have hq2 : xq_R b x2 (ρ1 83 10) 3 5 7 c σ2 ρ1 := by
          refine ⟨rfl, by omega, ⟨q20, by omega, by omega⟩, fun k g1 g2 => ?_, rc_push qc rfl v15 (fun k g1 g2 => wrow _ _ (by omega) (by omega) g2) (by rw [w25]; decide)⟩
          by_cases qk : k = σ (23 + b) 15
          · rw [qk, w25]
            decide
          · rw [wrow _ _ (by omega) (by omega) (by omega)]
            exact qlev k g1 (by omega)
        have ih := y_front (d := d) (x1 := x1) (x2 := x2) hb hM G (e - 1) σ2 ρ1 (j + 1) x4 (m + 1) ux5 ux6 c (by omega) (by omega) hx2 hn2 hR2 hq2 h40 (by push_cast; omega) (by omega) (by push_cast; omega) (by omega) (by omega)
        have ecl2 : js_J E (d - 1) 62 50 [(2, 23 + b), (0, m)] [(0, ρ 83 5), (2, 1)] σ1 = js_J E (d - 1) 62 2 [(2, 23 + b), (0, m + 1)] [] σ2 := by rw [k_62_50 (by omega) c2, b_62_53]
        rw [ecl2]
        rcases ih with ⟨σ3, e3, hc⟩ | ⟨ρ', vv, e3, hff⟩
        · rw [e3]
          refine Or.inl ⟨σ3, rfl, ?_⟩
          rcases hc with ⟨σ5, ρ5, j5, n, lv, x45, x65, l, er, ec, h2, hlv, hlt, hx45, hx65, hx65'⟩ | ⟨ρ', vv, er, hff⟩
          · rw [ec]
            have F25 := h2.1.2.2.2.1
            have G15 := h2.1.2.2.2.2.1
            have r5 := h2.1.1
            have ok5 := r5.2.2.1
            have hj5 := rd_j r5
            have d15 := h2.2.2.1.1.2.2.2
            have d0 := h2.2.2.1.1.1
            have d1 := h2.2.2.1.1.2.1
            have d2 := h2.2.2.1.1.2.2.1
            have d6 := h2.2.2.1.2.1.2.1
            have d10 := h2.2.2.1.2.1.1
            have lr := xt_ln_0 l
            have l5 : 0 ≤ lv := by rw [hlv]; exact (lv_c_in c (ρ5 83 5)).1
            have p5 : σ5 (23 + b) 15 = σ (23 + b) 15 + 1 := by omega
            have row5 : ∀ a : Int, 24 + b ≤ a → a ≤ 30 + b → σ5 a (σ (23 + b) 15) = σ1 a (σ (23 + b) 15) := fun a g1 g2 => by rw [F25 _ _ (by unfold ef_D; omega), f2 _ _ (by omega) (by omega)]
            have z25 : σ5 (25 + b) (σ (23 + b) 15) = 6 := by rw [row5 _ (by omega) (by omega)]; exact r25
            have dp5 := h2.1.2.2.1
            have hz2' : 2 + xt_dp l ≤ zz_b b σ ρ := by
              have a1 := xk_zz h2
              unfold zz_b
              omega
            rw [c_pop hb p5 q20 q21 (by omega) hx65 (by omega) (by rw [z25]; decide) l5 (by rw [z25]; omega)]
            have u15 : js_up σ5 (23 + b) 15 (σ (23 + b) 15) (23 + b) 15 = σ (23 + b) 15 := js_up_same _ _ _ _
            have uO : ∀ a i : Int, ¬ (a = 23 + b ∧ i = 15) → js_up σ5 (23 + b) 15 (σ (23 + b) 15) a i = σ5 a i := fun a i h => js_up_ne _ h
            have hx5 : xs_R E b F B X σ5 ρ5 := xs_R_ef hb hx2 F25 G15
            have hn5 := xn_next hn2 h2
            generalize js_up σ5 (23 + b) 15 (σ (23 + b) 15) = τ at u15 uO ⊢
            have yl := h2.2.2.2.2.2.2.1
            have z24 : τ (24 + b) (τ (23 + b) 15) = ρ 83 5 := by rw [u15, uO _ _ (by omega), row5 _ (by omega) (by omega), r24, c7, htk]
            have y25 : τ (25 + b) (τ (23 + b) 15) = 6 := by rw [u15, uO _ _ (by omega)]; exact z25
            have z26 : τ (26 + b) (τ (23 + b) 15) = ρ 83 6 := by rw [u15, uO _ _ (by omega), row5 _ (by omega) (by omega), r26, c8]
            have z0 : τ (23 + b) 0 = xt_ty l := by rw [uO _ _ (by omega)]; exact d0
            have z1 : τ (23 + b) 1 = xt_lo l := by rw [uO _ _ (by omega)]; exact d1
            have z2 : τ (23 + b) 2 = xt_hi l := by rw [uO _ _ (by omega)]; exact d2
            have cxτ : cx_n τ := ⟨by rw [uO _ _ (by omega)]; exact hx5.1.2.2.1.1, by rw [uO _ _ (by omega)]; exact hx5.1.2.2.1.2⟩
            have cf := c_fin6 (E := E) (d := d - 1) (σ := τ) (t := ρ 83 5) hb cxτ (by omega) (by omega) (by omega) hf z24 y25 (by omega)
            rw [z26, z0, z1, z2] at cf
            have nd := xt_nd_in h2.2.2.2.1 h2.2.2.2.2.1.1
            have m5 := h2.1.2.2.2.2.2.1
            have m5' := h2.1.2.2.2.2.2.2
            have hnodes := hn.2.2.2.2.1
            -- the reference: one bracket less
            have hR6 : rd_R (js_up τ 1 5 (ρ5 83 10 - 1)) (js_up ρ5 83 10 (ρ5 83 10 - 1)) j5 := rd_deep (rd_R_of r5 (fun i _ => uO _ _ (by omega)) (fun a i _ _ => uO _ _ (by omega)) (fun _ _ _ => rfl) (fun _ => rfl)) (by omega) (by omega)
            have w5' := js_w_of (x := n) (by omega) (by omega)
            have wt := js_w_of (x := ρ5 101 n) (by rw [nd.2.2.1]; omega) (by rw [nd.2.2.1]; omega)
            have gO : ∀ a i : Int, ¬ (a = 83 ∧ i = 10) → js_up ρ5 83 10 (ρ5 83 10 - 1) a i = ρ5 a i := fun a i h => js_up_ne _ h
            have g10 : js_up ρ5 83 10 (ρ5 83 10 - 1) 83 10 = ρ5 83 10 - 1 := js_up_same _ _ _ _
            have h59 : ρ5 83 9 = 0 := ok5.2.2.1
            have e90 : js_J E e 225 52 [(2, 83), (0, if ρ 83 5 = 45 then 1 else 0), (0, ρ 83 6), (9, 0)] [(2, 83)] ρ1 = if xt_ty l = (if ρ 83 5 = 45 then 0 else 1) then js_J E e 225 99 [(2, 83), (0, if ρ 83 5 = 45 then 1 else 0), (0, ρ 83 6), (0, n)] [] (js_up ρ5 83 10 (ρ5 83 10 - 1)) else js_J E e 225 96 [(2, 83), (0, if ρ 83 5 = 45 then 1 else 0), (0, ρ 83 6), (0, n)] [(0, ρ 83 6), (0, 5), (2, 83)] (js_up ρ5 83 10 (ρ5 83 10 - 1)) := by
              rw [k_225_52 (by omega) er, b_225_55, h59, if_neg (show ¬ 0 < js_w 0 by decide), w5', if_pos (show 0 ≤ n ∧ n < 66000 by omega)]
              rcases hf with h | h
              · rw [if_pos h, if_pos h, if_neg (show ¬ js_w 1 = 0 by decide), b_225_90, wt, nd.2.2.1]
                rfl
              · rw [if_neg (show ¬ ρ 83 5 = 45 by omega), if_neg (show ¬ ρ 83 5 = 45 by omega), if_pos (show js_w 0 = 0 from rfl), b_225_90, wt, nd.2.2.1]
                rfl
            rw [e90]
            have Fτ : ef_R b (σ (8 + b) 6) (σ (8 + b) 10) (σ (23 + b) 15) σ τ := ef_R_trans F02 (ef_R_trans (ef_R_mono F25 (by omega) (by omega) (by omega)) (fun a i g => uO a i (fun hh => g (ef_D23 ⟨hh.1, Or.inr hh.2⟩))))
            have G05 : eg_R (ρ 83 33) ρ ρ5 := eg_R_trans G01 G15 (by omega)
            have G06 : eg_R (ρ 83 33) ρ (js_up ρ5 83 10 (ρ5 83 10 - 1)) := eg_R_trans G05 (eg_R_up (by omega)) (Int.le_refl _)
            have n5e : τ 1 5 = ρ5 83 10 := by rw [uO _ _ (by omega)]; exact r5.2.2.2.1
            by_cases tt : xt_ty l = (if ρ 83 5 = 45 then 0 else 1)
            · rw [if_pos tt] at cf ⊢
              -- the e as it stands in front of its operator
              have hfr : xk_R b F B σ ρ j (js_up τ 1 5 (ρ5 83 10 - 1)) (js_up ρ5 83 10 (ρ5 83 10 - 1)) j5 n l := by
                refine xr_frame (σ1 := σ2) (ρ1 := ρ1) (j1 := j + 1) (σ2 := σ5) (ρ2 := ρ5) (j2 := j5) hb (xs_hg hx) F02 (fun i _ _ => v i) (by omega) G01 n33 n44 (by omega) h2 (fun a i g => ?_) (fun i _ _ => ?_) (fun i g1 g2 => ?_) ?_ (fun a i g1 g2 => gO a i (by omega)) (gO _ _ (by omega)) (gO _ _ (by omega)) (by rw [g10]; omega) (Nat.le_refl _) hR6 (by unfold zz_b; omega)
                · rw [js_up_ne _ (fun hh => g (ef_D1 ⟨hh.1, by omega⟩)), uO _ _ (fun hh => g (ef_D23 ⟨hh.1, Or.inr hh.2⟩))]
                · rw [js_up_na _ (by omega), uO _ _ (by omega)]
                · rw [js_up_na _ (by omega), uO _ _ (by omega)]
                · rw [js_up_na _ (by omega), u15]
              have hz5 := xn_cz hn5 r5
              have hnn : (js_up ρ5 83 10 (ρ5 83 10 - 1) 83 33 + 1) + j ≤ ρ 83 33 + j5 := by rw [gO _ _ (by omega)]; omega
              have hll : xt_ln l + 1 ≤ 8 * ((j5 : Int) - j) := by
                have := h2.2.2.2.2.2.1.1
                push_cast at this
                omega
              have h6n : js_up ρ5 83 10 (ρ5 83 10 - 1) 83 9 = 0 := by rw [gO _ _ (by omega)]; exact h59
              have h633 : js_up ρ5 83 10 (ρ5 83 10 - 1) 83 33 = ρ5 83 33 := gO _ _ (by omega)
              have e65 : js_up ρ5 83 10 (ρ5 83 10 - 1) 83 5 = ρ5 83 5 := gO _ _ (by omega)
              have gnd : ∀ a : Int, 100 ≤ a → js_up ρ5 83 10 (ρ5 83 10 - 1) a n = ρ5 a n := fun a g => gO _ _ (by omega)
              have z24' : τ (24 + b) (σ (23 + b) 15) = tk_m (ρ 83 5) := by rw [← u15, z24, htk]
              have y25' : τ (25 + b) (σ (23 + b) 15) = 6 := by rw [← u15]; exact y25
              generalize js_up ρ5 83 10 (ρ5 83 10 - 1) = ρ6 at hfr hR6 hnn h6n h633 e65 gnd G06 gO g10 ⊢
              rcases hf with h | h
              · rw [if_pos h] at tt
                rw [if_pos h] at cf
                rw [if_pos h, k_61_108 hb (by omega) cf]
                obtain ⟨ρ7, e7, hw⟩ := r_node (E := E) (e := e - 1) (ρ := ρ6) (k := 5) (ty := 0) (lo := -(xt_hi l)) (hi := -(xt_lo l)) (a := n) (b := 0) (c := 19) h6n (by omega) (by omega) (by decide) (by decide)
                have ern : js_J E e 225 99 [(2, 83), (0, 1), (0, ρ 83 6), (0, n)] [] ρ6 = js_r E (0, ρ6 83 33) ρ7 := by
                  rw [b_225_99, if_neg (show ¬ js_w 1 = 0 by decide), w5', if_pos (show 0 ≤ n ∧ n < 66000 by omega), gnd 105 (by decide), gnd 106 (by decide), nd.2.2.2.1, nd.2.2.2.2, js_w_of (x := xt_lo l) (by omega) (by omega), js_w_of (x := xt_hi l) (by omega) (by omega), k_225_126 (by omega) e7, b_225_129, b_225_144]
                have f0 : js_up (js_up (js_up (js_up τ (23 + b) 0 0) (23 + b) 1 (-xt_hi l)) (23 + b) 2 (-xt_lo l)) 1 5 (ρ5 83 10 - 1) (23 + b) 0 = 0 := by rw [js_up_na _ (by omega), js_up_ni _ (by decide), js_up_ni _ (by decide), js_up_same]
                have f1 : js_up (js_up (js_up (js_up τ (23 + b) 0 0) (23 + b) 1 (-xt_hi l)) (23 + b) 2 (-xt_lo l)) 1 5 (ρ5 83 10 - 1) (23 + b) 1 = -xt_hi l := by rw [js_up_na _ (by omega), js_up_ni _ (by decide), js_up_same]
                have f2' : js_up (js_up (js_up (js_up τ (23 + b) 0 0) (23 + b) 1 (-xt_hi l)) (23 + b) 2 (-xt_lo l)) 1 5 (ρ5 83 10 - 1) (23 + b) 2 = -xt_lo l := by rw [js_up_na _ (by omega), js_up_same]
                have fO : ∀ a i : Int, ¬ (a = 23 + b ∧ 0 ≤ i ∧ i ≤ 2) → js_up (js_up (js_up (js_up τ (23 + b) 0 0) (23 + b) 1 (-xt_hi l)) (23 + b) 2 (-xt_lo l)) 1 5 (ρ5 83 10 - 1) a i = js_up τ 1 5 (ρ5 83 10 - 1) a i := fun a i hh => by
                  by_cases qa : a = 1 ∧ i = 5
                  · rw [qa.1, qa.2, js_up_same, js_up_same]
                  · rw [js_up_ne _ qa, js_up_ne _ qa, js_up_ne _ (by omega), js_up_ne _ (by omega), js_up_ne _ (by omega)]
                have t15 : js_up (js_up (js_up τ (23 + b) 0 0) (23 + b) 1 (-xt_hi l)) (23 + b) 2 (-xt_lo l) (23 + b) 15 = σ (23 + b) 15 := by rw [js_up_ni _ (by decide), js_up_ni _ (by decide), js_up_ni _ (by decide)]; exact u15
                have t25 : js_up (js_up (js_up τ (23 + b) 0 0) (23 + b) 1 (-xt_hi l)) (23 + b) 2 (-xt_lo l) (25 + b) (σ (23 + b) 15) = 6 := by rw [js_up_na _ (by omega), js_up_na _ (by omega), js_up_na _ (by omega)]; exact y25'
                have t24 : js_up (js_up (js_up τ (23 + b) 0 0) (23 + b) 1 (-xt_hi l)) (23 + b) 2 (-xt_lo l) (24 + b) (σ (23 + b) 15) = tk_m (ρ 83 5) := by rw [js_up_na _ (by omega), js_up_na _ (by omega), js_up_na _ (by omega)]; exact z24'
                have t5 : js_up (js_up (js_up τ (23 + b) 0 0) (23 + b) 1 (-xt_hi l)) (23 + b) 2 (-xt_lo l) 1 5 = ρ5 83 10 := by rw [js_up_na _ (by omega), js_up_na _ (by omega), js_up_na _ (by omega)]; exact n5e
                have e111 : js_J E d 61 111 [(2, 23 + b), (0, x1), (0, x2), (0, 1), (0, x45), (0, lv), (0, x65)] [] (js_up (js_up (js_up τ (23 + b) 0 0) (23 + b) 1 (-xt_hi l)) (23 + b) 2 (-xt_lo l)) = js_J E d 61 196 [(2, 23 + b), (0, x1), (0, x2), (0, 1), (0, x45), (0, lv), (0, x65)] [(0, -xt_lo l), (0, -xt_hi l), (0, 0), (0, 19), (2, 8 + b)] (js_up (js_up (js_up (js_up τ (23 + b) 0 0) (23 + b) 1 (-xt_hi l)) (23 + b) 2 (-xt_lo l)) 1 5 (ρ5 83 10 - 1)) := by
                  rw [b_61_111 hb, t15, js_w_of (x := σ (23 + b) 15) (by omega) (by omega), if_pos (show 0 ≤ σ (23 + b) 15 ∧ σ (23 + b) 15 < 512 by omega), t25, if_pos (show 2 < js_w 6 by decide), if_pos (show js_w 6 = 6 by decide), t24, t5, k_61_184 (by omega) (c_opFront (Or.inl h)), if_pos h, b_61_187 hb, f1, f2']
                rw [e111, ern]
                generalize js_up (js_up (js_up (js_up τ (23 + b) 0 0) (23 + b) 1 (-xt_hi l)) (23 + b) 2 (-xt_lo l)) 1 5 (ρ5 83 10 - 1) = σ7 at f0 f1 f2' fO ⊢
                have hz7 : cz_R σ7 b := by unfold cz_R; rw [fO _ _ (by omega), fO _ _ (by omega), js_up_na _ (by omega), js_up_na _ (by omega), uO _ _ (by omega), uO _ _ (by omega)]; exact hz5
                obtain ⟨σ8, e8, he8⟩ := c_set (E := E) (d := d - 1) (σ := σ7) (op := 19) (x := 0) (lo := -xt_hi l) (hi := -xt_lo l) hb hz7 (by omega)
                rw [k_61_196 hb (by omega) e8, b_61_199, b_61_230]
                have e75 : ρ7 83 5 = ρ6 83 5 := hw.2.2.2.2.2.2 _ _ (by omega) (by omega)
                exact Or.inl ⟨σ8, ρ7, j5, ρ6 83 33, lv, x45, x65 + 1, _, rfl, rfl, xr_one hb hx hn hfr hnn hll fO f0 f1 f2' he8 hw ⟨by decide, by decide, by omega, by omega, by omega⟩ ⟨by decide, fun hh => absurd hh (by decide)⟩ hz2' (by decide), by rw [e75, e65]; exact hlv, hlt, hx45, by omega, by omega⟩
              · have h45 : ¬ ρ 83 5 = 45 := by omega
                rw [if_neg h45] at tt
                rw [if_neg h45] at cf
                rw [if_neg h45, k_61_108 hb (by omega) cf]
                have hb01 := h2.2.2.2.2.2.2.2.1.2 tt
                obtain ⟨ρ7, e7, hw⟩ := r_node (E := E) (e := e - 1) (ρ := ρ6) (k := 5) (ty := 1) (lo := 0) (hi := 1) (a := n) (b := 0) (c := 21) h6n (by omega) (by omega) (by decide) (by decide)
                have ern : js_J E e 225 99 [(2, 83), (0, 0), (0, ρ 83 6), (0, n)] [] ρ6 = js_r E (0, ρ6 83 33) ρ7 := by
                  rw [b_225_99, if_pos (show js_w 0 = 0 from rfl), k_225_141 (by omega) e7, b_225_144]
                have f1 : js_up τ 1 5 (ρ5 83 10 - 1) (23 + b) 1 = 0 := by rw [js_up_na _ (by omega), z1]; exact hb01.1
                have f2' : js_up τ 1 5 (ρ5 83 10 - 1) (23 + b) 2 = 1 := by rw [js_up_na _ (by omega), z2]; exact hb01.2
                have f0 : js_up τ 1 5 (ρ5 83 10 - 1) (23 + b) 0 = 1 := by rw [js_up_na _ (by omega), z0]; exact tt
                have fO : ∀ a i : Int, ¬ (a = 23 + b ∧ 0 ≤ i ∧ i ≤ 2) → js_up τ 1 5 (ρ5 83 10 - 1) a i = js_up τ 1 5 (ρ5 83 10 - 1) a i := fun _ _ _ => rfl
                have e111 : js_J E d 61 111 [(2, 23 + b), (0, x1), (0, x2), (0, 1), (0, x45), (0, lv), (0, x65)] [] τ = js_J E d 61 196 [(2, 23 + b), (0, x1), (0, x2), (0, 1), (0, x45), (0, lv), (0, x65)] [(0, 1), (0, 0), (0, 0), (0, 21), (2, 8 + b)] (js_up τ 1 5 (ρ5 83 10 - 1)) := by
                  rw [b_61_111 hb, u15, js_w_of (x := σ (23 + b) 15) (by omega) (by omega), if_pos (show 0 ≤ σ (23 + b) 15 ∧ σ (23 + b) 15 < 512 by omega), y25', if_pos (show 2 < js_w 6 by decide), if_pos (show js_w 6 = 6 by decide), z24', n5e, k_61_184 (by omega) (c_opFront (Or.inr h)), if_neg h45, b_61_187 hb, f1, f2']
                rw [e111, ern]
                have hz7 : cz_R (js_up τ 1 5 (ρ5 83 10 - 1)) b := by unfold cz_R; rw [js_up_na _ (by omega), js_up_na _ (by omega), uO _ _ (by omega), uO _ _ (by omega)]; exact hz5
                obtain ⟨σ8, e8, he8⟩ := c_set (E := E) (d := d - 1) (σ := js_up τ 1 5 (ρ5 83 10 - 1)) (op := 21) (x := 0) (lo := 0) (hi := 1) hb hz7 (by omega)
                rw [k_61_196 hb (by omega) e8, b_61_199, b_61_230]
                have e75 : ρ7 83 5 = ρ6 83 5 := hw.2.2.2.2.2.2 _ _ (by omega) (by omega)
                exact Or.inl ⟨σ8, ρ7, j5, ρ6 83 33, lv, x45, x65 + 1, _, rfl, rfl, xr_one hb hx hn hfr hnn hll fO f0 f1 f2' he8 hw ⟨by decide, by decide, by decide, by decide, by decide⟩ ⟨by decide, fun _ => ⟨rfl, rfl⟩⟩ hz2' (by decide), by rw [e75, e65]; exact hlv, hlt, hx45, by omega, by omega⟩
            · rw [if_neg tt] at cf ⊢
              have h69 : js_up ρ5 83 10 (ρ5 83 10 - 1) 83 9 = 0 := by rw [gO _ _ (by omega)]; exact h59
              obtain ⟨hF, h9e⟩ := rx_bad_new (τ := js_up ρ5 83 10 (ρ5 83 10 - 1)) (k := 5) (p := ρ 83 6) h69 (by decide) (by decide) hplace.1 hplace.2
              generalize js_up ρ5 83 10 (ρ5 83 10 - 1) = ρ6 at hF h9e G06 h69 gO ⊢
              refine Or.inr ⟨rx_bad ρ6 5 (ρ 83 6), 0, ?_, hF, eg_R_trans G06 (eg_R_tf (tf_R_bad _ _ _)) (Int.le_refl _), τ, by rw [kt_61_108 hb (by omega) cf, h9e], Fτ⟩
              rw [k_225_96 (by omega) (r_bad (by omega) (by omega)), b_225_99]
              have hF' := hF
              rcases hf with h | h
              · rw [if_pos h, if_neg (show ¬ js_w 1 = 0 by decide), w5', if_pos (show 0 ≤ n ∧ n < 66000 by omega), k_225_126 (by omega) (r_nodeF hF), b_225_129, b_225_144]
              · rw [if_neg (show ¬ ρ 83 5 = 45 by omega), if_pos (show js_w 0 = 0 from rfl), k_225_141 (by omega) (r_nodeF hF), b_225_144]
          · obtain ⟨g1, g2, g3, g4⟩ := fin ρ' vv (if ρ 83 5 = 45 then 1 else 0) er hff.1 (eg_R_trans G01 hff.2.1 (by omega))
            obtain ⟨σ', ec, Fe⟩ := hff.2.2
            exact Or.inr ⟨_, 0, g1, g2, g3, σ', by rw [ec, g4], ef_R_trans F02 (ef_R_mono Fe (by omega) (by omega) (by omega))⟩
        · obtain ⟨g1, g2, g3, g4⟩ := fin ρ' vv (if ρ 83 5 = 45 then 1 else 0) e3 hff.1 (eg_R_trans G01 hff.2.1 (by omega))
          obtain ⟨σ', ec, Fe⟩ := hff.2.2
          exact Or.inr ⟨_, 0, g1, g2, g3, σ', by rw [ec, g4], ef_R_trans F02 (ef_R_mono Fe (by omega) (by omega) (by omega))⟩
      · obtain ⟨g1, g2, g3, g4⟩ := fin ρ1 0 (if ρ 83 5 = 45 then 1 else 0) (r_frontF hF1 (by omega)) hF1 G01
        exact Or.inr ⟨_, 0, g1, g2, g3, σ1, by rw [kt_62_50 (by omega) c2, g4], F01⟩
    · have h45 : ¬ ρ 83 5 = 45 := fun h => hf (Or.inl h)
      have h33 : ¬ ρ 83 5 = 33 := fun h => hf (Or.inr h)
      refine Or.inl ⟨σ, ?_, ?_⟩
      · rw [b_62_2 hb, js_w_of (x := m) (by omega) (by omega), if_pos (show m < 1000000 by omega), c7, js_w_of (x := tk_m (ρ 83 5)) (by omega) (by omega), if_neg (fun hh => h45 (i45.mp hh)), if_neg (fun hh => h33 (i33.mp hh))]
      · have hm := hM (d - 1) (e - 1) σ ρ j hJ hx hn hR (by omega) (by omega) (by omega) (by omega)
        have ef : js_J E e 225 0 [(2, 83), (9, 0), (9, 0), (9, 0)] [] ρ = js_J E e 225 19 [(2, 83), (9, 0), (9, 0), (9, 0)] [(2, 83)] ρ := by
          rw [b_225_0, w5, if_neg h45, if_neg h33]
        have hy := y_33 (x1 := x1) (x2 := x2) (ux5 := ux5) (ux6 := ux6) (d := d) hb hn (by omega) (by decide) hq h40 h41 (by omega) hm hR
        rw [ef]
        rcases hy with ⟨σ', ρ', j', n, lv, x4', x6, t, er, rest⟩ | ⟨ρ', vv, er, rest⟩
        · exact Or.inl ⟨σ', ρ', j', n, lv, x4', x6, t, by rw [k_225_19 (by omega) er, b_225_22], rest⟩
        · exact Or.inr ⟨ρ', vv, by rw [k_225_19 (by omega) er, b_225_22], rest⟩
/-- the level of what stands in front -/
theorem y_225 {E : js_E} {b F : Int} {B : Int → Int} {X : Int → Prop} {d e : Nat} {x1 x2 D : Int} {J0 : Nat} (hb : b = 0 ∨ b = 25) (hM : xm_P E b F B X J0) (hd : 4 * (65 - D) + 25 ≤ (d : Int)) (he : 12 * (65 - D) + 19 ≤ (e : Int)) (hD : D ≤ 64) : xl_P E b F B X d x1 x2 D 3 5 7 6 (fun c => c) J0 (fun ρ => js_J E e 225 0 [(2, 83), (9, 0), (9, 0), (9, 0)] [] ρ) := by
  intro σ ρ j x4 ux5 ux6 c hJ hx hn hR hq h40 h41
  have hj := rd_j hR
  have qD := hq.1
  have hq' : xq_R b x2 (ρ 83 10) 3 5 7 c σ ρ := by rw [qD]; exact hq
  show xc_P E b F B d x1 x2 6 c σ ρ j _ (js_J E e 225 0 [(2, 83), (9, 0), (9, 0), (9, 0)] [] ρ)
  rw [b_61_18, js_w_of (x := x4) (by omega) (by omega), if_pos (show x4 < 1000000 by omega), if_neg (show ¬ js_w 1 = 0 by decide)]
  rcases y_front (d := d) (x1 := x1) (x2 := x2) hb hM 8200 e σ ρ j x4 0 ux5 ux6 c (by omega) hJ hx hn hR hq' h40 h41 (by decide) (by omega) (by omega) (by omega) with ⟨σ2, e1, hc⟩ | ⟨ρ', v, e1, hf⟩
  · have e62 : js_J E (d - 1) 62 0 [(2, 23 + b), (9, 0)] [] σ = js_r0 E σ2 := by rw [b_62_0, e1]
    rw [k_61_30 hb (by omega) e62]
    exact hc
  · obtain ⟨σ', ec, Fe⟩ := hf.2.2
    have e62 : js_J E (d - 1) 62 0 [(2, 23 + b), (9, 0)] [] σ = th_P E σ' (ρ' 83 9) := by rw [b_62_0, ec]
    exact Or.inr ⟨ρ', v, e1, hf.1, hf.2.1, σ', by rw [kt_61_30 hb (by omega) e62], Fe⟩
