/-! part 99.zzj: a whole BLOCK in step -/
section SF
variable {E : js_E} {d e : Nat} {b F : Int} {B U : Int → Int} {X : Int → Prop} {σ ρ : js_S} {j : Nat}
theorem r_212F (h : rx_F ρ) : js_J E e 212 0 [(2, 83), (9, 0), (9, 0), (9, 0)] [] ρ = js_r E (0, -1) ρ := by
  have n9 : ¬ js_w (ρ 83 9) = 0 := by have := rx_F_9 h; omega
  rw [b_212_0, b_212_4, if_neg n9]
/-- what is hidden after a fault -/
theorem r_240F {f : Int} (h0 : 0 ≤ f) (hf : f ≤ 400) (h1 : 0 ≤ ρ 83 11) (h4 : ρ 83 11 ≤ 400) : ∃ ρ' : js_S, js_J E e 240 0 [(2, 83), (0, f), (9, 0)] [] ρ = js_r0 E ρ' ∧ (∀ a i : Int, a ≠ 99 → ρ' a i = ρ a i) := by
  by_cases g : f ≤ ρ 83 11
  · obtain ⟨ρ3, e3, h31, h32⟩ := r_hide0 (E := E) (e := e) (ρ := ρ) (f := f) h0 g h4
    exact ⟨ρ3, e3, fun a i g1 => h32 a i (by omega)⟩
  · refine ⟨ρ, ?_, fun _ _ _ => rfl⟩
    rw [b_240_0, b_240_2, js_w_of (x := f) (by omega) (by omega), js_w_of (x := ρ 83 11) (by omega) (by omega), if_neg (by omega)]
theorem r_239F (h : rx_F ρ) (he : 6 ≤ e) (h1 : 0 ≤ ρ 83 11) (h4 : ρ 83 11 ≤ 400) (h10 : 0 ≤ ρ 83 10 ∧ ρ 83 10 < 1000) : ∃ ρ' : js_S, js_J E e 239 11 [(2, 83), (0, ρ 83 11), (9, 0)] [] ρ = js_r E (0, -1) ρ' ∧ (∀ a i : Int, ¬ (a = 83 ∧ i = 10) → a ≠ 99 → ρ' a i = ρ a i) := by
  have x11 : js_up ρ 83 10 (ρ 83 10 - 1) 83 11 = ρ 83 11 := js_up_ni _ (by decide)
  obtain ⟨ρ3, e3, h3⟩ := r_240F (E := E) (e := e - 1) (ρ := js_up ρ 83 10 (ρ 83 10 - 1)) (f := ρ 83 11) h1 h4 (by rw [x11]; exact h1) (by rw [x11]; exact h4)
  refine ⟨ρ3, ?_, fun a i g1 g2 => by rw [h3 a i g2, js_up_ne _ g1]⟩
  rw [b_239_11, k_239_12 (by omega) (r_212F h), b_239_15, k_239_19 (by omega) (r_leaveF h (by omega) (by decide) (by decide)), b_239_22, k_239_24 (by omega) e3, b_239_27]
/-- a BLOCK behind which all that was told in it is hidden -/
theorem y_block {J0 : Nat} (hb : b = 0 ∨ b = 25) (hS : sa_P E b F B U X J0) (hJ : J0 ≤ j + 1) (hx : ux_R E b F B U X σ ρ) (hn : xn_R b σ ρ j) (hR : rd_R σ ρ j) (ht : σ (8 + b) 10 ≤ 2 * ρ 83 10 + 2) (hp : σ (23 + b) 15 ≤ 6 * ρ 83 10) (hd : 4 * (65 - ρ 83 10) + 29 ≤ (d : Int)) (he : 12 * (65 - ρ 83 10) + 24 ≤ (e : Int)) : (∃ (σ' ρ' : js_S) (j' : Nat) (m : Int) (r : tr_T), js_J E e 239 0 [(2, 83), (9, 0), (9, 0)] [] ρ = js_r E (0, m) ρ' ∧ js_J E d 55 0 [(2, 22 + b), (0, ρ 83 11), (2, -1), (9, 0)] [] σ = js_r0 E σ' ∧ bl_R E b F B U X 0 σ ρ j σ' ρ' j' m r) ∨ (∃ (ρ' : js_S) (v : Int), js_J E e 239 0 [(2, 83), (9, 0), (9, 0)] [] ρ = js_r E (0, v) ρ' ∧ sF_P E b σ ρ ρ' (js_J E d 55 0 [(2, 22 + b), (0, ρ 83 11), (2, -1), (9, 0)] [] σ)) := by
  have D0 := hR.2.2.2.2.1
  have D1 := hR.2.2.2.2.2
  have hs1 := hx.1.1.1.1
  have hs2 := hx.1.1.1.2.1
  have t123 : tk_m 123 = 123 := by decide
  obtain ⟨ρ1, e1, og1, hor⟩ := y_open (E := E) (d := d - 1) (e := e - 1) (k := 123) hx.1.1.2.2.1 hR (by omega) (by omega) (by unfold tk_V; omega) (by decide)
  rw [t123] at hor
  have x11 : ρ1 83 11 = ρ 83 11 := og1 _ _ (by omega)
  rw [b_239_0, k_239_8 (by omega) e1, b_55_0 hb]
  rcases hor with ⟨σ1, j1, c1, hR1, o1, hj1, hD64, hD1⟩ | ⟨hF1, c1⟩
  · subst hj1
    have F01 : ∀ n t p : Int, ef_R b n t p σ σ1 := fun n t p => ef_R_of o1
    have G01 : ∀ N : Int, eg_R N ρ ρ1 := fun N => eg_R_og og1
    have hx1 := ux_ef hb hx (F01 0 0 0) (G01 0)
    have v : ∀ k : Int, σ1 (8 + b) k = σ (8 + b) k := fun k => o1 _ _ (by omega) (by omega)
    have v6 := v 6
    have v10 := v 10
    have v15 : σ1 (23 + b) 15 = σ (23 + b) 15 := o1 _ _ (by omega) (by omega)
    have u33 : ρ1 83 33 = ρ 83 33 := og1 _ _ (by omega)
    have u44 : ρ1 83 44 = ρ 83 44 := og1 _ _ (by omega)
    have hn1 : xn_R b σ1 ρ1 (j + 1) := by
      have v7 := v 7
      have v11 := v 11
      have v12 := v 12
      unfold xn_R at hn ⊢
      push_cast
      omega
    rw [k_55_6 (by omega) c1, b_55_9]
    rcases y_blkin (E := E) (d := d) (e := e - 1) (f := ρ 83 11) hb hS hJ hx1 hn1 hR1 (by omega) (by omega) (by omega) (by omega) (by omega) ⟨hs1, by omega⟩ with ⟨σ', ρa, ρb, ρ', j', m, r, el, ev, eh, ec, hbl⟩ | ⟨ρa, ρb, ρ', vv, el, ev, eh, hf⟩
    · obtain ⟨⟨r1, q1, dp1, F1, G1, m1, m1', k1⟩, hL, hC, hT, hu⟩ := hbl
      refine Or.inl ⟨σ', ρ', j', m, r, ?_, ec, ⟨r1, by omega, by omega, ?_, ?_, by omega, ?_, by omega⟩, ?_, ⟨⟨?_, ?_, ?_, ?_, ?_⟩, fun hs => ?_⟩, ⟨?_, hT.2.1, ⟨?_, hT.2.2.1.2.1, ?_⟩, fun h => absurd h (by decide), Int.le_trans hT.2.2.2.2 (by unfold zz_b; omega)⟩, hu⟩
      · rw [b_239_11, k_239_12 (by omega) el, b_239_15, k_239_19 (by omega) ev, b_239_22, k_239_24 (by omega) eh, b_239_27]
      · exact sf_R_trans (sf_R_ef hb (xs_ge hx.1) (F01 _ _ _)) F1 (by omega) (by omega) (by omega) (by omega)
      · exact sg_R_trans (sg_R_eg (G01 _)) G1 (by omega) (by omega)
      · push_cast at m1'
        omega
      · obtain ⟨x, y1, y2, y3, y4⟩ := hL
        exact ⟨x, y1, y2, by rw [y3, u44], by rw [y4, v]⟩
      · rw [hC.1.1, v15]
      · rw [hC.1.2.1, v10]
      · rw [hC.1.2.2.1, v6]
      · rw [hC.1.2.2.2.1, v]
      · rw [hC.1.2.2.2.2, v 11, v10]
      · have k := hC.2 hs
        rw [v 8, v10, v6] at k
        exact k
      · have k := hT.1
        rw [u33] at k
        exact k
      · have k := hT.2.2.1.1
        push_cast at k
        omega
      · have k := hT.2.2.1.2.2
        rw [v10] at k
        exact k
    · refine Or.inr ⟨ρ', vv, ?_, sF_up (fr_R_ef hb (F01 0 0 0)) (rf_R_eg (G01 0)) hf⟩
      rw [b_239_11, k_239_12 (by omega) el, b_239_15, k_239_19 (by omega) ev, b_239_22, k_239_24 (by omega) eh, b_239_27]
  · rw [kt_55_6 (by omega) c1, ← x11]
    have hF9 := hF1
    obtain ⟨ρ', e2, h2⟩ : ∃ ρ' : js_S, js_J E e 239 11 [(2, 83), (0, ρ1 83 11), (9, 0)] [] ρ1 = js_r E (0, -1) ρ' ∧ (∀ a i : Int, ¬ (a = 83 ∧ i = 10) → a ≠ 99 → ρ' a i = ρ1 a i) := by
      have x12 : js_up ρ1 83 10 (ρ1 83 10 - 1) 83 11 = ρ1 83 11 := js_up_ni _ (by decide)
      obtain ⟨ρ3, e3, h3⟩ := r_240F (E := E) (e := e - 1) (ρ := js_up ρ1 83 10 (ρ1 83 10 - 1)) (f := ρ1 83 11) (by omega) (by omega) (by rw [x12]; omega) (by rw [x12]; omega)
      refine ⟨ρ3, ?_, fun a i g1 g2 => by rw [h3 a i g2, js_up_ne _ g1]⟩
      rw [b_239_11, k_239_12 (by omega) (r_212F hF1), b_239_15, k_239_19 (by omega) (r_leaveF hF1 (by omega) (by decide) (by decide)), b_239_22, k_239_24 (by omega) e3, b_239_27]
    have f0 : sF_P E b σ ρ ρ1 (th_P E σ (ρ1 83 9)) := ⟨fun a i g1 g2 => og1 a i (by omega), hF1, by omega, by omega, σ, rfl, fr_R_refl _ _, hx.1.1.2.2.2.1, hx.1.1.2.2.1⟩
    exact Or.inr ⟨ρ', -1, e2, sF_more f0 h2⟩
end SF
