/-! part 99.zzzzzzzq: a probe's Run begins, by both (y_begin with STEP 0 told) -/
section YB
variable {E : js_E} {d e : Nat} {Fu : Int → Int → Int → Prop} {ac zc b r N : Int} {T : Nat} {σ ρ σ0 ρ0 : js_S}
theorem y_begin9 (hb : b = 0 ∨ b = 25) (hr : r = 0 ∨ r = 7 ∨ r = 14) (hp : pr_R E b T N σ ρ) (h56 : σ 56 1 = 7 + b) (hg : gv_R T σ ρ) (hst : ac ≤ ρ 83 50 ∧ ρ 83 50 < zc) (h1 : cq_R N (59 + r) 0 σ ρ) (h2 : cq_R N (62 + r) 1 σ ρ) (hd : 10 ≤ d) (he : 3 ≤ e) : ∃ σ' ρ' : js_S, js_J E d 142 0 [(2, 56), (2, 58 + r), (9, 0), (9, 0), (9, 0)] [] σ = js_r0 E σ' ∧ js_J E e 266 0 [(2, 83), (9, 0), (9, 0), (9, 0)] [] ρ = js_r0 E ρ' ∧ sc_F r σ σ' ∧ sr_F ρ ρ' ∧ ρ' 83 79 = 0 ∧ rn_R Fu ac zc N r σ' ρ' := by
  have hN := hp.1.2.1
  have hbd := hp.2.1.2.2.1
  obtain ⟨σ1, ρ1, u5, u6, w4, f1, f2, f3⟩ := yb_out (E := E) (d := d) (e := e) hb hr hp h56 hg (by omega) T 0 σ ρ (9, 0) (9, 0) (9, 0) (by omega) ⟨fun _ _ _ _ => rfl, fun _ _ _ => rfl, h1, h2⟩
  obtain ⟨i1, i2, i3, i4⟩ := f3
  have f1' : js_J E d 142 2 [(2, 56), (2, 58 + r), (0, 0), (9, 0), (9, 0)] [] σ = js_J E d 142 97 [(2, 56), (2, 58 + r), (0, (T : Int)), u5, u6] [(0, ρ 83 50), (2, 58 + r)] σ1 := f1
  have f2' : js_J E e 266 4 [(2, 83), (0, 0), (0, 0), (9, 0)] [] ρ = js_J E e 266 107 [(2, 83), (0, in_o ρ T), (0, (T : Int)), w4] [(0, 0), (2, 83)] (js_up ρ1 83 79 0) := f2
  have ec : js_J E d 142 0 [(2, 56), (2, 58 + r), (9, 0), (9, 0), (9, 0)] [] σ = js_r0 E (js_up (js_up (js_up (js_up (js_up (js_up (js_up (js_up σ1 (58 + r) 0 1) (58 + r) 1 0) (58 + r) 3 0) (58 + r) 2 0) (59 + r) 0 0) (59 + r) 1 0) (59 + r) 2 (ρ 83 50)) (59 + r) 3 0) := by
    rw [b_142_0, f1', k_142_97 hr (by omega) (by rw [b_143_0 hr, k_143_25 hr (by omega) (b_144_0 (js_c1 hr)), b_143_28]), b_142_100]
  have er : js_J E e 266 0 [(2, 83), (9, 0), (9, 0), (9, 0)] [] ρ = js_r0 E (js_up (js_up (js_up (js_up (js_up (js_up (js_up ρ1 83 79 0) 83 77 1) 83 78 (ρ 83 50)) 83 80 0) 121 0 0) 122 0 0) 124 0 0) := by
    have q50 : js_up ρ1 83 79 0 83 50 = ρ 83 50 := by rw [js_up_ni _ (by decide), i2 _ _ (by decide)]
    rw [b_266_0, f2', k_266_107 (by omega) (by rw [b_267_0, show js_w 0 = 0 from rfl, if_pos (by decide)]), b_266_110, q50]
    rfl
  have a1 : ∀ a i : Int, ¬ (a = 58 + r ∧ 0 ≤ i ∧ i ≤ 3) → ¬ (a = 59 + r ∧ 0 ≤ i ∧ i ≤ 3) → js_up (js_up (js_up (js_up (js_up (js_up (js_up (js_up σ1 (58 + r) 0 1) (58 + r) 1 0) (58 + r) 3 0) (58 + r) 2 0) (59 + r) 0 0) (59 + r) 1 0) (59 + r) 2 (ρ 83 50)) (59 + r) 3 0 a i = σ1 a i := fun a i g1 g2 => by rw [js_up_ne _ (by omega), js_up_ne _ (by omega), js_up_ne _ (by omega), js_up_ne _ (by omega), js_up_ne _ (by omega), js_up_ne _ (by omega), js_up_ne _ (by omega), js_up_ne _ (by omega)]
  have b0 : js_up (js_up (js_up (js_up (js_up (js_up (js_up (js_up σ1 (58 + r) 0 1) (58 + r) 1 0) (58 + r) 3 0) (58 + r) 2 0) (59 + r) 0 0) (59 + r) 1 0) (59 + r) 2 (ρ 83 50)) (59 + r) 3 0 (58 + r) 0 = 1 := by rw [js_up_na _ (by omega), js_up_na _ (by omega), js_up_na _ (by omega), js_up_na _ (by omega), js_up_ni _ (by decide), js_up_ni _ (by decide), js_up_ni _ (by decide), js_up_same]
  have b1 : js_up (js_up (js_up (js_up (js_up (js_up (js_up (js_up σ1 (58 + r) 0 1) (58 + r) 1 0) (58 + r) 3 0) (58 + r) 2 0) (59 + r) 0 0) (59 + r) 1 0) (59 + r) 2 (ρ 83 50)) (59 + r) 3 0 (58 + r) 1 = 0 := by rw [js_up_na _ (by omega), js_up_na _ (by omega), js_up_na _ (by omega), js_up_na _ (by omega), js_up_ni _ (by decide), js_up_ni _ (by decide), js_up_same]
  have b3 : js_up (js_up (js_up (js_up (js_up (js_up (js_up (js_up σ1 (58 + r) 0 1) (58 + r) 1 0) (58 + r) 3 0) (58 + r) 2 0) (59 + r) 0 0) (59 + r) 1 0) (59 + r) 2 (ρ 83 50)) (59 + r) 3 0 (58 + r) 3 = 0 := by rw [js_up_na _ (by omega), js_up_na _ (by omega), js_up_na _ (by omega), js_up_na _ (by omega), js_up_ni _ (by decide), js_up_same]
  have d0 : js_up (js_up (js_up (js_up (js_up (js_up (js_up (js_up σ1 (58 + r) 0 1) (58 + r) 1 0) (58 + r) 3 0) (58 + r) 2 0) (59 + r) 0 0) (59 + r) 1 0) (59 + r) 2 (ρ 83 50)) (59 + r) 3 0 (59 + r) 0 = 0 := by rw [js_up_ni _ (by decide), js_up_ni _ (by decide), js_up_ni _ (by decide), js_up_same]
  have d1 : js_up (js_up (js_up (js_up (js_up (js_up (js_up (js_up σ1 (58 + r) 0 1) (58 + r) 1 0) (58 + r) 3 0) (58 + r) 2 0) (59 + r) 0 0) (59 + r) 1 0) (59 + r) 2 (ρ 83 50)) (59 + r) 3 0 (59 + r) 1 = 0 := by rw [js_up_ni _ (by decide), js_up_ni _ (by decide), js_up_same]
  have d2 : js_up (js_up (js_up (js_up (js_up (js_up (js_up (js_up σ1 (58 + r) 0 1) (58 + r) 1 0) (58 + r) 3 0) (58 + r) 2 0) (59 + r) 0 0) (59 + r) 1 0) (59 + r) 2 (ρ 83 50)) (59 + r) 3 0 (59 + r) 2 = ρ 83 50 := by rw [js_up_ni _ (by decide), js_up_same]
  have d3 : js_up (js_up (js_up (js_up (js_up (js_up (js_up (js_up σ1 (58 + r) 0 1) (58 + r) 1 0) (58 + r) 3 0) (58 + r) 2 0) (59 + r) 0 0) (59 + r) 1 0) (59 + r) 2 (ρ 83 50)) (59 + r) 3 0 (59 + r) 3 = 0 := js_up_same _ _ _ _
  generalize js_up (js_up (js_up (js_up (js_up (js_up (js_up (js_up σ1 (58 + r) 0 1) (58 + r) 1 0) (58 + r) 3 0) (58 + r) 2 0) (59 + r) 0 0) (59 + r) 1 0) (59 + r) 2 (ρ 83 50)) (59 + r) 3 0 = σ2 at ec a1 b0 b1 b3 d0 d1 d2 d3
  have r1 : ∀ a i : Int, ¬ (a = 83 ∧ 77 ≤ i ∧ i ≤ 80) → ¬ ((a = 121 ∨ a = 122 ∨ a = 124) ∧ i = 0) → js_up (js_up (js_up (js_up (js_up (js_up (js_up ρ1 83 79 0) 83 77 1) 83 78 (ρ 83 50)) 83 80 0) 121 0 0) 122 0 0) 124 0 0 a i = ρ1 a i := fun a i g1 g2 => by rw [js_up_ne _ (by omega), js_up_ne _ (by omega), js_up_ne _ (by omega), js_up_ne _ (by omega), js_up_ne _ (by omega), js_up_ne _ (by omega), js_up_ne _ (by omega)]
  have r7 : js_up (js_up (js_up (js_up (js_up (js_up (js_up ρ1 83 79 0) 83 77 1) 83 78 (ρ 83 50)) 83 80 0) 121 0 0) 122 0 0) 124 0 0 83 77 = 1 := by rw [js_up_na _ (by decide), js_up_na _ (by decide), js_up_na _ (by decide), js_up_ni _ (by decide), js_up_ni _ (by decide), js_up_same]
  have r8 : js_up (js_up (js_up (js_up (js_up (js_up (js_up ρ1 83 79 0) 83 77 1) 83 78 (ρ 83 50)) 83 80 0) 121 0 0) 122 0 0) 124 0 0 83 78 = ρ 83 50 := by rw [js_up_na _ (by decide), js_up_na _ (by decide), js_up_na _ (by decide), js_up_ni _ (by decide), js_up_same]
  have r9 : js_up (js_up (js_up (js_up (js_up (js_up (js_up ρ1 83 79 0) 83 77 1) 83 78 (ρ 83 50)) 83 80 0) 121 0 0) 122 0 0) 124 0 0 83 79 = 0 := by rw [js_up_na _ (by decide), js_up_na _ (by decide), js_up_na _ (by decide), js_up_ni _ (by decide), js_up_ni _ (by decide), js_up_ni _ (by decide), js_up_same]
  have r0 : js_up (js_up (js_up (js_up (js_up (js_up (js_up ρ1 83 79 0) 83 77 1) 83 78 (ρ 83 50)) 83 80 0) 121 0 0) 122 0 0) 124 0 0 83 80 = 0 := by rw [js_up_na _ (by decide), js_up_na _ (by decide), js_up_na _ (by decide), js_up_same]
  have ra : js_up (js_up (js_up (js_up (js_up (js_up (js_up ρ1 83 79 0) 83 77 1) 83 78 (ρ 83 50)) 83 80 0) 121 0 0) 122 0 0) 124 0 0 121 0 = 0 := by rw [js_up_na _ (by decide), js_up_na _ (by decide), js_up_same]
  have rb : js_up (js_up (js_up (js_up (js_up (js_up (js_up ρ1 83 79 0) 83 77 1) 83 78 (ρ 83 50)) 83 80 0) 121 0 0) 122 0 0) 124 0 0 122 0 = 0 := by rw [js_up_na _ (by decide), js_up_same]
  have rd : js_up (js_up (js_up (js_up (js_up (js_up (js_up ρ1 83 79 0) 83 77 1) 83 78 (ρ 83 50)) 83 80 0) 121 0 0) 122 0 0) 124 0 0 124 0 = 0 := js_up_same _ _ _ _
  generalize js_up (js_up (js_up (js_up (js_up (js_up (js_up ρ1 83 79 0) 83 77 1) 83 78 (ρ 83 50)) 83 80 0) 121 0 0) 122 0 0) 124 0 0 = ρ2 at er r1 r7 r8 r9 r0 ra rb rd
  refine ⟨σ2, ρ2, ec, er, fun a i g => by rw [a1 a i (by omega) (by omega), i1 a i (by omega) (by omega)], fun a i g1 g2 => by rw [r1 a i g1 (by omega), i2 a i (by omega)], r9, ⟨by rw [b0, r7], by rw [r7]; exact Or.inl rfl⟩, ⟨by rw [b1, r9], by rw [r9, b3, r0]; rfl, by rw [b3]; decide, ?_, fun _ => b3⟩, ⟨⟨by rw [d0, ra], by rw [d1, rb], fun k k1 k2 => ?_⟩, ⟨?_, ?_, fun k k1 k2 => ?_⟩⟩, ?_⟩
  · rw [r0, r1 _ _ (by omega) (by omega), i2 _ _ (by decide)]
    omega
  · rw [a1 _ _ (by omega) (by omega), r1 _ _ (by omega) (by omega)]
    exact i3.2.2 k k1 k2
  · rw [a1 _ _ (by omega) (by omega), r1 _ _ (by omega) (by omega)]
    exact i4.1
  · rw [a1 _ _ (by omega) (by omega), r1 _ _ (by omega) (by omega)]
    exact i4.2.1
  · rw [a1 _ _ (by omega) (by omega), r1 _ _ (by omega) (by omega)]
    exact i4.2.2 k k1 k2
  · rw [r7, r8, show (56 : Int) + r + 3 * 1 = 59 + r by omega, show (1 : Int) - 1 = 0 by decide]
    exact ⟨d2, by rw [d3, rd], fun k k1 k2 => by rw [rd] at k2; omega, 0, 17, by rw [rd]; rfl, rfl, hst.1, hst.2⟩
/-- a CYCLE of the reference and a probe's Run, up to the FLIP's STEP or to the end before it -/
theorem y_pgo {x3 : Int} (hb : b = 0 ∨ b = 25) (hp : psR E Fu ac zc b N T σ ρ) (hg : gv_R T σ ρ) (h1 : cq_R N 66 0 σ ρ) (h2 : cq_R N 69 1 σ ρ) (h77 : ρ 83 77 = 0) (hf : ρ 83 85 = 0 ∨ ρ 83 85 = 1 ∧ ρ 130 0 = x3) (hem : 0 ≤ ρ 83 82 ∧ ρ 83 82 < 2000000000) (hx : 0 ≤ x3 ∧ x3 < 2147483648) (hd : 50 ≤ d) (he : 60 ≤ e) : ∃ σA : js_S, js_J E d 142 0 [(2, 56), (2, 65), (9, 0), (9, 0), (9, 0)] [] σ = js_r0 E σA ∧ sc_F 7 σ σA ∧ (σA 65 0 = 1 ∨ σA 65 0 = 2) ∧ ((∃ σP ρP : js_S, c_it E d b x3.toNat σA σP ∧ sc_F 7 σA σP ∧ sr_F ρ ρP ∧ rn_R Fu ac zc N 7 σP ρP ∧ ρP 83 79 = x3 ∧ js_J E e 278 0 [(2, 83)] [] ρ = js_J E e 278 11 [(2, 83)] [] ρP) ∨ (∃ (m : Nat) (σE ρ3 : js_S), (m : Int) < x3 ∧ m < 200000 ∧ c_en E d b m σA σE ∧ sc_F 7 σA σE ∧ peR T N σE ρ ρ3 ∧ js_J E e 278 0 [(2, 83)] [] ρ = js_r0 E ρ3)) := by
  have hp' := hp
  obtain ⟨⟨h56, hpr⟩, ⟨hw, hst⟩, _⟩ := hp'
  obtain ⟨σA, ρA, e1, e2, s1, r1, n79, hR⟩ := y_begin9 (E := E) (d := d) (e := e - 1) (Fu := Fu) (r := 7) hb (Or.inr (Or.inl rfl)) hpr h56 hg hst h1 h2 (by omega) (by omega)
  have e278 : js_J E e 278 0 [(2, 83)] [] ρ = js_J E e 278 11 [(2, 83)] [] ρA := by
    rw [b_278_0, h77, if_pos (show js_w 0 = 0 from rfl), k_278_8 (by omega) e2]
  refine ⟨σA, e1, s1, rn_65 hR, ?_⟩
  have go := y_ppre (E := E) (d := d) (e := e) (x3 := x3) hb hd he hx.2 x3.toNat 0 σA ρA (by omega) (by rw [n79]; rfl) (psR_fr hb hp s1 r1) hR (by
    rw [r1 83 85 (by omega) (by omega), r1 130 0 (by omega) (by omega)]
    exact hf) (by rw [r1 83 82 (by omega) (by omega)]; exact hem)
  rcases go with ⟨σP, ρP, c1, c2, c3, c4, c5, c6⟩ | ⟨m, σE, ρ3, hm, hm2, c1, c2, c3, c4⟩
  · exact Or.inl ⟨σP, ρP, c1, c2, sr_Ft r1 c3, c4, c5, by rw [e278, c6]⟩
  · exact Or.inr ⟨m, σE, ρ3, by omega, by omega, c1, c2, pe_t r1 c3, by rw [e278, c4]⟩
end YB
