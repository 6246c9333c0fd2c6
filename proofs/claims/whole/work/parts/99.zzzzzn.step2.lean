/-! part 99.zzzzzn: one STEP, by both, to its end -/
theorem wm_op {Fu : Int → Int → Int → Prop} {N a z l p : Int} {ρ : js_S} (h : wm_P Fu N ρ a z l p) : 0 ≤ ρ 111 p ∧ ρ 111 p ≤ 30 := by
  rcases h with ⟨h1, _⟩ | ⟨h1, _⟩ | ⟨h1, _⟩ | ⟨h1, _⟩ | ⟨h1, _⟩ | ⟨h1, _⟩ | ⟨h1, _⟩ <;> omega
/-- Run r after its end -/
def en_S (σ : js_S) (r x k : Int) : js_S := js_up (js_up (js_up (js_up σ (58 + r) 1 x) (58 + r) 2 k) (58 + r) 0 0) (58 + r) 1 0
section EN
variable {σ ρ : js_S} {r x k N : Int}
theorem en_o {a i : Int} (h : ¬ (a = 58 + r ∧ 0 ≤ i ∧ i ≤ 2)) : en_S σ r x k a i = σ a i := by
  unfold en_S
  rw [js_up_ne _ (by omega), js_up_ne _ (by omega), js_up_ne _ (by omega), js_up_ne _ (by omega)]
theorem en_0 : en_S σ r x k (58 + r) 0 = 0 := by
  unfold en_S
  rw [js_up_ni _ (by decide), js_up_same]
theorem en_1 : en_S σ r x k (58 + r) 1 = 0 := by
  unfold en_S
  exact js_up_same _ _ _ _
theorem en_2 : en_S σ r x k (58 + r) 2 = k := by
  unfold en_S
  rw [js_up_ni _ (by decide), js_up_ni _ (by decide), js_up_same]
theorem cq_cl {x0 c : Int} {σ' : js_S} (h : cq_R N x0 c σ ρ) (h1 : ∀ i : Int, i = 0 ∨ i = 1 → σ' x0 i = σ x0 i) (h2 : ∀ i : Int, σ' (x0 + 2) i = σ (x0 + 2) i) : cq_R N x0 c σ' ρ := ⟨by rw [h1 _ (by omega)]; exact h.1, by rw [h1 _ (by omega)]; exact h.2.1, fun k k1 k2 => by rw [h2]; exact h.2.2 k k1 k2⟩
end EN
section YT
variable {E : js_E} {d e : Nat} {Fu : Int → Int → Int → Prop} {ac zc b r N : Int} {T : Nat} {σ ρ : js_S}
theorem y_step (hb : b = 0 ∨ b = 25) (hr : r = 0 ∨ r = 7 ∨ r = 14) (hp : pr_R E b T N σ ρ) (hw : wc_P Fu ac zc N ρ) (hst : ac ≤ ρ 83 50 ∧ ρ 83 50 < zc) (hR : rn_R Fu ac zc N r σ ρ) (hd : 30 ≤ d) (he : 30 ≤ e) : ∃ σ' ρ' : js_S, js_J E d 145 0 [(2, 58 + r), (2, 7 + b), (9, 0)] [] σ = js_r0 E σ' ∧ sc_F r σ σ' ∧ sr_F ρ ρ' ∧ ys_R E e Fu ac zc N r ρ σ' ρ' := by
  obtain ⟨⟨g0, g7⟩, ⟨g1, g9, g3, g8, g30⟩, ⟨hq1, hq2⟩, hm⟩ := hR
  have hN := hp.1.2.1
  have hbd := hp.2.1.2.2.1
  have hstart := hp.2.1.2.1
  obtain ⟨o, hx⟩ : ∃ o : Int, (ρ 83 77 - 1 = 0 ∧ 56 + r + 3 * ρ 83 77 = 59 + r ∧ o = 1 ∨ ρ 83 77 - 1 = 1 ∧ 56 + r + 3 * ρ 83 77 = 62 + r ∧ o = 58659) := by
    rcases g7 with q | q
    · exact ⟨1, Or.inl (by omega)⟩
    · exact ⟨58659, Or.inr (by omega)⟩
  have hop : 0 ≤ ρ 111 (ρ 83 78) ∧ ρ 111 (ρ 83 78) ≤ 30 := by
    obtain ⟨_, _, _, n, l, _, m5⟩ := hm
    obtain ⟨_, _, _, ⟨_, h2⟩, _⟩ := ms_un hw n _ l m5
    exact wm_op h2
  have hC : js_isC E.1 (56 + r + 3 * ρ 83 77) o := by
    rcases hx with ⟨_, c2, c3⟩ | ⟨_, c2, c3⟩
    · rw [c2, c3]
      exact js_c1 hr
    · rw [c2, c3]
      exact js_c2 hr
  obtain ⟨p, σ1, ρ1, ρ2, v, u, hpe, ⟨hp0, hρ1⟩, e1, e2, f1, f2, ⟨k9, k0⟩, ⟨q1, q2⟩, f4⟩ := rn_i (E := E) (d := d - 1) (e := e - 1) (x := ρ 83 79 + 1) (y := ρ 83 80 + 1) hb hr hx hp hw hq1 hq2 hm (by omega) (by omega)
  rw [← hpe] at hop
  have wp : js_w p = p := js_w_of (by omega) (by omega)
  have c146 : js_J E (d - 1) 146 0 [(2, 58 + r), (0, σ (58 + r) 0 - 1)] [] σ = js_r E (2, 56 + r + 3 * ρ 83 77) σ := by
    rw [b_146_0 hr, g0]
    rcases hx with ⟨c1, c2, _⟩ | ⟨c1, c2, _⟩
    · rw [c1, c2, if_pos (show js_w 0 = 0 from rfl)]
    · rw [c1, c2, if_neg (show ¬ js_w 1 = 0 by decide)]
  have ec : js_J E d 145 0 [(2, 58 + r), (2, 7 + b), (9, 0)] [] σ = js_J E d 145 17 [(2, 58 + r), (2, 7 + b), (9, 0)] [(0, v)] σ1 := by
    rw [b_145_0 hr, k_145_7 hr (by omega) c146, b_145_10 hb, k_145_14 hC (by omega) e1]
  have er : js_J E e 268 11 [(2, 83), (0, ρ 83 77 - 1), (9, 0)] [] ρ = js_J E e 268 69 [(2, 83), (0, ρ 83 77 - 1), (0, p)] [(0, u)] ρ2 := by
    rw [b_268_11, ← hpe, wp, if_pos hp0, ← hρ1, k_268_66 (by omega) e2]
  have s0 : ∀ i : Int, σ1 (58 + r) i = σ (58 + r) i := fun i => f1 _ _ (by omega)
  have t0 : ∀ i : Int, ¬ (78 ≤ i ∧ i ≤ 80) → ρ2 83 i = ρ 83 i := fun i g => f2 _ _ (by omega) (by omega)
  have scf : ∀ σ' : js_S, (∀ a i : Int, ¬ (58 + r ≤ a ∧ a ≤ 64 + r) → σ' a i = σ1 a i) → sc_F r σ σ' := fun σ' h a i g => by rw [h a i g, f1 a i (by omega)]
  have srf : sr_F ρ ρ2 := fun a i g1 g2 => f2 a i (by omega) g2
  have ends : ∀ k : Int, (σ' : js_S) → σ' = en_S σ1 r (σ (58 + r) 1 + 1) k → sc_F r σ σ' ∧ σ' (58 + r) 2 = k ∧ (σ' (58 + r) 0 = 0 ∧ σ' (58 + r) 1 = 0 ∧ cq_R N (59 + r) 0 σ' ρ2 ∧ cq_R N (62 + r) 1 σ' ρ2) := fun k σ' h => by
    subst h
    exact ⟨scf _ (fun a i g => en_o (by omega)), en_2, en_0, en_1, cq_cl q1 (fun i g => en_o (by omega)) (fun i => en_o (by omega)), cq_cl q2 (fun i g => en_o (by omega)) (fun i => en_o (by omega))⟩
  have o11 : ρ2 111 p = ρ 111 p := f2 _ _ (by omega) (by omega)
  have w11 : js_w (ρ 111 p) = ρ 111 p := js_w_of (by omega) (by omega)
  rcases f4 with ⟨hv, hu⟩ | ⟨hv, hu, h29⟩ | ⟨hv, hu, h29, hmd⟩
  · -- it traps
    subst hv hu
    obtain ⟨x1, x2, x3⟩ := ends 1 _ rfl
    refine ⟨en_S σ1 r (σ (58 + r) 1 + 1) 1, ρ2, ?_, x1, srf, Or.inr ⟨x3, Or.inl ⟨1, Or.inl rfl, x2, ?_⟩⟩⟩
    · rw [ec, b_145_17 hr hb, if_pos (show js_w 2 = 2 by decide), s0, k_145_35 hr (by omega) (b_159_0 hr), b_145_38, b_145_121]
      rfl
    · rw [er, b_268_69, if_pos (show js_w 0 = 0 from rfl), k_268_74 (by omega) (r_latch (by omega)), b_268_77]
  · -- it halts
    subst hv hu
    have er2 : js_J E e 268 11 [(2, 83), (0, ρ 83 77 - 1), (9, 0)] [] ρ = (if js_w (ρ 83 77 - 1) = 0 then js_J E e 268 112 [(2, 83), (0, ρ 83 77 - 1), (0, p)] [(0, 1), (2, 83)] ρ2 else js_J E e 268 119 [(2, 83), (0, ρ 83 77 - 1), (0, p)] [(2, 83)] ρ2) := by
      rw [er, b_268_69, if_neg (show ¬ js_w 1 = 0 by decide), wp, if_pos hp0, o11, w11, if_pos h29]
    rcases g7 with q7 | q7
    · -- the first copy: the second begins
      have c7 : ρ 83 77 - 1 = 0 := by omega
      have n80 : ρ 83 79 + 1 ≤ 100000 := by have := g30 q7; omega
      have ecc : js_J E d 145 0 [(2, 58 + r), (2, 7 + b), (9, 0)] [] σ = js_r0 E (js_up (js_up (js_up (js_up (js_up (js_up (js_up σ1 (58 + r) 1 (σ (58 + r) 1 + 1)) (58 + r) 0 2) (58 + r) 3 (σ (58 + r) 1 + 1)) (62 + r) 0 0) (62 + r) 1 0) (62 + r) 2 (ρ 83 50)) (62 + r) 3 0) := by
        rw [ec, b_145_17 hr hb, if_neg (show ¬ js_w 1 = 2 by decide), if_neg (show ¬ js_w 1 = 0 by decide), s0, g0, q7, if_pos (show js_w 1 = 1 by decide), s0, k_145_98 hr (by omega) (b_144_0 (js_c2 hr)), b_145_101, b_145_121, f1 _ _ (show ¬ (59 + r ≤ 7 + b ∧ 7 + b ≤ 64 + r) by omega), hstart]
      have a1 : ∀ a i : Int, ¬ (a = 58 + r ∧ (i = 0 ∨ i = 1 ∨ i = 3)) → ¬ (a = 62 + r ∧ 0 ≤ i ∧ i ≤ 3) → js_up (js_up (js_up (js_up (js_up (js_up (js_up σ1 (58 + r) 1 (σ (58 + r) 1 + 1)) (58 + r) 0 2) (58 + r) 3 (σ (58 + r) 1 + 1)) (62 + r) 0 0) (62 + r) 1 0) (62 + r) 2 (ρ 83 50)) (62 + r) 3 0 a i = σ1 a i := fun a i h1 h2 => by rw [js_up_ne _ (by omega), js_up_ne _ (by omega), js_up_ne _ (by omega), js_up_ne _ (by omega), js_up_ne _ (by omega), js_up_ne _ (by omega), js_up_ne _ (by omega)]
      have b0 : js_up (js_up (js_up (js_up (js_up (js_up (js_up σ1 (58 + r) 1 (σ (58 + r) 1 + 1)) (58 + r) 0 2) (58 + r) 3 (σ (58 + r) 1 + 1)) (62 + r) 0 0) (62 + r) 1 0) (62 + r) 2 (ρ 83 50)) (62 + r) 3 0 (58 + r) 0 = 2 := by rw [js_up_na _ (by omega), js_up_na _ (by omega), js_up_na _ (by omega), js_up_na _ (by omega), js_up_ni _ (by decide), js_up_same]
      have b1 : js_up (js_up (js_up (js_up (js_up (js_up (js_up σ1 (58 + r) 1 (σ (58 + r) 1 + 1)) (58 + r) 0 2) (58 + r) 3 (σ (58 + r) 1 + 1)) (62 + r) 0 0) (62 + r) 1 0) (62 + r) 2 (ρ 83 50)) (62 + r) 3 0 (58 + r) 1 = σ (58 + r) 1 + 1 := by rw [js_up_na _ (by omega), js_up_na _ (by omega), js_up_na _ (by omega), js_up_na _ (by omega), js_up_ni _ (by decide), js_up_ni _ (by decide), js_up_same]
      have b3 : js_up (js_up (js_up (js_up (js_up (js_up (js_up σ1 (58 + r) 1 (σ (58 + r) 1 + 1)) (58 + r) 0 2) (58 + r) 3 (σ (58 + r) 1 + 1)) (62 + r) 0 0) (62 + r) 1 0) (62 + r) 2 (ρ 83 50)) (62 + r) 3 0 (58 + r) 3 = σ (58 + r) 1 + 1 := by rw [js_up_na _ (by omega), js_up_na _ (by omega), js_up_na _ (by omega), js_up_na _ (by omega), js_up_same]
      have d0 : js_up (js_up (js_up (js_up (js_up (js_up (js_up σ1 (58 + r) 1 (σ (58 + r) 1 + 1)) (58 + r) 0 2) (58 + r) 3 (σ (58 + r) 1 + 1)) (62 + r) 0 0) (62 + r) 1 0) (62 + r) 2 (ρ 83 50)) (62 + r) 3 0 (62 + r) 0 = 0 := by rw [js_up_ni _ (by decide), js_up_ni _ (by decide), js_up_ni _ (by decide), js_up_same]
      have d1 : js_up (js_up (js_up (js_up (js_up (js_up (js_up σ1 (58 + r) 1 (σ (58 + r) 1 + 1)) (58 + r) 0 2) (58 + r) 3 (σ (58 + r) 1 + 1)) (62 + r) 0 0) (62 + r) 1 0) (62 + r) 2 (ρ 83 50)) (62 + r) 3 0 (62 + r) 1 = 0 := by rw [js_up_ni _ (by decide), js_up_ni _ (by decide), js_up_same]
      have d2 : js_up (js_up (js_up (js_up (js_up (js_up (js_up σ1 (58 + r) 1 (σ (58 + r) 1 + 1)) (58 + r) 0 2) (58 + r) 3 (σ (58 + r) 1 + 1)) (62 + r) 0 0) (62 + r) 1 0) (62 + r) 2 (ρ 83 50)) (62 + r) 3 0 (62 + r) 2 = ρ 83 50 := by rw [js_up_ni _ (by decide), js_up_same]
      have d3 : js_up (js_up (js_up (js_up (js_up (js_up (js_up σ1 (58 + r) 1 (σ (58 + r) 1 + 1)) (58 + r) 0 2) (58 + r) 3 (σ (58 + r) 1 + 1)) (62 + r) 0 0) (62 + r) 1 0) (62 + r) 2 (ρ 83 50)) (62 + r) 3 0 (62 + r) 3 = 0 := js_up_same _ _ _ _
      generalize js_up (js_up (js_up (js_up (js_up (js_up (js_up σ1 (58 + r) 1 (σ (58 + r) 1 + 1)) (58 + r) 0 2) (58 + r) 3 (σ (58 + r) 1 + 1)) (62 + r) 0 0) (62 + r) 1 0) (62 + r) 2 (ρ 83 50)) (62 + r) 3 0 = σ3 at ecc a1 b0 b1 b3 d0 d1 d2 d3
      have err : js_J E e 268 11 [(2, 83), (0, ρ 83 77 - 1), (9, 0)] [] ρ = js_r0 E (js_up (js_up (js_up (js_up (js_up (js_up ρ2 83 77 2) 83 78 (ρ2 83 50)) 83 80 0) 121 1 0) 122 1 0) 124 1 0) := by
        rw [er2, c7, if_pos (show js_w 0 = 0 from rfl), k_268_112 (by omega) (by rw [b_267_0, show js_w 1 = 1 by decide, if_pos (by decide)]), b_268_115, b_268_122]
        rfl
      have u50 : ρ2 83 50 = ρ 83 50 := t0 _ (by decide)
      rw [u50] at err
      have r1 : ∀ a i : Int, ¬ (a = 83 ∧ (i = 77 ∨ i = 78 ∨ i = 80)) → ¬ ((a = 121 ∨ a = 122 ∨ a = 124) ∧ i = 1) → js_up (js_up (js_up (js_up (js_up (js_up ρ2 83 77 2) 83 78 (ρ 83 50)) 83 80 0) 121 1 0) 122 1 0) 124 1 0 a i = ρ2 a i := fun a i h1 h2 => by rw [js_up_ne _ (by omega), js_up_ne _ (by omega), js_up_ne _ (by omega), js_up_ne _ (by omega), js_up_ne _ (by omega), js_up_ne _ (by omega)]
      have r7 : js_up (js_up (js_up (js_up (js_up (js_up ρ2 83 77 2) 83 78 (ρ 83 50)) 83 80 0) 121 1 0) 122 1 0) 124 1 0 83 77 = 2 := by rw [js_up_na _ (by decide), js_up_na _ (by decide), js_up_na _ (by decide), js_up_ni _ (by decide), js_up_ni _ (by decide), js_up_same]
      have r8 : js_up (js_up (js_up (js_up (js_up (js_up ρ2 83 77 2) 83 78 (ρ 83 50)) 83 80 0) 121 1 0) 122 1 0) 124 1 0 83 78 = ρ 83 50 := by rw [js_up_na _ (by decide), js_up_na _ (by decide), js_up_na _ (by decide), js_up_ni _ (by decide), js_up_same]
      have r0 : js_up (js_up (js_up (js_up (js_up (js_up ρ2 83 77 2) 83 78 (ρ 83 50)) 83 80 0) 121 1 0) 122 1 0) 124 1 0 83 80 = 0 := by rw [js_up_na _ (by decide), js_up_na _ (by decide), js_up_na _ (by decide), js_up_same]
      have ra : js_up (js_up (js_up (js_up (js_up (js_up ρ2 83 77 2) 83 78 (ρ 83 50)) 83 80 0) 121 1 0) 122 1 0) 124 1 0 121 1 = 0 := by rw [js_up_na _ (by decide), js_up_na _ (by decide), js_up_same]
      have rb : js_up (js_up (js_up (js_up (js_up (js_up ρ2 83 77 2) 83 78 (ρ 83 50)) 83 80 0) 121 1 0) 122 1 0) 124 1 0 122 1 = 0 := by rw [js_up_na _ (by decide), js_up_same]
      have rd : js_up (js_up (js_up (js_up (js_up (js_up ρ2 83 77 2) 83 78 (ρ 83 50)) 83 80 0) 121 1 0) 122 1 0) 124 1 0 124 1 = 0 := js_up_same _ _ _ _
      generalize js_up (js_up (js_up (js_up (js_up (js_up ρ2 83 77 2) 83 78 (ρ 83 50)) 83 80 0) 121 1 0) 122 1 0) 124 1 0 = ρ3 at err r1 r7 r8 r0 ra rb rd
      refine ⟨σ3, ρ3, ecc, scf _ (fun a i g => a1 a i (by omega) (by omega)), fun a i h1 h2 => by rw [r1 a i (by omega) (by omega), f2 a i (by omega) h2], Or.inl ⟨err, by rw [r1 _ _ (by omega) (by omega), k9], ⟨by rw [b0, r7], by rw [r7]; exact Or.inr rfl⟩, ⟨?_, ?_, ?_, ?_, ?_⟩, ⟨?_, ?_⟩, ?_⟩⟩
      · rw [b1, r1 _ _ (by omega) (by omega), k9, g1]
      · rw [b3, r0, r1 _ _ (by omega) (by omega), k9, g1]
        omega
      · rw [b3, g1]
        omega
      · rw [r0, r1 _ _ (by omega) (by omega), t0 _ (by decide)]
        omega
      · intro h
        rw [r7] at h
        omega
      · refine ⟨?_, ?_, fun k k1 k2 => ?_⟩
        · rw [a1 _ _ (by omega) (by omega), r1 _ _ (by omega) (by omega)]
          exact q1.1
        · rw [a1 _ _ (by omega) (by omega), r1 _ _ (by omega) (by omega)]
          exact q1.2.1
        · rw [a1 _ _ (by omega) (by omega), r1 _ _ (by omega) (by omega)]
          exact q1.2.2 k k1 k2
      · refine ⟨by rw [d0, ra], by rw [d1, rb], fun k k1 k2 => ?_⟩
        rw [a1 _ _ (by omega) (by omega), r1 _ _ (by omega) (by omega)]
        exact q2.2.2 k k1 k2
      · rw [r7, r8, show (56 : Int) + r + 3 * 2 = 62 + r by omega, show (2 : Int) - 1 = 1 by decide]
        exact ⟨d2, by rw [d3, rd], fun k k1 k2 => by rw [rd] at k2; omega, 0, 17, by rw [rd]; rfl, rfl, hst.1, hst.2⟩
    · -- the second copy: THE GATE
      have c7 : ρ 83 77 - 1 = 1 := by omega
      have sg : ∀ a i : Int, ¬ (a = 58 + r ∧ i = 1) → js_up σ1 (58 + r) 1 (σ (58 + r) 1 + 1) a i = σ1 a i := fun a i g => js_up_ne _ g
      have hp2 : pr_R E b T N (js_up σ1 (58 + r) 1 (σ (58 + r) 1 + 1)) ρ2 := pr_fr hr hb hp (scf _ (fun a i g => sg a i (by omega))) srf
      obtain ⟨z, hz, ag1, ag2⟩ := y_agree (E := E) (d := d - 1) (e := e - 2) hb hr hp2 (cq_cl q1 (fun i g => sg _ _ (by omega)) (fun i => sg _ _ (by omega))) (cq_cl q2 (fun i g => sg _ _ (by omega)) (fun i => sg _ _ (by omega))) (by omega)
      obtain ⟨x1, x2, x3⟩ := ends (if z = 0 then 3 else 4) _ rfl
      refine ⟨en_S σ1 r (σ (58 + r) 1 + 1) (if z = 0 then 3 else 4), ρ2, ?_, x1, srf, Or.inr ⟨x3, Or.inr ⟨p, z, hz, x2, ag2, ?_⟩⟩⟩
      · have go : ∀ k : Int, js_J E d 145 118 [(2, 58 + r), (2, 7 + b), (0, 1)] [(0, k), (2, 58 + r)] (js_up σ1 (58 + r) 1 (σ (58 + r) 1 + 1)) = js_r0 E (en_S σ1 r (σ (58 + r) 1 + 1) k) := fun k => by
          rw [k_145_118 hr (by omega) (b_159_0 hr), b_145_121]
          rfl
        rw [ec, b_145_17 hr hb, if_neg (show ¬ js_w 1 = 2 by decide), if_neg (show ¬ js_w 1 = 0 by decide), s0, g0, q7, if_neg (show ¬ js_w 2 = 1 by decide), s0, k_145_107 hr (by omega) ag1, b_145_110]
        rcases hz with hz | hz
        · rw [hz, if_pos (show js_w 0 = 0 from rfl), if_pos rfl, go]
        · rw [hz, if_neg (show ¬ js_w 1 = 0 by decide), if_neg (show ¬ (1 : Int) = 0 by decide), go]
      · rw [er2, c7, if_neg (show ¬ js_w 1 = 0 by decide)]
  · -- it goes on
    subst hv hu
    have wd : js_w (σ (58 + r) 1 + 1 - σ (58 + r) 3) = ρ 83 80 + 1 := by
      rw [g1, g9, show σ (58 + r) 3 + ρ 83 80 + 1 - σ (58 + r) 3 = ρ 83 80 + 1 by omega]
      exact js_w_of (by omega) (by omega)
    have wb : js_w (σ1 (7 + b) 4) = ρ 83 51 := by
      rw [f1 _ _ (by omega), hbd.2.2]
      exact js_w_of (by omega) (by omega)
    have er2 : js_J E e 268 11 [(2, 83), (0, ρ 83 77 - 1), (9, 0)] [] ρ = (if ρ 83 80 + 1 < ρ 83 51 then js_J E e 268 105 [(2, 83), (0, ρ 83 77 - 1), (0, p)] [] ρ2 else js_J E e 268 102 [(2, 83), (0, ρ 83 77 - 1), (0, p)] [(0, 2), (2, 83)] ρ2) := by
      rw [er, b_268_69, if_neg (show ¬ js_w 1 = 0 by decide), wp, if_pos hp0, o11, w11, if_neg h29, k0, t0 _ (by decide), js_w_of (x := ρ 83 80 + 1) (by omega) (by omega), js_w_of (x := ρ 83 51) (by omega) (by omega)]
    by_cases t : ρ 83 80 + 1 < ρ 83 51
    · have sg : ∀ a i : Int, ¬ (a = 58 + r ∧ i = 1) → js_up σ1 (58 + r) 1 (σ (58 + r) 1 + 1) a i = σ1 a i := fun a i g => js_up_ne _ g
      have sg1 : js_up σ1 (58 + r) 1 (σ (58 + r) 1 + 1) (58 + r) 1 = σ (58 + r) 1 + 1 := js_up_same _ _ _ _
      have ecc : js_J E d 145 0 [(2, 58 + r), (2, 7 + b), (9, 0)] [] σ = js_r0 E (js_up σ1 (58 + r) 1 (σ (58 + r) 1 + 1)) := by
        rw [ec, b_145_17 hr hb, if_neg (show ¬ js_w 0 = 2 by decide), if_pos (show js_w 0 = 0 from rfl), s0, s0, wd, wb, if_pos t, b_145_121]
      generalize js_up σ1 (58 + r) 1 (σ (58 + r) 1 + 1) = σ3 at sg sg1 ecc
      refine ⟨σ3, ρ2, ecc, scf _ (fun a i g => sg a i (by omega)), srf, Or.inl ⟨by rw [er2, if_pos t, b_268_105], k9, ⟨?_, ?_⟩, ⟨?_, ?_, ?_, ?_, ?_⟩, ⟨cq_cl q1 (fun i g => sg _ _ (by omega)) (fun i => sg _ _ (by omega)), cq_cl q2 (fun i g => sg _ _ (by omega)) (fun i => sg _ _ (by omega))⟩, ?_⟩⟩
      · rw [sg _ _ (by omega), s0, t0 _ (by decide), g0]
      · rw [t0 _ (by decide)]
        exact g7
      · rw [sg1, k9, g1]
      · rw [sg _ _ (by omega), s0, k9, k0, g9]
        omega
      · rw [sg _ _ (by omega), s0]
        exact g3
      · rw [k0, t0 _ (by decide)]
        omega
      · rw [sg _ _ (by omega), s0, t0 _ (by decide)]
        exact g30
      · rw [t0 77 (by decide)]
        obtain ⟨m1, m2, m3, m4⟩ := hmd
        exact ⟨by rw [sg _ _ (by omega)]; exact m1, by rw [sg _ _ (by omega)]; exact m2, fun k k1 k2 => by rw [sg _ _ (by omega)]; exact m3 k k1 k2, m4⟩
    · obtain ⟨x1, x2, x3⟩ := ends 2 _ rfl
      refine ⟨en_S σ1 r (σ (58 + r) 1 + 1) 2, ρ2, ?_, x1, srf, Or.inr ⟨x3, Or.inl ⟨2, Or.inr rfl, x2, ?_⟩⟩⟩
      · rw [ec, b_145_17 hr hb, if_neg (show ¬ js_w 0 = 2 by decide), if_pos (show js_w 0 = 0 from rfl), s0, s0, wd, wb, if_neg t, k_145_63 hr (by omega) (b_159_0 hr), b_145_66, b_145_121]
        rfl
      · rw [er2, if_neg t, k_268_102 (by omega) (r_latch (by omega)), b_268_105]
end YT
