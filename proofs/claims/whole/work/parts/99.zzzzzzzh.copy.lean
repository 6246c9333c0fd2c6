/-! part 99.zzzzzzzh: a Run is copied (the class); what a Run's relation to the reference hangs on -/
section CC
variable {E : js_E} {d : Nat} {N : Int} {σ : js_S}
theorem c_cp {x0 x1 o0 o1 : Int} (hC0 : js_isC E.1 x0 o0) (hC1 : js_isC E.1 x1 o1) (h0 : 59 ≤ x0 ∧ x0 ≤ 76) (h1 : 59 ≤ x1 ∧ x1 ≤ 76) (hx : x0 + 3 ≤ x1 ∨ x1 + 3 ≤ x0) (hN : 0 ≤ N ∧ N ≤ E.1 ∧ N ≤ 4096 ∧ E.1 < 2147483648) (hd : 4 ≤ d) : ∃ σ' : js_S, js_J E d 141 0 [(2, x0), (2, x1), (0, N)] [] σ = js_r0 E σ' ∧ (∀ a i : Int, ¬ (x0 ≤ a ∧ a ≤ x0 + 2) → σ' a i = σ a i) ∧ (∀ i : Int, 0 ≤ i → i ≤ 3 → σ' x0 i = σ x1 i) ∧ (∀ i : Int, 0 ≤ i → i < 16 → σ' (x0 + 1) i = σ (x1 + 1) i) ∧ ∀ k : Int, 0 ≤ k → k < N → σ' (x0 + 2) k = σ (x1 + 2) k := by
  have wE : js_w E.1 = E.1 := js_w_of (by omega) (by omega)
  have wN : js_w N = N := js_w_of (by omega) (by omega)
  have n1 : (if js_w E.1 < js_w N then E.1 else N) = N := by rw [wE, wN, if_neg (by omega)]
  have n2 : js_w (if js_w 0 < js_w N then N else 0) = N := by
    rw [wN]
    by_cases q : 0 < N
    · rw [if_pos (show js_w 0 < N from q), wN]
    · rw [if_neg (show ¬ js_w 0 < N from q), show N = 0 by omega]
      rfl
  have z0 : js_w 0 = 0 := rfl
  have z16 : js_w 16 = 16 := by decide
  have e := b_141_0 (E := E) (d := d) (σ := σ) (x2 := N) hd hC1 hC0 h0 h1 (by decide) (by omega) (by rw [n1, n2, z0]; omega)
  rw [n1, n2, z0, z16] at e
  refine ⟨_, e, fun a i g => ?_, fun i i1 i2 => ?_, fun i i1 i2 => ?_, fun k k1 k2 => ?_⟩
  · unfold js_cp
    rw [if_neg (by omega), if_neg (by omega), js_up_na _ (by omega), js_up_na _ (by omega), js_up_na _ (by omega), js_up_na _ (by omega)]
  · unfold js_cp
    rw [if_neg (by omega), if_neg (by omega)]
    have c : i = 0 ∨ i = 1 ∨ i = 2 ∨ i = 3 := by omega
    rcases c with rfl | rfl | rfl | rfl
    · rw [js_up_ni _ (by decide), js_up_ni _ (by decide), js_up_ni _ (by decide), js_up_same]
    · rw [js_up_ni _ (by decide), js_up_ni _ (by decide), js_up_same, js_up_na _ (by omega)]
    · rw [js_up_ni _ (by decide), js_up_same, js_up_na _ (by omega), js_up_na _ (by omega)]
    · rw [js_up_same, js_up_na _ (by omega), js_up_na _ (by omega), js_up_na _ (by omega)]
  · unfold js_cp
    rw [if_neg (by omega), if_pos (by omega), js_up_na _ (by omega), js_up_na _ (by omega), js_up_na _ (by omega), js_up_na _ (by omega)]
    congr 1
    omega
  · unfold js_cp
    rw [if_pos (by omega), if_neg (by omega), js_up_na _ (by omega), js_up_na _ (by omega), js_up_na _ (by omega), js_up_na _ (by omega)]
    congr 1
    omega
/-- Run r of one store is as Run q of another -/
def sr_Q (N r q : Int) (σ' σ : js_S) : Prop := (∀ i : Int, 0 ≤ i → i ≤ 3 → σ' (58 + r) i = σ (58 + q) i) ∧ (∀ i : Int, 0 ≤ i → i ≤ 3 → σ' (59 + r) i = σ (59 + q) i ∧ σ' (62 + r) i = σ (62 + q) i) ∧ (∀ i : Int, 0 ≤ i → i < 16 → σ' (60 + r) i = σ (60 + q) i ∧ σ' (63 + r) i = σ (63 + q) i) ∧ ∀ k : Int, 0 ≤ k → k < N → σ' (61 + r) k = σ (61 + q) k ∧ σ' (64 + r) k = σ (64 + q) k
theorem c_copy {r q : Int} (hr : r = 0 ∨ r = 7 ∨ r = 14) (hq : q = 0 ∨ q = 7 ∨ q = 14) (hne : r ≠ q) (hN : 0 ≤ N ∧ N ≤ E.1 ∧ N ≤ 4096 ∧ E.1 < 2147483648) (hd : 6 ≤ d) : ∃ σ' : js_S, js_J E d 140 0 [(2, 58 + r), (2, 58 + q), (0, N)] [] σ = js_r0 E σ' ∧ (∀ a i : Int, ¬ (58 + r ≤ a ∧ a ≤ 64 + r) → σ' a i = σ a i) ∧ sr_Q N r q σ' σ := by
  have e0 := b_140_0 (E := E) (d := d) (σ := σ) (x2 := N) hq hr
  obtain ⟨s0, hs0⟩ : ∃ s0 : js_S, s0 = (js_up (js_up (js_up (js_up σ (58 + r) 0 (σ (58 + q) 0)) (58 + r) 1 ((js_up σ (58 + r) 0 (σ (58 + q) 0)) (58 + q) 1)) (58 + r) 3 ((js_up (js_up σ (58 + r) 0 (σ (58 + q) 0)) (58 + r) 1 ((js_up σ (58 + r) 0 (σ (58 + q) 0)) (58 + q) 1)) (58 + q) 3)) (58 + r) 2 ((js_up (js_up (js_up σ (58 + r) 0 (σ (58 + q) 0)) (58 + r) 1 ((js_up σ (58 + r) 0 (σ (58 + q) 0)) (58 + q) 1)) (58 + r) 3 ((js_up (js_up σ (58 + r) 0 (σ (58 + q) 0)) (58 + r) 1 ((js_up σ (58 + r) 0 (σ (58 + q) 0)) (58 + q) 1)) (58 + q) 3)) (58 + q) 2)) := ⟨_, rfl⟩
  rw [← hs0] at e0
  have f0 : ∀ a i : Int, a ≠ 58 + r → s0 a i = σ a i := fun a i g => by rw [hs0, js_up_na _ g, js_up_na _ g, js_up_na _ g, js_up_na _ g]
  have v0 : ∀ i : Int, 0 ≤ i → i ≤ 3 → s0 (58 + r) i = σ (58 + q) i := fun i i1 i2 => by
    have c : i = 0 ∨ i = 1 ∨ i = 2 ∨ i = 3 := by omega
    rw [hs0]
    rcases c with rfl | rfl | rfl | rfl
    · rw [js_up_ni _ (by decide), js_up_ni _ (by decide), js_up_ni _ (by decide), js_up_same]
    · rw [js_up_ni _ (by decide), js_up_ni _ (by decide), js_up_same, js_up_na _ (by omega)]
    · rw [js_up_same, js_up_na _ (by omega), js_up_na _ (by omega), js_up_na _ (by omega)]
    · rw [js_up_ni _ (by decide), js_up_same, js_up_na _ (by omega), js_up_na _ (by omega)]
  obtain ⟨s1, e1, f1, a1, b1, c1⟩ := c_cp (E := E) (d := d - 1) (N := N) (σ := s0) (x0 := 59 + r) (x1 := 59 + q) (js_c1 hr) (js_c1 hq) (by omega) (by omega) (by omega) hN (by omega)
  obtain ⟨s2, e2, f2, a2, b2, c2⟩ := c_cp (E := E) (d := d - 1) (N := N) (σ := s1) (x0 := 62 + r) (x1 := 62 + q) (js_c2 hr) (js_c2 hq) (by omega) (by omega) (by omega) hN (by omega)
  refine ⟨s2, by rw [e0, k_140_41 hr (by omega) e1, b_140_44 hr hq, k_140_53 hr (by omega) e2, b_140_56], fun a i g => by rw [f2 a i (by omega), f1 a i (by omega), f0 a i (by omega)], fun i i1 i2 => ?_, fun i i1 i2 => ⟨?_, ?_⟩, fun i i1 i2 => ⟨?_, ?_⟩, fun k k1 k2 => ⟨?_, ?_⟩⟩
  · rw [f2 _ _ (by omega), f1 _ _ (by omega), v0 i i1 i2]
  · rw [f2 _ _ (by omega), a1 i i1 i2, f0 _ _ (by omega)]
  · rw [a2 i i1 i2, f1 _ _ (by omega), f0 _ _ (by omega)]
  · have g := b1 i i1 i2
    rw [show 59 + r + 1 = 60 + r by omega, show 59 + q + 1 = 60 + q by omega] at g
    rw [f2 _ _ (by omega), g, f0 _ _ (by omega)]
  · have g := b2 i i1 i2
    rw [show 62 + r + 1 = 63 + r by omega, show 62 + q + 1 = 63 + q by omega] at g
    rw [g, f1 _ _ (by omega), f0 _ _ (by omega)]
  · have g := c1 k k1 k2
    rw [show 59 + r + 2 = 61 + r by omega, show 59 + q + 2 = 61 + q by omega] at g
    rw [f2 _ _ (by omega), g, f0 _ _ (by omega)]
  · have g := c2 k k1 k2
    rw [show 62 + r + 2 = 64 + r by omega, show 62 + q + 2 = 64 + q by omega] at g
    rw [g, f1 _ _ (by omega), f0 _ _ (by omega)]
theorem cq_Qs {r q : Int} {σ' ρ : js_S} (s : sr_Q N r q σ' σ) (h1 : cq_R N (59 + q) 0 σ ρ) (h2 : cq_R N (62 + q) 1 σ ρ) : cq_R N (59 + r) 0 σ' ρ ∧ cq_R N (62 + r) 1 σ' ρ := by
  obtain ⟨_, s2, _, s4⟩ := s
  refine ⟨⟨by rw [(s2 0 (by decide) (by decide)).1]; exact h1.1, by rw [(s2 1 (by decide) (by decide)).1]; exact h1.2.1, fun k k1 k2 => ?_⟩, ⟨by rw [(s2 0 (by decide) (by decide)).2]; exact h2.1, by rw [(s2 1 (by decide) (by decide)).2]; exact h2.2.1, fun k k1 k2 => ?_⟩⟩
  · have a := h1.2.2 k k1 k2
    rw [show 59 + q + 2 = 61 + q by omega] at a
    rw [show 59 + r + 2 = 61 + r by omega, (s4 k k1 k2).1]
    exact a
  · have a := h2.2.2 k k1 k2
    rw [show 62 + q + 2 = 64 + q by omega] at a
    rw [show 62 + r + 2 = 64 + r by omega, (s4 k k1 k2).2]
    exact a
theorem rn_Q {r q : Int} {Fu : Int → Int → Int → Prop} {ac zc : Int} {σ' ρ : js_S} (s : sr_Q N r q σ' σ) (h : rn_R Fu ac zc N q σ ρ) : rn_R Fu ac zc N r σ' ρ := by
  obtain ⟨⟨b1, b2⟩, ⟨c1, c2, c3, c4, c5⟩, ⟨d1, d2⟩, m1, m2, m3, n, l, m4, m5⟩ := h
  have s' := s
  obtain ⟨s1, s2, s3, _⟩ := s'
  have lv := ms_lv n _ _ m5
  refine ⟨⟨by rw [s1 0 (by decide) (by decide)]; exact b1, b2⟩, ⟨by rw [s1 1 (by decide) (by decide)]; exact c1, by rw [s1 3 (by decide) (by decide)]; exact c2, by rw [s1 3 (by decide) (by decide)]; exact c3, c4, by rw [s1 3 (by decide) (by decide)]; exact c5⟩, cq_Qs s d1 d2, ?_⟩
  rcases b2 with b | b
  · rw [b] at m1 m2 m3 m4 m5 ⊢
    rw [show 56 + q + 3 * 1 = 59 + q by omega] at m1 m2 m3
    rw [show 56 + r + 3 * 1 = 59 + r by omega]
    refine ⟨by rw [(s2 2 (by decide) (by decide)).1]; exact m1, by rw [(s2 3 (by decide) (by decide)).1]; exact m2, fun k k1 k2 => ?_, n, l, m4, m5⟩
    have a := m3 k k1 k2
    rw [show 59 + q + 1 = 60 + q by omega] at a
    rw [show 59 + r + 1 = 60 + r by omega, (s3 k k1 (by omega)).1]
    exact a
  · rw [b] at m1 m2 m3 m4 m5 ⊢
    rw [show 56 + q + 3 * 2 = 62 + q by omega] at m1 m2 m3
    rw [show 56 + r + 3 * 2 = 62 + r by omega]
    refine ⟨by rw [(s2 2 (by decide) (by decide)).2]; exact m1, by rw [(s2 3 (by decide) (by decide)).2]; exact m2, fun k k1 k2 => ?_, n, l, m4, m5⟩
    have a := m3 k k1 k2
    rw [show 62 + q + 1 = 63 + q by omega] at a
    rw [show 62 + r + 1 = 63 + r by omega, (s3 k k1 (by omega)).2]
    exact a
end CC
