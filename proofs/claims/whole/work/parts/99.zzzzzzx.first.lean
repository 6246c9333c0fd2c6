/-! part 99.zzzzzzx: the row of tokens is made; the first token is looked at -/
section TF
variable {E : js_E} {d : Nat} {σ ρ : js_S}
theorem rx_next_ok1 (h1 : rx_tp ρ) (h2 : rx_by ρ) (h3 : ρ 83 9 = 0) (h4 : 0 ≤ ρ 83 7) (h6 : ρ 83 7 ≤ ρ 83 4) : rx_ok (rx_next ρ) := by
  have hl := rx_lex_in h1 (p := ρ 83 7) (by omega) h6
  have o : ∀ {a i : Int}, ¬ (a = 83 ∧ 5 ≤ i ∧ i ≤ 8) → rx_next ρ a i = ρ a i := fun hh => rx_next_o ρ hh
  have e5 : rx_next ρ 83 5 = (rx_lex ρ (ρ 83 7)).2.1 := rx_set_5 _ _ _ _ _
  have e6 : rx_next ρ 83 6 = rx_fr ρ (ρ 83 7) := rx_set_6 _ _ _ _ _
  have e7 : rx_next ρ 83 7 = (rx_lex ρ (ρ 83 7)).1 := rx_set_7 _ _ _ _ _
  have e4 : rx_next ρ 83 4 = ρ 83 4 := o (by omega)
  have e9 : rx_next ρ 83 9 = ρ 83 9 := o (by omega)
  have e84 : ∀ i : Int, rx_next ρ 84 i = ρ 84 i := fun i => o (by omega)
  refine ⟨⟨by rw [e4]; exact h1.1, by rw [e4]; exact h1.2.1, fun i hi hi2 => ?_⟩, fun i hi hi2 => ?_, by rw [e9]; exact h3, ?_, ?_, ?_, ?_, ?_, ?_⟩
  · rw [e84]
    rw [e4] at hi2
    exact h1.2.2 i hi hi2
  · rw [e84]
    exact h2 i hi hi2
  · rw [e6]; omega
  · rw [e6, e7]; omega
  · rw [e7, e4]; omega
  · rw [e5]; omega
  · rw [e5]; omega
  · rw [e5, e6, e7]
    exact hl.2.2.2.2.2
theorem t_first (hT : tk_T σ ρ) (h11 : σ 1 11 = -1) (h7 : ρ 83 7 = 0) (g1 : rx_tp ρ) (g2 : rx_by ρ) : ∃ σ' : js_S, js_J E d 33 0 [(2, 1), (9, 0)] [] σ = js_r0 E σ' ∧ tk_T σ' (rx_next ρ) ∧ tk_A σ' (rx_next ρ) 0 ∧ tk_fr σ σ' := by
  have hT' := hT
  obtain ⟨a1, a2, a3, a4, a5⟩ := hT
  have o : ∀ {a i : Int}, ¬ (a = 83 ∧ 5 ≤ i ∧ i ≤ 8) → rx_next ρ a i = ρ a i := fun hh => rx_next_o ρ hh
  have e5 : rx_next ρ 83 5 = (rx_lex ρ (ρ 83 7)).2.1 := rx_set_5 _ _ _ _ _
  have e6 : rx_next ρ 83 6 = rx_fr ρ (ρ 83 7) := rx_set_6 _ _ _ _ _
  have e7 : rx_next ρ 83 7 = (rx_lex ρ (ρ 83 7)).1 := rx_set_7 _ _ _ _ _
  have e8 : rx_next ρ 83 8 = (rx_lex ρ (ρ 83 7)).2.2 := by
    unfold rx_next rx_set
    exact js_up_same _ _ _ _
  have e4 : rx_next ρ 83 4 = ρ 83 4 := o (by omega)
  have e84 : ∀ i : Int, rx_next ρ 84 i = ρ 84 i := fun i => o (by omega)
  have gs := g1.1
  have hl : js_iand (σ 4 0) 255 = tk_m (rx_lex ρ (ρ 83 7)).2.1 ∧ σ 5 0 = 32 * rx_fr ρ (ρ 83 7) + tk_c ((rx_lex ρ (ρ 83 7)).1 - rx_fr ρ (ρ 83 7)) ∧ ((rx_lex ρ (ρ 83 7)).2.1 = 1 ↔ (((0 : Nat) : Int) + 1 = σ 1 10)) := by
    rw [h7]
    exact a5 0 (by omega)
  obtain ⟨l1, l2, l3⟩ := hl
  rw [b_33_0, h11, show (-1 : Int) + 1 = 0 from rfl, show js_w 0 = 0 from rfl, js_w_of (x := σ 1 10) (by omega) (by omega)]
  have hin := rx_lex_in g1 (p := ρ 83 7) (by omega) (by omega)
  have hV := rx_lex_V g1 (p := ρ 83 7) (by omega) (by omega)
  have hmi := tk_m_in hV
  have h3 := fun hh => rx_lex_3 (σ := ρ) (p := ρ 83 7) hh g1 (by omega) (by omega)
  have htc : 0 ≤ tk_c ((rx_lex ρ (ρ 83 7)).1 - rx_fr ρ (ρ 83 7)) ∧ tk_c ((rx_lex ρ (ρ 83 7)).1 - rx_fr ρ (ρ 83 7)) ≤ 31 := by
    unfold tk_c
    split <;> omega
  rw [if_pos (show (0 : Int) < σ 1 10 by omega), if_pos (show (0 : Int) ≤ 0 ∧ (0 : Int) < 8193 by decide), l1, l2, js_w_of (by omega) (by omega), Int.tdiv_eq_ediv_of_nonneg (by omega), Int.tmod_eq_emod_of_nonneg (by omega)]
  have ed : (32 * rx_fr ρ (ρ 83 7) + tk_c ((rx_lex ρ (ρ 83 7)).1 - rx_fr ρ (ρ 83 7))) / 32 = rx_fr ρ (ρ 83 7) := by omega
  have em : (32 * rx_fr ρ (ρ 83 7) + tk_c ((rx_lex ρ (ρ 83 7)).1 - rx_fr ρ (ρ 83 7))) % 32 = tk_c ((rx_lex ρ (ρ 83 7)).1 - rx_fr ρ (ρ 83 7)) := by omega
  rw [ed, em]
  generalize hτ : js_up (js_up (js_up (js_up σ 1 11 ((0 : Int))) 1 1 (tk_m (rx_lex ρ (ρ 83 7)).2.1)) 1 2 (rx_fr ρ (ρ 83 7))) 1 3 (tk_c ((rx_lex ρ (ρ 83 7)).1 - rx_fr ρ (ρ 83 7))) = τ
  have t11 : τ 1 11 = (0 : Int) := by rw [← hτ, js_up_ni _ (by decide), js_up_ni _ (by decide), js_up_ni _ (by decide), js_up_same]
  have t1 : τ 1 1 = tk_m (rx_lex ρ (ρ 83 7)).2.1 := by rw [← hτ, js_up_ni _ (by decide), js_up_ni _ (by decide), js_up_same]
  have t2 : τ 1 2 = rx_fr ρ (ρ 83 7) := by rw [← hτ, js_up_ni _ (by decide), js_up_same]
  have t3 : τ 1 3 = tk_c ((rx_lex ρ (ρ 83 7)).1 - rx_fr ρ (ρ 83 7)) := by rw [← hτ, js_up_same]
  have to : ∀ {a i : Int}, ¬ (a = 1 ∧ (i = 1 ∨ i = 2 ∨ i = 3 ∨ i = 11)) → τ a i = σ a i := fun {a i} hh => by
    rw [← hτ, js_up_ne _ (by omega), js_up_ne _ (by omega), js_up_ne _ (by omega), js_up_ne _ (by omega)]
  have hlen : (rx_lex ρ (ρ 83 7)).2.1 = 2 ∨ (rx_lex ρ (ρ 83 7)).2.1 = 3 → (rx_lex ρ (ρ 83 7)).1 - rx_fr ρ (ρ 83 7) ≤ 20 := fun hh => by
    rcases hh with hh | hh
    · exact hin.2.2.2.2.2 hh
    · have := h3 hh
      omega
  have hc : (rx_lex ρ (ρ 83 7)).2.1 = 2 ∨ (rx_lex ρ (ρ 83 7)).2.1 = 3 → τ 1 3 = (rx_lex ρ (ρ 83 7)).1 - rx_fr ρ (ρ 83 7) := fun hh => by
    have := hlen hh
    rw [t3]
    unfold tk_c
    rw [if_pos (by omega)]
  have hm23 := tk_m23 hV
  have h72 := c_next_72 (E := E) (d := d) (τ := τ) (by rw [t2]; omega) (by rw [t1]; omega) (by rw [t1]; omega) (fun hh => by
    rw [t1, hm23] at hh
    have q1 := hc hh
    have q2 := hlen hh
    refine ⟨by omega, by omega, by rw [q1, t2]; omega, fun i hi hi2 => ?_⟩
    rw [to (by omega), t2, a4 _ (by omega) (by rw [q1] at hi2; omega)]
    exact g2 _ (by omega) (by rw [q1] at hi2; omega))
  refine ⟨_, h72, ?_, ?_, ?_⟩
  · refine tk_T_of hT' ?_ (fun i => ?_) (fun i => ?_) (fun i => ?_) e4 e84
    · split
      · rw [show cx_sg τ (τ 1 3) 1 10 = τ 1 10 from if_neg (by omega), to (by omega)]
      · rw [to (by omega)]
    · split
      · rw [show cx_sg τ (τ 1 3) 3 i = τ 3 i from if_neg (by omega), to (by omega)]
      · rw [to (by omega)]
    · split
      · rw [show cx_sg τ (τ 1 3) 4 i = τ 4 i from if_neg (by omega), to (by omega)]
      · rw [to (by omega)]
    · split
      · rw [show cx_sg τ (τ 1 3) 5 i = τ 5 i from if_neg (by omega), to (by omega)]
      · rw [to (by omega)]
  · have q1 : ∀ i : Int, (if τ 1 1 = 2 ∨ τ 1 1 = 3 then cx_sg τ (τ 1 3) else τ) 1 i = τ 1 i := fun i => by
      split
      · exact if_neg (by omega)
      · rfl
    have q4 : tk_p (rx_next ρ) 0 = ρ 83 7 := h7.symm
    have q5 := rx_lex_eq e4 e84 (ρ 83 7)
    have q6 := rx_fr_eq e4 e84 (ρ 83 7)
    refine ⟨by rw [q1, t11]; rfl, by rw [q1, to (by omega)]; exact (show (0 : Int) < σ 1 10 by omega), by rw [e6, q4, q6], by rw [e7, q4, q5.1], by rw [e5, q4, q5.2.1], fun hh => ?_, by rw [q1, t1, e5], by rw [q1, t2, e6], by rw [q1, t3, e7, e6], fun hh i hi hi2 => ?_⟩
    · rw [e5] at hh
      rw [e8, q4, q5.2.2 hh]
    · rw [e5] at hh
      rw [e7, e6] at hi2
      rw [if_pos (by rw [t1, hm23]; exact hh), e84, e6]
      show (if (2 : Int) = 2 ∧ 0 ≤ i ∧ i < τ 1 3 then τ 3 (τ 1 2 + i) else τ 2 i) = _
      rw [if_pos ⟨rfl, hi, by rw [hc hh]; exact hi2⟩, t2, to (by omega), a4 _ (by omega) (by omega)]
  · intro a i h1 h2
    split
    · rw [show cx_sg τ (τ 1 3) a i = τ a i from if_neg (fun hh => h2 hh.1), to h1]
    · exact to h1
end TF
