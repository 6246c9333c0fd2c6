/-! part 91: the class's next token and the reference's, in step -/
def tk_c (x : Int) : Int := if x < 31 then x else 31
/-- the class's rows of tokens are those that the reference reads -/
def tk_T (σ ρ : js_S) : Prop := 1 ≤ σ 1 10 ∧ σ 1 10 ≤ 8193 ∧ ρ 83 4 ≤ 8192 ∧ (∀ i : Int, 0 ≤ i → i < ρ 83 4 → σ 3 i = ρ 84 i) ∧ ∀ j : Nat, (j : Int) < σ 1 10 → js_iand (σ 4 j) 255 = tk_m (rx_lex ρ (tk_p ρ j)).2.1 ∧ σ 5 j = 32 * rx_fr ρ (tk_p ρ j) + tk_c ((rx_lex ρ (tk_p ρ j)).1 - rx_fr ρ (tk_p ρ j)) ∧ ((rx_lex ρ (tk_p ρ j)).2.1 = 1 ↔ (j : Int) + 1 = σ 1 10)
/-- both stand at token j -/
def tk_A (σ ρ : js_S) (j : Nat) : Prop := σ 1 11 = j ∧ (j : Int) < σ 1 10 ∧ ρ 83 6 = rx_fr ρ (tk_p ρ j) ∧ ρ 83 7 = (rx_lex ρ (tk_p ρ j)).1 ∧ ρ 83 5 = (rx_lex ρ (tk_p ρ j)).2.1 ∧ (ρ 83 5 = 3 → ρ 83 8 = (rx_lex ρ (tk_p ρ j)).2.2) ∧ σ 1 1 = tk_m (ρ 83 5) ∧ σ 1 2 = ρ 83 6 ∧ σ 1 3 = tk_c (ρ 83 7 - ρ 83 6) ∧ (ρ 83 5 = 2 ∨ ρ 83 5 = 3 → ∀ i : Int, 0 ≤ i → i < ρ 83 7 - ρ 83 6 → σ 2 i = ρ 84 (ρ 83 6 + i))
theorem rx_lex_3 {σ : js_S} {p : Int} (h : (rx_lex σ p).2.1 = 3) (h2 : rx_tp σ) (hp : 0 ≤ p) (hp2 : p ≤ σ 83 4) : (rx_lex σ p).1 - rx_fr σ p ≤ 10 ∧ 0 ≤ (rx_lex σ p).2.2 ∧ (rx_lex σ p).2.2 ≤ 2000000000 := by
  have hf := rx_skip_in (σ := σ) (rx_n σ p) p hp2
  have ef : rx_skip σ (rx_n σ p) p = rx_fr σ p := rfl
  rw [ef] at hf
  unfold rx_lex at h ⊢
  generalize rx_fr σ p = f at hf h ⊢
  have hc := rx_at_in h2 (k := f) (by omega)
  have hm := rx_m2_in (rx_at σ f) (rx_at σ (f + 1))
  have hm1 := rx_m1_in (c := rx_at σ f) (by omega) (by omega)
  have hw := rx_w1_in σ f (rx_LDs σ f)
  have hv := rx_nv_in (s := rx_at σ) (f := f) (rx_n σ f) f 0 (by omega) (by omega) (fun _ => by rw [show (f - f).toNat = 0 by omega]; decide) (by omega)
  simp only at h ⊢
  by_cases g0 : σ 83 4 ≤ f
  · rw [if_pos g0] at h
    cases h
  · rw [if_neg g0] at h ⊢
    by_cases g1 : rx_L (rx_at σ f) = true
    · rw [if_pos g1] at h
      simp only at h
      split at h <;> omega
    · rw [if_neg g1] at h ⊢
      by_cases g2 : rx_D (rx_at σ f) = true
      · rw [if_pos g2] at h ⊢
        simp only at h ⊢
        split at h
        · cases h
        · omega
      · rw [if_neg g2] at h
        simp only at h
        split at h <;> omega
theorem tk_T_of {σ ρ σ' ρ' : js_S} (h : tk_T σ ρ) (h1 : σ' 1 10 = σ 1 10) (h2 : ∀ i : Int, σ' 3 i = σ 3 i) (h3 : ∀ i : Int, σ' 4 i = σ 4 i) (h4 : ∀ i : Int, σ' 5 i = σ 5 i) (h5 : ρ' 83 4 = ρ 83 4) (h6 : ∀ i : Int, ρ' 84 i = ρ 84 i) : tk_T σ' ρ' := by
  obtain ⟨a1, a2, a3, a4, a5⟩ := h
  refine ⟨by rw [h1]; exact a1, by rw [h1]; exact a2, by rw [h5]; exact a3, fun i hi hi2 => ?_, fun j hj => ?_⟩
  · rw [h2, h6]
    rw [h5] at hi2
    exact a4 i hi hi2
  · rw [h1] at hj ⊢
    have h7 := a5 j hj
    have h8 := rx_lex_eq h5 h6 (tk_p ρ j)
    rw [h3, h4, tk_p_eq h5 h6, rx_fr_eq h5 h6, h8.1, h8.2.1]
    exact h7
section TN
variable {E : js_E} {d : Nat} {σ ρ : js_S}
def cx_sg (τ : js_S) (n : Int) : js_S := fun a i => if a = 2 ∧ 0 ≤ i ∧ i < n then τ 3 (τ 1 2 + i) else τ a i
theorem c_next_l {τ : js_S} (h2 : 0 ≤ τ 1 2) (hN : τ 1 3 ≤ 20) (hN2 : τ 1 2 + τ 1 3 ≤ 8192) (hb : ∀ i : Int, 0 ≤ i → i < τ 1 3 → 0 ≤ τ 3 (τ 1 2 + i) ∧ τ 3 (τ 1 2 + i) < 127) : ∀ (n : Nat) (k : Int), (n : Int) = τ 1 3 - k → 0 ≤ k → js_J E d 33 90 [(2, 1), (0, k)] [] (cx_sg τ k) = js_r0 E (cx_sg τ (τ 1 3)) := by
  have o : ∀ (k : Int) {a i : Int}, a ≠ 2 → cx_sg τ k a i = τ a i := fun k a i h => if_neg (fun hh => h hh.1)
  intro n
  induction n with
  | zero =>
    intro k hk hk0
    have e : k = τ 1 3 := by omega
    subst e
    rw [b_33_90, o _ (by decide)]
    simp (disch := omega) only [js_w_of]
    rw [if_neg (by omega)]
  | succ n ih =>
    intro k hk hk0
    have hc := hb k hk0 (by omega)
    rw [b_33_90, o k (a := 1) (by decide), o k (a := 1) (by decide), o k (a := 3) (by decide)]
    rw [js_w_of (x := k) (by omega) (by omega), js_w_of (x := τ 1 3) (by omega) (by omega), js_w_of (x := τ 1 2 + k) (by omega) (by omega)]
    rw [if_pos (by omega), if_pos (by omega), if_pos (by omega), if_pos (by omega), if_pos (by omega), js_i2b_of (by omega) (by omega)]
    have e : js_up (cx_sg τ k) 2 k (τ 3 (τ 1 2 + k)) = cx_sg τ (k + 1) := by
      funext a i
      unfold js_up cx_sg
      by_cases g : a = 2 ∧ i = k
      · rw [if_pos g, if_pos (by omega), g.2]
      · rw [if_neg g]
        by_cases g2 : a = 2 ∧ 0 ≤ i ∧ i < k
        · rw [if_pos g2, if_pos (by omega)]
        · rw [if_neg g2, if_neg (by omega)]
    rw [e]
    exact ih (k + 1) (by omega) (by omega)
/-- what a token leaves alone in the class -/
def tk_fr (σ σ' : js_S) : Prop := ∀ a i : Int, ¬ (a = 1 ∧ (i = 1 ∨ i = 2 ∨ i = 3 ∨ i = 11)) → a ≠ 2 → σ' a i = σ a i
/-- from 72 on: the signs of a NAME or a NUMBER -/
theorem c_next_72 {τ : js_S} (h2 : 0 ≤ τ 1 2) (ht : 0 ≤ τ 1 1) (ht2 : τ 1 1 < 1000) (hN : τ 1 1 = 2 ∨ τ 1 1 = 3 → 0 ≤ τ 1 3 ∧ τ 1 3 ≤ 20 ∧ τ 1 2 + τ 1 3 ≤ 8192 ∧ ∀ i : Int, 0 ≤ i → i < τ 1 3 → 0 ≤ τ 3 (τ 1 2 + i) ∧ τ 3 (τ 1 2 + i) < 127) : js_J E d 33 72 [(2, 1), (9, 0)] [] τ = js_r0 E (if τ 1 1 = 2 ∨ τ 1 1 = 3 then cx_sg τ (τ 1 3) else τ) := by
  have e0 : cx_sg τ 0 = τ := by
    funext a i
    exact if_neg (by omega)
  have w : js_w (τ 1 1) = τ 1 1 := js_w_of (by omega) (by omega)
  have go : τ 1 1 = 2 ∨ τ 1 1 = 3 → js_J E d 33 88 [(2, 1), (9, 0)] [] τ = js_r0 E (cx_sg τ (τ 1 3)) := fun hh => by
    have h5 := hN hh
    have h6 := c_next_l (E := E) (d := d) h2 h5.2.1 h5.2.2.1 h5.2.2.2 (τ 1 3).toNat 0 (by omega) (by omega)
    rw [e0] at h6
    rw [b_33_88, h6]
  rw [b_33_72, w]
  by_cases g1 : τ 1 1 = 2
  · rw [if_pos g1, if_pos (Or.inl g1), go (Or.inl g1)]
  · rw [if_neg g1]
    by_cases g2 : τ 1 1 = 3
    · rw [if_pos g2, if_pos (Or.inr g2), go (Or.inr g2)]
    · rw [if_neg g2, if_neg (by omega)]
theorem tk_m23 {k : Int} (hk : tk_V k) : (tk_m k = 2 ∨ tk_m k = 3) ↔ (k = 2 ∨ k = 3) := by
  have h2 := tk_m_inj hk (show tk_V 2 from Or.inr (Or.inl rfl))
  have h3 := tk_m_inj hk (show tk_V 3 from Or.inr (Or.inr (Or.inl rfl)))
  have e2 : tk_m 2 = 2 := by decide
  have e3 : tk_m 3 = 3 := by decide
  rw [e2] at h2
  rw [e3] at h3
  omega
/-- next, in step -/
theorem t_next (hT : tk_T σ ρ) {j : Nat} (hA : tk_A σ ρ j) (hok : rx_ok ρ) : ∃ (σ' : js_S) (j' : Nat), js_J E d 33 0 [(2, 1), (9, 0)] [] σ = js_r0 E σ' ∧ tk_T σ' (rx_next ρ) ∧ tk_A σ' (rx_next ρ) j' ∧ tk_fr σ σ' ∧ j ≤ j' ∧ (ρ 83 5 ≠ 1 → j' = j + 1) := by
  have hT' := hT
  obtain ⟨a1, a2, a3, a4, a5⟩ := hT
  obtain ⟨c1, c2, c3, c4, c5, c6, c7, c8, c9, c10⟩ := hA
  obtain ⟨g1, g2, g3, g4, g5, g6, g7, g8, g9⟩ := hok
  have o : ∀ {a i : Int}, ¬ (a = 83 ∧ 5 ≤ i ∧ i ≤ 8) → rx_next ρ a i = ρ a i := fun hh => rx_next_o ρ hh
  have e5 : rx_next ρ 83 5 = (rx_lex ρ (ρ 83 7)).2.1 := rx_set_5 _ _ _ _ _
  have e6 : rx_next ρ 83 6 = rx_fr ρ (ρ 83 7) := rx_set_6 _ _ _ _ _
  have e7 : rx_next ρ 83 7 = (rx_lex ρ (ρ 83 7)).1 := rx_set_7 _ _ _ _ _
  have e8 : rx_next ρ 83 8 = (rx_lex ρ (ρ 83 7)).2.2 := by
    unfold rx_next rx_set
    exact js_up_same _ _ _ _
  have e4 : rx_next ρ 83 4 = ρ 83 4 := o (by omega)
  have e84 : ∀ i : Int, rx_next ρ 84 i = ρ 84 i := fun i => o (by omega)
  have hpj := tk_p_in g1 j
  have hlj := a5 j c2
  have hp1 := tk_p_in g1 (j + 1)
  have ep : tk_p ρ (j + 1) = ρ 83 7 := c4.symm
  rw [b_33_0, c1]
  rw [js_w_of (x := (j : Int) + 1) (by omega) (by omega), js_w_of (x := σ 1 10) (by omega) (by omega)]
  by_cases hend : (j : Int) + 1 < σ 1 10
  · have hl := a5 (j + 1) (by push_cast; omega)
    rw [ep] at hl
    push_cast at hl
    obtain ⟨l1, l2, l3⟩ := hl
    have hin := rx_lex_in g1 (p := ρ 83 7) (by omega) (by omega)
    have hV := rx_lex_V g1 (p := ρ 83 7) (by omega) (by omega)
    have hmi := tk_m_in hV
    have h3 := fun hh => rx_lex_3 (σ := ρ) (p := ρ 83 7) hh g1 (by omega) (by omega)
    have htc : 0 ≤ tk_c ((rx_lex ρ (ρ 83 7)).1 - rx_fr ρ (ρ 83 7)) ∧ tk_c ((rx_lex ρ (ρ 83 7)).1 - rx_fr ρ (ρ 83 7)) ≤ 31 := by
      unfold tk_c
      split <;> omega
    rw [if_pos hend, if_pos (by omega), l1, l2, js_w_of (by omega) (by omega), Int.tdiv_eq_ediv_of_nonneg (by omega), Int.tmod_eq_emod_of_nonneg (by omega)]
    have ed : (32 * rx_fr ρ (ρ 83 7) + tk_c ((rx_lex ρ (ρ 83 7)).1 - rx_fr ρ (ρ 83 7))) / 32 = rx_fr ρ (ρ 83 7) := by omega
    have em : (32 * rx_fr ρ (ρ 83 7) + tk_c ((rx_lex ρ (ρ 83 7)).1 - rx_fr ρ (ρ 83 7))) % 32 = tk_c ((rx_lex ρ (ρ 83 7)).1 - rx_fr ρ (ρ 83 7)) := by omega
    rw [ed, em]
    generalize hτ : js_up (js_up (js_up (js_up σ 1 11 ((j : Int) + 1)) 1 1 (tk_m (rx_lex ρ (ρ 83 7)).2.1)) 1 2 (rx_fr ρ (ρ 83 7))) 1 3 (tk_c ((rx_lex ρ (ρ 83 7)).1 - rx_fr ρ (ρ 83 7))) = τ
    have t11 : τ 1 11 = (j : Int) + 1 := by rw [← hτ, js_up_ni _ (by decide), js_up_ni _ (by decide), js_up_ni _ (by decide), js_up_same]
    have t1 : τ 1 1 = tk_m (rx_lex ρ (ρ 83 7)).2.1 := by rw [← hτ, js_up_ni _ (by decide), js_up_ni _ (by decide), js_up_same]
    have t2 : τ 1 2 = rx_fr ρ (ρ 83 7) := by rw [← hτ, js_up_ni _ (by decide), js_up_same]
    have t3 : τ 1 3 = tk_c ((rx_lex ρ (ρ 83 7)).1 - rx_fr ρ (ρ 83 7)) := by rw [← hτ, js_up_same]
    have to : ∀ {a i : Int}, ¬ (a = 1 ∧ (i = 1 ∨ i = 2 ∨ i = 3 ∨ i = 11)) → τ a i = σ a i := fun {a i} hh => by
      rw [← hτ, js_up_ne _ (by omega), js_up_ne _ (by omega), js_up_ne _ (by omega), js_up_ne _ (by omega)]
    have hlen : (rx_lex ρ (ρ 83 7)).2.1 = 2 ∨ (rx_lex ρ (ρ 83 7)).2.1 = 3 → (rx_lex ρ (ρ 83 7)).1 - rx_fr ρ (ρ 83 7) ≤ 20 := fun hh => by
      rcases hh with hh | hh
      · exact hin.2.2.2.2.2 hh
      · have := h3 hh
        omega
    have hc : (rx_lex ρ (ρ 83 7)).2.1 = 2 ∨ (rx_lex ρ (ρ 83 7)).2.1 = 3 → τ 1 3 = (rx_lex ρ (ρ 83 7)).1 - rx_fr ρ (ρ 83 7) := fun hh => by
      have := hlen hh
      rw [t3]
      unfold tk_c
      rw [if_pos (by omega)]
    have hm23 := tk_m23 hV
    have h72 := c_next_72 (E := E) (d := d) (τ := τ) (by rw [t2]; omega) (by rw [t1]; omega) (by rw [t1]; omega) (fun hh => by
      rw [t1, hm23] at hh
      have q1 := hc hh
      have q2 := hlen hh
      refine ⟨by omega, by omega, by rw [q1, t2]; omega, fun i hi hi2 => ?_⟩
      rw [to (by omega), t2, a4 _ (by omega) (by rw [q1] at hi2; omega)]
      exact g2 _ (by omega) (by rw [q1] at hi2; omega))
    refine ⟨_, j + 1, h72, ?_, ?_, ?_, by omega, fun _ => rfl⟩
    · refine tk_T_of hT' ?_ (fun i => ?_) (fun i => ?_) (fun i => ?_) e4 e84
      · split
        · rw [show cx_sg τ (τ 1 3) 1 10 = τ 1 10 from if_neg (by omega), to (by omega)]
        · rw [to (by omega)]
      · split
        · rw [show cx_sg τ (τ 1 3) 3 i = τ 3 i from if_neg (by omega), to (by omega)]
        · rw [to (by omega)]
      · split
        · rw [show cx_sg τ (τ 1 3) 4 i = τ 4 i from if_neg (by omega), to (by omega)]
        · rw [to (by omega)]
      · split
        · rw [show cx_sg τ (τ 1 3) 5 i = τ 5 i from if_neg (by omega), to (by omega)]
        · rw [to (by omega)]
    · have q1 : ∀ i : Int, (if τ 1 1 = 2 ∨ τ 1 1 = 3 then cx_sg τ (τ 1 3) else τ) 1 i = τ 1 i := fun i => by
        split
        · exact if_neg (by omega)
        · rfl
      have q4 : tk_p (rx_next ρ) (j + 1) = ρ 83 7 := by rw [tk_p_eq e4 e84, ep]
      have q5 := rx_lex_eq e4 e84 (ρ 83 7)
      have q6 := rx_fr_eq e4 e84 (ρ 83 7)
      refine ⟨by rw [q1, t11]; push_cast; rfl, by rw [q1, to (by omega)]; push_cast; omega, by rw [e6, q4, q6], by rw [e7, q4, q5.1], by rw [e5, q4, q5.2.1], fun hh => ?_, by rw [q1, t1, e5], by rw [q1, t2, e6], by rw [q1, t3, e7, e6], fun hh i hi hi2 => ?_⟩
      · rw [e5] at hh
        rw [e8, q4, q5.2.2 hh]
      · rw [e5] at hh
        rw [e7, e6] at hi2
        rw [if_pos (by rw [t1, hm23]; exact hh), e84, e6]
        show (if (2 : Int) = 2 ∧ 0 ≤ i ∧ i < τ 1 3 then τ 3 (τ 1 2 + i) else τ 2 i) = _
        rw [if_pos ⟨rfl, hi, by rw [hc hh]; exact hi2⟩, t2, to (by omega), a4 _ (by omega) (by omega)]
    · intro a i h1 h2
      split
      · rw [show cx_sg τ (τ 1 3) a i = τ a i from if_neg (fun hh => h2 hh.1), to h1]
      · exact to h1
  · have hk1 : (rx_lex ρ (tk_p ρ j)).2.1 = 1 := hlj.2.2.mpr (by omega)
    have hE := rx_lex_end hpj.1 hpj.2 g1 hk1
    have h7 : ρ 83 7 = ρ 83 4 := by rw [c4]; exact hE.2
    have h6 : ρ 83 6 = ρ 83 4 := by rw [c3]; exact hE.1
    have hs := rx_lex_size (σ := ρ)
    have h5 : ρ 83 5 = 1 := by rw [c5]; exact hk1
    have t1 : σ 1 1 = 0 := by rw [c7, h5]; decide
    rw [if_neg hend]
    have h72 := c_next_72 (E := E) (d := d) (τ := σ) (by rw [c8]; omega) (by rw [t1]; omega) (by rw [t1]; omega) (fun hh => by rw [t1] at hh; omega)
    rw [if_neg (by rw [t1]; omega)] at h72
    rw [h7] at e5 e6 e7 e8
    refine ⟨σ, j, h72, tk_T_of hT' rfl (fun i => rfl) (fun i => rfl) (fun i => rfl) e4 e84, ?_, fun _ _ _ _ => rfl, Nat.le_refl _, fun hh => absurd h5 hh⟩
    have q4 : tk_p (rx_next ρ) j = tk_p ρ j := tk_p_eq e4 e84 j
    have q5 := rx_lex_eq e4 e84 (tk_p ρ j)
    have q6 := rx_fr_eq e4 e84 (tk_p ρ j)
    have n5 : rx_next ρ 83 5 = 1 := by rw [e5]; exact hs.2.2
    have n6 : rx_next ρ 83 6 = ρ 83 4 := by rw [e6]; exact hs.1
    have n7 : rx_next ρ 83 7 = ρ 83 4 := by rw [e7]; exact hs.2.1
    refine ⟨c1, c2, by rw [n6, q4, q6]; exact hE.1.symm, by rw [n7, q4, q5.1]; exact hE.2.symm, by rw [n5, q4, q5.2.1]; exact hk1.symm, (fun hh => by rw [n5] at hh; cases hh), by rw [n5, c7, h5], by rw [n6, c8, h6], by rw [n7, n6, c9, h7, h6], fun hh => by rw [n5] at hh; omega⟩
end TN
