/-! part 93: the class's symbols and names, in step with the reference's -/
/-- symbol i of both: where it lies, its number, whether it is visible, its name -/
def sy_N (M : Int) (σ ρ : js_S) (b i : Int) : Prop := js_desc M σ (σ (19 + b) i) = some (0, 11, js_sym) ∧ σ (σ (19 + b) i) 0 = i ∧ σ (σ (19 + b) i) 13 = ρ 99 i ∧ σ (σ (19 + b) i) 14 = ρ 97 i ∧ ∀ k : Int, 0 ≤ k → k < ρ 97 i → σ (20 + b) (20 * i + k) = ρ 98 (20 * i + k)
section CF
variable {E : js_E} {d : Nat} {σ ρ : js_S} {b : Int}
theorem c_find_n (hb : b = 0 ∨ b = 25) (hs : rs_ok ρ) (hby : rx_by ρ) (hf : 0 ≤ ρ 83 6) {i : Int} (hi : 0 ≤ i) (him : i < ρ 83 11) (hN : sy_N E.1 σ ρ b i) (hl : ρ 97 i ≤ 20) (hfl : ρ 83 6 + ρ 97 i ≤ 65536) (hsg : ∀ k : Int, 0 ≤ k → k < ρ 97 i → σ 2 k = ρ 84 (ρ 83 6 + k)) : ∀ (n : Nat) (k : Int), (n : Int) = ρ 97 i - k → 0 ≤ k → ∃ u : js_v, js_J E d 37 51 [(2, 7 + b), (2, 1), (0, i), (2, σ (19 + b) i), (0, k)] [] σ = if rx_ne ρ i n k = true then js_r E (2, σ (19 + b) i) σ else js_J E d 37 99 [(2, 7 + b), (2, 1), (0, i), (2, σ (19 + b) i), u] [] σ := by
  obtain ⟨n1, n2, n3, n4, n5⟩ := hN
  have hi2 : i < 400 := by
    have := hs.2.1
    omega
  intro n
  induction n with
  | zero =>
    intro k hk hk0
    refine ⟨(0, k), ?_⟩
    rw [b_37_51 n1 hb, n4]
    simp (disch := omega) only [js_w_of]
    rw [if_neg (by omega), b_37_88 n1, n4]
    simp (disch := omega) only [js_w_of]
    rw [if_pos (by omega), if_pos (by rfl)]
  | succ n ih =>
    intro k hk hk0
    have q1 := n5 k hk0 (by omega)
    have q2 := hs.2.2.2.1 i k hi him hk0 (by omega)
    have q3 := hsg k hk0 (by omega)
    have q4 := hby (ρ 83 6 + k) (by omega) (by omega)
    have e20 : i * 20 + k = 20 * i + k := by omega
    obtain ⟨u, hu⟩ := ih (k + 1) (by omega) (by omega)
    rw [b_37_51 n1 hb, n4, e20]
    rw [js_w_of (x := k) (by omega) (by omega), js_w_of (x := ρ 97 i) (by omega) (by omega), js_w_of (x := 20 * i + k) (by omega) (by omega), q1, q3, js_w_of (x := ρ 98 (20 * i + k)) (by omega) (by omega), js_w_of (x := ρ 84 (ρ 83 6 + k)) (by omega) (by omega)]
    rw [if_pos (by omega), if_pos (by omega), if_pos (by omega)]
    simp only [rx_ne]
    by_cases g : ρ 98 (20 * i + k) = ρ 84 (ρ 83 6 + k)
    · refine ⟨u, ?_⟩
      rw [if_pos g, hu]
      simp [g]
    · refine ⟨(0, k), ?_⟩
      rw [if_neg g, b_37_88 n1, n4]
      simp (disch := omega) only [js_w_of]
      rw [if_neg (by omega)]
      simp [g]
theorem c_find_l (hb : b = 0 ∨ b = 25) (hs : rs_ok ρ) (hok : rx_ok ρ) {j : Nat} (hT : tk_T σ ρ) (hA : tk_A σ ρ j) (h5 : ρ 83 5 = 2) (ht : σ (7 + b) 1 = ρ 83 11) (hN : ∀ i : Int, 0 ≤ i → i < ρ 83 11 → sy_N E.1 σ ρ b i) : ∀ (n : Nat) (i : Int) (u3 u4 : js_v), (n : Int) = ρ 83 11 - i → 0 ≤ i → js_J E d 37 2 [(2, 7 + b), (2, 1), (0, i), u3, u4] [] σ = js_r E (2, if rx_fs ρ n i < 0 then -1 else σ (19 + b) (rx_fs ρ n i)) σ := by
  obtain ⟨g1, g2, g3, g4, g5, g6, g7, g8, g9⟩ := hok
  obtain ⟨c1, c2, c3, c4, c5, c6, c7, c8, c9, c10⟩ := hA
  have g9' := g9 h5
  have hm := hs.1
  have hm2 := hs.2.1
  have g0 := g1.2.1
  have e3 : σ 1 3 = ρ 83 7 - ρ 83 6 := by
    rw [c9]
    unfold tk_c
    rw [if_pos (by omega)]
  intro n
  induction n with
  | zero =>
    intro i u3 u4 hn hi
    rw [b_37_2 hb, ht]
    simp (disch := omega) only [js_w_of]
    rw [if_neg (by omega)]
    rfl
  | succ n ih =>
    intro i u3 u4 hn hi
    have hNi := hN i hi (by omega)
    have hNi' := hNi
    obtain ⟨n1, n2, n3, n4, n5⟩ := hNi
    have hge := js_sym_ge n1
    have hv := hs.2.2.2.2 i hi (by omega)
    have hz := hs.2.2.1 i hi (by omega)
    rw [b_37_2 hb, ht]
    rw [js_w_of (x := i) (by omega) (by omega), js_w_of (x := ρ 83 11) (by omega) (by omega)]
    rw [if_pos (by omega), if_pos (by omega), if_pos (by omega), if_neg (by omega), b_37_30 n1, n3, n4, e3]
    simp (disch := omega) only [js_w_of]
    unfold rx_fs rx_nm
    by_cases q1 : ρ 99 i = 0
    · rw [if_pos q1, b_37_99, ih _ _ _ (by omega) (by omega), if_neg (show ¬ (ρ 99 i = 1 ∧ _) from fun hh => by omega)]
    · rw [if_neg q1]
      by_cases q2 : ρ 97 i = ρ 83 7 - ρ 83 6
      · obtain ⟨u, hu⟩ := c_find_n (E := E) (d := d) hb hs g2 g4 hi (by omega) hNi' hz.2 (by omega) (fun k hk hk2 => c10 (Or.inl h5) k hk (by omega)) (ρ 97 i).toNat 0 (by omega) (by omega)
        rw [if_pos q2, hu]
        by_cases q3 : rx_ne ρ i (ρ 97 i).toNat 0 = true
        · have hc : ρ 99 i = 1 ∧ (decide (ρ 97 i = ρ 83 7 - ρ 83 6) && rx_ne ρ i (ρ 97 i).toNat 0) = true := ⟨by omega, by rw [q3, decide_eq_true q2]; rfl⟩
          rw [if_pos q3, if_pos hc, if_neg (by omega)]
        · have q3' : rx_ne ρ i (ρ 97 i).toNat 0 = false := by simpa using q3
          rw [if_neg q3, b_37_99, ih _ _ _ (by omega) (by omega), if_neg (show ¬ (ρ 99 i = 1 ∧ _) from fun hh => by rw [q3', Bool.and_false] at hh; exact absurd hh.2 (by decide))]
      · rw [if_neg q2, b_37_99, ih _ _ _ (by omega) (by omega), if_neg (show ¬ (ρ 99 i = 1 ∧ _) from fun hh => by rw [decide_eq_false q2, Bool.false_and] at hh; exact absurd hh.2 (by decide))]
/-- find, in step: the symbol's object, or null -/
theorem c_find (hb : b = 0 ∨ b = 25) (hs : rs_ok ρ) (hok : rx_ok ρ) {j : Nat} (hT : tk_T σ ρ) (hA : tk_A σ ρ j) (h5 : ρ 83 5 = 2) (ht : σ (7 + b) 1 = ρ 83 11) (hN : ∀ i : Int, 0 ≤ i → i < ρ 83 11 → sy_N E.1 σ ρ b i) : js_J E d 37 0 [(2, 7 + b), (2, 1), (9, 0), (9, 0), (9, 0)] [] σ = js_r E (2, if rx_sy ρ < 0 then -1 else σ (19 + b) (rx_sy ρ)) σ := by
  have hm := hs.1
  rw [b_37_0, c_find_l hb hs hok hT hA h5 ht hN (ρ 83 11).toNat 0 _ _ (by omega) (by omega)]
  unfold rx_sy
  rw [if_pos h5]
end CF
