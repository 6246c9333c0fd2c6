/-! part 99.zm: the sign behind a name -/
section OW
variable {E : js_E} {d : Nat} {σ : js_S}
theorem r_bh_bl (h : rx_tp σ) (hd : 1 ≤ d) {x2 : Int} : ∀ (n : Nat) (p : Int), 0 ≤ p → p ≤ 65536 → n = rx_n σ p → js_J E d 231 11 [(2, 83), (0, p), (0, x2)] [] σ = js_J E d 231 45 [(2, 83), (0, rx_run rx_bl (rx_at σ) n p), (0, x2)] [] σ := by
  have h2 := h.1
  have h3 := h.2.1
  intro n
  induction n with
  | zero =>
    intro p hp hp2 hn
    unfold rx_n at hn
    rw [b_231_11]
    simp (disch := omega) only [js_w_of]
    rw [if_neg (by omega)]
    rfl
  | succ n ih =>
    intro p hp hp2 hn
    have hc := rx_at_in h hp
    unfold rx_n at hn
    rw [b_231_11]
    simp (disch := omega) only [js_w_of]
    rw [if_pos (by omega), k_231_21 hd (r_at h hp (by omega)), b_231_24]
    simp (disch := omega) only [js_w_of]
    have ih2 := ih (p + 1) (by omega) (by omega) (by unfold rx_n; omega)
    unfold rx_run rx_bl
    split
    · rename_i h5
      rw [b_231_39, ih2]
      simp [h5]
      rfl
    · rename_i h5
      rw [k_231_31 hd (r_at h hp (by omega)), b_231_34]
      simp (disch := omega) only [js_w_of]
      split
      · rename_i h6
        rw [b_231_39, ih2]
        simp [h6]
        rfl
      · rename_i h6
        simp [h5, h6]
theorem r_bh_nl (h : rx_tp σ) (hd : 1 ≤ d) : ∀ (n : Nat) (p : Int), 0 ≤ p → p ≤ 65536 → n = rx_n σ p → js_J E d 231 73 [(2, 83), (0, p), (0, 1)] [] σ = js_J E d 231 7 [(2, 83), (0, rx_run rx_nl (rx_at σ) n p), (0, 1)] [] σ := by
  have h2 := h.1
  have h3 := h.2.1
  have w1 : js_w 1 = 1 := rfl
  intro n
  induction n with
  | zero =>
    intro p hp hp2 hn
    unfold rx_n at hn
    rw [b_231_73, w1, if_neg (by decide)]
    simp (disch := omega) only [js_w_of]
    rw [if_neg (by omega)]
    rfl
  | succ n ih =>
    intro p hp hp2 hn
    have hc := rx_at_in h hp
    unfold rx_n at hn
    rw [b_231_73, w1, if_neg (by decide)]
    simp (disch := omega) only [js_w_of]
    rw [if_pos (by omega), k_231_87 hd (r_at h hp (by omega)), b_231_90]
    simp (disch := omega) only [js_w_of]
    have ih2 := ih (p + 1) (by omega) (by omega) (by unfold rx_n; omega)
    unfold rx_run rx_nl
    split
    · rename_i h5
      simp [h5]
    · rename_i h5
      rw [ih2]
      simp [h5]
      rfl
theorem r_bh_skip (h : rx_tp σ) (hd : 1 ≤ d) : ∀ (n : Nat) (p : Int), 0 ≤ p → p ≤ σ 83 4 → rx_n σ p ≤ n → js_J E d 231 7 [(2, 83), (0, p), (0, 1)] [] σ = js_J E d 231 103 [(2, 83), (0, rx_skip σ n p), (0, 0)] [(0, rx_skip σ n p), (2, 83)] σ := by
  have h2 := h.1
  have h3 := h.2.1
  have w1 : js_w 1 = 1 := rfl
  have w0 : js_w 0 = 0 := rfl
  have fin : ∀ p : Int, js_J E d 231 7 [(2, 83), (0, p), (0, 0)] [] σ = js_J E d 231 103 [(2, 83), (0, p), (0, 0)] [(0, p), (2, 83)] σ := fun p => by
    rw [b_231_7, w0, if_pos rfl]
  have one : ∀ p : Int, 0 ≤ p → p ≤ σ 83 4 → js_J E d 231 7 [(2, 83), (0, p), (0, 1)] [] σ = if rx_at σ (rx_bls σ p) = 47 ∧ rx_at σ (rx_bls σ p + 1) = 47 then js_J E d 231 7 [(2, 83), (0, rx_nls σ (rx_bls σ p)), (0, 1)] [] σ else js_J E d 231 7 [(2, 83), (0, rx_bls σ p), (0, 0)] [] σ := by
    intro p hp hp2
    have hq := rx_bls_in hp2
    have hc := rx_at_in h (k := rx_bls σ p) (by omega)
    have hc2 := rx_at_in h (k := rx_bls σ p + 1) (by omega)
    have eb : rx_run rx_bl (rx_at σ) (rx_n σ p) p = rx_bls σ p := rfl
    have en : rx_run rx_nl (rx_at σ) (rx_n σ (rx_bls σ p)) (rx_bls σ p) = rx_nls σ (rx_bls σ p) := rfl
    rw [b_231_7, w1, if_neg (by decide), r_bh_bl h hd (rx_n σ p) p hp (by omega) rfl, eb, b_231_45, k_231_47 hd (r_at h (by omega) (by omega)), b_231_50]
    simp (disch := omega) only [js_w_of]
    by_cases g1 : rx_at σ (rx_bls σ p) = 47
    · rw [if_pos g1, k_231_59 hd (r_at h (by omega) (by omega)), b_231_62]
      simp (disch := omega) only [js_w_of]
      by_cases g2 : rx_at σ (rx_bls σ p + 1) = 47
      · rw [if_pos g2, if_pos ⟨g1, g2⟩, b_231_72, r_bh_nl h hd _ _ (by omega) (by omega) rfl, en]
      · rw [if_neg g2, if_neg (fun hh => g2 hh.2), b_231_71, b_231_72, b_231_73, w0, if_pos rfl]
    · rw [if_neg g1, if_neg (fun hh => g1 hh.1), b_231_71, b_231_72, b_231_73, w0, if_pos rfl]
  intro n
  induction n with
  | zero =>
    intro p hp hp2 hn
    unfold rx_n at hn
    have hq := rx_bls_in hp2
    have e0 : rx_at σ (rx_bls σ p) = 0 := rx_at_0 (by omega)
    rw [one p hp hp2, if_neg (fun hh => by rw [e0] at hh; exact absurd hh.1 (by decide)), fin]
    rfl
  | succ n ih =>
    intro p hp hp2 hn
    have hq := rx_bls_in hp2
    rw [one p hp hp2]
    unfold rx_skip
    split
    · rename_i g
      have hlt : rx_bls σ p < σ 83 4 := by
        by_cases hh : rx_bls σ p < σ 83 4
        · exact hh
        · rw [rx_at_0 (by omega)] at g
          exact absurd g.1 (by decide)
      have h5 := rx_nls_go hlt (by rw [g.1]; decide)
      have h6 := rx_nls_in (σ := σ) (p := rx_bls σ p) (by omega)
      exact ih _ (by omega) (by omega) (by unfold rx_n at *; omega)
    · exact fin _
theorem r_behind (hok : rx_ok σ) (hd : 1 ≤ d) : js_J E d 231 0 [(2, 83), (9, 0), (9, 0)] [] σ = js_r E (0, rx_at σ (rx_fr σ (σ 83 7))) σ := by
  have a1 := hok.2.2.2.1
  have a2 := hok.2.2.2.2.1
  have a3 := hok.2.2.2.2.2.1
  have hs := rx_skip_in (σ := σ) (rx_n σ (σ 83 7)) (σ 83 7) a3
  have h3 := hok.1.2.1
  rw [b_231_0, r_bh_skip hok.1 hd (rx_n σ (σ 83 7)) (σ 83 7) (by omega) a3 (Nat.le_refl _), k_231_103 hd (r_at hok.1 (by omega) (by omega)), b_231_106]
  rfl
theorem rx_next_5 : rx_next σ 83 5 = (rx_lex σ (σ 83 7)).2.1 := by
  unfold rx_next rx_set
  rw [js_up_ni _ (by decide), js_up_same]
theorem rx_L_no {c : Int} (h : rx_L c = true) : c ≠ 40 ∧ c ≠ 91 := by
  unfold rx_L at h
  simp at h
  omega
theorem rx_D_no {c : Int} (h : rx_D c = true) : c ≠ 40 ∧ c ≠ 91 := by
  unfold rx_D at h
  simp at h
  omega
theorem rx_m2_no {c e k : Int} (hk : k = 40 ∨ k = 91) : (c = k → rx_m2 c e = 0) ∧ (rx_m2 c e ≠ k) := by
  unfold rx_m2
  constructor
  · intro hc
    repeat' split
    all_goals omega
  · repeat' split
    all_goals omega
theorem rx_m1_eq {c k : Int} (hk : k = 40 ∨ k = 91) : rx_m1 c = k ↔ c = k := by
  unfold rx_m1
  constructor
  · intro h
    split at h <;> omega
  · intro h
    rcases hk with q | q <;> rw [h, q] <;> decide
/-- the sign behind is ( or [ just if the next token is -/
theorem bh_eq {k : Int} (hk : k = 40 ∨ k = 91) : rx_at σ (rx_fr σ (σ 83 7)) = k ↔ rx_next σ 83 5 = k := by
  rw [rx_next_5]
  unfold rx_lex
  simp only []
  by_cases q1 : σ 83 4 ≤ rx_fr σ (σ 83 7)
  · rw [if_pos q1, rx_at_0 q1]
    show (0 : Int) = k ↔ (1 : Int) = k
    omega
  · rw [if_neg q1]
    by_cases q2 : rx_L (rx_at σ (rx_fr σ (σ 83 7))) = true
    · rw [if_pos q2]
      have a := rx_L_no q2
      have w := rx_w1_in σ (rx_fr σ (σ 83 7)) (rx_LDs σ (rx_fr σ (σ 83 7)))
      show _ ↔ (if _ then (2000 : Int) else rx_w1 σ (rx_fr σ (σ 83 7)) (rx_LDs σ (rx_fr σ (σ 83 7)))) = k
      split <;> omega
    · rw [if_neg q2]
      by_cases q3 : rx_D (rx_at σ (rx_fr σ (σ 83 7))) = true
      · rw [if_pos q3]
        have a := rx_D_no q3
        show _ ↔ (if _ then (2000 : Int) else 3) = k
        split <;> omega
      · rw [if_neg q3]
        have a := rx_m2_no (c := rx_at σ (rx_fr σ (σ 83 7))) (e := rx_at σ (rx_fr σ (σ 83 7) + 1)) hk
        have m := rx_m1_eq (c := rx_at σ (rx_fr σ (σ 83 7))) hk
        show _ ↔ (if rx_m2 (rx_at σ (rx_fr σ (σ 83 7))) (rx_at σ (rx_fr σ (σ 83 7) + 1)) = 0 then rx_m1 (rx_at σ (rx_fr σ (σ 83 7))) else rx_m2 (rx_at σ (rx_fr σ (σ 83 7))) (rx_at σ (rx_fr σ (σ 83 7) + 1))) = k
        by_cases q4 : rx_m2 (rx_at σ (rx_fr σ (σ 83 7))) (rx_at σ (rx_fr σ (σ 83 7) + 1)) = 0
        · rw [if_pos q4]
          exact m.symm
        · rw [if_neg q4]
          constructor
          · intro hc
            exact absurd (a.1 hc) q4
          · intro hc
            exact absurd hc a.2
end OW
