/-! part 85: the reference's bad, take, enter, leave -/
def rx_bad (σ : js_S) (k p : Int) : js_S := js_up (if σ 83 9 = 0 then js_up σ 83 9 (k + 16 * p) else σ) 83 5 0
/-- a fault was told: nothing is read any more -/
def rx_F (σ : js_S) : Prop := 0 < σ 83 9 ∧ σ 83 9 < 2147483648 ∧ σ 83 5 = 0
theorem rx_bad_F {σ : js_S} (h : rx_F σ) (k p : Int) : rx_bad σ k p = σ := by
  unfold rx_bad
  rw [if_neg (by have := h.1; omega)]
  have := js_up_id (σ := σ) (a := 83) (i := 5)
  rw [h.2.2] at this
  exact this
theorem rx_bad_ok {σ : js_S} (h : σ 83 9 = 0) {k p : Int} (hk : 1 ≤ k) (hk2 : k ≤ 15) (hp : 0 ≤ p) (hp2 : p ≤ 70000) : rx_F (rx_bad σ k p) ∧ (rx_bad σ k p) 83 9 = k + 16 * p := by
  unfold rx_bad
  rw [if_pos h]
  have e : js_up (js_up σ 83 9 (k + 16 * p)) 83 5 0 83 9 = k + 16 * p := rfl
  refine ⟨⟨?_, ?_, rfl⟩, e⟩
  · rw [e]; omega
  · rw [e]; omega
section RT
variable {E : js_E} {d : Nat} {σ : js_S}
theorem r_bad {k p : Int} (h0 : 0 ≤ σ 83 9) (h1 : σ 83 9 < 2147483648) : js_J E d 199 0 [(2, 83), (0, k), (0, p)] [] σ = js_r0 E (rx_bad σ k p) := by
  rw [b_199_0]
  simp (disch := omega) only [js_w_of, b_199_17]
  unfold rx_bad
  split <;> rfl
/-- what next() leaves -/
def rx_next (σ : js_S) : js_S := rx_set σ (rx_fr σ (σ 83 7)) (rx_lex σ (σ 83 7)).1 (rx_lex σ (σ 83 7)).2.1 (rx_lex σ (σ 83 7)).2.2
/-- the reading stands at a token -/
def rx_ok (σ : js_S) : Prop := rx_tp σ ∧ rx_by σ ∧ σ 83 9 = 0 ∧ 0 ≤ σ 83 6 ∧ σ 83 6 ≤ σ 83 7 ∧ σ 83 7 ≤ σ 83 4 ∧ 0 ≤ σ 83 5 ∧ σ 83 5 < 3000 ∧ (σ 83 5 = 2 → σ 83 7 - σ 83 6 ≤ 20)
theorem r_next' (h : rx_ok σ) (hd : 2 ≤ d) : js_J E d 191 0 [(2, 83), (9, 0), (9, 0), (9, 0), (9, 0), (9, 0)] [] σ = js_r0 E (rx_next σ) :=
  r_next h.1 h.2.1 hd h.2.2.1 (by have h1 := h.2.2.2.1; have h2 := h.2.2.2.2.1; omega) h.2.2.2.2.2.1
theorem r_take (h : rx_ok σ) (hd : 3 ≤ d) {k : Int} (hk : 0 ≤ k) (hk2 : k < 3000) : js_J E d 202 0 [(2, 83), (0, k)] [] σ = js_r0 E (if σ 83 5 = k then rx_next σ else rx_bad σ 1 (σ 83 6)) := by
  have h5a := h.2.2.2.2.2.2.1
  have h5b := h.2.2.2.2.2.2.2.1
  have h6a := h.2.2.2.1
  have h6b := h.2.2.2.2.1
  have h6c := h.2.2.2.2.2.1
  have h9 := h.2.2.1
  have h4 := h.1.2.1
  rw [b_202_0]
  simp (disch := omega) only [js_w_of]
  by_cases g : σ 83 5 = k
  · rw [if_pos g, if_pos g, b_202_17, k_202_18 (by omega) (r_next' h (by omega)), b_202_21]
  · have hF := rx_bad_ok h9 (k := 1) (p := σ 83 6) (by omega) (by omega) (by omega) (by omega)
    rw [if_neg g, if_neg g, k_202_14 (by omega) (r_bad (by omega) (by omega)), b_202_17, k_202_18 (by omega) (r_nextF hF.1.1 hF.1.2.1), b_202_21]
theorem r_takeF (h : rx_F σ) (hd : 3 ≤ d) {k : Int} (hk : 0 < k) (hk2 : k < 3000) : js_J E d 202 0 [(2, 83), (0, k)] [] σ = js_r0 E σ := by
  have h1 := h.1
  have h2 := h.2.1
  rw [b_202_0, h.2.2]
  simp (disch := omega) only [js_w_of]
  rw [if_neg (by omega), k_202_14 (by omega) (r_bad (by omega) (by omega)), rx_bad_F h, b_202_17, k_202_18 (by omega) (r_nextF h1 h2), b_202_21]
theorem r_enter (h : rx_ok σ) (hd : 3 ≤ d) {k : Int} (hk : 0 ≤ k) (hk2 : k < 3000) (h0 : 0 ≤ σ 83 10) (h1 : σ 83 10 ≤ 64) : js_J E d 207 0 [(2, 83), (0, k)] [] σ = js_r0 E (if σ 83 5 = k then (if σ 83 10 = 64 then js_up (rx_bad σ 10 (σ 83 6)) 83 10 (σ 83 10 + 1) else rx_next (js_up σ 83 10 (σ 83 10 + 1))) else js_up (rx_bad σ 1 (σ 83 6)) 83 10 (σ 83 10 + 1)) := by
  have h5a := h.2.2.2.2.2.2.1
  have h5b := h.2.2.2.2.2.2.2.1
  have h6a := h.2.2.2.1
  have h6b := h.2.2.2.2.1
  have h6c := h.2.2.2.2.2.1
  have h9 := h.2.2.1
  have h4 := h.1.2.1
  have nf : ∀ k2 : Int, 1 ≤ k2 → k2 ≤ 15 → js_J E (d - 1) 191 0 [(2, 83), (9, 0), (9, 0), (9, 0), (9, 0), (9, 0)] [] (js_up (rx_bad σ k2 (σ 83 6)) 83 10 (σ 83 10 + 1)) = js_r0 E (js_up (rx_bad σ k2 (σ 83 6)) 83 10 (σ 83 10 + 1)) := fun k2 g1 g2 => by
    have hF := rx_bad_ok h9 (k := k2) (p := σ 83 6) g1 g2 (by omega) (by omega)
    exact r_nextF hF.1.1 hF.1.2.1
  have e10 : ∀ k2 : Int, rx_bad σ k2 (σ 83 6) 83 10 = σ 83 10 := fun k2 => by
    unfold rx_bad
    split <;> rfl
  rw [b_207_0]
  simp (disch := omega) only [js_w_of]
  by_cases g : σ 83 5 = k
  · rw [if_pos g, if_pos g]
    by_cases g2 : σ 83 10 = 64
    · rw [if_pos g2, if_pos g2, k_207_36 (by omega) (r_bad (by omega) (by omega)), b_207_39, e10, k_207_50 (by omega) (nf 10 (by omega) (by omega)), b_207_53]
    · rw [if_neg g2, if_neg g2, b_207_39, k_207_50 (by omega) (r_next' (σ := js_up σ 83 10 (σ 83 10 + 1)) h (by omega)), b_207_53]
  · rw [if_neg g, if_neg g, k_207_14 (by omega) (r_bad (by omega) (by omega)), b_207_17, b_207_39, e10, k_207_50 (by omega) (nf 1 (by omega) (by omega)), b_207_53]
theorem r_enterF (h : rx_F σ) (hd : 3 ≤ d) {k : Int} (hk : 0 < k) (hk2 : k < 3000) : js_J E d 207 0 [(2, 83), (0, k)] [] σ = js_r0 E (js_up σ 83 10 (σ 83 10 + 1)) := by
  have h1 := h.1
  have h2 := h.2.1
  rw [b_207_0, h.2.2]
  simp (disch := omega) only [js_w_of]
  rw [if_neg (by omega), k_207_14 (by omega) (r_bad (by omega) (by omega)), rx_bad_F h, b_207_17, b_207_39, k_207_50 (by omega) (r_nextF (σ := js_up σ 83 10 (σ 83 10 + 1)) h1 h2), b_207_53]
theorem r_leave (h : rx_ok σ) (hd : 4 ≤ d) {k : Int} (hk : 0 ≤ k) (hk2 : k < 3000) : js_J E d 211 0 [(2, 83), (0, k)] [] σ = js_r0 E (if σ 83 5 = k then js_up (rx_next σ) 83 10 (σ 83 10 - 1) else js_up (rx_bad σ 1 (σ 83 6)) 83 10 (σ 83 10 - 1)) := by
  rw [b_211_0, k_211_2 (by omega) (r_take h (by omega) hk hk2), b_211_5]
  split
  · rfl
  · have e10 : rx_bad σ 1 (σ 83 6) 83 10 = σ 83 10 := by
      unfold rx_bad
      split <;> rfl
    rw [e10]
theorem r_leaveF (h : rx_F σ) (hd : 4 ≤ d) {k : Int} (hk : 0 < k) (hk2 : k < 3000) : js_J E d 211 0 [(2, 83), (0, k)] [] σ = js_r0 E (js_up σ 83 10 (σ 83 10 - 1)) := by
  rw [b_211_0, k_211_2 (by omega) (r_takeF h (by omega) hk hk2), b_211_5]
end RT
