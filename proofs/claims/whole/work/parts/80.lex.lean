/-! part 80: the reference's reading of signs and tokens -/
def rx_at (σ : js_S) (k : Int) : Int := if k < σ 83 4 then σ 84 k else 0
def rx_L (c : Int) : Bool := (decide (97 ≤ c) && decide (c ≤ 122)) || (decide (65 ≤ c) && decide (c ≤ 90)) || decide (c = 95)
def rx_D (c : Int) : Bool := decide (48 ≤ c) && decide (c ≤ 57)
def rx_b (b : Bool) : Int := if b then 1 else 0
/-- the tape that is read: its size, its signs -/
def rx_tp (σ : js_S) : Prop := 0 ≤ σ 83 4 ∧ σ 83 4 ≤ 65536 ∧ ∀ i : Int, 0 ≤ i → i < σ 83 4 → 1 ≤ σ 84 i ∧ σ 84 i ≤ 126
theorem rx_at_in {σ : js_S} (h : rx_tp σ) {k : Int} (hk : 0 ≤ k) : 0 ≤ rx_at σ k ∧ rx_at σ k ≤ 126 := by
  unfold rx_at
  split
  · rename_i h1
    have := h.2.2 k hk h1
    omega
  · omega
theorem rx_at_0 {σ : js_S} {k : Int} (hk : σ 83 4 ≤ k) : rx_at σ k = 0 := if_neg (by omega)
section RX
variable {E : js_E} {d : Nat} {σ : js_S}
theorem r_at (h : rx_tp σ) {k : Int} (h0 : 0 ≤ k) (h1 : k < 2147483648) : js_J E d 192 0 [(2, 83), (0, k)] [] σ = js_r E (0, rx_at σ k) σ := by
  have h2 := h.1
  have h3 := h.2.1
  rw [b_192_0]
  simp (disch := omega) only [js_w_of]
  unfold rx_at
  split
  · rw [if_pos (by omega)]
  · rfl
theorem r_isLetter {c : Int} (h0 : -2147483648 ≤ c) (h1 : c < 2147483648) : js_J E d 193 0 [(0, c)] [] σ = js_r E (0, rx_b (rx_L c)) σ := by
  simp (disch := omega) only [b_193_0, b_193_12, b_193_24, js_w_of]
  unfold rx_b rx_L
  simp only [Bool.or_eq_true, Bool.and_eq_true, decide_eq_true_eq]
  repeat' split
  all_goals first | rfl | omega
theorem r_isDigit {c : Int} (h0 : -2147483648 ≤ c) (h1 : c < 2147483648) : js_J E d 194 0 [(0, c)] [] σ = js_r E (0, rx_b (rx_D c)) σ := by
  simp (disch := omega) only [b_194_0, js_w_of]
  unfold rx_b rx_D
  simp only [Bool.and_eq_true, decide_eq_true_eq]
  repeat' split
  all_goals first | rfl | omega
/-- the first place from p on whose sign isn't one of P, at most n further -/
def rx_run (P : Int → Bool) (s : Int → Int) : Nat → Int → Int
  | 0, p => p
  | n + 1, p => if P (s p) then rx_run P s n (p + 1) else p
theorem rx_run_in (P : Int → Bool) (s : Int → Int) : ∀ (n : Nat) (p : Int), p ≤ rx_run P s n p ∧ rx_run P s n p ≤ p + n
  | 0, p => by simp [rx_run]
  | n + 1, p => by
    unfold rx_run
    split
    · have := rx_run_in P s n (p + 1)
      push_cast
      omega
    · push_cast
      omega
def rx_bl (c : Int) : Bool := decide (c = 32) || decide (c = 10)
def rx_nl (c : Int) : Bool := !decide (c = 10)
def rx_LD (c : Int) : Bool := rx_L c || rx_D c
/-- the fuel that a run of signs needs -/
def rx_n (σ : js_S) (p : Int) : Nat := (σ 83 4 - p).toNat
def rx_bls (σ : js_S) (p : Int) : Int := rx_run rx_bl (rx_at σ) (rx_n σ p) p
def rx_nls (σ : js_S) (p : Int) : Int := rx_run rx_nl (rx_at σ) (rx_n σ p) p
def rx_LDs (σ : js_S) (p : Int) : Int := rx_run rx_LD (rx_at σ) (rx_n σ p) p
def rx_Ds (σ : js_S) (p : Int) : Int := rx_run rx_D (rx_at σ) (rx_n σ p) p
theorem r_next_bl (h : rx_tp σ) (hd : 1 ≤ d) {x2 : Int} : ∀ (n : Nat) (p : Int), 0 ≤ p → p ≤ 65536 → n = rx_n σ p → js_J E d 191 19 [(2, 83), (0, p), (0, x2), (9, 0), (9, 0), (9, 0)] [] σ = js_J E d 191 53 [(2, 83), (0, rx_run rx_bl (rx_at σ) n p), (0, x2), (9, 0), (9, 0), (9, 0)] [] σ := by
  have h2 := h.1
  have h3 := h.2.1
  intro n
  induction n with
  | zero =>
    intro p hp hp2 hn
    unfold rx_n at hn
    rw [b_191_19]
    simp (disch := omega) only [js_w_of]
    rw [if_neg (by omega)]
    rfl
  | succ n ih =>
    intro p hp hp2 hn
    have hc := rx_at_in h hp
    unfold rx_n at hn
    rw [b_191_19]
    simp (disch := omega) only [js_w_of]
    rw [if_pos (by omega), k_191_29 hd (r_at h hp (by omega)), b_191_32]
    simp (disch := omega) only [js_w_of]
    have ih2 := ih (p + 1) (by omega) (by omega) (by unfold rx_n; omega)
    unfold rx_run rx_bl
    split
    · rename_i h5
      rw [b_191_47, ih2]
      simp [h5]
      rfl
    · rename_i h5
      rw [k_191_39 hd (r_at h hp (by omega)), b_191_42]
      simp (disch := omega) only [js_w_of]
      split
      · rename_i h6
        rw [b_191_47, ih2]
        simp [h6]
        rfl
      · rename_i h6
        simp [h5, h6]
end RX
