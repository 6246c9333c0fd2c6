/-! part 87: the reference: the next token is a token; tell -/
theorem js_i2b_of {x : Int} (h1 : -128 ≤ x) (h2 : x < 128) : js_i2b x = x := by
  unfold js_i2b
  rw [Int32.toInt8_ofInt, Int8.toInt_toInt32]
  exact Int8.toInt_ofInt_of_le h1 h2
theorem js_iand01 : js_iand 0 1 = 0 := by decide +kernel
theorem js_iand11 : js_iand 1 1 = 1 := by decide +kernel
theorem rx_m2_in (c e : Int) : rx_m2 c e = 0 ∨ (200 ≤ rx_m2 c e ∧ rx_m2 c e ≤ 206 ∧ e ≠ 0) := by
  unfold rx_m2
  repeat' split
  all_goals omega
theorem rx_m1_in {c : Int} (h : 0 ≤ c) (h2 : c ≤ 126) : (33 ≤ rx_m1 c ∧ rx_m1 c ≤ 126) ∨ rx_m1 c = 2000 := by
  unfold rx_m1
  split
  · rename_i hm
    left
    simp only [rx_mk, List.mem_cons, List.not_mem_nil, or_false] at hm
    omega
  · exact Or.inr rfl
/-- what a token is like -/
theorem rx_lex_in {σ : js_S} (h : rx_tp σ) {p : Int} (hp : 0 ≤ p) (hp2 : p ≤ σ 83 4) : p ≤ rx_fr σ p ∧ rx_fr σ p ≤ (rx_lex σ p).1 ∧ (rx_lex σ p).1 ≤ σ 83 4 ∧ 1 ≤ (rx_lex σ p).2.1 ∧ (rx_lex σ p).2.1 ≤ 2000 ∧ ((rx_lex σ p).2.1 = 2 → (rx_lex σ p).1 - rx_fr σ p ≤ 20) := by
  have hf := rx_skip_in (σ := σ) (rx_n σ p) p hp2
  have ef : rx_skip σ (rx_n σ p) p = rx_fr σ p := rfl
  rw [ef] at hf
  unfold rx_lex
  generalize rx_fr σ p = f at hf ⊢
  have hc := rx_at_in h (k := f) (by omega)
  have hn : (rx_n σ f : Int) = σ 83 4 - f := by unfold rx_n; omega
  simp only
  by_cases g0 : σ 83 4 ≤ f
  · rw [if_pos g0]
    simp only
    omega
  · rw [if_neg g0]
    by_cases g1 : rx_L (rx_at σ f) = true
    · rw [if_pos g1]
      simp only
      have ht := rx_run_in rx_LD (rx_at σ) (rx_n σ f) f
      have el : rx_run rx_LD (rx_at σ) (rx_n σ f) f = rx_LDs σ f := rfl
      rw [el] at ht
      have hw := rx_w1_in σ f (rx_LDs σ f)
      split <;> omega
    · rw [if_neg g1]
      by_cases g2 : rx_D (rx_at σ f) = true
      · rw [if_pos g2]
        simp only
        have ht := rx_run_in rx_D (rx_at σ) (rx_n σ f) f
        have el : rx_run rx_D (rx_at σ) (rx_n σ f) f = rx_Ds σ f := rfl
        rw [el] at ht
        split <;> omega
      · rw [if_neg g2]
        simp only
        have hm := rx_m2_in (rx_at σ f) (rx_at σ (f + 1))
        have hm1 := rx_m1_in (c := rx_at σ f) (by omega) (by omega)
        by_cases g3 : rx_m2 (rx_at σ f) (rx_at σ (f + 1)) = 0
        · rw [if_pos g3, if_pos g3]
          omega
        · rw [if_neg g3, if_neg g3]
          have g4 : f + 1 < σ 83 4 := by
            by_cases hh : f + 1 < σ 83 4
            · exact hh
            · have := rx_at_0 (σ := σ) (k := f + 1) (by omega)
              omega
          omega
theorem rx_set_5 (σ : js_S) (f t k v : Int) : rx_set σ f t k v 83 5 = k := (js_up_ni _ (by decide)).trans (js_up_same _ _ _ _)
theorem rx_set_6 (σ : js_S) (f t k v : Int) : rx_set σ f t k v 83 6 = f := (js_up_ni _ (by decide)).trans <| (js_up_ni _ (by decide)).trans <| (js_up_ni _ (by decide)).trans (js_up_same _ _ _ _)
theorem rx_set_7 (σ : js_S) (f t k v : Int) : rx_set σ f t k v 83 7 = t := (js_up_ni _ (by decide)).trans <| (js_up_ni _ (by decide)).trans (js_up_same _ _ _ _)
/-- the rest is as it was -/
theorem rx_set_o (σ : js_S) (f t k v : Int) {a i : Int} (h : ¬ (a = 83 ∧ 5 ≤ i ∧ i ≤ 8)) : rx_set σ f t k v a i = σ a i := (js_up_ne _ (by omega)).trans <| (js_up_ne _ (by omega)).trans <| (js_up_ne _ (by omega)).trans (js_up_ne _ (by omega))
theorem rx_next_o (σ : js_S) {a i : Int} (h : ¬ (a = 83 ∧ 5 ≤ i ∧ i ≤ 8)) : rx_next σ a i = σ a i := rx_set_o _ _ _ _ _ h
theorem rx_next_ok {σ : js_S} (h : rx_ok σ) : rx_ok (rx_next σ) := by
  obtain ⟨h1, h2, h3, h4, h5, h6, h7, h8, h9⟩ := h
  have hl := rx_lex_in h1 (p := σ 83 7) (by omega) h6
  have o : ∀ {a i : Int}, ¬ (a = 83 ∧ 5 ≤ i ∧ i ≤ 8) → rx_next σ a i = σ a i := fun hh => rx_next_o σ hh
  have e5 : rx_next σ 83 5 = (rx_lex σ (σ 83 7)).2.1 := rx_set_5 _ _ _ _ _
  have e6 : rx_next σ 83 6 = rx_fr σ (σ 83 7) := rx_set_6 _ _ _ _ _
  have e7 : rx_next σ 83 7 = (rx_lex σ (σ 83 7)).1 := rx_set_7 _ _ _ _ _
  have e4 : rx_next σ 83 4 = σ 83 4 := o (by omega)
  have e9 : rx_next σ 83 9 = σ 83 9 := o (by omega)
  have e84 : ∀ i : Int, rx_next σ 84 i = σ 84 i := fun i => o (by omega)
  refine ⟨⟨by rw [e4]; exact h1.1, by rw [e4]; exact h1.2.1, fun i hi hi2 => ?_⟩, fun i hi hi2 => ?_, by rw [e9]; exact h3, ?_, ?_, ?_, ?_, ?_, ?_⟩
  · rw [e84]
    rw [e4] at hi2
    exact h1.2.2 i hi hi2
  · rw [e84]
    exact h2 i hi hi2
  · rw [e6]; omega
  · rw [e6, e7]; omega
  · rw [e7, e4]; omega
  · rw [e5]; omega
  · rw [e5]; omega
  · rw [e5, e6, e7]; exact hl.2.2.2.2.2
section RL
variable {E : js_E} {d : Nat} {σ : js_S}
/-- a symbol's rows at first -/
def rx_t1 (σ : js_S) (k : Int) : js_S := js_up (js_up (js_up (js_up (js_up (js_up (js_up (js_up (js_up (js_up (js_up (js_up (js_up σ 86 (σ 83 11) k) 87 (σ 83 11) 0) 88 (σ 83 11) 0) 89 (σ 83 11) 0) 90 (σ 83 11) (-1)) 91 (σ 83 11) 1) 92 (σ 83 11) 0) 93 (σ 83 11) (σ 83 26)) 94 (σ 83 11) 0) 95 (σ 83 11) 0) 96 (σ 83 11) 0) 99 (σ 83 11) 0) 97 (σ 83 11) (σ 83 7 - σ 83 6)
/-- the first n signs of its name -/
def rx_cn (τ : js_S) (s n : Int) : js_S := fun a i => if a = 98 ∧ 20 * s ≤ i ∧ i < 20 * s + n then τ 84 (τ 83 6 + (i - 20 * s)) else τ a i
def rx_told (σ : js_S) (k : Int) : js_S := js_up (rx_cn (rx_t1 σ k) (σ 83 11) (σ 83 7 - σ 83 6)) 83 11 (σ 83 11 + 1)
theorem rx_t1_o (σ : js_S) (k : Int) {a i : Int} (h : a < 86 ∨ a = 98 ∨ 99 < a ∨ i ≠ σ 83 11) : rx_t1 σ k a i = σ a i := by
  unfold rx_t1
  rw [js_up_ne _ (by omega), js_up_ne _ (by omega), js_up_ne _ (by omega), js_up_ne _ (by omega), js_up_ne _ (by omega), js_up_ne _ (by omega), js_up_ne _ (by omega), js_up_ne _ (by omega), js_up_ne _ (by omega), js_up_ne _ (by omega), js_up_ne _ (by omega), js_up_ne _ (by omega), js_up_ne _ (by omega)]
theorem r_tell_cp {τ : js_S} (hb : rx_by τ) (hf : 0 ≤ τ 83 6) {s n x1 x2 : Int} (hs0 : 0 ≤ s) (hs1 : s < 400) (hn : τ 97 s = n) (hn2 : n ≤ 20) (hn3 : τ 83 6 + n ≤ 65536) : ∀ (q : Nat) (k : Int), (q : Int) = n - k → 0 ≤ k → js_J E d 198 226 [(2, 83), (0, x1), (0, x2), (0, s), (0, k)] [] (rx_cn τ s k) = js_J E d 198 278 [(2, 83), (0, x1), (0, x2), (0, s), (0, n)] [(2, 83)] (js_up (rx_cn τ s n) 83 11 (τ 83 11 + 1)) := by
  have o : ∀ (k : Int) {a i : Int}, a ≠ 98 → rx_cn τ s k a i = τ a i := fun k a i h => if_neg (fun hh => h hh.1)
  intro q
  induction q with
  | zero =>
    intro k hk hk0
    have e : k = n := by omega
    subst e
    rw [b_198_226, o k (by decide), o k (by decide)]
    rw [js_w_of (x := s) (by omega) (by omega), hn]
    simp (disch := omega) only [js_w_of]
    rw [if_pos ⟨hs0, hs1⟩, if_neg (by omega)]
  | succ q ih =>
    intro k hk hk0
    have hc := hb (τ 83 6 + k) (by omega) (by omega)
    rw [b_198_226, o k (a := 97) (by decide), o k (a := 83) (by decide), o k (a := 84) (by decide), o k (a := 83) (by decide)]
    rw [js_w_of (x := s) (by omega) (by omega), hn, js_w_of (x := k) (by omega) (by omega), js_w_of (x := n) (by omega) (by omega), js_w_of (x := τ 83 6 + k) (by omega) (by omega), js_w_of (x := 20 * s + k) (by omega) (by omega)]
    rw [if_pos ⟨hs0, hs1⟩, if_pos (by omega), if_pos (by omega), if_pos (by omega), js_i2b_of (by omega) (by omega)]
    have e : js_up (rx_cn τ s k) 98 (20 * s + k) (τ 84 (τ 83 6 + k)) = rx_cn τ s (k + 1) := by
      funext a i
      unfold js_up rx_cn
      by_cases g : a = 98 ∧ i = 20 * s + k
      · rw [if_pos g, if_pos (by omega)]
        congr 1
        omega
      · rw [if_neg g]
        by_cases g2 : a = 98 ∧ 20 * s ≤ i ∧ i < 20 * s + k
        · rw [if_pos g2, if_pos (by omega)]
        · rw [if_neg g2, if_neg (by omega)]
    rw [e]
    exact ih (k + 1) (by omega) (by omega)
/-- is one of the symbols from s on, n of them, so named? -/
def rx_any (σ : js_S) : Nat → Int → Bool
  | 0, _ => false
  | n + 1, s => rx_nm σ s || rx_any σ n (s + 1)
/-- what tell asks: 0, or the fault -/
def rx_tf (σ : js_S) (p : Int) : Int := if σ 83 5 ≠ 2 then 1 else if 0 ≤ rx_sy σ then 2 else if 0 ≤ p ∧ rx_any σ (σ 83 11 - p).toNat p = true then 2 else if σ 83 11 = 400 then 10 else 0
end RL
