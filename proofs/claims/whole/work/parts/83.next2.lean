/-! part 83: the reference's next token, closed -/
theorem rx_b_w (b : Bool) : js_w (rx_b b) = 0 ↔ b = false := by
  cases b
  · exact ⟨fun _ => rfl, fun _ => rfl⟩
  · exact ⟨fun h => absurd h (by decide), fun h => by cases h⟩
/-- the number that the digits from p on tell (those at 11 and more signs from f on left out) -/
def rx_nv (s : Int → Int) (f : Int) : Nat → Int → Int → Int
  | 0, _, v => v
  | n + 1, p, v => if rx_D (s p) then rx_nv s f n (p + 1) (if p - f < 11 then 10 * v + s p - 48 else v) else v
theorem rx_run_end {P : Int → Bool} {s : Int → Int} : ∀ (n : Nat) (p : Int), rx_run P s n p < p + n → P (s (rx_run P s n p)) = false
  | 0, p, h => by simp [rx_run] at h
  | n + 1, p, h => by
    unfold rx_run at h ⊢
    split
    · rename_i hp
      rw [if_pos hp] at h
      exact rx_run_end n (p + 1) (by push_cast at h; omega)
    · rename_i hp
      simpa using hp
theorem rx_run_all {P : Int → Bool} {s : Int → Int} : ∀ (n : Nat) (p i : Int), p ≤ i → i < rx_run P s n p → P (s i) = true
  | 0, p, i, h1, h2 => by simp [rx_run] at h2; omega
  | n + 1, p, i, h1, h2 => by
    unfold rx_run at h2
    split at h2
    · rename_i hp
      by_cases hi : i = p
      · rw [hi]; exact hp
      · exact rx_run_all n (p + 1) i (by omega) h2
    · omega
section RN2
variable {E : js_E} {d : Nat} {σ : js_S}
theorem r_next_LD (h : rx_tp σ) (hd : 1 ≤ d) {x2 x3 : Int} : ∀ (n : Nat) (p : Int), 0 ≤ p → p ≤ σ 83 4 → n = rx_n σ p → js_J E d 191 148 [(2, 83), (0, p), (0, x2), (0, x3), (9, 0), (9, 0)] [] σ = js_J E d 191 183 [(2, 83), (0, rx_run rx_LD (rx_at σ) n p), (0, x2), (0, x3), (9, 0), (9, 0)] [(2, 83), (2, 83)] (js_up σ 83 7 (rx_run rx_LD (rx_at σ) n p)) := by
  have h2 := h.1
  have h3 := h.2.1
  have step : ∀ p : Int, 0 ≤ p → p ≤ σ 83 4 → js_J E d 191 148 [(2, 83), (0, p), (0, x2), (0, x3), (9, 0), (9, 0)] [] σ = if rx_LD (rx_at σ p) then js_J E d 191 148 [(2, 83), (0, p + 1), (0, x2), (0, x3), (9, 0), (9, 0)] [] σ else js_J E d 191 183 [(2, 83), (0, p), (0, x2), (0, x3), (9, 0), (9, 0)] [(2, 83), (2, 83)] (js_up σ 83 7 p) := by
    intro p hp hp2
    have hc := rx_at_in h hp
    rw [b_191_148, k_191_150 hd (r_at h hp (by omega)), k_191_153 hd (r_isLetter (by omega) (by omega)), b_191_156]
    unfold rx_LD
    by_cases g1 : rx_L (rx_at σ p) = true
    · rw [if_neg (fun hh => by rw [(rx_b_w _).mp hh] at g1; cases g1), b_191_170]
      simp [g1]
    · have g1' : rx_L (rx_at σ p) = false := by simpa using g1
      rw [if_pos ((rx_b_w _).mpr g1'), k_191_161 hd (r_at h hp (by omega)), k_191_164 hd (r_isDigit (by omega) (by omega)), b_191_167]
      by_cases g2 : rx_D (rx_at σ p) = true
      · rw [if_neg (fun hh => by rw [(rx_b_w _).mp hh] at g2; cases g2), b_191_170]
        simp [g1', g2]
      · have g2' : rx_D (rx_at σ p) = false := by simpa using g2
        rw [if_pos ((rx_b_w _).mpr g2')]
        simp [g1', g2']
  intro n
  induction n with
  | zero =>
    intro p hp hp2 hn
    unfold rx_n at hn
    rw [step p hp hp2, rx_at_0 (by omega), if_neg (by decide)]
    rfl
  | succ n ih =>
    intro p hp hp2 hn
    unfold rx_n at hn
    rw [step p hp hp2]
    unfold rx_run
    split
    · exact ih (p + 1) (by omega) (by omega) (by unfold rx_n; omega)
    · rfl
theorem r_next_D (h : rx_tp σ) (hd : 1 ≤ d) {x2 x3 : Int} (hf : 0 ≤ σ 83 6) : ∀ (n : Nat) (p v : Int), 0 ≤ p → p ≤ σ 83 4 → σ 83 6 ≤ p → n = rx_n σ p → js_J E d 191 231 [(2, 83), (0, p), (0, x2), (0, x3), (1, v), (9, 0)] [] σ = js_J E d 191 239 [(2, 83), (0, rx_run rx_D (rx_at σ) n p), (0, x2), (0, x3), (1, rx_nv (rx_at σ) (σ 83 6) n p v), (9, 0)] [(0, 0)] σ := by
  have h2 := h.1
  have h3 := h.2.1
  have step : ∀ p v : Int, 0 ≤ p → p ≤ σ 83 4 → σ 83 6 ≤ p → js_J E d 191 231 [(2, 83), (0, p), (0, x2), (0, x3), (1, v), (9, 0)] [] σ = if rx_D (rx_at σ p) then js_J E d 191 231 [(2, 83), (0, p + 1), (0, x2), (0, x3), (1, if p - σ 83 6 < 11 then 10 * v + rx_at σ p - 48 else v), (9, 0)] [] σ else js_J E d 191 239 [(2, 83), (0, p), (0, x2), (0, x3), (1, v), (9, 0)] [(0, 0)] σ := by
    intro p v hp hp2 hp3
    have hc := rx_at_in h hp
    rw [b_191_231, k_191_233 hd (r_at h hp (by omega)), k_191_236 hd (r_isDigit (by omega) (by omega))]
    by_cases g1 : rx_D (rx_at σ p) = true
    · rw [if_pos g1, b_191_239, if_neg (fun hh => by rw [(rx_b_w _).mp hh] at g1; cases g1)]
      simp (disch := omega) only [js_w_of]
      split
      · rw [k_191_261 hd (r_at h hp (by omega)), b_191_264, b_191_272]
        simp (disch := omega) only [js_w_of]
      · rw [b_191_272]
    · have g1' : rx_D (rx_at σ p) = false := by simpa using g1
      rw [if_neg g1, g1']
      rfl
  intro n
  induction n with
  | zero =>
    intro p v hp hp2 hp3 hn
    unfold rx_n at hn
    rw [step p v hp hp2 hp3, rx_at_0 (by omega), if_neg (by decide)]
    rfl
  | succ n ih =>
    intro p v hp hp2 hp3 hn
    unfold rx_n at hn
    rw [step p v hp hp2 hp3]
    unfold rx_run rx_nv
    split
    · exact ih (p + 1) _ (by omega) (by omega) (by omega) (by unfold rx_n; omega)
    · rfl
/-- the number stays small: at most 11 digits count -/
theorem rx_nv_in {s : Int → Int} {f : Int} : ∀ (n : Nat) (p v : Int), f ≤ p → 0 ≤ v → (p - f ≤ 11 → v < 10 ^ (p - f).toNat) → v < 100000000000 → 0 ≤ rx_nv s f n p v ∧ rx_nv s f n p v < 100000000000
  | 0, p, v, _, h0, _, h2 => ⟨h0, h2⟩
  | n + 1, p, v, hf, h0, h1, h2 => by
    unfold rx_nv
    split
    · rename_i hD
      have hd2 : 48 ≤ s p ∧ s p ≤ 57 := by
        simpa [rx_D] using hD
      by_cases hp : p - f < 11
      · rw [if_pos hp]
        have h3 := h1 (by omega)
        have e : (p + 1 - f).toNat = (p - f).toNat + 1 := by omega
        have h4 : 10 * v + s p - 48 < 10 ^ (p + 1 - f).toNat := by
          rw [e, Int.pow_succ]
          omega
        refine rx_nv_in n (p + 1) _ (by omega) (by omega) (fun _ => h4) ?_
        have h5 : (10 : Int) ^ (p + 1 - f).toNat ≤ 10 ^ 11 := by
          exact_mod_cast (Nat.pow_le_pow_right (n := 10) (by omega) (show (p + 1 - f).toNat ≤ 11 by omega))
        have h6 : (10 : Int) ^ 11 = 100000000000 := by decide
        omega
      · rw [if_neg hp]
        refine rx_nv_in n (p + 1) v (by omega) h0 (fun hh => by omega) h2
    · exact ⟨h0, h2⟩
/-- the token behind place p: where it begins, where it ends, its kind, its number -/
def rx_fr (σ : js_S) (p : Int) : Int := rx_skip σ (rx_n σ p) p
def rx_w1 (σ : js_S) (f t : Int) : Int := rx_find (σ 84) f (t - f) rx_kws 0
def rx_lex (σ : js_S) (p : Int) : Int × Int × Int :=
  let f := rx_fr σ p
  let c := rx_at σ f
  if σ 83 4 ≤ f then (f, 1, σ 83 8)
  else if rx_L c then (rx_LDs σ f, if rx_w1 σ f (rx_LDs σ f) = 2 ∧ 20 < rx_LDs σ f - f then 2000 else rx_w1 σ f (rx_LDs σ f), σ 83 8)
  else if rx_D c then (rx_Ds σ f, if 10 < rx_Ds σ f - f ∨ 2000000000 < rx_nv (rx_at σ) f (rx_n σ f) f 0 then 2000 else 3, rx_nv (rx_at σ) f (rx_n σ f) f 0)
  else (f + (if rx_m2 c (rx_at σ (f + 1)) = 0 then 1 else 2), if rx_m2 c (rx_at σ (f + 1)) = 0 then rx_m1 c else rx_m2 c (rx_at σ (f + 1)), σ 83 8)
/-- the store with another token -/
def rx_set (σ : js_S) (f t k v : Int) : js_S := js_up (js_up (js_up (js_up σ 83 6 f) 83 7 t) 83 5 k) 83 8 v
end RN2
