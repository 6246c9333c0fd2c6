/-! part 84: the reference's next token: what next() does -/
theorem js_up_comm {σ : js_S} {a i j A B : Int} (h : i ≠ j) : js_up (js_up σ a i A) a j B = js_up (js_up σ a j B) a i A := by
  funext b k
  simp only [js_up]
  by_cases h1 : b = a ∧ k = i
  · have h2 : ¬ (b = a ∧ k = j) := fun hh => h (by omega)
    simp [h1, h2]
    intro h3
    exact absurd h3 h
  · simp [h1]
theorem rx_set_v {σ : js_S} {f t k : Int} : rx_set σ f t k (σ 83 8) = js_up (js_up (js_up σ 83 6 f) 83 7 t) 83 5 k := js_up_id (σ := js_up (js_up (js_up σ 83 6 f) 83 7 t) 83 5 k) (a := 83) (i := 8)
theorem rx_find_in {s : Int → Int} {f n : Int} : ∀ (l : List (List Int)) (k : Int), 0 ≤ k → rx_find s f n l k = 2 ∨ (300 + k ≤ rx_find s f n l k ∧ rx_find s f n l k < 300 + k + l.length)
  | [], k, _ => Or.inl rfl
  | w :: r, k, hk => by
    unfold rx_find
    split
    · right
      simp only [List.length_cons]
      push_cast
      omega
    · rcases rx_find_in r (k + 1) (by omega) with h | h
      · exact Or.inl h
      · right
        simp only [List.length_cons]
        push_cast
        omega
theorem rx_w1_in (σ : js_S) (f t : Int) : rx_w1 σ f t = 2 ∨ (300 ≤ rx_w1 σ f t ∧ rx_w1 σ f t < 322) := by
  have := rx_find_in (s := σ 84) (f := f) (n := t - f) rx_kws 0 (by omega)
  have e : (rx_kws.length : Int) = 22 := by decide
  unfold rx_w1
  omega
theorem rx_skip_in {σ : js_S} : ∀ (n : Nat) (p : Int), p ≤ σ 83 4 → p ≤ rx_skip σ n p ∧ rx_skip σ n p ≤ σ 83 4
  | 0, p, h => rx_bls_in h
  | n + 1, p, h => by
    unfold rx_skip
    have h1 := rx_bls_in h
    split
    · have h2 := rx_nls_in h1.2
      have h3 := rx_skip_in n _ h2.2
      omega
    · exact h1
/-- all bytes of the tape, beyond its size too -/
def rx_by (σ : js_S) : Prop := ∀ i : Int, 0 ≤ i → i < 65536 → 0 ≤ σ 84 i ∧ σ 84 i < 127
section RN3
variable {E : js_E} {d : Nat} {σ : js_S}
theorem r_next (h : rx_tp σ) (hby : rx_by σ) (hd : 2 ≤ d) (hf : σ 83 9 = 0) (hto : 0 ≤ σ 83 7) (hto2 : σ 83 7 ≤ σ 83 4) : js_J E d 191 0 [(2, 83), (9, 0), (9, 0), (9, 0), (9, 0), (9, 0)] [] σ = js_r0 E (rx_set σ (rx_fr σ (σ 83 7)) (rx_lex σ (σ 83 7)).1 (rx_lex σ (σ 83 7)).2.1 (rx_lex σ (σ 83 7)).2.2) := by
  have h2 := h.1
  have h3 := h.2.1
  have hd1 : 1 ≤ d := by omega
  have w0 : js_w 0 = 0 := rfl
  have hsk := rx_skip_in (σ := σ) (rx_n σ (σ 83 7)) (σ 83 7) hto2
  rw [b_191_0, hf, if_neg (by decide), r_next_skip h hd1 (rx_n σ (σ 83 7)) (σ 83 7) hto hto2 (Nat.le_refl _)]
  have ef : rx_skip σ (rx_n σ (σ 83 7)) (σ 83 7) = rx_fr σ (σ 83 7) := rfl
  rw [ef] at hsk ⊢
  unfold rx_lex
  generalize rx_fr σ (σ 83 7) = f at hsk ⊢
  have hc := rx_at_in h (k := f) (by omega)
  have hc2 := rx_at_in h (k := f + 1) (by omega)
  have eat : rx_at (js_up σ 83 6 f) = rx_at σ := by funext k; rfl
  have h1 : rx_tp (js_up σ 83 6 f) := h
  have en : ∀ p : Int, rx_n (js_up σ 83 6 f) p = rx_n σ p := fun p => rfl
  rw [k_191_116 hd1 (r_at h1 (by omega) (by omega)), eat, b_191_119]
  have e4 : js_up σ 83 6 f 83 4 = σ 83 4 := rfl
  rw [e4]
  simp (disch := omega) only [js_w_of]
  by_cases g0 : f < σ 83 4
  · rw [if_pos g0, if_neg (show ¬ σ 83 4 ≤ f by omega), k_191_142 hd1 (r_isLetter (by omega) (by omega)), b_191_145]
    by_cases g1 : rx_L (rx_at σ f) = true
    · rw [if_neg (fun hh => by rw [(rx_b_w _).mp hh] at g1; cases g1), if_pos g1, r_next_LD h1 hd1 (rx_n σ f) f (by omega) (by show f ≤ σ 83 4; omega) rfl, eat]
      have el : rx_run rx_LD (rx_at σ) (rx_n σ f) f = rx_LDs σ f := rfl
      rw [el]
      have ht := rx_run_in rx_LD (rx_at σ) (rx_n σ f) f
      rw [el] at ht
      have hn : (rx_n σ f : Int) = σ 83 4 - f := by unfold rx_n; omega
      have hw := rx_w1_in σ f (rx_LDs σ f)
      have ew : rx_word (js_up (js_up σ 83 6 f) 83 7 (rx_LDs σ f)) = rx_w1 σ f (rx_LDs σ f) := rfl
      rw [k_191_183 hd1 (r_word (σ := js_up (js_up σ 83 6 f) 83 7 (rx_LDs σ f)) (fun i hi hi2 => hby i hi hi2) (by show 0 ≤ f; omega) (by show f ≤ rx_LDs σ f; omega) (by show rx_LDs σ f ≤ 65536; omega)), ew, b_191_186]
      generalize rx_LDs σ f = t at ht hw ⊢
      generalize rx_w1 σ f t = z at hw ⊢
      have x2 : js_up (js_up σ 83 6 f) 83 7 t 83 7 = t := rfl
      have x3 : js_up (js_up σ 83 6 f) 83 7 t 83 6 = f := rfl
      rw [x2, x3]
      simp (disch := omega) only [js_w_of, b_191_340]
      by_cases g2 : z = 2
      · by_cases g3 : 20 < t - f
        · rw [if_pos g2, if_pos g3, if_pos ⟨g2, g3⟩, rx_set_v, js_up_xx]
        · rw [if_pos g2, if_neg g3, if_neg (fun hh => g3 hh.2), rx_set_v]
      · rw [if_neg g2, if_neg (fun hh => g2 hh.1), rx_set_v]
    · have g1' : rx_L (rx_at σ f) = false := by simpa using g1
      rw [if_pos ((rx_b_w _).mpr g1'), if_neg g1, k_191_222 hd1 (r_isDigit (by omega) (by omega)), b_191_225]
      by_cases g2 : rx_D (rx_at σ f) = true
      · rw [if_neg (fun hh => by rw [(rx_b_w _).mp hh] at g2; cases g2), if_pos g2, r_next_D h1 hd1 (by show 0 ≤ f; omega) (rx_n σ f) f 0 (by omega) (by show f ≤ σ 83 4; omega) (by show f ≤ f; omega) rfl, eat]
        have e6 : js_up σ 83 6 f 83 6 = f := rfl
        rw [e6]
        have el : rx_run rx_D (rx_at σ) (rx_n σ f) f = rx_Ds σ f := rfl
        rw [el]
        have ht := rx_run_in rx_D (rx_at σ) (rx_n σ f) f
        rw [el] at ht
        have hn : (rx_n σ f : Int) = σ 83 4 - f := by unfold rx_n; omega
        have hv := rx_nv_in (s := rx_at σ) (f := f) (rx_n σ f) f 0 (by omega) (by omega) (fun _ => by rw [show (f - f).toNat = 0 by omega]; decide) (by omega)
        generalize rx_nv (rx_at σ) f (rx_n σ f) f 0 = v at hv ⊢
        generalize rx_Ds σ f = t at ht ⊢
        rw [b_191_239, w0, if_pos rfl]
        rw [e6, js_l_of (by omega) (by omega)]
        simp (disch := omega) only [js_w_of, b_191_318, b_191_340]
        have e9 : js_up (js_up (js_up (js_up (js_up σ 83 6 f) 83 7 t) 83 5 3) 83 8 v) 83 5 2000 = rx_set σ f t 2000 v := by
          unfold rx_set
          rw [js_up_comm (i := 8) (j := 5) (by decide), js_up_xx]
        by_cases g3 : 10 < t - f
        · rw [if_pos g3, if_pos (Or.inl g3), e9]
        · rw [if_neg g3]
          by_cases g4 : 2000000000 < v
          · rw [if_pos g4, if_pos (Or.inr g4), e9]
          · rw [if_neg g4, if_neg (fun hh => hh.elim g3 g4)]
            rfl
      · have g2' : rx_D (rx_at σ f) = false := by simpa using g2
        rw [if_pos ((rx_b_w _).mpr g2'), if_neg g2, k_191_334 hd1 (r_at h1 (by omega) (by omega)), eat, k_191_337 hd1 (r_sign (by omega) (by omega) (by omega) (by omega)), b_191_340]
        have e6 : js_up σ 83 6 f 83 6 = f := rfl
        rw [e6, rx_set_v]
  · rw [if_neg g0, if_pos (show σ 83 4 ≤ f by omega), b_191_340, rx_set_v, js_up_comm (i := 5) (j := 7) (by decide)]
/-- with a fault nothing is read -/
theorem r_nextF (hf : 0 < σ 83 9) (hf2 : σ 83 9 < 2147483648) : js_J E d 191 0 [(2, 83), (9, 0), (9, 0), (9, 0), (9, 0), (9, 0)] [] σ = js_r0 E σ := by
  rw [b_191_0]
  simp (disch := omega) only [js_w_of]
  rw [if_pos hf]
end RN3
