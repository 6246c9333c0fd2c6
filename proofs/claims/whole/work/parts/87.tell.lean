/-! part 87: the reference: the next token is a token; tell -/
theorem js_i2b_of {x : Int} (h1 : -128 ≤ x) (h2 : x < 128) : js_i2b x = x := by
  unfold js_i2b
  rw [Int32.toInt8_ofInt, Int8.toInt_toInt32]
  exact Int8.toInt_ofInt_of_le h1 h2
theorem js_iand01 : js_iand 0 1 = 0 := by decide +kernel
theorem js_iand11 : js_iand 1 1 = 1 := by decide +kernel
theorem rx_m2_in (c e : Int) : rx_m2 c e = 0 ∨ (200 ≤ rx_m2 c e ∧ rx_m2 c e ≤ 206 ∧ e ≠ 0) := by
  unfold rx_m2
  repeat' split
  all_goals omega
theorem rx_m1_in {c : Int} (h : 0 ≤ c) (h2 : c ≤ 126) : (33 ≤ rx_m1 c ∧ rx_m1 c ≤ 126) ∨ rx_m1 c = 2000 := by
  unfold rx_m1
  split
  · rename_i hm
    left
    simp only [rx_mk, List.mem_cons, List.not_mem_nil, or_false] at hm
    omega
  · exact Or.inr rfl
/-- what a token is like -/
theorem rx_lex_in {σ : js_S} (h : rx_tp σ) {p : Int} (hp : 0 ≤ p) (hp2 : p ≤ σ 83 4) : p ≤ rx_fr σ p ∧ rx_fr σ p ≤ (rx_lex σ p).1 ∧ (rx_lex σ p).1 ≤ σ 83 4 ∧ 1 ≤ (rx_lex σ p).2.1 ∧ (rx_lex σ p).2.1 ≤ 2000 ∧ ((rx_lex σ p).2.1 = 2 → (rx_lex σ p).1 - rx_fr σ p ≤ 20) := by
  have hf := rx_skip_in (σ := σ) (rx_n σ p) p hp2
  have ef : rx_skip σ (rx_n σ p) p = rx_fr σ p := rfl
  rw [ef] at hf
  unfold rx_lex
  generalize rx_fr σ p = f at hf ⊢
  have hc := rx_at_in h (k := f) (by omega)
  have hn : (rx_n σ f : Int) = σ 83 4 - f := by unfold rx_n; omega
  simp only
  by_cases g0 : σ 83 4 ≤ f
  · rw [if_pos g0]
    simp only
    omega
  · rw [if_neg g0]
    by_cases g1 : rx_L (rx_at σ f) = true
    · rw [if_pos g1]
      simp only
      have ht := rx_run_in rx_LD (rx_at σ) (rx_n σ f) f
      have el : rx_run rx_LD (rx_at σ) (rx_n σ f) f = rx_LDs σ f := rfl
      rw [el] at ht
      have hw := rx_w1_in σ f (rx_LDs σ f)
      split <;> omega
    · rw [if_neg g1]
      by_cases g2 : rx_D (rx_at σ f) = true
      · rw [if_pos g2]
        simp only
        have ht := rx_run_in rx_D (rx_at σ) (rx_n σ f) f
        have el : rx_run rx_D (rx_at σ) (rx_n σ f) f = rx_Ds σ f := rfl
        rw [el] at ht
        split <;> omega
      · rw [if_neg g2]
        simp only
        have hm := rx_m2_in (rx_at σ f) (rx_at σ (f + 1))
        have hm1 := rx_m1_in (c := rx_at σ f) (by omega) (by omega)
        by_cases g3 : rx_m2 (rx_at σ f) (rx_at σ (f + 1)) = 0
        · rw [if_pos g3, if_pos g3]
          omega
        · rw [if_neg g3, if_neg g3]
          have g4 : f + 1 < σ 83 4 := by
            by_cases hh : f + 1 < σ 83 4
            · exact hh
            · have := rx_at_0 (σ := σ) (k := f + 1) (by omega)
              omega
          omega
theorem rx_set_5 (σ : js_S) (f t k v : Int) : rx_set σ f t k v 83 5 = k := (js_up_ni _ (by decide)).trans (js_up_same _ _ _ _)
theorem rx_set_6 (σ : js_S) (f t k v : Int) : rx_set σ f t k v 83 6 = f := (js_up_ni _ (by decide)).trans <| (js_up_ni _ (by decide)).trans <| (js_up_ni _ (by decide)).trans (js_up_same _ _ _ _)
theorem rx_set_7 (σ : js_S) (f t k v : Int) : rx_set σ f t k v 83 7 = t := (js_up_ni _ (by decide)).trans <| (js_up_ni _ (by decide)).trans (js_up_same _ _ _ _)
/-- the rest is as it was -/
theorem rx_set_o (σ : js_S) (f t k v : Int) {a i : Int} (h : ¬ (a = 83 ∧ 5 ≤ i ∧ i ≤ 8)) : rx_set σ f t k v a i = σ a i := (js_up_ne _ (by omega)).trans <| (js_up_ne _ (by omega)).trans <| (js_up_ne _ (by omega)).trans (js_up_ne _ (by omega))
theorem rx_next_o (σ : js_S) {a i : Int} (h : ¬ (a = 83 ∧ 5 ≤ i ∧ i ≤ 8)) : rx_next σ a i = σ a i := rx_set_o _ _ _ _ _ h
theorem rx_next_ok {σ : js_S} (h : rx_ok σ) : rx_ok (rx_next σ) := by
  obtain ⟨h1, h2, h3, h4, h5, h6, h7, h8, h9⟩ := h
  have hl := rx_lex_in h1 (p := σ 83 7) (by omega) h6
  have o : ∀ {a i : Int}, ¬ (a = 83 ∧ 5 ≤ i ∧ i ≤ 8) → rx_next σ a i = σ a i := fun hh => rx_next_o σ hh
  have e5 : rx_next σ 83 5 = (rx_lex σ (σ 83 7)).2.1 := rx_set_5 _ _ _ _ _
  have e6 : rx_next σ 83 6 = rx_fr σ (σ 83 7) := rx_set_6 _ _ _ _ _
  have e7 : rx_next σ 83 7 = (rx_lex σ (σ 83 7)).1 := rx_set_7 _ _ _ _ _
  have e4 : rx_next σ 83 4 = σ 83 4 := o (by omega)
  have e9 : rx_next σ 83 9 = σ 83 9 := o (by omega)
  have e84 : ∀ i : Int, rx_next σ 84 i = σ 84 i := fun i => o (by omega)
  refine ⟨⟨by rw [e4]; exact h1.1, by rw [e4]; exact h1.2.1, fun i hi hi2 => ?_⟩, fun i hi hi2 => ?_, by rw [e9]; exact h3, ?_, ?_, ?_, ?_, ?_, ?_⟩
  · rw [e84]
    rw [e4] at hi2
    exact h1.2.2 i hi hi2
  · rw [e84]
    exact h2 i hi hi2
  · rw [e6]; omega
  · rw [e6, e7]; omega
  · rw [e7, e4]; omega
  · rw [e5]; omega
  · rw [e5]; omega
  · rw [e5, e6, e7]; exact hl.2.2.2.2.2
section RL
variable {E : js_E} {d : Nat} {σ : js_S}
/-- a symbol's rows at first -/
def rx_t1 (σ : js_S) (k : Int) : js_S := js_up (js_up (js_up (js_up (js_up (js_up (js_up (js_up (js_up (js_up (js_up (js_up (js_up σ 86 (σ 83 11) k) 87 (σ 83 11) 0) 88 (σ 83 11) 0) 89 (σ 83 11) 0) 90 (σ 83 11) (-1)) 91 (σ 83 11) 1) 92 (σ 83 11) 0) 93 (σ 83 11) (σ 83 26)) 94 (σ 83 11) 0) 95 (σ 83 11) 0) 96 (σ 83 11) 0) 99 (σ 83 11) 0) 97 (σ 83 11) (σ 83 7 - σ 83 6)
/-- the first n signs of its name -/
def rx_cn (τ : js_S) (s n : Int) : js_S := fun a i => if a = 98 ∧ 20 * s ≤ i ∧ i < 20 * s + n then τ 84 (τ 83 6 + (i - 20 * s)) else τ a i
def rx_told (σ : js_S) (k : Int) : js_S := js_up (rx_cn (rx_t1 σ k) (σ 83 11) (σ 83 7 - σ 83 6)) 83 11 (σ 83 11 + 1)
theorem rx_t1_o (σ : js_S) (k : Int) {a i : Int} (h : a < 86 ∨ a = 98 ∨ 99 < a ∨ i ≠ σ 83 11) : rx_t1 σ k a i = σ a i := by
  unfold rx_t1
  rw [js_up_ne _ (by omega), js_up_ne _ (by omega), js_up_ne _ (by omega), js_up_ne _ (by omega), js_up_ne _ (by omega), js_up_ne _ (by omega), js_up_ne _ (by omega), js_up_ne _ (by omega), js_up_ne _ (by omega), js_up_ne _ (by omega), js_up_ne _ (by omega), js_up_ne _ (by omega), js_up_ne _ (by omega)]
theorem r_tell_cp {τ : js_S} (hb : rx_by τ) (hf : 0 ≤ τ 83 6) {s n x1 x2 : Int} (hs0 : 0 ≤ s) (hs1 : s < 400) (hn : τ 97 s = n) (hn2 : n ≤ 20) (hn3 : τ 83 6 + n ≤ 65536) : ∀ (q : Nat) (k : Int), (q : Int) = n - k → 0 ≤ k → js_J E d 198 226 [(2, 83), (0, x1), (0, x2), (0, s), (0, k)] [] (rx_cn τ s k) = js_J E d 198 278 [(2, 83), (0, x1), (0, x2), (0, s), (0, n)] [(2, 83)] (js_up (rx_cn τ s n) 83 11 (τ 83 11 + 1)) := by
  have o : ∀ (k : Int) {a i : Int}, a ≠ 98 → rx_cn τ s k a i = τ a i := fun k a i h => if_neg (fun hh => h hh.1)
  intro q
  induction q with
  | zero =>
    intro k hk hk0
    have e : k = n := by omega
    subst e
    rw [b_198_226, o k (by decide), o k (by decide)]
    rw [js_w_of (x := s) (by omega) (by omega), hn]
    simp (disch := omega) only [js_w_of]
    rw [if_pos ⟨hs0, hs1⟩, if_neg (by omega), o k (a := 83) (i := 11) (by decide)]
  | succ q ih =>
    intro k hk hk0
    have hc := hb (τ 83 6 + k) (by omega) (by omega)
    rw [b_198_226, o k (a := 97) (by decide), o k (a := 83) (by decide), o k (a := 84) (by decide), o k (a := 83) (by decide)]
    rw [js_w_of (x := s) (by omega) (by omega), hn, js_w_of (x := k) (by omega) (by omega), js_w_of (x := n) (by omega) (by omega), js_w_of (x := τ 83 6 + k) (by omega) (by omega), js_w_of (x := 20 * s + k) (by omega) (by omega)]
    rw [if_pos ⟨hs0, hs1⟩, if_pos (by omega), if_pos (by omega), if_pos (by omega), js_i2b_of (by omega) (by omega)]
    have e : js_up (rx_cn τ s k) 98 (20 * s + k) (τ 84 (τ 83 6 + k)) = rx_cn τ s (k + 1) := by
      funext a i
      unfold js_up rx_cn
      by_cases g : a = 98 ∧ i = 20 * s + k
      · rw [if_pos g, if_pos (by omega)]
        congr 1
        omega
      · rw [if_neg g]
        by_cases g2 : a = 98 ∧ 20 * s ≤ i ∧ i < 20 * s + k
        · rw [if_pos g2, if_pos (by omega)]
        · rw [if_neg g2, if_neg (by omega)]
    rw [e]
    exact ih (k + 1) (by omega) (by omega)
/-- is one of the symbols from s on, n of them, so named? -/
def rx_any (σ : js_S) : Nat → Int → Bool
  | 0, _ => false
  | n + 1, s => rx_nm σ s || rx_any σ n (s + 1)
/-- what tell asks: 0, or the fault -/
def rx_tf (σ : js_S) (p : Int) : Int := if σ 83 5 ≠ 2 then 1 else if 0 ≤ rx_sy σ then 2 else if 0 ≤ p ∧ rx_any σ (σ 83 11 - p).toNat p = true then 2 else if σ 83 11 = 400 then 10 else 0
theorem r_tell_F {τ : js_S} (hF : rx_F τ) {x1 x2 x3 : Int} : js_J E d 198 80 [(2, 83), (0, x1), (0, x2), (0, x3), (9, 0)] [] τ = js_r E (0, 0) τ := by
  have h1 := hF.1
  have h2 := hF.2.1
  rw [b_198_80]
  simp (disch := omega) only [js_w_of]
  rw [if_neg (by omega), b_198_107]
  simp (disch := omega) only [js_w_of]
  rw [if_pos (by omega)]
theorem r_tell_ok (h : rx_ok σ) (hs : rs_ok σ) (hd : 3 ≤ d) (h5 : σ 83 5 = 2) {x1 x2 x3 : Int} : js_J E d 198 80 [(2, 83), (0, x1), (0, x2), (0, x3), (9, 0)] [] σ = if σ 83 11 = 400 then js_r E (0, 0) (rx_bad σ 10 (σ 83 6)) else js_r E (0, σ 83 11) (rx_next (rx_told σ x1)) := by
  obtain ⟨g1, g2, g3, g4, g5, g6, g7, g8, g9⟩ := h
  have g0 := g1.2.1
  have hm := hs.1
  have hm2 := hs.2.1
  have g9' := g9 h5
  rw [b_198_80]
  simp (disch := omega) only [js_w_of]
  rw [if_pos g3]
  by_cases g : σ 83 11 = 400
  · have hF := rx_bad_ok g3 (k := 10) (p := σ 83 6) (by omega) (by omega) (by omega) (by omega)
    have f1 := hF.1.1
    have f2 := hF.1.2.1
    rw [if_pos g, if_pos g, k_198_104 (by omega) (r_bad (by omega) (by omega)), b_198_107]
    simp (disch := omega) only [js_w_of]
    rw [if_pos (by omega)]
  · rw [if_neg g, if_neg g, b_198_107]
    simp (disch := omega) only [js_w_of]
    rw [if_neg (by omega), if_pos (by omega), js_iand01]
    have e1 : (js_up (js_up (js_up (js_up (js_up (js_up (js_up (js_up (js_up (js_up (js_up (js_up (js_up σ 86 (σ 83 11) x1) 87 (σ 83 11) 0) 88 (σ 83 11) 0) 89 (σ 83 11) 0) 90 (σ 83 11) (-1)) 91 (σ 83 11) 1) 92 (σ 83 11) 0) 93 (σ 83 11) (σ 83 26)) 94 (σ 83 11) 0) 95 (σ 83 11) 0) 96 (σ 83 11) 0) 99 (σ 83 11) 0) 97 (σ 83 11) (σ 83 7 - σ 83 6)) = rx_cn (rx_t1 σ x1) (σ 83 11) 0 := by
      funext a i
      unfold rx_cn
      rw [if_neg (by omega)]
      rfl
    have o83 : ∀ i : Int, rx_t1 σ x1 83 i = σ 83 i := fun i => rx_t1_o σ x1 (by omega)
    have o84 : ∀ i : Int, rx_t1 σ x1 84 i = σ 84 i := fun i => rx_t1_o σ x1 (by omega)
    have e97 : rx_t1 σ x1 97 (σ 83 11) = σ 83 7 - σ 83 6 := js_up_same _ _ _ _
    rw [e1, r_tell_cp (τ := rx_t1 σ x1) (fun i hi hi2 => by rw [o84]; exact g2 i hi hi2) (by rw [o83]; omega) (by omega) (by omega) e97 (by omega) (by rw [o83]; omega) (σ 83 7 - σ 83 6).toNat 0 (by omega) (by omega), o83]
    have e2 : js_up (rx_cn (rx_t1 σ x1) (σ 83 11) (σ 83 7 - σ 83 6)) 83 11 (σ 83 11 + 1) = rx_told σ x1 := rfl
    rw [e2]
    have q : ∀ {a i : Int}, a < 86 → i ≠ 11 ∨ a ≠ 83 → rx_told σ x1 a i = σ a i := fun {a i} ha hi => by
      unfold rx_told
      rw [js_up_ne _ (by omega)]
      unfold rx_cn
      rw [if_neg (by omega), rx_t1_o σ x1 (by omega)]
    have hok : rx_ok (rx_told σ x1) := by
      refine ⟨⟨by rw [q (by decide) (by decide)]; exact g1.1, by rw [q (by decide) (by decide)]; exact g1.2.1, fun i hi hi2 => ?_⟩, fun i hi hi2 => ?_, by rw [q (by decide) (by decide)]; exact g3, by rw [q (by decide) (by decide)]; exact g4, by rw [q (by decide) (by decide), q (by decide) (by decide)]; exact g5, by rw [q (by decide) (by decide), q (by decide) (by decide)]; exact g6, by rw [q (by decide) (by decide)]; exact g7, by rw [q (by decide) (by decide)]; exact g8, by rw [q (by decide) (by decide), q (by decide) (by decide), q (by decide) (by decide)]; exact g9⟩
      · rw [q (by decide) (Or.inr (by decide))]
        rw [q (by decide) (by decide)] at hi2
        exact g1.2.2 i hi hi2
      · rw [q (by decide) (Or.inr (by decide))]
        exact g2 i hi hi2
    rw [k_198_278 (by omega) (r_next' hok (by omega)), b_198_281]
theorem r_tell_l (h : rx_ok σ) (hs : rs_ok σ) (hd : 3 ≤ d) (h5 : σ 83 5 = 2) {x1 x2 : Int} : ∀ (n : Nat) (s : Int), (n : Int) = σ 83 11 - s → 0 ≤ s → js_J E d 198 38 [(2, 83), (0, x1), (0, x2), (0, s), (9, 0)] [] σ = if rx_any σ n s = true then js_r E (0, 0) (rx_bad σ 2 (σ 83 6)) else if σ 83 11 = 400 then js_r E (0, 0) (rx_bad σ 10 (σ 83 6)) else js_r E (0, σ 83 11) (rx_next (rx_told σ x1)) := by
  obtain ⟨g1, g2, g3, g4, g5, g6, g7, g8, g9⟩ := h
  have g0 := g1.2.1
  have hm := hs.1
  have hm2 := hs.2.1
  intro n
  induction n with
  | zero =>
    intro s hn h0
    rw [b_198_38]
    simp (disch := omega) only [js_w_of]
    rw [if_neg (by omega), if_neg (by omega), r_tell_ok ⟨g1, g2, g3, g4, g5, g6, g7, g8, g9⟩ hs hd h5, if_neg (show ¬ rx_any σ 0 s = true by simp [rx_any])]
  | succ n ih =>
    intro s hn h0
    rw [b_198_38]
    simp (disch := omega) only [js_w_of]
    rw [if_neg (by omega), if_pos (by omega), if_pos g3, k_198_59 (by omega) (r_isNamed hs g2 g4 g5 (by omega) h0 (by omega)), b_198_62]
    simp only [rx_any]
    by_cases q : rx_nm σ s = true
    · have hF := rx_bad_ok g3 (k := 2) (p := σ 83 6) (by omega) (by omega) (by omega) (by omega)
      have f1 := hF.1.1
      have f2 := hF.1.2.1
      have e11 : rx_bad σ 2 (σ 83 6) 83 11 = σ 83 11 := by
        unfold rx_bad
        rw [if_pos g3, js_up_ni _ (by decide), js_up_ni _ (by decide)]
      rw [if_neg (fun hh => by rw [(rx_b_w _).mp hh] at q; cases q), k_198_71 (by omega) (r_bad (by omega) (by omega)), b_198_74, b_198_38, e11]
      simp (disch := omega) only [js_w_of]
      rw [if_neg (by omega)]
      simp only [q, Bool.true_or, if_true]
      split
      · rw [if_neg (by omega), r_tell_F hF.1]
      · rw [r_tell_F hF.1]
    · rw [if_pos ((rx_b_w _).mpr (by simpa using q)), b_198_74, ih (s + 1) (by omega) (by omega)]
      simp only [q, Bool.false_or]
theorem r_tell (h : rx_ok σ) (hs : rs_ok σ) (hd : 3 ≤ d) {k p : Int} (hp : -1 ≤ p) (hp2 : p ≤ σ 83 11) : js_J E d 198 0 [(2, 83), (0, k), (0, p), (9, 0), (9, 0)] [] σ = if rx_tf σ p = 0 then js_r E (0, σ 83 11) (rx_next (rx_told σ k)) else js_r E (0, 0) (rx_bad σ (rx_tf σ p) (σ 83 6)) := by
  have h' := h
  obtain ⟨g1, g2, g3, g4, g5, g6, g7, g8, g9⟩ := h
  have g0 := g1.2.1
  have hm := hs.1
  have hm2 := hs.2.1
  have fin : ∀ (f : Int), 1 ≤ f → f ≤ 15 → js_J E d 198 36 [(2, 83), (0, k), (0, p), (9, 0), (9, 0)] [] (rx_bad σ f (σ 83 6)) = js_r E (0, 0) (rx_bad σ f (σ 83 6)) := fun f hf hf2 => by
    have hF := rx_bad_ok g3 (k := f) (p := σ 83 6) hf hf2 (by omega) (by omega)
    have f1 := hF.1.1
    have f2 := hF.1.2.1
    have e11 : rx_bad σ f (σ 83 6) 83 11 = σ 83 11 := by
      unfold rx_bad
      rw [if_pos g3, js_up_ni _ (by decide), js_up_ni _ (by decide)]
    rw [b_198_36, b_198_38, e11]
    simp (disch := omega) only [js_w_of]
    split
    · rw [r_tell_F hF.1]
    · split
      · rw [if_neg (by omega), r_tell_F hF.1]
      · rw [r_tell_F hF.1]
  rw [b_198_0]
  simp (disch := omega) only [js_w_of]
  unfold rx_tf
  by_cases q : σ 83 5 = 2
  · have hsy := rx_sy_in hs
    rw [if_pos q, if_neg (show ¬ (σ 83 5 ≠ 2) from fun hh => hh q), k_198_21 (by omega) (r_find hs g2 g4 g5 (by omega) g7 g8 (by omega)), b_198_24]
    simp (disch := omega) only [js_w_of]
    by_cases q2 : rx_sy σ < 0
    · rw [if_pos q2, if_neg (show ¬ 0 ≤ rx_sy σ by omega), b_198_36]
      by_cases q3 : p < 0
      · rw [b_198_38]
        simp (disch := omega) only [js_w_of]
        rw [if_pos q3, r_tell_ok h' hs hd q, if_neg (show ¬ (0 ≤ p ∧ _) from fun hh => by omega)]
        by_cases q4 : σ 83 11 = 400
        · rw [if_pos q4, if_pos q4, if_neg (by decide)]
        · rw [if_neg q4, if_neg q4, if_pos rfl]
      · rw [r_tell_l h' hs hd q (σ 83 11 - p).toNat p (by omega) (by omega)]
        by_cases q5 : rx_any σ (σ 83 11 - p).toNat p = true
        · rw [if_pos q5, if_pos (show 0 ≤ p ∧ _ from ⟨by omega, q5⟩), if_neg (by decide)]
        · rw [if_neg q5, if_neg (show ¬ (0 ≤ p ∧ rx_any σ (σ 83 11 - p).toNat p = true) from fun hh => q5 hh.2)]
          by_cases q4 : σ 83 11 = 400
          · rw [if_pos q4, if_pos q4, if_neg (by decide)]
          · rw [if_neg q4, if_neg q4, if_pos rfl]
    · rw [if_neg q2, if_pos (show 0 ≤ rx_sy σ by omega), k_198_33 (by omega) (r_bad (by omega) (by omega)), fin 2 (by omega) (by omega), if_neg (by decide)]
  · rw [if_neg q, if_pos (show σ 83 5 ≠ 2 from q), k_198_14 (by omega) (r_bad (by omega) (by omega)), b_198_17, fin 1 (by omega) (by omega), if_neg (by decide)]
theorem r_tellF (hF : rx_F σ) (hs : rs_ok σ) (hd : 3 ≤ d) {k p : Int} (hp : -1 ≤ p) (hp2 : p ≤ 400) : js_J E d 198 0 [(2, 83), (0, k), (0, p), (9, 0), (9, 0)] [] σ = js_r E (0, 0) σ := by
  have f1 := hF.1
  have f2 := hF.2.1
  have hm := hs.1
  have hm2 := hs.2.1
  rw [b_198_0, hF.2.2]
  simp (disch := omega) only [js_w_of]
  rw [if_neg (by omega), k_198_14 (by omega) (r_bad (by omega) (by omega)), rx_bad_F hF, b_198_17, b_198_36, b_198_38]
  simp (disch := omega) only [js_w_of]
  split
  · rw [r_tell_F hF]
  · split
    · rw [if_neg (by omega), r_tell_F hF]
    · rw [r_tell_F hF]
end RL
