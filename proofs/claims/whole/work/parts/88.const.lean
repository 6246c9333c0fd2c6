/-! part 88: the reference's constant, constantOf -/
/-- no cell, no bound yet -/
def rs_z (σ : js_S) (i : Int) : Prop := i < σ 83 11 → σ 90 i = -1 ∧ σ 95 i = 0
theorem rs_z_of {σ τ : js_S} {i : Int} (h : rs_z σ i) (h1 : τ 83 11 = σ 83 11) (h2 : τ 90 i = σ 90 i) (h3 : τ 95 i = σ 95 i) : rs_z τ i := fun q => by
  rw [h2, h3]
  exact h (by rw [← h1]; exact q)
theorem rs_6 {a b c d e f P Q : Prop} (h : a ∧ b ∧ c ∧ d ∧ e ∧ f ∧ P) (q : Q) : a ∧ b ∧ c ∧ d ∧ e ∧ f ∧ Q := ⟨h.1, h.2.1, h.2.2.1, h.2.2.2.1, h.2.2.2.2.1, h.2.2.2.2.2.1, q⟩
/-- what the rows of symbols tell of consts and MEMBERS -/
def rs_v (σ : js_S) : Prop := ∀ i : Int, 0 ≤ i → i < σ 83 11 → 0 ≤ σ 86 i ∧ σ 86 i ≤ 9 ∧ 0 ≤ σ 87 i ∧ σ 87 i < 1000 ∧ -2000000000 ≤ σ 94 i ∧ σ 94 i ≤ 2000000000 ∧ rs_z σ i
/-- C: is there a - ahead; the store behind it -/
def rx_cm (σ : js_S) : Bool := decide (σ 83 5 = 45)
def rx_c1 (σ : js_S) : js_S := if rx_cm σ then rx_next (js_up σ 83 29 (σ 83 6)) else js_up σ 83 29 (σ 83 6)
/-- of the token that stands now: 0 it is a value, else the fault; its type; its value -/
def rx_ck (τ : js_S) (m : Bool) : Int := if τ 83 5 = 3 then 0 else if m = false ∧ (τ 83 5 = 316 ∨ τ 83 5 = 317) then 0 else if τ 83 5 = 2 then (if rx_sy τ < 0 then 3 else if τ 86 (rx_sy τ) = 0 ∨ τ 86 (rx_sy τ) = 9 then 0 else 3) else 1
def rx_ct (τ : js_S) : Int := if τ 83 5 = 3 then 0 else if τ 83 5 = 316 ∨ τ 83 5 = 317 then 1 else τ 87 (rx_sy τ)
def rx_cv (τ : js_S) : Int := if τ 83 5 = 3 then τ 83 8 else if τ 83 5 = 316 then 1 else if τ 83 5 = 317 then 0 else τ 94 (rx_sy τ)
def rx_cs (σ : js_S) : js_S :=
  let τ := rx_c1 σ
  if rx_ck τ (rx_cm σ) ≠ 0 then rx_bad τ (rx_ck τ (rx_cm σ)) (τ 83 6)
  else if rx_cm σ = false then js_up (js_up τ 83 27 (rx_ct τ)) 83 28 (rx_cv τ)
  else if rx_ct τ = 0 then js_up (js_up τ 83 27 (rx_ct τ)) 83 28 (-(rx_cv τ))
  else js_up (rx_bad (js_up (js_up τ 83 27 (rx_ct τ)) 83 28 (rx_cv τ)) 5 (τ 83 29)) 83 28 (-(rx_cv τ))
section RC
variable {E : js_E} {d : Nat} {σ : js_S}
theorem rx_ok_29 {x : Int} (h : rx_ok σ) : rx_ok (js_up σ 83 29 x) := by
  obtain ⟨⟨t1, t2, t3⟩, g2, g3, g4, g5, g6, g7, g8, g9⟩ := h
  have o : ∀ {a i : Int}, ¬ (a = 83 ∧ i = 29) → js_up σ 83 29 x a i = σ a i := fun hh => js_up_ne σ hh
  refine ⟨⟨by rw [o (by omega)]; exact t1, by rw [o (by omega)]; exact t2, fun i hi hi2 => ?_⟩, fun i hi hi2 => ?_, by rw [o (by omega)]; exact g3, by rw [o (by omega)]; exact g4, by rw [o (by omega), o (by omega)]; exact g5, by rw [o (by omega), o (by omega)]; exact g6, by rw [o (by omega)]; exact g7, by rw [o (by omega)]; exact g8, by rw [o (by omega), o (by omega), o (by omega)]; exact g9⟩
  · rw [o (by omega)]
    rw [o (by omega)] at hi2
    exact t3 i hi hi2
  · rw [o (by omega)]
    exact g2 i hi hi2
theorem rs_ok_of {τ : js_S} (h : rs_ok σ) (h1 : τ 83 11 = σ 83 11) (h2 : ∀ i : Int, τ 97 i = σ 97 i) (h3 : ∀ i : Int, τ 98 i = σ 98 i) (h4 : ∀ i : Int, τ 99 i = σ 99 i) : rs_ok τ := by
  obtain ⟨a1, a2, a3, a4, a5⟩ := h
  exact ⟨by rw [h1]; exact a1, by rw [h1]; exact a2, fun i hi hi2 => by rw [h2]; exact a3 i hi (by rw [h1] at hi2; exact hi2), fun i k hi hi2 hk hk2 => by rw [h3]; exact a4 i k hi (by rw [h1] at hi2; exact hi2) hk (by rw [h2] at hk2; exact hk2), fun i hi hi2 => by rw [h4]; exact a5 i hi (by rw [h1] at hi2; exact hi2)⟩
theorem rs_v_of {τ : js_S} (h : rs_v σ) (h2 : ∀ i : Int, τ 86 i = σ 86 i) (h3 : ∀ i : Int, τ 87 i = σ 87 i) (h4 : ∀ i : Int, τ 94 i = σ 94 i) (h5 : τ 83 11 = σ 83 11) (h6 : ∀ i : Int, τ 90 i = σ 90 i) (h7 : ∀ i : Int, τ 95 i = σ 95 i) : rs_v τ := fun i hi hi2 => by
  rw [h5] at hi2
  rw [h2, h3, h4]
  exact rs_6 (h i hi hi2) (rs_z_of (h i hi hi2).2.2.2.2.2.2 h5 (h6 i) (h7 i))
theorem rx_c1_o (σ : js_S) {a i : Int} (h : ¬ (a = 83 ∧ (5 ≤ i ∧ i ≤ 8 ∨ i = 29))) : rx_c1 σ a i = σ a i := by
  unfold rx_c1
  split
  · rw [rx_next_o _ (by omega), js_up_ne _ (by omega)]
  · rw [js_up_ne _ (by omega)]
theorem rx_c1_29 (σ : js_S) : rx_c1 σ 83 29 = σ 83 6 := by
  unfold rx_c1
  split
  · rw [rx_next_o _ (by omega), js_up_same]
  · rw [js_up_same]
theorem rx_c1_ok (h : rx_ok σ) : rx_ok (rx_c1 σ) := by
  unfold rx_c1
  split
  · exact rx_next_ok (rx_ok_29 h)
  · exact rx_ok_29 h
/-- behind the - : what constant() does with the token -/
theorem r_const_2 {τ : js_S} (h : rx_ok τ) (hs : rs_ok τ) (hv : rs_v τ) (hd : 3 ≤ d) (h8 : τ 83 5 = 3 → 0 ≤ τ 83 8 ∧ τ 83 8 ≤ 2000000000) (h29 : 0 ≤ τ 83 29) (h29b : τ 83 29 ≤ 70000) (m : Bool) : js_J E d 203 31 [(2, 83), (0, rx_b m), (9, 0)] [] τ = js_r0 E (if rx_ck τ m ≠ 0 then rx_bad τ (rx_ck τ m) (τ 83 6) else if m = false then js_up (js_up τ 83 27 (rx_ct τ)) 83 28 (rx_cv τ) else if rx_ct τ = 0 then js_up (js_up τ 83 27 (rx_ct τ)) 83 28 (-(rx_cv τ)) else js_up (rx_bad (js_up (js_up τ 83 27 (rx_ct τ)) 83 28 (rx_cv τ)) 5 (τ 83 29)) 83 28 (-(rx_cv τ))) := by
  obtain ⟨g1, g2, g3, g4, g5, g6, g7, g8, g9⟩ := h
  have g0 := g1.2.1
  have hsy := rx_sy_in hs
  have hm2 := hs.2.1
  have fin : ∀ ty va : Int, 0 ≤ ty → ty < 1000 → -2000000000 ≤ va → va ≤ 2000000000 → js_J E d 203 186 [(2, 83), (0, rx_b m), (0, rx_sy τ)] [] (js_up (js_up τ 83 27 ty) 83 28 va) = js_r0 E (if m = false then js_up (js_up τ 83 27 ty) 83 28 va else if ty = 0 then js_up (js_up τ 83 27 ty) 83 28 (-va) else js_up (rx_bad (js_up (js_up τ 83 27 ty) 83 28 va) 5 (τ 83 29)) 83 28 (-va)) := by
    intro ty va q1 q2 q3 q4
    have e27 : js_up (js_up τ 83 27 ty) 83 28 va 83 27 = ty := (js_up_ni _ (by decide)).trans (js_up_same _ _ _ _)
    have e28 : js_up (js_up τ 83 27 ty) 83 28 va 83 28 = va := js_up_same _ _ _ _
    have e29 : js_up (js_up τ 83 27 ty) 83 28 va 83 29 = τ 83 29 := (js_up_ni _ (by decide)).trans (js_up_ni _ (by decide))
    have e9 : js_up (js_up τ 83 27 ty) 83 28 va 83 9 = τ 83 9 := (js_up_ni _ (by decide)).trans (js_up_ni _ (by decide))
    rw [b_203_186, e27, e29]
    cases m
    · have w : js_w (rx_b false) = 0 := rfl
      rw [if_pos w, b_203_206, if_pos w, if_pos rfl]
    · have w : ¬ js_w (rx_b true) = 0 := by decide
      rw [if_neg w, js_w_of (by omega) (by omega), if_neg (show ¬ true = false by decide)]
      by_cases q : ty = 0
      · rw [if_pos q, if_pos q, b_203_206, if_neg w, e28, js_up_xx]
      · have e28b : rx_bad (js_up (js_up τ 83 27 ty) 83 28 va) 5 (τ 83 29) 83 28 = va := by
          unfold rx_bad
          rw [e9, if_pos g3, js_up_ni _ (by decide), js_up_ni _ (by decide), e28]
        rw [if_neg q, if_neg q, k_203_203 (by omega) (r_bad (by rw [e9]; omega) (by rw [e9]; omega)), b_203_206, if_neg w, e28b]
  have bad1 : js_J E d 203 182 [(2, 83), (0, rx_b m), (0, rx_sy τ)] [(0, τ 83 6), (0, 1), (2, 83)] τ = js_r0 E (rx_bad τ 1 (τ 83 6)) := by
    rw [k_203_182 (by omega) (r_bad (by omega) (by omega)), b_203_185]
  have bad3 : js_J E d 203 143 [(2, 83), (0, rx_b m), (0, rx_sy τ)] [] τ = js_r0 E (rx_bad τ 3 (τ 83 6)) := by
    rw [b_203_143, k_203_149 (by omega) (r_bad (by omega) (by omega)), b_203_152]
  have w5 : js_w (τ 83 5) = τ 83 5 := js_w_of (by omega) (by omega)
  rw [b_203_31, k_203_32 (by omega) (r_find hs g2 g4 g5 (by omega) g7 g8 (by omega)), b_203_35, w5]
  unfold rx_ck rx_ct rx_cv
  by_cases q1 : τ 83 5 = 3
  · have q8 := h8 q1
    have e8 : js_up τ 83 27 0 83 8 = τ 83 8 := js_up_ni _ (by decide)
    simp only [q1, if_true]
    rw [fin 0 (τ 83 8) (by omega) (by omega) (by omega) (by omega)]
    simp
  · simp only [q1, if_false]
    have hb2 : js_J E d 203 111 [(2, 83), (0, rx_b m), (0, rx_sy τ)] [] τ = if τ 83 5 = 2 then (if rx_sy τ < 0 then js_r0 E (rx_bad τ 3 (τ 83 6)) else if τ 86 (rx_sy τ) = 0 ∨ τ 86 (rx_sy τ) = 9 then js_J E d 203 186 [(2, 83), (0, rx_b m), (0, rx_sy τ)] [] (js_up (js_up τ 83 27 (τ 87 (rx_sy τ))) 83 28 (τ 94 (rx_sy τ))) else js_r0 E (rx_bad τ 3 (τ 83 6))) else js_r0 E (rx_bad τ 1 (τ 83 6)) := by
      rw [b_203_111, w5, bad1, bad3]
      by_cases q2 : τ 83 5 = 2
      · simp only [q2, if_true]
        rw [js_w_of (x := rx_sy τ) (by omega) (by omega)]
        by_cases q3 : rx_sy τ < 0
        · simp only [q3, if_true]
        · have hvv := hv (rx_sy τ) (by omega) (by omega)
          simp only [q3, if_false]
          have gg : 0 ≤ rx_sy τ ∧ rx_sy τ < 400 := by omega
          rw [js_w_of (x := τ 86 (rx_sy τ)) (by omega) (by omega), if_pos gg, b_203_153, js_w_of (x := rx_sy τ) (by omega) (by omega), if_pos gg]
          by_cases q4 : τ 86 (rx_sy τ) = 0
          · simp only [q4, if_true, true_or]
          · simp only [q4, if_false, false_or]
      · simp only [q2, if_false]
    by_cases q2 : m = false ∧ (τ 83 5 = 316 ∨ τ 83 5 = 317)
    · have hm0 : js_w (rx_b m) = 0 := by rw [q2.1]; rfl
      have h84 : js_J E d 203 84 [(2, 83), (0, rx_b m), (0, rx_sy τ)] [] τ = js_r0 E (js_up (js_up τ 83 27 1) 83 28 (if τ 83 5 = 316 then 1 else 0)) := by
        rw [b_203_84, w5]
        by_cases q3 : τ 83 5 = 316
        · rw [if_pos q3, if_pos q3, b_203_105, fin 1 1 (by omega) (by omega) (by omega) (by omega), if_pos q2.1]
        · rw [if_neg q3, if_neg q3, b_203_105, fin 1 0 (by omega) (by omega) (by omega) (by omega), if_pos q2.1]
      rw [if_pos hm0, h84]
      simp only [q2, and_self, if_true, ne_eq, not_true, if_false]
      rcases q2.2 with q3 | q3
      · simp [q3]
      · simp [q3]
    · have hne : (if js_w (rx_b m) = 0 then (if τ 83 5 = 316 then js_J E d 203 84 [(2, 83), (0, rx_b m), (0, rx_sy τ)] [] τ else (if τ 83 5 = 317 then js_J E d 203 84 [(2, 83), (0, rx_b m), (0, rx_sy τ)] [] τ else js_J E d 203 111 [(2, 83), (0, rx_b m), (0, rx_sy τ)] [] τ)) else js_J E d 203 111 [(2, 83), (0, rx_b m), (0, rx_sy τ)] [] τ) = js_J E d 203 111 [(2, 83), (0, rx_b m), (0, rx_sy τ)] [] τ := by
        by_cases q3 : js_w (rx_b m) = 0
        · have q4 := (rx_b_w m).mp q3
          rw [if_pos q3, if_neg (fun hh => q2 ⟨q4, Or.inl hh⟩), if_neg (fun hh => q2 ⟨q4, Or.inr hh⟩)]
        · rw [if_neg q3]
      rw [hne, hb2, if_neg q2]
      by_cases q3 : τ 83 5 = 2
      · have q31 : ¬ (τ 83 5 = 316 ∨ τ 83 5 = 317) := by omega
        have q32 : ¬ τ 83 5 = 316 := by omega
        have q33 : ¬ τ 83 5 = 317 := by omega
        rw [if_pos q3, if_pos q3, if_neg q31, if_neg q32, if_neg q33]
        by_cases q4 : rx_sy τ < 0
        · rw [if_pos q4, if_pos q4, if_pos (by decide)]
        · rw [if_neg q4, if_neg q4]
          by_cases q5 : τ 86 (rx_sy τ) = 0 ∨ τ 86 (rx_sy τ) = 9
          · have hvv := hv (rx_sy τ) (by omega) (by omega)
            rw [if_pos q5, if_pos q5, if_neg (by decide), fin _ _ (by omega) (by omega) (by omega) (by omega)]
          · rw [if_neg q5, if_neg q5, if_pos (by decide)]
      · rw [if_neg q3, if_neg q3, if_pos (by decide)]
theorem r_constant (h : rx_ok σ) (hs : rs_ok σ) (hv : rs_v σ) (hd : 3 ≤ d) (h8 : rx_c1 σ 83 5 = 3 → 0 ≤ rx_c1 σ 83 8 ∧ rx_c1 σ 83 8 ≤ 2000000000) : js_J E d 203 0 [(2, 83), (9, 0), (9, 0)] [] σ = js_r0 E (rx_cs σ) := by
  have h' := h
  obtain ⟨g1, g2, g3, g4, g5, g6, g7, g8, g9⟩ := h
  have g0 := g1.2.1
  have w5 : js_w (σ 83 5) = σ 83 5 := js_w_of (by omega) (by omega)
  have hs1 : rs_ok (rx_c1 σ) := rs_ok_of hs (rx_c1_o σ (by omega)) (fun i => rx_c1_o σ (by omega)) (fun i => rx_c1_o σ (by omega)) (fun i => rx_c1_o σ (by omega))
  have hv1 : rs_v (rx_c1 σ) := rs_v_of hv (fun i => rx_c1_o σ (by omega)) (fun i => rx_c1_o σ (by omega)) (fun i => rx_c1_o σ (by omega)) (rx_c1_o σ (by omega)) (fun i => rx_c1_o σ (by omega)) (fun i => rx_c1_o σ (by omega))
  have key := r_const_2 (E := E) (d := d) (rx_c1_ok h') hs1 hv1 hd h8 (by rw [rx_c1_29]; omega) (by rw [rx_c1_29]; omega) (rx_cm σ)
  rw [b_203_0, w5]
  unfold rx_cs
  simp only
  rw [← key]
  unfold rx_c1 rx_cm
  by_cases q : σ 83 5 = 45
  · have w1 : ¬ js_w 1 = 0 := by decide
    simp only [q, if_true, decide_true]
    rw [b_203_22, if_neg w1, k_203_28 (by omega) (r_next' (rx_ok_29 h') (by omega))]
    rfl
  · have w0 : js_w 0 = 0 := rfl
    simp only [q, if_false, decide_false]
    rw [b_203_22, if_pos w0]
    rfl
end RC
