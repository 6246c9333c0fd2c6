/-! part 82: the reference's marks, and its next token -/
theorem js_up_yxyx {σ : js_S} {a i j A Z B C : Int} : js_up (js_up (js_up (js_up σ a i A) a j Z) a i B) a j C = js_up (js_up σ a i B) a j C := by
  funext b k
  simp only [js_up]
  by_cases h1 : b = a ∧ k = j <;> by_cases h2 : b = a ∧ k = i <;> simp [h1, h2]
theorem js_up_xx {σ : js_S} {a i A B : Int} : js_up (js_up σ a i A) a i B = js_up σ a i B := by
  funext b k
  simp only [js_up]
  by_cases h1 : b = a ∧ k = i <;> simp [h1]
theorem js_up_id {σ : js_S} {a i : Int} : js_up σ a i (σ a i) = σ := by
  funext b k
  simp only [js_up]
  by_cases h1 : b = a ∧ k = i
  · rw [if_pos h1, h1.1, h1.2]
  · rw [if_neg h1]
def rx_m2 (c e : Int) : Int := if c = 46 ∧ e = 46 then 200 else if c = 60 ∧ e = 61 then 201 else if c = 62 ∧ e = 61 then 202 else if c = 61 ∧ e = 61 then 203 else if c = 33 ∧ e = 61 then 204 else if c = 38 ∧ e = 38 then 205 else if c = 124 ∧ e = 124 then 206 else 0
def rx_mk : List Int := [40, 41, 123, 125, 91, 93, 44, 59, 58, 63, 61, 43, 45, 42, 47, 37, 60, 62, 33]
def rx_m1 (c : Int) : Int := if c ∈ rx_mk then c else 2000
section RN
variable {E : js_E} {d : Nat} {σ : js_S}
theorem r_sign1 {c e z : Int} (hc : 0 ≤ c) (hc2 : c < 127) (hz : 0 ≤ z) (hz2 : z < 1000) : js_J E d 196 138 [(2, 83), (0, c), (0, e), (9, 0)] [(0, z), (2, 83)] σ = js_r0 E (if z = 0 then js_up (js_up (js_up σ 83 5 0) 83 7 (σ 83 6 + 1)) 83 5 (rx_m1 c) else js_up σ 83 5 z) := by
  have wc : js_w c = c := js_w_of (by omega) (by omega)
  have wz : js_w z = z := js_w_of (by omega) (by omega)
  have w1 : js_w 1 = 1 := rfl
  have w0 : js_w 0 = 0 := rfl
  have hA : ∀ s : js_S, js_J E d 196 273 [(2, 83), (0, c), (0, e), (9, 0)] [] s = js_r0 E (js_up s 83 5 c) := fun s => by
    rw [b_196_273, b_196_278, w1, if_neg (by decide), b_196_291]
  have hB : ∀ s : js_S, js_J E d 196 278 [(2, 83), (0, c), (0, e), (9, 0)] [(0, 0)] s = js_r0 E (js_up s 83 5 2000) := fun s => by
    rw [b_196_278, w0, if_pos rfl, b_196_291]
  rw [b_196_138, wc, wz]
  simp only [hA, hB]
  by_cases hz0 : z = 0
  · subst hz0
    simp only [if_true]
    unfold rx_m1 rx_mk
    simp only [List.mem_cons, List.not_mem_nil, or_false]
    by_cases hm : c = 40 ∨ c = 41 ∨ c = 123 ∨ c = 125 ∨ c = 91 ∨ c = 93 ∨ c = 44 ∨ c = 59 ∨ c = 58 ∨ c = 63 ∨ c = 61 ∨ c = 43 ∨ c = 45 ∨ c = 42 ∨ c = 47 ∨ c = 37 ∨ c = 60 ∨ c = 62 ∨ c = 33
    · rw [if_pos hm]
      rcases hm with rfl | rfl | rfl | rfl | rfl | rfl | rfl | rfl | rfl | rfl | rfl | rfl | rfl | rfl | rfl | rfl | rfl | rfl | rfl <;> simp
    · rw [if_neg hm]
      simp only [not_or] at hm
      simp only [hm, if_false]
  · simp only [hz0, if_false]
theorem r_sign {c e : Int} (hc : 0 ≤ c) (hc2 : c < 127) (he : 0 ≤ e) (he2 : e < 127) : js_J E d 196 0 [(2, 83), (0, c), (0, e), (9, 0)] [] σ = js_r0 E (js_up (js_up σ 83 7 (σ 83 6 + if rx_m2 c e = 0 then 1 else 2)) 83 5 (if rx_m2 c e = 0 then rx_m1 c else rx_m2 c e)) := by
  have wc : js_w c = c := js_w_of (by omega) (by omega)
  have we : js_w e = e := js_w_of (by omega) (by omega)
  have h1 : ∀ z : Int, 0 < z → z < 1000 → js_J E d 196 138 [(2, 83), (0, c), (0, e), (9, 0)] [(0, z), (2, 83)] (js_up σ 83 7 (σ 83 6 + 2)) = js_r0 E (js_up (js_up σ 83 7 (σ 83 6 + 2)) 83 5 z) := fun z hz hz2 => by
    rw [r_sign1 hc hc2 (by omega) hz2, if_neg (by omega)]
  have h0 : js_J E d 196 138 [(2, 83), (0, c), (0, e), (9, 0)] [(0, 0), (2, 83)] (js_up σ 83 7 (σ 83 6 + 2)) = js_r0 E (js_up (js_up σ 83 7 (σ 83 6 + 1)) 83 5 (rx_m1 c)) := by
    rw [r_sign1 hc hc2 (by omega) (by omega), if_pos rfl, js_up_ni _ (by decide), js_up_yxyx]
  have s137 : js_J E d 196 137 [(2, 83), (0, c), (0, e), (9, 0)] [(2, 83)] (js_up σ 83 7 (σ 83 6 + 2)) = js_r0 E (js_up (js_up σ 83 7 (σ 83 6 + 1)) 83 5 (rx_m1 c)) := by rw [b_196_137, h0]
  have s119 : js_J E d 196 119 [(2, 83), (0, c), (0, e), (9, 0)] [(2, 83)] (js_up σ 83 7 (σ 83 6 + 2)) = if c = 124 ∧ e = 124 then js_r0 E (js_up (js_up σ 83 7 (σ 83 6 + 2)) 83 5 206) else js_J E d 196 137 [(2, 83), (0, c), (0, e), (9, 0)] [(2, 83)] (js_up σ 83 7 (σ 83 6 + 2)) := by
    rw [b_196_119, wc, we, h1 206 (by omega) (by omega)]
    by_cases g1 : c = 124 <;> by_cases g2 : e = 124 <;> simp [g1, g2]
  have s101 : js_J E d 196 101 [(2, 83), (0, c), (0, e), (9, 0)] [(2, 83)] (js_up σ 83 7 (σ 83 6 + 2)) = if c = 38 ∧ e = 38 then js_r0 E (js_up (js_up σ 83 7 (σ 83 6 + 2)) 83 5 205) else js_J E d 196 119 [(2, 83), (0, c), (0, e), (9, 0)] [(2, 83)] (js_up σ 83 7 (σ 83 6 + 2)) := by
    rw [b_196_101, wc, we, h1 205 (by omega) (by omega)]
    by_cases g1 : c = 38 <;> by_cases g2 : e = 38 <;> simp [g1, g2]
  have s83 : js_J E d 196 83 [(2, 83), (0, c), (0, e), (9, 0)] [(2, 83)] (js_up σ 83 7 (σ 83 6 + 2)) = if c = 33 ∧ e = 61 then js_r0 E (js_up (js_up σ 83 7 (σ 83 6 + 2)) 83 5 204) else js_J E d 196 101 [(2, 83), (0, c), (0, e), (9, 0)] [(2, 83)] (js_up σ 83 7 (σ 83 6 + 2)) := by
    rw [b_196_83, wc, we, h1 204 (by omega) (by omega)]
    by_cases g1 : c = 33 <;> by_cases g2 : e = 61 <;> simp [g1, g2]
  have s65 : js_J E d 196 65 [(2, 83), (0, c), (0, e), (9, 0)] [(2, 83)] (js_up σ 83 7 (σ 83 6 + 2)) = if c = 61 ∧ e = 61 then js_r0 E (js_up (js_up σ 83 7 (σ 83 6 + 2)) 83 5 203) else js_J E d 196 83 [(2, 83), (0, c), (0, e), (9, 0)] [(2, 83)] (js_up σ 83 7 (σ 83 6 + 2)) := by
    rw [b_196_65, wc, we, h1 203 (by omega) (by omega)]
    by_cases g1 : c = 61 <;> by_cases g2 : e = 61 <;> simp [g1, g2]
  have s47 : js_J E d 196 47 [(2, 83), (0, c), (0, e), (9, 0)] [(2, 83)] (js_up σ 83 7 (σ 83 6 + 2)) = if c = 62 ∧ e = 61 then js_r0 E (js_up (js_up σ 83 7 (σ 83 6 + 2)) 83 5 202) else js_J E d 196 65 [(2, 83), (0, c), (0, e), (9, 0)] [(2, 83)] (js_up σ 83 7 (σ 83 6 + 2)) := by
    rw [b_196_47, wc, we, h1 202 (by omega) (by omega)]
    by_cases g1 : c = 62 <;> by_cases g2 : e = 61 <;> simp [g1, g2]
  have s29 : js_J E d 196 29 [(2, 83), (0, c), (0, e), (9, 0)] [(2, 83)] (js_up σ 83 7 (σ 83 6 + 2)) = if c = 60 ∧ e = 61 then js_r0 E (js_up (js_up σ 83 7 (σ 83 6 + 2)) 83 5 201) else js_J E d 196 47 [(2, 83), (0, c), (0, e), (9, 0)] [(2, 83)] (js_up σ 83 7 (σ 83 6 + 2)) := by
    rw [b_196_29, wc, we, h1 201 (by omega) (by omega)]
    by_cases g1 : c = 60 <;> by_cases g2 : e = 61 <;> simp [g1, g2]
  have s0 : js_J E d 196 0 [(2, 83), (0, c), (0, e), (9, 0)] [] σ = if c = 46 ∧ e = 46 then js_r0 E (js_up (js_up σ 83 7 (σ 83 6 + 2)) 83 5 200) else js_J E d 196 29 [(2, 83), (0, c), (0, e), (9, 0)] [(2, 83)] (js_up σ 83 7 (σ 83 6 + 2)) := by
    rw [b_196_0, wc, we, h1 200 (by omega) (by omega)]
    by_cases g1 : c = 46 <;> by_cases g2 : e = 46 <;> simp [g1, g2]
  rw [s0]
  by_cases a0 : c = 46 ∧ e = 46
  · have m : rx_m2 c e = 200 := by
      unfold rx_m2
      rw [if_pos a0]
    rw [if_pos a0, m]
    rfl
  rw [if_neg a0, s29]
  by_cases a1 : c = 60 ∧ e = 61
  · have m : rx_m2 c e = 201 := by
      unfold rx_m2
      rw [if_neg a0, if_pos a1]
    rw [if_pos a1, m]
    rfl
  rw [if_neg a1, s47]
  by_cases a2 : c = 62 ∧ e = 61
  · have m : rx_m2 c e = 202 := by
      unfold rx_m2
      rw [if_neg a0, if_neg a1, if_pos a2]
    rw [if_pos a2, m]
    rfl
  rw [if_neg a2, s65]
  by_cases a3 : c = 61 ∧ e = 61
  · have m : rx_m2 c e = 203 := by
      unfold rx_m2
      rw [if_neg a0, if_neg a1, if_neg a2, if_pos a3]
    rw [if_pos a3, m]
    rfl
  rw [if_neg a3, s83]
  by_cases a4 : c = 33 ∧ e = 61
  · have m : rx_m2 c e = 204 := by
      unfold rx_m2
      rw [if_neg a0, if_neg a1, if_neg a2, if_neg a3, if_pos a4]
    rw [if_pos a4, m]
    rfl
  rw [if_neg a4, s101]
  by_cases a5 : c = 38 ∧ e = 38
  · have m : rx_m2 c e = 205 := by
      unfold rx_m2
      rw [if_neg a0, if_neg a1, if_neg a2, if_neg a3, if_neg a4, if_pos a5]
    rw [if_pos a5, m]
    rfl
  rw [if_neg a5, s119]
  by_cases a6 : c = 124 ∧ e = 124
  · have m : rx_m2 c e = 206 := by
      unfold rx_m2
      rw [if_neg a0, if_neg a1, if_neg a2, if_neg a3, if_neg a4, if_neg a5, if_pos a6]
    rw [if_pos a6, m]
    rfl
  rw [if_neg a6, s137]
  have m : rx_m2 c e = 0 := by
    unfold rx_m2
    rw [if_neg a0, if_neg a1, if_neg a2, if_neg a3, if_neg a4, if_neg a5, if_neg a6]
  rw [m]
  rfl
theorem r_next_nl (h : rx_tp σ) (hd : 1 ≤ d) : ∀ (n : Nat) (p : Int), 0 ≤ p → p ≤ 65536 → n = rx_n σ p → js_J E d 191 81 [(2, 83), (0, p), (0, 1), (9, 0), (9, 0), (9, 0)] [] σ = js_J E d 191 15 [(2, 83), (0, rx_run rx_nl (rx_at σ) n p), (0, 1), (9, 0), (9, 0), (9, 0)] [] σ := by
  have h2 := h.1
  have h3 := h.2.1
  have w1 : js_w 1 = 1 := rfl
  intro n
  induction n with
  | zero =>
    intro p hp hp2 hn
    unfold rx_n at hn
    rw [b_191_81, w1, if_neg (by decide)]
    simp (disch := omega) only [js_w_of]
    rw [if_neg (by omega)]
    rfl
  | succ n ih =>
    intro p hp hp2 hn
    have hc := rx_at_in h hp
    unfold rx_n at hn
    rw [b_191_81, w1, if_neg (by decide)]
    simp (disch := omega) only [js_w_of]
    rw [if_pos (by omega), k_191_95 hd (r_at h hp (by omega)), b_191_98]
    simp (disch := omega) only [js_w_of]
    have ih2 := ih (p + 1) (by omega) (by omega) (by unfold rx_n; omega)
    unfold rx_run rx_nl
    split
    · rename_i h5
      simp [h5]
    · rename_i h5
      rw [ih2]
      simp [h5]
      rfl
def rx_skip (σ : js_S) : Nat → Int → Int
  | 0, p => rx_bls σ p
  | n + 1, p => if rx_at σ (rx_bls σ p) = 47 ∧ rx_at σ (rx_bls σ p + 1) = 47 then rx_skip σ n (rx_nls σ (rx_bls σ p)) else rx_bls σ p
theorem rx_bls_in {σ : js_S} {p : Int} (hp : p ≤ σ 83 4) : p ≤ rx_bls σ p ∧ rx_bls σ p ≤ σ 83 4 := by
  have := rx_run_in rx_bl (rx_at σ) (rx_n σ p) p
  unfold rx_bls rx_n at *
  omega
theorem rx_nls_in {σ : js_S} {p : Int} (hp : p ≤ σ 83 4) : p ≤ rx_nls σ p ∧ rx_nls σ p ≤ σ 83 4 := by
  have := rx_run_in rx_nl (rx_at σ) (rx_n σ p) p
  unfold rx_nls rx_n at *
  omega
theorem rx_nls_go {σ : js_S} {p : Int} (hp : p < σ 83 4) (h : rx_at σ p ≠ 10) : p + 1 ≤ rx_nls σ p := by
  unfold rx_nls rx_n
  obtain ⟨n, hn⟩ : ∃ n : Nat, (σ 83 4 - p).toNat = n + 1 := ⟨(σ 83 4 - p).toNat - 1, by omega⟩
  rw [hn]
  unfold rx_run rx_nl
  simp [h]
  exact (rx_run_in _ _ _ _).1
theorem r_next_skip (h : rx_tp σ) (hd : 1 ≤ d) : ∀ (n : Nat) (p : Int), 0 ≤ p → p ≤ σ 83 4 → rx_n σ p ≤ n → js_J E d 191 15 [(2, 83), (0, p), (0, 1), (9, 0), (9, 0), (9, 0)] [] σ = js_J E d 191 116 [(2, 83), (0, rx_skip σ n p), (0, 0), (9, 0), (9, 0), (9, 0)] [(0, rx_skip σ n p), (2, 83)] (js_up σ 83 6 (rx_skip σ n p)) := by
  have h2 := h.1
  have h3 := h.2.1
  have w1 : js_w 1 = 1 := rfl
  have w0 : js_w 0 = 0 := rfl
  have fin : ∀ p : Int, js_J E d 191 15 [(2, 83), (0, p), (0, 0), (9, 0), (9, 0), (9, 0)] [] σ = js_J E d 191 116 [(2, 83), (0, p), (0, 0), (9, 0), (9, 0), (9, 0)] [(0, p), (2, 83)] (js_up σ 83 6 p) := fun p => by
    rw [b_191_15, w0, if_pos rfl]
  have one : ∀ p : Int, 0 ≤ p → p ≤ σ 83 4 → js_J E d 191 15 [(2, 83), (0, p), (0, 1), (9, 0), (9, 0), (9, 0)] [] σ = if rx_at σ (rx_bls σ p) = 47 ∧ rx_at σ (rx_bls σ p + 1) = 47 then js_J E d 191 15 [(2, 83), (0, rx_nls σ (rx_bls σ p)), (0, 1), (9, 0), (9, 0), (9, 0)] [] σ else js_J E d 191 15 [(2, 83), (0, rx_bls σ p), (0, 0), (9, 0), (9, 0), (9, 0)] [] σ := by
    intro p hp hp2
    have hq := rx_bls_in hp2
    have hc := rx_at_in h (k := rx_bls σ p) (by omega)
    have hc2 := rx_at_in h (k := rx_bls σ p + 1) (by omega)
    have eb : rx_run rx_bl (rx_at σ) (rx_n σ p) p = rx_bls σ p := rfl
    have en : rx_run rx_nl (rx_at σ) (rx_n σ (rx_bls σ p)) (rx_bls σ p) = rx_nls σ (rx_bls σ p) := rfl
    rw [b_191_15, w1, if_neg (by decide), r_next_bl h hd (rx_n σ p) p hp (by omega) rfl, eb, b_191_53, k_191_55 hd (r_at h (by omega) (by omega)), b_191_58]
    simp (disch := omega) only [js_w_of]
    by_cases g1 : rx_at σ (rx_bls σ p) = 47
    · rw [if_pos g1, k_191_67 hd (r_at h (by omega) (by omega)), b_191_70]
      simp (disch := omega) only [js_w_of]
      by_cases g2 : rx_at σ (rx_bls σ p + 1) = 47
      · rw [if_pos g2, if_pos ⟨g1, g2⟩, b_191_80, r_next_nl h hd _ _ (by omega) (by omega) rfl, en]
      · rw [if_neg g2, if_neg (fun hh => g2 hh.2), b_191_79, b_191_80, b_191_81, w0, if_pos rfl]
    · rw [if_neg g1, if_neg (fun hh => g1 hh.1), b_191_79, b_191_80, b_191_81, w0, if_pos rfl]
  intro n
  induction n with
  | zero =>
    intro p hp hp2 hn
    unfold rx_n at hn
    have hq := rx_bls_in hp2
    have e0 : rx_at σ (rx_bls σ p) = 0 := rx_at_0 (by omega)
    rw [one p hp hp2, if_neg (fun hh => by rw [e0] at hh; exact absurd hh.1 (by decide)), fin]
    rfl
  | succ n ih =>
    intro p hp hp2 hn
    have hq := rx_bls_in hp2
    rw [one p hp hp2]
    unfold rx_skip
    split
    · rename_i g
      have hlt : rx_bls σ p < σ 83 4 := by
        by_cases hh : rx_bls σ p < σ 83 4
        · exact hh
        · rw [rx_at_0 (by omega)] at g
          exact absurd g.1 (by decide)
      have h5 := rx_nls_go hlt (by rw [g.1]; decide)
      have h6 := rx_nls_in (σ := σ) (p := rx_bls σ p) (by omega)
      exact ih _ (by omega) (by omega) (by unfold rx_n at *; omega)
    · exact fin _
end RN
