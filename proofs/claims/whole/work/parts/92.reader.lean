/-! part 92: the class's reader: fail, expect, open, close, number -/
/-- the store behind a fault that the class tells -/
def cx_f (σ : js_S) (k p : Int) : js_S := js_ne (js_up σ 1 6 (k + 16 * p)) 16
/-- there is room for one more cell -/
def cx_n (σ : js_S) : Prop := 137 ≤ σ (-1) 0 ∧ 0 ≤ σ (-1) 1
section CR
variable {E : js_E} {d : Nat} {σ σ' : js_S}
theorem c_fail (hn : cx_n σ) (hd : 6 ≤ d) {k p : Int} : js_J E d 36 0 [(2, 1), (0, k), (0, p)] [] σ = js_t E (σ (-1) 0) (cx_f σ k p) := by
  rw [b_36_0 hd hn.1 hn.2, js_up_na _ (by decide)]
  rfl
theorem c_expectT (hn : cx_n σ) (hd : 7 ≤ d) {x : Int} (h : σ 1 1 ≠ x) (h0 : 0 ≤ σ 1 1) (h1 : σ 1 1 < 1000) (hx : 0 ≤ x) (hx1 : x < 1000) : js_J E d 40 0 [(2, 1), (0, x)] [] σ = js_t E (σ (-1) 0) (cx_f σ 1 (σ 1 2)) := by
  rw [b_40_0]
  simp (disch := omega) only [js_w_of]
  rw [if_neg h, kt_40_14 (by omega) (c_fail hn (by omega))]
theorem c_expect (hd : 1 ≤ d) {x : Int} (h : σ 1 1 = x) (hz : js_J E (d - 1) 33 0 [(2, 1), (9, 0)] [] σ = js_r0 E σ') : js_J E d 40 0 [(2, 1), (0, x)] [] σ = js_r0 E σ' := by
  rw [b_40_0, h, if_pos rfl, b_40_17, k_40_18 hd hz, b_40_21]
theorem c_openT (hn : cx_n σ) (hd : 7 ≤ d) {x : Int} (h : σ 1 1 ≠ x) (h0 : 0 ≤ σ 1 1) (h1 : σ 1 1 < 1000) (hx : 0 ≤ x) (hx1 : x < 1000) : js_J E d 47 0 [(2, 1), (0, x)] [] σ = js_t E (σ (-1) 0) (cx_f σ 1 (σ 1 2)) := by
  rw [b_47_0]
  simp (disch := omega) only [js_w_of]
  rw [if_neg h, kt_47_14 (by omega) (c_fail hn (by omega))]
theorem c_openD (hn : cx_n σ) (hd : 7 ≤ d) {x : Int} (h : σ 1 1 = x) (h5 : σ 1 5 = 64) : js_J E d 47 0 [(2, 1), (0, x)] [] σ = js_t E (σ (-1) 0) (cx_f σ 10 (σ 1 2)) := by
  rw [b_47_0, h, if_pos rfl, b_47_17, h5, if_neg (by decide), kt_47_33 (by omega) (c_fail hn (by omega))]
theorem c_open (hd : 1 ≤ d) {x : Int} (h : σ 1 1 = x) (h5 : 0 ≤ σ 1 5) (h5b : σ 1 5 < 64) (hz : js_J E (d - 1) 33 0 [(2, 1), (9, 0)] [] (js_up σ 1 5 (σ 1 5 + 1)) = js_r0 E σ') : js_J E d 47 0 [(2, 1), (0, x)] [] σ = js_r0 E σ' := by
  rw [b_47_0, h, if_pos rfl, b_47_17, js_w_of (by omega) (by omega), if_pos h5b, b_47_36, k_47_47 hd hz, b_47_50]
theorem c_closeT (hn : cx_n σ) (hd : 7 ≤ d) {x : Int} (h : σ 1 1 ≠ x) (h0 : 0 ≤ σ 1 1) (h1 : σ 1 1 < 1000) (hx : 0 ≤ x) (hx1 : x < 1000) : js_J E d 48 0 [(2, 1), (0, x)] [] σ = js_t E (σ (-1) 0) (cx_f σ 1 (σ 1 2)) := by
  rw [b_48_0]
  simp (disch := omega) only [js_w_of]
  rw [if_neg h, kt_48_14 (by omega) (c_fail hn (by omega))]
theorem c_close (hd : 1 ≤ d) {x : Int} (h : σ 1 1 = x) (hz : js_J E (d - 1) 33 0 [(2, 1), (9, 0)] [] (js_up σ 1 5 (σ 1 5 - 1)) = js_r0 E σ') : js_J E d 48 0 [(2, 1), (0, x)] [] σ = js_r0 E σ' := by
  rw [b_48_0, h, if_pos rfl, b_48_17, k_48_28 hd hz, b_48_31]
/-- the digits one by one -/
theorem c_number_l {ρ : js_S} {f t : Int} {N : Nat} (h3 : σ 1 3 = t - f) (ht : t - f ≤ 20) (hs : ∀ i : Int, 0 ≤ i → i < t - f → σ 2 i = rx_at ρ (f + i)) (hD : ∀ i : Int, f ≤ i → i < t → rx_D (rx_at ρ i) = true) (hE : (N : Int) = t - f ∨ rx_D (rx_at ρ t) = false) (hN : t - f ≤ N) (h10 : t - f ≤ 10) : ∀ (n : Nat) (k v : Int), (n : Int) = t - f - k → 0 ≤ k → js_J E d 42 4 [(2, 1), (0, v), (0, k)] [] σ = js_r E (0, rx_nv (rx_at ρ) f (N - k.toNat) (f + k) v) σ := by
  intro n
  induction n with
  | zero =>
    intro k v hk hk0
    rw [b_42_4]
    simp (disch := omega) only [js_w_of]
    rw [if_neg (by omega)]
    have e : f + k = t := by omega
    rw [e]
    rcases hE with hE | hE
    · have : N - k.toNat = 0 := by omega
      rw [this]
      rfl
    · cases hq : N - k.toNat with
      | zero => rfl
      | succ q =>
        unfold rx_nv
        rw [hE]
        rfl
  | succ n ih =>
    intro k v hk hk0
    rw [b_42_4]
    simp (disch := omega) only [js_w_of]
    rw [if_pos (by omega), if_pos (by omega), if_pos (by omega), ih (k + 1) _ (by omega) (by omega), hs k hk0 (by omega)]
    obtain ⟨q, hq⟩ : ∃ q : Nat, N - k.toNat = q + 1 := ⟨N - k.toNat - 1, by omega⟩
    have hq2 : N - (k + 1).toNat = q := by omega
    rw [hq, hq2]
    conv => rhs; unfold rx_nv
    rw [if_pos (hD (f + k) (by omega) (by omega)), if_pos (by omega), show f + (k + 1) = f + k + 1 by omega]
theorem c_number {ρ : js_S} {j : Nat} (hT : tk_T σ ρ) (hA : tk_A σ ρ j) (hok : rx_ok ρ) (h5 : ρ 83 5 = 3) : js_J E d 42 0 [(2, 1), (9, 0), (9, 0)] [] σ = js_r E (0, ρ 83 8) σ := by
  obtain ⟨a1, a2, a3, a4, a5⟩ := hT
  obtain ⟨c1, c2, c3, c4, c5, c6, c7, c8, c9, c10⟩ := hA
  obtain ⟨g1, g2, g3, g4, g5, g6, g7, g8, g9⟩ := hok
  have hpj := tk_p_in g1 j
  have hk3 : (rx_lex ρ (tk_p ρ j)).2.1 = 3 := by rw [← c5]; exact h5
  have h3 := rx_lex_3 hk3 g1 hpj.1 hpj.2
  have hin := rx_lex_in g1 hpj.1 hpj.2
  have hv := c6 h5
  have hw := rx_w1_in ρ (rx_fr ρ (tk_p ρ j)) (rx_LDs ρ (rx_fr ρ (tk_p ρ j)))
  have hc := rx_at_in g1 (k := rx_fr ρ (tk_p ρ j)) (by omega)
  have hm := rx_m2_in (rx_at ρ (rx_fr ρ (tk_p ρ j))) (rx_at ρ (rx_fr ρ (tk_p ρ j) + 1))
  have hm1 := rx_m1_in (c := rx_at ρ (rx_fr ρ (tk_p ρ j))) (by omega) (by omega)
  -- the token is one of digits
  have key : (rx_lex ρ (tk_p ρ j)).1 = rx_Ds ρ (rx_fr ρ (tk_p ρ j)) ∧ (rx_lex ρ (tk_p ρ j)).2.2 = rx_nv (rx_at ρ) (rx_fr ρ (tk_p ρ j)) (rx_n ρ (rx_fr ρ (tk_p ρ j))) (rx_fr ρ (tk_p ρ j)) 0 := by
    unfold rx_lex at hk3 ⊢
    generalize rx_fr ρ (tk_p ρ j) = f at hk3 hw hc hm hm1 ⊢
    simp only at hk3 ⊢
    by_cases q0 : ρ 83 4 ≤ f
    · rw [if_pos q0] at hk3
      cases hk3
    · rw [if_neg q0] at hk3 ⊢
      by_cases q1 : rx_L (rx_at ρ f) = true
      · rw [if_pos q1] at hk3
        simp only at hk3
        split at hk3 <;> omega
      · rw [if_neg q1] at hk3 ⊢
        by_cases q2 : rx_D (rx_at ρ f) = true
        · rw [if_pos q2]
          exact ⟨rfl, rfl⟩
        · rw [if_neg q2] at hk3
          simp only at hk3
          split at hk3 <;> omega
  rw [b_42_0, hv, key.2]
  have e3 : σ 1 3 = (rx_lex ρ (tk_p ρ j)).1 - rx_fr ρ (tk_p ρ j) := by
    rw [c9, c4, c3]
    unfold tk_c
    rw [if_pos (by omega)]
  have hrun := rx_run_in rx_D (rx_at ρ) (rx_n ρ (rx_fr ρ (tk_p ρ j))) (rx_fr ρ (tk_p ρ j))
  have el : rx_run rx_D (rx_at ρ) (rx_n ρ (rx_fr ρ (tk_p ρ j))) (rx_fr ρ (tk_p ρ j)) = rx_Ds ρ (rx_fr ρ (tk_p ρ j)) := rfl
  have hall := fun i => rx_run_all (P := rx_D) (s := rx_at ρ) (rx_n ρ (rx_fr ρ (tk_p ρ j))) (rx_fr ρ (tk_p ρ j)) i
  have hend := rx_run_end (P := rx_D) (s := rx_at ρ) (rx_n ρ (rx_fr ρ (tk_p ρ j))) (rx_fr ρ (tk_p ρ j))
  rw [el] at hrun hend
  have key1 := key.1
  have hmain := c_number_l (E := E) (d := d) (σ := σ) (ρ := ρ) (f := rx_fr ρ (tk_p ρ j)) (t := (rx_lex ρ (tk_p ρ j)).1) (N := rx_n ρ (rx_fr ρ (tk_p ρ j))) e3 (by omega) (fun i hi hi2 => by
      rw [c10 (Or.inr h5) i hi (by rw [c4, c3]; exact hi2), c3]
      unfold rx_at
      rw [if_pos (by omega)]) (fun i hi hi2 => hall i hi (by rw [el, ← key1]; exact hi2)) (by
      by_cases q : rx_Ds ρ (rx_fr ρ (tk_p ρ j)) < rx_fr ρ (tk_p ρ j) + rx_n ρ (rx_fr ρ (tk_p ρ j))
      · right
        rw [key1]
        exact hend q
      · left
        omega) (by omega) (by omega) ((rx_lex ρ (tk_p ρ j)).1 - rx_fr ρ (tk_p ρ j)).toNat 0 0 (by omega) (by omega)
  rw [hmain]
  simp
end CR
