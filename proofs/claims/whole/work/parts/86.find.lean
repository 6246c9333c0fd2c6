/-! part 86: the reference's names: isNamed, find -/
/-- what the rows of symbols hold while a program is read -/
def rs_ok (σ : js_S) : Prop := 0 ≤ σ 83 11 ∧ σ 83 11 ≤ 400 ∧ (∀ i : Int, 0 ≤ i → i < σ 83 11 → 0 ≤ σ 97 i ∧ σ 97 i ≤ 20) ∧ (∀ i k : Int, 0 ≤ i → i < σ 83 11 → 0 ≤ k → k < σ 97 i → 0 ≤ σ 98 (20 * i + k) ∧ σ 98 (20 * i + k) < 127) ∧ (∀ i : Int, 0 ≤ i → i < σ 83 11 → σ 99 i = 0 ∨ σ 99 i = 1)
/-- do the names agree from sign k on, n signs? -/
def rx_ne (σ : js_S) (s : Int) : Nat → Int → Bool
  | 0, _ => true
  | n + 1, k => decide (σ 98 (20 * s + k) = σ 84 (σ 83 6 + k)) && rx_ne σ s n (k + 1)
def rx_nm (σ : js_S) (s : Int) : Bool := decide (σ 97 s = σ 83 7 - σ 83 6) && rx_ne σ s (σ 97 s).toNat 0
/-- the first visible symbol from s on, of n, that the token names -/
def rx_fs (σ : js_S) : Nat → Int → Int
  | 0, _ => -1
  | n + 1, s => if σ 99 s = 1 ∧ rx_nm σ s = true then s else rx_fs σ n (s + 1)
theorem rx_fs_in (σ : js_S) : ∀ (n : Nat) (s : Int), 0 ≤ s → rx_fs σ n s = -1 ∨ (s ≤ rx_fs σ n s ∧ rx_fs σ n s < s + n)
  | 0, s, _ => Or.inl rfl
  | n + 1, s, h => by
    unfold rx_fs
    split
    · right
      push_cast
      omega
    · rcases rx_fs_in σ n (s + 1) (by omega) with h2 | h2
      · exact Or.inl h2
      · right
        push_cast
        omega
section RF
variable {E : js_E} {d : Nat} {σ : js_S}
theorem r_isNamed_l (hs : rs_ok σ) (hb : rx_by σ) (hf : 0 ≤ σ 83 6) {s : Int} (h0 : 0 ≤ s) (hm : s < σ 83 11) : ∀ (n : Nat) (k x : Int), (n : Int) = σ 97 s - k → 0 ≤ k → (x = 0 ∨ (x = 1 ∧ σ 83 6 + σ 97 s ≤ 65536)) → js_J E d 201 26 [(2, 83), (0, s), (0, x), (0, k)] [] σ = js_r E (0, if x = 0 then 0 else rx_b (rx_ne σ s n k)) σ := by
  have hz := hs.2.2.1 s h0 hm
  have h1 : s < 400 := by
    have := hs.2.1
    omega
  intro n
  induction n with
  | zero =>
    intro k x hn hk hx
    rw [b_201_26]
    simp (disch := omega) only [js_w_of]
    rw [if_pos ⟨h0, h1⟩, if_neg (by omega)]
    rcases hx with rfl | ⟨rfl, -⟩
    · rfl
    · rfl
  | succ n ih =>
    intro k x hn hk hx
    rw [b_201_26]
    rcases hx with rfl | ⟨rfl, hx⟩
    · simp (disch := omega) only [js_w_of]
      rw [if_pos ⟨h0, h1⟩, if_pos (by omega)]
      rfl
    · have hc1 := hs.2.2.2.1 s k h0 hm hk (by omega)
      have hc2 := hb (σ 83 6 + k) (by omega) (by omega)
      simp (disch := omega) only [js_w_of]
      rw [if_pos ⟨h0, h1⟩, if_pos (by omega), if_neg (by decide), if_pos (by omega), if_pos (by omega)]
      simp only [rx_ne]
      by_cases g : σ 98 (20 * s + k) = σ 84 (σ 83 6 + k)
      · rw [if_pos g, b_201_70, ih (k + 1) 1 (by omega) (by omega) (Or.inr ⟨rfl, hx⟩), if_neg (by decide)]
        simp [g]
      · rw [if_neg g, b_201_70, ih (k + 1) 0 (by omega) (by omega) (Or.inl rfl)]
        simp [g]
        rfl
theorem r_isNamed (hs : rs_ok σ) (hb : rx_by σ) (hf : 0 ≤ σ 83 6) (hf2 : σ 83 6 ≤ σ 83 7) (hf3 : σ 83 7 ≤ 65536) {s : Int} (h0 : 0 ≤ s) (hm : s < σ 83 11) : js_J E d 201 0 [(2, 83), (0, s), (9, 0), (9, 0)] [] σ = js_r E (0, rx_b (rx_nm σ s)) σ := by
  have hz := hs.2.2.1 s h0 hm
  have h1 : s < 400 := by
    have := hs.2.1
    omega
  rw [b_201_0]
  simp (disch := omega) only [js_w_of]
  rw [if_pos ⟨h0, h1⟩]
  unfold rx_nm
  by_cases g : σ 97 s = σ 83 7 - σ 83 6
  · rw [if_pos g, b_201_23, r_isNamed_l hs hb hf h0 hm (σ 97 s).toNat 0 1 (by omega) (by omega) (Or.inr ⟨rfl, by omega⟩), if_neg (by decide), decide_eq_true g, Bool.true_and]
  · rw [if_neg g, b_201_23, r_isNamed_l hs hb hf h0 hm (σ 97 s).toNat 0 0 (by omega) (by omega) (Or.inl rfl), if_pos rfl, decide_eq_false g, Bool.false_and]
    rfl
theorem r_find_l (hs : rs_ok σ) (hb : rx_by σ) (hf : 0 ≤ σ 83 6) (hf2 : σ 83 6 ≤ σ 83 7) (hf3 : σ 83 7 ≤ 65536) (hd : 1 ≤ d) : ∀ (n : Nat) (s : Int), (n : Int) = σ 83 11 - s → 0 ≤ s → js_J E d 200 12 [(2, 83), (0, s)] [] σ = js_r E (0, rx_fs σ n s) σ := by
  have hm := hs.1
  have hm2 := hs.2.1
  intro n
  induction n with
  | zero =>
    intro s hn h0
    rw [b_200_12]
    simp (disch := omega) only [js_w_of]
    rw [if_neg (by omega)]
    rfl
  | succ n ih =>
    intro s hn h0
    have hv := hs.2.2.2.2 s h0 (by omega)
    rw [b_200_12]
    simp (disch := omega) only [js_w_of]
    rw [if_pos (by omega), if_pos (by omega)]
    unfold rx_fs
    by_cases g : σ 99 s = 0
    · rw [if_pos g, if_neg (by omega), b_200_39, ih (s + 1) (by omega) (by omega)]
    · rw [if_neg g, k_200_31 hd (r_isNamed hs hb hf hf2 hf3 h0 (by omega)), b_200_34]
      by_cases g2 : rx_nm σ s = true
      · rw [if_neg (fun hh => by rw [(rx_b_w _).mp hh] at g2; cases g2), if_pos ⟨by omega, g2⟩]
      · rw [if_pos ((rx_b_w _).mpr (by simpa using g2)), if_neg (fun hh => g2 hh.2), b_200_39, ih (s + 1) (by omega) (by omega)]
/-- the visible symbol that the token names, or -1 -/
def rx_sy (σ : js_S) : Int := if σ 83 5 = 2 then rx_fs σ (σ 83 11).toNat 0 else -1
theorem r_find (hs : rs_ok σ) (hb : rx_by σ) (hf : 0 ≤ σ 83 6) (hf2 : σ 83 6 ≤ σ 83 7) (hf3 : σ 83 7 ≤ 65536) (ht : 0 ≤ σ 83 5) (ht2 : σ 83 5 < 3000) (hd : 1 ≤ d) : js_J E d 200 0 [(2, 83), (9, 0)] [] σ = js_r E (0, rx_sy σ) σ := by
  have hm := hs.1
  rw [b_200_0]
  simp (disch := omega) only [js_w_of]
  unfold rx_sy
  split
  · exact r_find_l hs hb hf hf2 hf3 hd _ 0 (by omega) (by omega)
  · rfl
theorem rx_sy_in (hs : rs_ok σ) : rx_sy σ = -1 ∨ (0 ≤ rx_sy σ ∧ rx_sy σ < σ 83 11) := by
  have hm := hs.1
  unfold rx_sy
  split
  · have := rx_fs_in σ (σ 83 11).toNat 0 (by omega)
    omega
  · exact Or.inl rfl
end RF
