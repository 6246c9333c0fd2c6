/-! part 81: the reference's words, marks and tokens -/
def rx_kws : List (List Int) := [[99, 111, 110, 115, 116], [116, 121, 112, 101], [105, 110], [111, 117, 116], [115, 116, 97, 116, 101], [118, 97, 114], [102, 117, 110], [105, 102], [101, 108, 115, 101], [99, 97, 115, 101], [102, 111, 114], [116, 111], [97, 115, 115, 101, 114, 116], [114, 101, 116, 117, 114, 110], [99, 121, 99, 108, 101], [98, 111, 111, 108], [116, 114, 117, 101], [102, 97, 108, 115, 101], [109, 105, 110], [109, 97, 120], [97, 98, 115], [99, 108, 97, 109, 112]]
/-- does the text of n signs from f on (of the tape s) say this word? -/
def rx_m (s : Int → Int) (f n : Int) (w : List Int) : Bool := decide ((w.length : Int) = n) && (List.range w.length).all (fun i => decide (w.getD i 0 = s (f + i)))
def rx_find (s : Int → Int) (f n : Int) : List (List Int) → Int → Int
  | [], _ => 2
  | w :: r, k => if rx_m s f n w then 300 + k else rx_find s f n r (k + 1)
def rx_c85 (i : Int) : Int := (js_c85.getD i.toNat (0, 0)).2
def rx_ckw : List (List Int) → Nat → Bool
  | [], p => decide (p = 106)
  | w :: r, p => (List.range w.length).all (fun i => decide (rx_c85 ((p + i : Nat) : Int) = w.getD i 0) && decide (w.getD i 0 ≠ 32) && decide (0 ≤ w.getD i 0) && decide (w.getD i 0 < 127)) && decide (rx_c85 ((p + w.length : Nat) : Int) = 32) && decide (p + w.length < 106) && rx_ckw r (p + w.length + 1)
theorem rx_ckw0 : rx_ckw rx_kws 0 = true := by decide +kernel
section RW
variable {E : js_E} {d : Nat} {σ : js_S}
theorem r_word_l1 {k p q : Int} {u4 u5 : js_v} (hp : 0 ≤ p) (hq : p + q < 106) (hw : ∀ i : Int, 0 ≤ i → i < q → js_w (rx_c85 (p + i)) ≠ 32) (hb : js_w (rx_c85 (p + q)) = 32) (hl : -100000 ≤ σ 83 7 - σ 83 6) (hl2 : σ 83 7 - σ 83 6 ≤ 100000) : ∀ (n : Nat) (j : Int), (n : Int) = q - j → 0 ≤ j → js_J E d 195 15 [(2, 83), (0, k), (0, p), (0, j), u4, u5] [] σ = js_J E d 195 52 [(2, 83), (0, k), (0, p), (0, q), u4, u5] [(0, if q = σ 83 7 - σ 83 6 then 1 else 0)] σ := by
  intro n
  induction n with
  | zero =>
    intro j hj hj0
    have e : j = q := by omega
    subst e
    rw [b_195_15]
    have hb2 : js_w (js_c85.getD (js_w (p + j)).toNat (0, 0)).2 = 32 := by
      rw [js_w_of (x := p + j) (by omega) (by omega)]
      exact hb
    rw [if_pos hb2]
    simp (disch := omega) only [js_w_of]
    rw [if_pos (by omega)]
    split <;> rfl
  | succ n ih =>
    intro j hj hj0
    rw [b_195_15]
    have hb2 : js_w (js_c85.getD (js_w (p + j)).toNat (0, 0)).2 ≠ 32 := by
      rw [js_w_of (x := p + j) (by omega) (by omega)]
      exact hw j hj0 (by omega)
    rw [if_neg hb2]
    simp (disch := omega) only [js_w_of]
    rw [if_pos (by omega)]
    exact ih (j + 1) (by omega) (by omega)
/-- the flag behind the comparison of the signs from i on -/
def rx_fl (s : Int → Int) (p f : Int) : Nat → Int → Int → Int
  | 0, _, x => x
  | n + 1, i, x => if x = 0 then 0 else rx_fl s p f n (i + 1) (if rx_c85 (p + i) = s (f + i) then 1 else 0)
theorem rx_fl_0 (s : Int → Int) (p f : Int) : ∀ (n : Nat) (i : Int), rx_fl s p f n i 0 = 0
  | 0, _ => rfl
  | n + 1, i => by simp [rx_fl]
theorem r_word_l2 {k p q : Int} (hp : 0 ≤ p) (hq : p + q < 106) (hw : ∀ i : Int, 0 ≤ i → i < q → 0 ≤ rx_c85 (p + i) ∧ rx_c85 (p + i) < 127) (ht : ∀ i : Int, 0 ≤ i → i < 65536 → 0 ≤ σ 84 i ∧ σ 84 i < 127) (hf : 0 ≤ σ 83 6) : ∀ (n : Nat) (i x : Int), (n : Int) = q - i → 0 ≤ i → (x = 0 ∨ (x = 1 ∧ σ 83 6 + q ≤ 65536)) → ∃ i2 : Int, js_J E d 195 57 [(2, 83), (0, k), (0, p), (0, q), (0, x), (0, i)] [] σ = js_J E d 195 105 [(2, 83), (0, k), (0, p), (0, q), (0, rx_fl (σ 84) p (σ 83 6) n i x), (0, i2)] [] σ := by
  intro n
  induction n with
  | zero =>
    intro i x hn hi hx
    refine ⟨i, ?_⟩
    rw [b_195_57, if_neg (by rw [js_w_of (by omega) (by omega), js_w_of (by omega) (by omega)]; omega)]
    rfl
  | succ n ih =>
    intro i x hn hi hx
    rw [b_195_57, if_pos (by rw [js_w_of (by omega) (by omega), js_w_of (by omega) (by omega)]; omega)]
    rcases hx with rfl | ⟨rfl, hx⟩
    · refine ⟨i, ?_⟩
      rw [rx_fl_0]
      rfl
    · rw [if_neg (show ¬ js_w 1 = 0 by decide)]
      have h1 := hw i hi (by omega)
      have h2 := ht (σ 83 6 + i) (by omega) (by omega)
      have e1 : js_w (js_c85.getD (js_w (p + i)).toNat (0, 0)).2 = rx_c85 (p + i) := by
        rw [js_w_of (x := p + i) (by omega) (by omega)]
        exact js_w_of (by show _ ≤ rx_c85 (p + i); omega) (by show rx_c85 (p + i) < _; omega)
      rw [e1]
      simp (disch := omega) only [js_w_of]
      rw [if_pos (by omega), if_pos (by omega)]
      simp only [rx_fl]
      by_cases h3 : rx_c85 (p + i) = σ 84 (σ 83 6 + i)
      · simp only [h3, if_true]
        obtain ⟨i2, h4⟩ := ih (i + 1) 1 (by omega) (by omega) (Or.inr ⟨rfl, hx⟩)
        refine ⟨i2, ?_⟩
        rw [b_195_97, h4]
        rfl
      · simp only [h3, if_false]
        obtain ⟨i2, h4⟩ := ih (i + 1) 0 (by omega) (by omega) (Or.inl rfl)
        refine ⟨i2, ?_⟩
        rw [b_195_97, h4]
        rfl
theorem rx_fl_all (s : Int → Int) (p f : Int) (w : List Int) : ∀ (n : Nat) (i : Nat), n + i = w.length → (∀ j : Nat, j < w.length → rx_c85 (p + j) = w.getD j 0) → rx_fl s p f n i 1 = if (List.range' i n).all (fun j => decide (w.getD j 0 = s (f + j))) then 1 else 0
  | 0, i, _, _ => by simp [rx_fl]
  | n + 1, i, hn, hw => by
    have h1 := hw i (by omega)
    have ih := rx_fl_all s p f w n (i + 1) (by omega) hw
    simp only [rx_fl, List.range'_succ, List.all_cons]
    rw [if_neg (by decide), h1]
    by_cases h2 : w.getD i 0 = s (f + i)
    · rw [if_pos h2]
      push_cast at ih
      rw [ih]
      simp only [h2, decide_true, Bool.true_and]
    · rw [if_neg h2, rx_fl_0]
      simp only [h2, decide_false, Bool.false_and]
      rfl
theorem r_word_all (ht : ∀ i : Int, 0 ≤ i → i < 65536 → 0 ≤ σ 84 i ∧ σ 84 i < 127) (hf : 0 ≤ σ 83 6) (hf2 : σ 83 6 ≤ σ 83 7) (hf3 : σ 83 7 ≤ 65536) : ∀ (l : List (List Int)) (p : Nat) (k : Int) (u3 u4 u5 : js_v), rx_ckw l p = true → 0 ≤ k → k + l.length ≤ 1000 → js_J E d 195 4 [(2, 83), (0, k), (0, (p : Int)), u3, u4, u5] [] σ = js_r E (0, rx_find (σ 84) (σ 83 6) (σ 83 7 - σ 83 6) l k) σ := by
  intro l
  induction l with
  | nil =>
    intro p k u3 u4 u5 hc hk hk2
    have hp : p = 106 := of_decide_eq_true hc
    subst hp
    rw [b_195_4, if_neg (by rw [js_w_of (by omega) (by omega)]; omega)]
    rfl
  | cons w r ih =>
    intro p k u3 u4 u5 hc hk hk2
    simp only [rx_ckw, Bool.and_eq_true, decide_eq_true_eq, List.all_eq_true, List.mem_range] at hc
    obtain ⟨⟨⟨hw, hb⟩, hlt⟩, hr⟩ := hc
    have hw1 : ∀ j : Nat, j < w.length → rx_c85 ((p : Int) + j) = w.getD j 0 := fun j hj => by
      have := (hw j hj).1.1.1
      push_cast at this
      exact this
    have hw2 : ∀ i : Int, 0 ≤ i → i < (w.length : Int) → 0 ≤ rx_c85 (p + i) ∧ rx_c85 (p + i) < 127 ∧ rx_c85 (p + i) ≠ 32 := fun i hi hi2 => by
      have h5 := hw i.toNat (by omega)
      have h6 := hw1 i.toNat (by omega)
      rw [Int.toNat_of_nonneg hi] at h6
      rw [h6]
      exact ⟨h5.1.2, h5.2, h5.1.1.2⟩
    push_cast at hb
    rw [b_195_4, if_pos (by rw [js_w_of (by omega) (by omega)]; omega)]
    rw [r_word_l1 (q := (w.length : Int)) (by omega) (by omega) (fun i hi hi2 => by
      have h5 := hw2 i hi hi2
      rw [js_w_of (by omega) (by omega)]
      exact h5.2.2) (by rw [hb]; decide) (by omega) (by omega) w.length 0 (by omega) (by omega), b_195_52]
    obtain ⟨i2, h7⟩ := r_word_l2 (E := E) (d := d) (k := k) (p := p) (q := (w.length : Int)) (by omega) (by omega) (fun i hi hi2 => ⟨(hw2 i hi hi2).1, (hw2 i hi hi2).2.1⟩) ht hf w.length 0 (if (w.length : Int) = σ 83 7 - σ 83 6 then 1 else 0) (by omega) (by omega) (by
      split
      · exact Or.inr ⟨rfl, by omega⟩
      · exact Or.inl rfl)
    rw [h7, b_195_105]
    have hfl := rx_fl_all (σ 84) p (σ 83 6) w w.length 0 (by omega) hw1
    simp only [rx_find]
    have hr2 := ih (p + w.length + 1) (k + 1) (0, (w.length : Int))
    have e3 : ((p : Int) + ((w.length : Int) + 1)) = ((p + w.length + 1 : Nat) : Int) := by push_cast; omega
    by_cases h8 : (w.length : Int) = σ 83 7 - σ 83 6
    · rw [if_pos h8]
      have e4 : rx_fl (σ 84) p (σ 83 6) w.length 0 1 = rx_fl (σ 84) p (σ 83 6) w.length ((0 : Nat) : Int) 1 := rfl
      rw [e4, hfl, ← List.range_eq_range']
      by_cases h9 : (List.range w.length).all (fun j => decide (w.getD j 0 = σ 84 (σ 83 6 + j))) = true
      · have hm : rx_m (σ 84) (σ 83 6) (σ 83 7 - σ 83 6) w = true := by
          unfold rx_m
          rw [h9, Bool.and_true]
          exact decide_eq_true h8
        rw [if_pos h9, if_neg (by decide), if_pos hm]
      · have hm : ¬ rx_m (σ 84) (σ 83 6) (σ 83 7 - σ 83 6) w = true := by
          unfold rx_m
          rw [Bool.eq_false_iff.mpr h9, Bool.and_false]
          decide
        rw [if_neg h9, if_pos (by decide), e3, hr2 _ _ hr (by omega) (by simp only [List.length_cons] at hk2; push_cast at hk2; omega), if_neg hm]
    · rw [if_neg h8, rx_fl_0, if_pos (by decide), e3, hr2 _ _ hr (by omega) (by simp only [List.length_cons] at hk2; push_cast at hk2; omega)]
      have hm : ¬ rx_m (σ 84) (σ 83 6) (σ 83 7 - σ 83 6) w = true := by
        unfold rx_m
        rw [decide_eq_false h8, Bool.false_and]
        decide
      rw [if_neg hm]
def rx_word (σ : js_S) : Int := rx_find (σ 84) (σ 83 6) (σ 83 7 - σ 83 6) rx_kws 0
theorem r_word (ht : ∀ i : Int, 0 ≤ i → i < 65536 → 0 ≤ σ 84 i ∧ σ 84 i < 127) (hf : 0 ≤ σ 83 6) (hf2 : σ 83 6 ≤ σ 83 7) (hf3 : σ 83 7 ≤ 65536) : js_J E d 195 0 [(2, 83), (9, 0), (9, 0), (9, 0), (9, 0), (9, 0)] [] σ = js_r E (0, rx_word σ) σ := by
  rw [b_195_0]
  exact r_word_all ht hf hf2 hf3 rx_kws 0 0 _ _ _ rx_ckw0 (by omega) (by decide)
end RW
