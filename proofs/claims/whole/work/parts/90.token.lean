/-! part 90: tokens of the class and of the reference -/
/-- the reference's kinds of tokens -/
def tk_V (k : Int) : Prop := k = 1 ∨ k = 2 ∨ k = 3 ∨ (33 ≤ k ∧ k ≤ 126) ∨ (200 ≤ k ∧ k ≤ 206) ∨ (300 ≤ k ∧ k ≤ 321) ∨ k = 2000
/-- a token's kind as the class numbers it -/
def tk_m (k : Int) : Int := if k = 1 then 0 else if k = 2000 then 1 else if 300 ≤ k then k - 100 else if 200 ≤ k then k - 72 else k
theorem tk_m_inj {a b : Int} (ha : tk_V a) (hb : tk_V b) : tk_m a = tk_m b ↔ a = b := by
  unfold tk_V at ha hb
  unfold tk_m
  constructor
  · intro h
    repeat' split at h
    all_goals omega
  · intro h
    rw [h]
theorem tk_m_in {a : Int} (ha : tk_V a) : 0 ≤ tk_m a ∧ tk_m a ≤ 221 := by
  unfold tk_V at ha
  unfold tk_m
  repeat' split
  all_goals omega
theorem rx_lex_V {σ : js_S} (h : rx_tp σ) {p : Int} (hp : 0 ≤ p) (hp2 : p ≤ σ 83 4) : tk_V (rx_lex σ p).2.1 := by
  have hf := rx_skip_in (σ := σ) (rx_n σ p) p hp2
  have ef : rx_skip σ (rx_n σ p) p = rx_fr σ p := rfl
  rw [ef] at hf
  unfold rx_lex tk_V
  generalize rx_fr σ p = f at hf ⊢
  have hc := rx_at_in h (k := f) (by omega)
  have hm := rx_m2_in (rx_at σ f) (rx_at σ (f + 1))
  have hm1 := rx_m1_in (c := rx_at σ f) (by omega) (by omega)
  have hw := rx_w1_in σ f (rx_LDs σ f)
  simp only
  by_cases g0 : σ 83 4 ≤ f
  · rw [if_pos g0]
    simp
  · rw [if_neg g0]
    by_cases g1 : rx_L (rx_at σ f) = true
    · rw [if_pos g1]
      simp only
      split <;> omega
    · rw [if_neg g1]
      by_cases g2 : rx_D (rx_at σ f) = true
      · rw [if_pos g2]
        simp only
        split <;> omega
      · rw [if_neg g2]
        simp only
        split <;> omega
/-- reading hangs on the tape alone -/
theorem rx_at_eq {σ τ : js_S} (h4 : τ 83 4 = σ 83 4) (h84 : ∀ i : Int, τ 84 i = σ 84 i) : rx_at τ = rx_at σ := by
  funext k
  unfold rx_at
  rw [h4, h84]
theorem rx_fr_eq {σ τ : js_S} (h4 : τ 83 4 = σ 83 4) (h84 : ∀ i : Int, τ 84 i = σ 84 i) (p : Int) : rx_fr τ p = rx_fr σ p := by
  have ha := rx_at_eq h4 h84
  have hn : ∀ q : Int, rx_n τ q = rx_n σ q := fun q => by unfold rx_n; rw [h4]
  have hb : ∀ q : Int, rx_bls τ q = rx_bls σ q := fun q => by unfold rx_bls; rw [ha, hn]
  have hl : ∀ q : Int, rx_nls τ q = rx_nls σ q := fun q => by unfold rx_nls; rw [ha, hn]
  have hs : ∀ (n : Nat) (q : Int), rx_skip τ n q = rx_skip σ n q := by
    intro n
    induction n with
    | zero => intro q; exact hb q
    | succ n ih => intro q; simp only [rx_skip, hb, hl, ha, ih]
  unfold rx_fr
  rw [hn, hs]
theorem rx_lex_eq {σ τ : js_S} (h4 : τ 83 4 = σ 83 4) (h84 : ∀ i : Int, τ 84 i = σ 84 i) (p : Int) : (rx_lex τ p).1 = (rx_lex σ p).1 ∧ (rx_lex τ p).2.1 = (rx_lex σ p).2.1 ∧ ((rx_lex σ p).2.1 = 3 → (rx_lex τ p).2.2 = (rx_lex σ p).2.2) := by
  have ha := rx_at_eq h4 h84
  have hn : ∀ q : Int, rx_n τ q = rx_n σ q := fun q => by unfold rx_n; rw [h4]
  have hL : ∀ q : Int, rx_LDs τ q = rx_LDs σ q := fun q => by unfold rx_LDs; rw [ha, hn]
  have hD : ∀ q : Int, rx_Ds τ q = rx_Ds σ q := fun q => by unfold rx_Ds; rw [ha, hn]
  have h84' : τ 84 = σ 84 := funext h84
  have hw : ∀ f t : Int, rx_w1 τ f t = rx_w1 σ f t := fun f t => by unfold rx_w1; rw [h84']
  have hwi := rx_w1_in σ (rx_fr σ p) (rx_LDs σ (rx_fr σ p))
  have hm1 : rx_m1 (rx_at σ (rx_fr σ p)) = 3 → False := fun hh => by
    unfold rx_m1 at hh
    split at hh
    · rename_i hm
      rw [hh] at hm
      revert hm
      decide
    · cases hh
  have hm2 := rx_m2_in (rx_at σ (rx_fr σ p)) (rx_at σ (rx_fr σ p + 1))
  unfold rx_lex
  simp only [rx_fr_eq h4 h84 p, ha, hL, hD, hw, hn, h4]
  by_cases g0 : σ 83 4 ≤ rx_fr σ p
  · simp [g0]
  · by_cases g1 : rx_L (rx_at σ (rx_fr σ p)) = true
    · simp only [g0, g1, if_false, if_true, true_and]
      intro hh
      split at hh <;> omega
    · by_cases g2 : rx_D (rx_at σ (rx_fr σ p)) = true
      · simp [g0, g1, g2]
      · simp only [g0, g1, g2, if_false, Bool.false_eq_true, true_and]
        intro hh
        split at hh
        · exact absurd hh (fun h => hm1 h)
        · omega
/-- the end of the tape is its last token -/
theorem rx_lex_end {σ : js_S} {p : Int} (hp : 0 ≤ p) (hp2 : p ≤ σ 83 4) (h : rx_tp σ) (h1 : (rx_lex σ p).2.1 = 1) : rx_fr σ p = σ 83 4 ∧ (rx_lex σ p).1 = σ 83 4 := by
  have hf := rx_skip_in (σ := σ) (rx_n σ p) p hp2
  have ef : rx_skip σ (rx_n σ p) p = rx_fr σ p := rfl
  rw [ef] at hf
  unfold rx_lex at h1 ⊢
  generalize rx_fr σ p = f at hf h1 ⊢
  have hc := rx_at_in h (k := f) (by omega)
  have hm := rx_m2_in (rx_at σ f) (rx_at σ (f + 1))
  have hm1 := rx_m1_in (c := rx_at σ f) (by omega) (by omega)
  have hw := rx_w1_in σ f (rx_LDs σ f)
  simp only at h1 ⊢
  by_cases g0 : σ 83 4 ≤ f
  · rw [if_pos g0]
    simp only
    omega
  · exfalso
    rw [if_neg g0] at h1
    by_cases g1 : rx_L (rx_at σ f) = true
    · rw [if_pos g1] at h1
      simp only at h1
      split at h1 <;> omega
    · rw [if_neg g1] at h1
      by_cases g2 : rx_D (rx_at σ f) = true
      · rw [if_pos g2] at h1
        simp only at h1
        split at h1 <;> omega
      · rw [if_neg g2] at h1
        simp only at h1
        split at h1 <;> omega
theorem rx_lex_size {σ : js_S} : rx_fr σ (σ 83 4) = σ 83 4 ∧ (rx_lex σ (σ 83 4)).1 = σ 83 4 ∧ (rx_lex σ (σ 83 4)).2.1 = 1 := by
  have hf := rx_skip_in (σ := σ) (rx_n σ (σ 83 4)) (σ 83 4) (by omega)
  have ef : rx_skip σ (rx_n σ (σ 83 4)) (σ 83 4) = rx_fr σ (σ 83 4) := rfl
  rw [ef] at hf
  have e : rx_fr σ (σ 83 4) = σ 83 4 := by omega
  unfold rx_lex
  rw [e]
  simp
/-- where the j-th token is looked for -/
def tk_p (σ : js_S) : Nat → Int
  | 0 => 0
  | j + 1 => (rx_lex σ (tk_p σ j)).1
theorem tk_p_in {σ : js_S} (h : rx_tp σ) : ∀ j : Nat, 0 ≤ tk_p σ j ∧ tk_p σ j ≤ σ 83 4
  | 0 => ⟨Int.le_refl _, h.1⟩
  | j + 1 => by
    have h1 := tk_p_in h j
    have h2 := rx_lex_in h h1.1 h1.2
    show 0 ≤ (rx_lex σ (tk_p σ j)).1 ∧ (rx_lex σ (tk_p σ j)).1 ≤ σ 83 4
    omega
theorem tk_p_eq {σ τ : js_S} (h4 : τ 83 4 = σ 83 4) (h84 : ∀ i : Int, τ 84 i = σ 84 i) : ∀ j : Nat, tk_p τ j = tk_p σ j
  | 0 => rfl
  | j + 1 => by
    show (rx_lex τ (tk_p τ j)).1 = (rx_lex σ (tk_p σ j)).1
    rw [tk_p_eq h4 h84 j]
    exact (rx_lex_eq h4 h84 _).1
