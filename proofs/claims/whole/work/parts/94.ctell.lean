/-! part 94: the class tells a name: its symbol's object -/
theorem js_desc_mono {M : Int} {σ τ : js_S} {x : Int} {D : js_D} (h : js_desc M σ x = some D) (h0 : σ (-1) 0 ≤ τ (-1) 0) (h15 : 137 ≤ x → τ x 15 = σ x 15) : js_desc M τ x = some D := by
  have hx := js_desc_nn h
  unfold js_desc at h ⊢
  rw [if_pos hx] at h ⊢
  by_cases h7 : x < 137
  · rw [if_pos h7] at h ⊢
    exact h
  · rw [if_neg h7] at h ⊢
    by_cases hn : x < σ (-1) 0
    · rw [if_pos hn] at h
      rw [if_pos (show x < τ (-1) 0 by omega), h15 (by omega)]
      exact h
    · rw [if_neg hn] at h
      cases h
theorem js_sym_lt {M : Int} {σ : js_S} {x : Int} {D : js_D} (h : js_desc M σ x = some D) (h7 : 137 ≤ x) : x < σ (-1) 0 := by
  have hx := js_desc_nn h
  unfold js_desc at h
  rw [if_pos hx, if_neg (by omega)] at h
  by_cases hn : x < σ (-1) 0
  · exact hn
  · rw [if_neg hn] at h
    cases h
/-- the rows of symbols: each is null, or a Symbol with its own number -/
def sy_H (M : Int) (σ : js_S) (b : Int) : Prop := ∀ i : Int, 0 ≤ i → i < 400 → σ (19 + b) i < 0 ∨ (js_desc M σ (σ (19 + b) i) = some (0, 11, js_sym) ∧ σ (σ (19 + b) i) 0 = i)
section CT
variable {E : js_E} {d : Nat} {σ : js_S} {b : Int}
/-- the object for symbol m: an old one, or a new one -/
theorem c_tell_obj (hb : b = 0 ∨ b = 25) (hn : cx_n σ) (hH : sy_H E.1 σ b) (hd : 2 ≤ d) {m x1 x2 : Int} (hm : σ (7 + b) 1 = m) (h0 : 0 ≤ m) (h1 : m < 400) : ∃ (τ : js_S) (s : Int), js_J E d 35 58 [(2, 7 + b), (0, x1), (0, x2), (2, 1), (9, 0), (9, 0)] [] σ = js_J E d 35 98 [(2, 7 + b), (0, x1), (0, x2), (2, 1), (2, s), (9, 0)] [] τ ∧ js_desc E.1 τ s = some (0, 11, js_sym) ∧ τ s 0 = m ∧ τ (19 + b) m = s ∧ (s = σ (19 + b) m ∨ (σ (19 + b) m < 0 ∧ s = σ (-1) 0)) ∧ (∀ a i : Int, a ≠ s → a ≠ -1 → ¬ (a = 19 + b ∧ i = m) → τ a i = σ a i) ∧ σ (-1) 0 ≤ τ (-1) 0 ∧ τ (-1) 0 ≤ σ (-1) 0 + 1 ∧ σ (-1) 1 ≤ τ (-1) 1 ∧ τ (-1) 1 ≤ σ (-1) 1 + 15 ∧ (0 ≤ σ (19 + b) m → τ (-1) 0 = σ (-1) 0 ∧ τ (-1) 1 = σ (-1) 1) ∧ s < τ (-1) 0 := by
  have hn0 := hn.1
  have hn1 := hn.2
  rw [b_35_58 hb, hm, js_w_of (by omega) (by omega), if_pos ⟨h0, h1⟩]
  by_cases g : σ (19 + b) m < 0
  · rw [if_pos g, b_35_74 hn.1 hn.2 hb]
    have o1 : ∀ a i : Int, a ≠ σ (-1) 0 → a ≠ -1 → js_ns σ a i = σ a i := fun a i h2 h3 => by
      unfold js_ns
      rw [if_neg h2, if_neg (fun hh => h3 hh.1), if_neg (fun hh => h3 hh.1)]
    have e0 : js_ns σ (-1) 0 = σ (-1) 0 + 1 := by
      unfold js_ns
      rw [if_neg (by omega), if_pos ⟨rfl, rfl⟩]
    have e1 : js_ns σ (-1) 1 = σ (-1) 1 + 15 := by
      unfold js_ns
      rw [if_neg (by omega), if_neg (by omega), if_pos ⟨rfl, rfl⟩]
    have e15 : js_ns σ (σ (-1) 0) 15 = 11 := by
      unfold js_ns
      rw [if_pos rfl, if_pos rfl]
    have hsym : js_desc E.1 (js_ns σ) (σ (-1) 0) = some (0, 11, js_sym) := by
      unfold js_desc
      rw [if_pos (by omega), if_neg (by omega), e0, if_pos (by omega), e15, if_pos rfl]
    have e7 : js_ns σ (7 + b) 1 = m := by rw [o1 _ _ (by omega) (by omega), hm]
    rw [e7, k_35_82 (by omega) (by omega) (b_38_0 (by omega) hsym)]
    have hsym2 : js_desc E.1 (js_up (js_ns σ) (σ (-1) 0) 0 m) (σ (-1) 0) = some (0, 11, js_sym) := js_ds hsym (by omega) (fun _ => by decide)
    have e7b : js_up (js_ns σ) (σ (-1) 0) 0 m (7 + b) 1 = m := by rw [js_up_na _ (by omega), e7]
    rw [b_35_85 hb hsym2, e7b, js_w_of (by omega) (by omega), if_pos ⟨h0, h1⟩]
    refine ⟨_, σ (-1) 0, rfl, js_ds hsym2 (by omega) (fun h => by omega), ?_, js_up_same _ _ _ _, Or.inr ⟨g, rfl⟩, ?_, ?_, ?_, ?_, ?_, ?_, ?_⟩
    · rw [js_up_na _ (by omega), js_up_same]
    · intro a i h2 h3 h4
      rw [js_up_ne _ h4, js_up_na _ h2, o1 a i h2 h3]
    · rw [js_up_na _ (by omega), js_up_na _ (by omega), e0]; omega
    · rw [js_up_na _ (by omega), js_up_na _ (by omega), e0]; omega
    · rw [js_up_na _ (by omega), js_up_na _ (by omega), e1]; omega
    · rw [js_up_na _ (by omega), js_up_na _ (by omega), e1]; omega
    · intro hh
      omega
    · rw [js_up_na _ (by omega), js_up_na _ (by omega), e0]; omega
  · rw [if_neg g]
    rcases hH m h0 h1 with h | ⟨h, h2⟩
    · exact absurd h g
    · have hge := js_sym_ge h
      have hlt := js_sym_lt h hge
      exact ⟨σ, σ (19 + b) m, rfl, h, h2, rfl, Or.inl rfl, fun _ _ _ _ _ => rfl, Int.le_refl _, by omega, Int.le_refl _, by omega, fun _ => ⟨rfl, rfl⟩, hlt⟩
/-- the signs of its name -/
def cx_cn (τ : js_S) (b m n : Int) : js_S := fun a i => if a = 20 + b ∧ 20 * m ≤ i ∧ i < 20 * m + n then τ 2 (i - 20 * m) else τ a i
theorem c_tell_cp (hb : b = 0 ∨ b = 25) {τ : js_S} {s m n x1 x2 : Int} (hs : js_desc E.1 τ s = some (0, 11, js_sym)) (h0 : τ s 0 = m) (h14 : τ s 14 = n) (hm0 : 0 ≤ m) (hm1 : m < 400) (hn : n ≤ 20) (hby : ∀ k : Int, 0 ≤ k → k < n → 0 ≤ τ 2 k ∧ τ 2 k < 127) : ∀ (q : Nat) (k : Int), (q : Int) = n - k → 0 ≤ k → js_J E d 35 121 [(2, 7 + b), (0, x1), (0, x2), (2, 1), (2, s), (0, k)] [] (cx_cn τ b m k) = js_J E d 35 171 [(2, 7 + b), (0, x1), (0, x2), (2, 1), (2, s), (0, n)] [(2, 1)] (js_up (cx_cn τ b m n) (7 + b) 1 (τ (7 + b) 1 + 1)) := by
  have hge := js_sym_ge hs
  have o : ∀ (k : Int) {a i : Int}, a ≠ 20 + b → cx_cn τ b m k a i = τ a i := fun k a i h => if_neg (fun hh => h hh.1)
  have hs' : ∀ k : Int, js_desc E.1 (cx_cn τ b m k) s = some (0, 11, js_sym) := fun k => js_desc_mono hs (by rw [o k (by omega)]; exact Int.le_refl _) (fun _ => o k (by omega))
  intro q
  induction q with
  | zero =>
    intro k hk hk0
    have e : k = n := by omega
    subst e
    rw [b_35_121 (hs' k) hb, o k (a := s) (by omega), h14]
    simp (disch := omega) only [js_w_of]
    rw [if_neg (by omega), o k (a := 7 + b) (by omega)]
  | succ q ih =>
    intro k hk hk0
    have hc := hby k hk0 (by omega)
    rw [b_35_121 (hs' k) hb, o k (a := s) (by omega), o k (a := s) (by omega), o k (a := 2) (by omega), h14, h0]
    rw [js_w_of (x := k) (by omega) (by omega), js_w_of (x := n) (by omega) (by omega), js_w_of (x := m * 20 + k) (by omega) (by omega)]
    rw [if_pos (by omega), if_pos (by omega), if_pos (by omega), js_i2b_of (by omega) (by omega)]
    have e : js_up (cx_cn τ b m k) (20 + b) (m * 20 + k) (τ 2 k) = cx_cn τ b m (k + 1) := by
      funext a i
      unfold js_up cx_cn
      by_cases g : a = 20 + b ∧ i = m * 20 + k
      · rw [if_pos g, if_pos (by omega)]
        congr 1
        omega
      · rw [if_neg g]
        by_cases g2 : a = 20 + b ∧ 20 * m ≤ i ∧ i < 20 * m + k
        · rw [if_pos g2, if_pos (by omega)]
        · rw [if_neg g2, if_neg (by omega)]
    rw [e]
    exact ih (k + 1) (by omega) (by omega)
/-- a symbol's fields at first -/
def cx_b0 (τ : js_S) (s k n : Int) : js_S := js_up (js_up (js_up (js_up (js_up (js_up (js_up (js_up (js_up (js_up (js_up (js_up (js_up (js_up τ s 1 k) s 2 2) s 3 0) s 4 0) s 5 (-1)) s 6 1) s 7 (-1)) s 8 0) s 9 0) s 10 0) s 11 (-1)) s 12 0) s 13 0) s 14 n
theorem cx_b0_o (τ : js_S) (s k n : Int) {a i : Int} (h : a ≠ s ∨ i < 1 ∨ 14 < i) : cx_b0 τ s k n a i = τ a i := by
  unfold cx_b0
  rw [js_up_ne _ (by omega), js_up_ne _ (by omega), js_up_ne _ (by omega), js_up_ne _ (by omega), js_up_ne _ (by omega), js_up_ne _ (by omega), js_up_ne _ (by omega), js_up_ne _ (by omega), js_up_ne _ (by omega), js_up_ne _ (by omega), js_up_ne _ (by omega), js_up_ne _ (by omega), js_up_ne _ (by omega), js_up_ne _ (by omega)]
/-- what a told symbol holds -/
def cx_new (τ : js_S) (s m k n : Int) : Prop := τ s 0 = m ∧ τ s 1 = k ∧ τ s 2 = 2 ∧ τ s 3 = 0 ∧ τ s 4 = 0 ∧ τ s 5 = -1 ∧ τ s 6 = 1 ∧ τ s 7 = -1 ∧ τ s 8 = 0 ∧ τ s 9 = 0 ∧ τ s 10 = 0 ∧ τ s 11 = -1 ∧ τ s 12 = 0 ∧ τ s 13 = 0 ∧ τ s 14 = n
theorem cx_b0_new {τ : js_S} {s m k n : Int} (h : τ s 0 = m) : cx_new (cx_b0 τ s k n) s m k n := by
  refine ⟨by rw [cx_b0_o _ _ _ _ (Or.inr (Or.inl (by decide))), h], ?_, ?_, ?_, ?_, ?_, ?_, ?_, ?_, ?_, ?_, ?_, ?_, ?_, ?_⟩
  all_goals
    unfold cx_b0
    repeat (first | rw [js_up_same] | rw [js_up_ni _ (by decide)])
/-- tell from 58 on: all is asked, the name is told, the next token is to be looked at -/
theorem c_tell_58 (hb : b = 0 ∨ b = 25) (hn : cx_n σ) (hH : sy_H E.1 σ b) (hd : 4 ≤ d) {m k x2 n : Int} (hm : σ (7 + b) 1 = m) (h0 : 0 ≤ m) (h1 : m < 400) (h3 : σ 1 3 = n) (hn0 : 0 ≤ n) (hn2 : n ≤ 20) (hby : ∀ i : Int, 0 ≤ i → i < n → 0 ≤ σ 2 i ∧ σ 2 i < 127) : ∃ (τ : js_S) (s : Int), js_J E d 35 58 [(2, 7 + b), (0, k), (0, x2), (2, 1), (9, 0), (9, 0)] [] σ = js_J E d 35 171 [(2, 7 + b), (0, k), (0, x2), (2, 1), (2, s), (0, n)] [(2, 1)] τ ∧ js_desc E.1 τ s = some (0, 11, js_sym) ∧ cx_new τ s m k n ∧ τ (19 + b) m = s ∧ (s = σ (19 + b) m ∨ (σ (19 + b) m < 0 ∧ s = σ (-1) 0)) ∧ τ (7 + b) 1 = m + 1 ∧ (∀ i : Int, 0 ≤ i → i < n → τ (20 + b) (20 * m + i) = σ 2 i) ∧ (∀ a i : Int, a ≠ s → a ≠ -1 → ¬ (a = 19 + b ∧ i = m) → ¬ (a = 20 + b ∧ 20 * m ≤ i ∧ i < 20 * m + n) → ¬ (a = 7 + b ∧ i = 1) → τ a i = σ a i) ∧ σ (-1) 0 ≤ τ (-1) 0 ∧ τ (-1) 0 ≤ σ (-1) 0 + 1 ∧ σ (-1) 1 ≤ τ (-1) 1 ∧ τ (-1) 1 ≤ σ (-1) 1 + 15 ∧ (0 ≤ σ (19 + b) m → τ (-1) 0 = σ (-1) 0 ∧ τ (-1) 1 = σ (-1) 1) ∧ s < τ (-1) 0 := by
  obtain ⟨τ, s, e1, e2, e3, e4, e5, e6, e7, e8, e9, e10, e11, e12⟩ := c_tell_obj (E := E) (d := d) (x1 := k) (x2 := x2) hb hn hH (by omega) hm h0 h1
  have hge := js_sym_ge e2
  have hs2 : js_desc E.1 (js_up (js_up (js_up (js_up (js_up (js_up (js_up (js_up (js_up (js_up (js_up (js_up (js_up τ s 1 k) s 2 2) s 3 0) s 4 0) s 5 (-1)) s 6 1) s 7 (-1)) s 8 0) s 9 0) s 10 0) s 11 (-1)) s 12 0) s 13 0) s = some (0, 11, js_sym) := by
    refine js_ds (js_ds (js_ds (js_ds (js_ds (js_ds (js_ds (js_ds (js_ds (js_ds (js_ds (js_ds (js_ds e2 ?_ ?_) ?_ ?_) ?_ ?_) ?_ ?_) ?_ ?_) ?_ ?_) ?_ ?_) ?_ ?_) ?_ ?_) ?_ ?_) ?_ ?_) ?_ ?_) ?_ ?_
    all_goals first | omega | exact fun _ => by decide
  have q13 : (js_up (js_up (js_up (js_up (js_up (js_up (js_up (js_up (js_up (js_up (js_up (js_up (js_up τ s 1 k) s 2 2) s 3 0) s 4 0) s 5 (-1)) s 6 1) s 7 (-1)) s 8 0) s 9 0) s 10 0) s 11 (-1)) s 12 0) s 13 0) 1 3 = n := by
    repeat rw [js_up_na _ (by omega)]
    rw [e6 _ _ (by omega) (by decide) (by omega), h3]
  rw [e1, b_35_98, k_35_101 e2 (by omega) (b_39_0 e2), b_35_104 hd hs2, q13]
  have w : (if js_w n < js_w 20 then n else 20) = n := by
    rw [js_w_of (by omega) (by omega), js_w_of (by omega) (by omega)]
    split <;> omega
  rw [w]
  have eb : js_up (js_up (js_up (js_up (js_up (js_up (js_up (js_up (js_up (js_up (js_up (js_up (js_up (js_up τ s 1 k) s 2 2) s 3 0) s 4 0) s 5 (-1)) s 6 1) s 7 (-1)) s 8 0) s 9 0) s 10 0) s 11 (-1)) s 12 0) s 13 0) s 14 n = cx_b0 τ s k n := rfl
  have hnew := cx_b0_new (k := k) (n := n) e3
  have ec : cx_b0 τ s k n = cx_cn (cx_b0 τ s k n) b m 0 := by
    funext a i
    exact (if_neg (by omega)).symm
  have hsB : js_desc E.1 (cx_b0 τ s k n) s = some (0, 11, js_sym) := by
    rw [← eb]
    exact js_ds hs2 (by omega) (fun _ => by decide)
  have o2 : ∀ i : Int, cx_b0 τ s k n 2 i = σ 2 i := fun i => by rw [cx_b0_o _ _ _ _ (Or.inl (by omega)), e6 _ _ (by omega) (by decide) (by omega)]
  rw [eb, ec, c_tell_cp hb hsB hnew.1 hnew.2.2.2.2.2.2.2.2.2.2.2.2.2.2 h0 h1 hn2 (fun i hi hi2 => by rw [o2]; exact hby i hi hi2) n.toNat 0 (by omega) (by omega)]
  have oc : ∀ {a i : Int}, a ≠ 20 + b → ¬ (a = 7 + b ∧ i = 1) → js_up (cx_cn (cx_b0 τ s k n) b m n) (7 + b) 1 (cx_b0 τ s k n (7 + b) 1 + 1) a i = cx_b0 τ s k n a i := fun {a i} g1 g2 => by
    rw [js_up_ne _ g2]
    exact if_neg (fun hh => g1 hh.1)
  have os : ∀ i : Int, js_up (cx_cn (cx_b0 τ s k n) b m n) (7 + b) 1 (cx_b0 τ s k n (7 + b) 1 + 1) s i = cx_b0 τ s k n s i := fun i => oc (by omega) (by omega)
  have om : ∀ i : Int, js_up (cx_cn (cx_b0 τ s k n) b m n) (7 + b) 1 (cx_b0 τ s k n (7 + b) 1 + 1) (-1) i = τ (-1) i := fun i => by rw [oc (by omega) (by omega), cx_b0_o _ _ _ _ (Or.inl (by omega))]
  refine ⟨_, s, rfl, ?_, ?_, ?_, e5, ?_, ?_, ?_, by rw [om]; exact e7, by rw [om]; exact e8, by rw [om]; exact e9, by rw [om]; exact e10, fun hh => by rw [om, om]; exact e11 hh, by rw [om]; exact e12⟩
  · exact js_desc_mono hsB (by rw [oc (by omega) (by omega)]; exact Int.le_refl _) (fun _ => os 15)
  · unfold cx_new at hnew ⊢
    simp only [os]
    exact hnew
  · rw [oc (by omega) (by omega), cx_b0_o _ _ _ _ (Or.inl (by omega)), e4]
  · rw [js_up_same, cx_b0_o _ _ _ _ (Or.inl (by omega)), e6 _ _ (by omega) (by omega) (by omega), hm]
  · intro i hi hi2
    rw [js_up_ne _ (by omega)]
    show (if 20 + b = 20 + b ∧ 20 * m ≤ 20 * m + i ∧ 20 * m + i < 20 * m + n then cx_b0 τ s k n 2 (20 * m + i - 20 * m) else _) = _
    rw [if_pos (by omega), o2]
    congr 1
    omega
  · intro a i g1 g2 g3 g4 g5
    rw [js_up_ne _ g5]
    show (if a = 20 + b ∧ 20 * m ≤ i ∧ i < 20 * m + n then _ else cx_b0 τ s k n a i) = _
    rw [if_neg g4, cx_b0_o _ _ _ _ (Or.inl g1), e6 a i g1 g2 g3]
end CT
