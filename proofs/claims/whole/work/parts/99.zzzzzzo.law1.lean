/-! part 99.zzzzzzo: how both stand between two calls (n calls so far) -/
/-- the tape of both -/
def lq_T (n : Int) (σ ρ : js_S) : Prop := (σ 1 0 = ρ 83 2 ∧ 0 ≤ ρ 83 2 ∧ ρ 83 2 ≤ 16 * n) ∧ (∀ i : Int, 0 ≤ i → i < ρ 83 2 → σ 3 i = ρ 84 i ∧ 1 ≤ ρ 84 i ∧ ρ 84 i ≤ 126) ∧ rx_by ρ
/-- the class's Symbols, the cells and slots made so far -/
def lq_H (E : js_E) (n : Int) (σ : js_S) : Prop := (137 ≤ σ (-1) 0 ∧ 0 ≤ σ (-1) 1) ∧ (sy_H E.1 σ 0 ∧ sy_H E.1 σ 25) ∧ (∀ i k : Int, 0 ≤ i → i < 400 → 0 ≤ k → k < 400 → 0 ≤ σ 19 i → σ 19 i ≠ σ 44 k) ∧ σ (-1) 0 ≤ 137 + n + sy_c (σ 19) 400 + sy_c (σ 44) 400 ∧ σ (-1) 1 ≤ 2000000 + 6 * n + 15 * (sy_c (σ 19) 400 + sy_c (σ 44) 400)
/-- which compiler's program runs: b; the other one waits -/
def lq_P (E : js_E) (b : Int) (σ ρ : js_S) : Prop := (b = 0 ∨ b = 25) ∧ (σ 0 4 = 6 + b ∧ σ 0 5 = 6 + (25 - b) ∧ σ 56 1 = 7 + b) ∧ ρ 83 55 = E.1 ∧ 16 ≤ E.1 ∧ E.1 ≤ 4096
/-- names, and what keeping needs -/
def lq_N (T : Nat) (ρ : js_S) : Prop := ∀ i : Int, 0 ≤ i → i < T → (0 ≤ ρ 97 i ∧ ρ 97 i ≤ 20) ∧ (ρ 92 i = 0 ∨ ρ 92 i = 1) ∧ ∀ k : Int, 0 ≤ k → k < ρ 97 i → 0 ≤ ρ 98 (20 * i + k) ∧ ρ 98 (20 * i + k) < 127
/-- the ranges of INSTRUCTIONS -/
def lq_G (ρ : js_S) : Prop := ∀ p : Int, 0 ≤ p → p < ρ 83 49 → (0 ≤ ρ 111 p ∧ ρ 111 p ≤ 30) ∧ (-2147483648 ≤ ρ 114 p ∧ ρ 114 p < 2147483648) ∧ -2147483648 ≤ ρ 115 p ∧ ρ 115 p < 2147483648
/-- a program is loaded -/
def lq_1 (E : js_E) (n b : Int) (σ ρ : js_S) : Prop := (σ 56 2 = 1 ∧ ρ 83 64 = 1 ∧ ρ 83 82 ≤ n) ∧ ∃ (Fu : Int → Int → Int → Prop) (ac zc N : Int) (T : Nat), mh_R E Fu ac zc b N T σ ρ ∧ lq_N T ρ ∧ lq_G ρ
/-- none is -/
def lq_0 (b : Int) (σ ρ : js_S) : Prop := (σ 56 2 = 0 ∧ ρ 83 64 = 0) ∧ (σ (7 + b) 1 = 0 ∧ ρ 83 11 = 0) ∧ (σ (8 + b) 6 = 0 ∧ ρ 83 49 = 0) ∧ σ (7 + b) 6 = 0 ∧ (σ 58 0 = 0 ∧ ρ 83 77 = 0) ∧ (js_l (σ 59 0) = js_l (ρ 121 0) ∧ js_l (σ 59 1) = js_l (ρ 122 0)) ∧ js_l (σ 62 0) = js_l (ρ 121 1) ∧ js_l (σ 62 1) = js_l (ρ 122 1)
def LQ (E : js_E) (n : Int) (σ ρ : js_S) : Prop := lq_T n σ ρ ∧ lq_H E n σ ∧ ∃ b : Int, lq_P E b σ ρ ∧ (lq_0 b σ ρ ∨ lq_1 E n b σ ρ)
section LW
variable {E : js_E} {n n' b : Int} {σ ρ σ' ρ' : js_S}
theorem sy_H_mv (hb : b = 0 ∨ b = 25) (h : sy_H E.1 σ b) (h1 : ∀ i : Int, σ' (19 + b) i = σ (19 + b) i) (h2 : ∀ a i : Int, 137 ≤ a → a < σ (-1) 0 → σ' a i = σ a i) (h0 : σ (-1) 0 ≤ σ' (-1) 0) : sy_H E.1 σ' b := by
  intro i i1 i2
  rw [h1]
  rcases h i i1 i2 with g | ⟨g1, g2⟩
  · exact Or.inl g
  · have ge := js_sym_ge g1
    have lt := js_sym_lt g1 ge
    exact Or.inr ⟨js_desc_mono g1 h0 (fun _ => h2 _ _ ge lt), by rw [h2 _ _ ge lt]; exact g2⟩
theorem sy_ce {f g : Int → Int} : ∀ k : Nat, (∀ i : Int, 0 ≤ i → i < k → f i = g i) → sy_c f k = sy_c g k
  | 0, _ => rfl
  | k + 1, h => by
    have ih := sy_ce k (fun i i1 i2 => h i i1 (by push_cast; omega))
    have e := h k (by omega) (by push_cast; omega)
    show sy_c f k + (if 0 ≤ f k then 1 else 0) = sy_c g k + (if 0 ≤ g k then 1 else 0)
    rw [ih, e]
/-- the class's cells but for its line (and those of the law), the reference's but for its rows of texts and probes: what LQ hangs on; the tape by itself -/
theorem lq_mv0 (h : LQ E n σ ρ) (hn : n ≤ n') (hT : lq_T n' σ' ρ') (s : ∀ a i : Int, 0 ≤ a → a ≠ 1 → a ≠ 3 → ¬ (82 ≤ a ∧ a ≤ 136) → ¬ (a = 0 ∧ i = 3) → a < σ (-1) 0 → σ' a i = σ a i) (h0 : σ (-1) 0 ≤ σ' (-1) 0 ∧ σ' (-1) 0 - n' ≤ σ (-1) 0 - n) (h1 : σ (-1) 1 ≤ σ' (-1) 1 ∧ σ' (-1) 1 - 6 * n' ≤ σ (-1) 1 - 6 * n) (q : ∀ i : Int, ¬ (i = 0 ∨ i = 2 ∨ 86 ≤ i) → ρ' 83 i = ρ 83 i) (y : ∀ a i : Int, 85 ≤ a → a ≤ 130 → ρ' a i = ρ a i) : LQ E n' σ' ρ' := by
  obtain ⟨_, ⟨⟨g1, g2⟩, ⟨g3, g4⟩, g5, g6, g7⟩, b, ⟨p1, ⟨p2, p3, p4⟩, p5, p6⟩, hl⟩ := h
  have sl : ∀ a i : Int, 4 ≤ a → a ≤ 81 → σ' a i = σ a i := fun a i q1 q2 => s a i (by omega) (by omega) (by omega) (by omega) (by omega) (by omega)
  have su : ∀ a i : Int, 137 ≤ a → a < σ (-1) 0 → σ' a i = σ a i := fun a i q1 q2 => s a i (by omega) (by omega) (by omega) (by omega) (by omega) q2
  have c19 := sy_ce (f := σ' 19) (g := σ 19) 400 (fun i _ _ => sl _ _ (by decide) (by decide))
  have c44 := sy_ce (f := σ' 44) (g := σ 44) 400 (fun i _ _ => sl _ _ (by decide) (by decide))
  refine ⟨hT, ⟨⟨by omega, by omega⟩, ⟨sy_H_mv (Or.inl rfl) g3 (fun i => sl _ _ (by decide) (by decide)) su h0.1, sy_H_mv (Or.inr rfl) g4 (fun i => sl _ _ (by decide) (by decide)) su h0.1⟩, fun i k i1 i2 k1 k2 => ?_, by rw [c19, c44]; omega, by rw [c19, c44]; omega⟩, b, ⟨p1, ⟨by rw [s _ _ (by decide) (by decide) (by decide) (by decide) (by decide) (by omega)]; exact p2, by rw [s _ _ (by decide) (by decide) (by decide) (by decide) (by decide) (by omega)]; exact p3, by rw [sl _ _ (by decide) (by decide)]; exact p4⟩, by rw [q _ (by decide)]; exact p5, p6⟩, ?_⟩
  · rw [sl _ _ (by decide) (by decide), sl _ _ (by decide) (by decide)]
    exact g5 i k i1 i2 k1 k2
  · rcases hl with ⟨⟨a1, a2⟩, ⟨a3, a4⟩, ⟨a5, a6⟩, a7, ⟨a8, a9⟩, ⟨c1, c2⟩, c3, c4⟩ | ⟨⟨a1, a2, a3⟩, Fu, ac, zc, N, T, hm, hN, hG⟩
    · exact Or.inl ⟨⟨by rw [sl _ _ (by decide) (by decide)]; exact a1, by rw [q _ (by decide)]; exact a2⟩, ⟨by rw [sl _ _ (by omega) (by omega)]; exact a3, by rw [q _ (by decide)]; exact a4⟩, ⟨by rw [sl _ _ (by omega) (by omega)]; exact a5, by rw [q _ (by decide)]; exact a6⟩, by rw [sl _ _ (by omega) (by omega)]; exact a7, ⟨by rw [sl _ _ (by decide) (by decide)]; exact a8, by rw [q _ (by decide)]; exact a9⟩, ⟨by rw [sl _ _ (by decide) (by decide), y _ _ (by decide) (by decide)]; exact c1, by rw [sl _ _ (by decide) (by decide), y _ _ (by decide) (by decide)]; exact c2⟩, by rw [sl _ _ (by decide) (by decide), y _ _ (by decide) (by decide)]; exact c3, by rw [sl _ _ (by decide) (by decide), y _ _ (by decide) (by decide)]; exact c4⟩
    · have hp := hm.1.1.2.1
      refine Or.inr ⟨⟨by rw [sl _ _ (by decide) (by decide)]; exact a1, by rw [q _ (by decide)]; exact a2, by rw [q _ (by decide)]; omega⟩, Fu, ac, zc, N, T, mh_mv p1 hm (fun a i q1 q2 => sl a i (by omega) (by omega)) (fun k i k1 k2 => ?_) (fun a i q1 q2 q3 => sl a i (by omega) (by omega)) h0.1 q y, fun i i1 i2 => ?_, fun p q1 q2 => ?_⟩
      · have d := (hp.2.2.1 k k1 k2).1.1
        have ge := js_sym_ge d
        exact su _ _ ge (js_sym_lt d ge)
      · obtain ⟨n1, n2, n3⟩ := hN i i1 i2
        refine ⟨by rw [y _ _ (by decide) (by decide)]; exact n1, by rw [y _ _ (by decide) (by decide)]; exact n2, fun k k1 k2 => ?_⟩
        rw [y _ _ (by decide) (by decide)] at k2
        rw [y _ _ (by decide) (by decide)]
        exact n3 k k1 k2
      · rw [q _ (by decide)] at q2
        rw [y _ _ (by decide) (by decide), y _ _ (by decide) (by decide), y _ _ (by decide) (by decide)]
        exact hG p q1 q2
theorem lq_mv (h : LQ E n σ ρ) (hn : n ≤ n') (s : ∀ a i : Int, 0 ≤ a → ¬ (82 ≤ a ∧ a ≤ 136) → ¬ (a = 0 ∧ i = 3) → a < σ (-1) 0 → σ' a i = σ a i) (h0 : σ (-1) 0 ≤ σ' (-1) 0 ∧ σ' (-1) 0 - n' ≤ σ (-1) 0 - n) (h1 : σ (-1) 1 ≤ σ' (-1) 1 ∧ σ' (-1) 1 - 6 * n' ≤ σ (-1) 1 - 6 * n) (q : ∀ i : Int, ¬ (i = 0 ∨ 86 ≤ i) → ρ' 83 i = ρ 83 i) (y : ∀ a i : Int, 84 ≤ a → a ≤ 130 → ρ' a i = ρ a i) : LQ E n' σ' ρ' := by
  have h' := h
  obtain ⟨⟨⟨t1, t2, t3⟩, t4, t5⟩, ⟨⟨g1, _⟩, _⟩, _⟩ := h'
  have sl : ∀ a i : Int, 1 ≤ a → a ≤ 81 → σ' a i = σ a i := fun a i q1 q2 => s a i (by omega) (by omega) (by omega) (by omega)
  refine lq_mv0 h hn ⟨⟨by rw [sl _ _ (by decide) (by decide), q _ (by decide)]; exact t1, by rw [q _ (by decide)]; exact t2, by rw [q _ (by decide)]; omega⟩, fun i i1 i2 => ?_, fun i i1 i2 => by rw [y _ _ (by decide) (by decide)]; exact t5 i i1 i2⟩ (fun a i x1 _ _ x2 x3 x4 => s a i x1 x2 x3 x4) h0 h1 (fun i g => q i (by omega)) (fun a i g1 g2 => y a i (by omega) g2)
  rw [q _ (by decide)] at i2
  rw [sl _ _ (by decide) (by decide), y _ _ (by decide) (by decide)]
  exact t4 i i1 i2
/-- LQ asks each store for its own cells alone -/
theorem lq_loc (h : LQ E n σ ρ) (hc : ∀ a i : Int, ¬ (83 ≤ a ∧ a ≤ 135) → σ' a i = σ a i) (hr : ∀ a i : Int, 83 ≤ a → a ≤ 135 → ρ' a i = ρ a i) : LQ E n σ' ρ' :=
  lq_mv h (Int.le_refl _) (fun a i _ g _ _ => hc a i (by omega)) ⟨by rw [hc _ _ (by omega)]; exact Int.le_refl _, by rw [hc _ _ (by omega)]; exact Int.le_refl _⟩ ⟨by rw [hc _ _ (by omega)]; exact Int.le_refl _, by rw [hc _ _ (by omega)]; exact Int.le_refl _⟩ (fun i _ => hr _ _ (by decide) (by decide)) (fun a i g1 g2 => hr a i (by omega) (by omega))
theorem lq_jn (h : LQ E n σ ρ) : LQ E n (jn σ ρ) (jn σ ρ) := lq_loc h (fun _ _ g => jn_c g) (fun _ _ g1 g2 => jn_r ⟨g1, g2⟩)
end LW
