/-! part 99.zzzzzh: each INSTRUCTION of a tree's code is as it should be (printed by gen99zzzzzh) -/
/-- INSTRUCTION I at place i of a unit from a to z, with mt TEMPS; S of variables, Z of their lengths, K of funs called -/
def wi_I (S : Int → Prop) (Z : Int → Int → Prop) (K : Int → Prop) (mt a z i : Int) (I : xt_I) : Prop := (a ≤ i ∧ i + 1 < z) ∧ (I.2.1 = 0 ∧ (I.1 = 0 ∨ I.1 = 3 ∨ 6 ≤ I.1 ∧ I.1 ≤ 23 ∨ I.1 = 30) ∨ I.2.1 = 0 ∧ (24 ≤ I.1 ∧ I.1 ≤ 26) ∧ a ≤ I.2.2.1 ∧ I.2.2.1 < z ∨ I.2.1 = 1 ∧ (I.1 = 1 ∨ I.1 = 2) ∧ S I.2.2.1 ∧ I.2.2.2.1 = 0 ∨ I.2.1 = 1 ∧ I.1 = 2 ∧ S I.2.2.1 ∧ (∃ c : Int, Z I.2.2.1 c ∧ 0 ≤ I.2.2.2.1 ∧ I.2.2.2.1 < c) ∨ I.2.1 = 1 ∧ (I.1 = 4 ∨ I.1 = 5) ∧ S I.2.2.1 ∧ I.2.2.2.1 = 0 ∧ Z I.2.2.1 I.2.2.2.2.1 ∨ I.2.1 = 2 ∧ (I.1 = 1 ∨ I.1 = 2) ∧ 0 ≤ I.2.2.1 ∧ I.2.2.1 < mt ∨ I.2.1 = 3 ∧ I.1 = 27 ∧ K I.2.2.1)
section WI
variable {S1 K1 : Int → Prop} {Z : Int → Int → Prop} {mt a z i op x y s lo hi : Int}
theorem wi_n (g : a ≤ i ∧ i + 1 < z) (h : op = 0 ∨ op = 3 ∨ 6 ≤ op ∧ op ≤ 23 ∨ op = 30) : wi_I S1 Z K1 mt a z i (op, 0, x, y, s, lo, hi) := ⟨g, Or.inl ⟨rfl, h⟩⟩
theorem wi_j (g : a ≤ i ∧ i + 1 < z) (h : 24 ≤ op ∧ op ≤ 26) (h2 : a ≤ x ∧ x < z) : wi_I S1 Z K1 mt a z i (op, 0, x, y, s, lo, hi) := ⟨g, Or.inr (Or.inl ⟨rfl, h, h2⟩)⟩
theorem wi_v (g : a ≤ i ∧ i + 1 < z) (h : op = 1 ∨ op = 2) (h1 : S1 x) : wi_I S1 Z K1 mt a z i (op, 1, x, 0, s, lo, hi) := ⟨g, Or.inr (Or.inr (Or.inl ⟨rfl, h, h1, rfl⟩))⟩
theorem wi_w {c : Int} (g : a ≤ i ∧ i + 1 < z) (h1 : S1 x) (h2 : Z x c) (h3 : 0 ≤ y ∧ y < c) : wi_I S1 Z K1 mt a z i (2, 1, x, y, s, lo, hi) := ⟨g, Or.inr (Or.inr (Or.inr (Or.inl ⟨rfl, rfl, h1, c, h2, h3⟩)))⟩
theorem wi_x (g : a ≤ i ∧ i + 1 < z) (h : op = 4 ∨ op = 5) (h1 : S1 x) (h2 : Z x s) : wi_I S1 Z K1 mt a z i (op, 1, x, 0, s, lo, hi) := ⟨g, Or.inr (Or.inr (Or.inr (Or.inr (Or.inl ⟨rfl, h, h1, rfl, h2⟩))))⟩
theorem wi_t (g : a ≤ i ∧ i + 1 < z) (h : op = 1 ∨ op = 2) (h1 : 0 ≤ x ∧ x < mt) : wi_I S1 Z K1 mt a z i (op, 2, x, y, s, lo, hi) := ⟨g, Or.inr (Or.inr (Or.inr (Or.inr (Or.inr (Or.inl ⟨rfl, h, h1⟩)))))⟩
theorem wi_f (g : a ≤ i ∧ i + 1 < z) (h1 : K1 x) : wi_I S1 Z K1 mt a z i (27, 3, x, y, s, lo, hi) := ⟨g, Or.inr (Or.inr (Or.inr (Or.inr (Or.inr (Or.inr ⟨rfl, rfl, h1⟩)))))⟩
end WI
theorem xt_ln_80 {r : tr_T} (h : xt_k r = 80) : xt_ln (xt_l r) + 1 ≤ xt_ln r := by
  cases r with
  | leaf =>
    have : xt_k (Std.DTreeMap.Internal.Impl.leaf : tr_T) = 0 := rfl
    omega
  | inner z d v l r =>
    have h' : d.1 = 80 := h
    have e : xt_l (.inner z d v l r) = l := rfl
    have n0 := xt_ln_0 r
    rw [e, xt_ln, if_neg (by omega), if_neg (by omega), if_neg (by omega), if_neg (by omega), if_neg (by omega)]
    omega
theorem st_ln_92 {r : tr_T} (h : xt_k r = 92) : st_ln (xt_l r) + (if 0 < xt_hi r then 1 else 0) ≤ st_ln r := by
  cases r with
  | leaf =>
    have : xt_k (Std.DTreeMap.Internal.Impl.leaf : tr_T) = 0 := rfl
    omega
  | inner z d v l r =>
    have h' : d.1 = 92 := h
    have e : xt_l (.inner z d v l r) = l := rfl
    have e2 : xt_hi (.inner z d v l r) = d.2.2.2.1 := rfl
    have n0 := st_ln_0 r
    rw [e, e2, st_ln, if_neg (show ¬ d.1 = 90 by omega), if_neg (show ¬ d.1 = 20 by omega), if_neg (show ¬ d.1 = 21 by omega), if_neg (show ¬ d.1 = 22 by omega), if_neg (show ¬ d.1 = 23 by omega), if_neg (show ¬ d.1 = 24 by omega), if_neg (show ¬ d.1 = 25 by omega), if_neg (show ¬ d.1 = 26 by omega), if_neg (show ¬ d.1 = 27 by omega), if_neg (show ¬ d.1 = 28 by omega), if_pos h']
    omega
theorem xt_ps_w {P : Int → xt_I → Prop} {S1 K1 : Int → Prop} {Z : Int → Int → Prop} {mt a z : Int} (e : tr_T) : ∀ s t p : Int, (∀ j : Int, 0 ≤ j → j < xt_na e → S1 (s + j)) → 0 ≤ t → (xt_na e = 0 ∨ t + xt_na e ≤ mt) → a ≤ p → p + 2 * xt_na e < z → xt_ps P e s t p → xt_ps (fun i I => P i I ∧ wi_I S1 Z K1 mt a z i I) e s t p := by
  induction e with
  | leaf => intro s t p _ _ _ _ _ _; exact trivial
  | inner z0 d v l r ihl ihr =>
    intro s t p hs ht hm ha hz h
    have ea : xt_na (.inner z0 d v l r) = 1 + xt_na r := rfl
    have n0 := xt_na_0 r
    rw [ea] at hs hm hz
    have h0 := hs 0 (by omega) (by omega)
    rw [Int.add_zero] at h0
    refine ⟨⟨h.1, wi_t ⟨by omega, by omega⟩ (Or.inl rfl) ⟨by omega, by omega⟩⟩, ⟨h.2.1, wi_v ⟨by omega, by omega⟩ (Or.inr rfl) h0⟩, ihr _ _ _ (fun j g1 g2 => ?_) (by omega) (by omega) (by omega) (by omega) h.2.2⟩
    have := hs (1 + j) (by omega) (by omega)
    rw [show s + 1 + j = s + (1 + j) by omega]
    exact this
theorem xt_cd_w {P : Int → xt_I → Prop} {S S1 K1 : Int → Prop} {Z K : Int → Int → Prop} {mt a z : Int} (hS : ∀ s : Int, S s → S1 s) (hK : ∀ s k : Int, K s k → K1 s ∧ ∀ j : Int, 0 ≤ j → j < k → S1 (s + 1 + j)) (e : tr_T) : ∀ t p : Int, xt_w e → (xt_k e ≤ 10 → xt_q e) → xt_g S Z K e → 0 ≤ t → xt_mt e t ≤ mt → a ≤ p → p + xt_ln e < z → xt_cd P e t p → xt_cd (fun i I => P i I ∧ wi_I S1 Z K1 mt a z i I) e t p := by
  induction e with
  | leaf => intro t p _ _ _ _ _ _ _ _; exact trivial
  | inner z0 d v l r ihl ihr =>
    intro t p hw hq hg ht hm ha hz h
    replace hq : d.1 ≤ 10 → (d.1 = 4 → 6 ≤ d.2.2.2.2.2.2 ∧ d.2.2.2.2.2.2 ≤ 18) ∧ (d.1 = 5 → 19 ≤ d.2.2.2.2.2.2 ∧ d.2.2.2.2.2.2 ≤ 21) := fun g => (hq g).2.2
    have nl := xt_ln_0 l
    have nr := xt_ln_0 r
    rw [xt_w] at hw
    rw [xt_g] at hg
    rw [xt_mt] at hm
    rw [xt_ln] at hz
    rw [xt_cd] at h ⊢
    by_cases q1 : d.1 = 1
    · rw [if_pos q1] at h ⊢
      rw [if_pos (show d.1 = 1 ∨ d.1 = 2 by omega)] at hw
      rw [if_pos (show d.1 = 1 by omega)] at hg
      rw [if_pos (show d.1 = 1 ∨ d.1 = 2 by omega)] at hm
      rw [if_pos (show d.1 = 1 ∨ d.1 = 2 by omega)] at hz
      exact ⟨h, wi_n ⟨by omega, by omega⟩ (Or.inl rfl)⟩
    by_cases q2 : d.1 = 2
    · rw [if_neg q1, if_pos q2] at h ⊢
      rw [if_pos (show d.1 = 1 ∨ d.1 = 2 by omega)] at hw
      rw [if_neg (show ¬ (d.1 = 1) by omega), if_pos (show d.1 = 2 by omega)] at hg
      rw [if_pos (show d.1 = 1 ∨ d.1 = 2 by omega)] at hm
      rw [if_pos (show d.1 = 1 ∨ d.1 = 2 by omega)] at hz
      exact ⟨h, wi_v ⟨by omega, by omega⟩ (Or.inl rfl) (hS _ hg)⟩
    by_cases q3 : d.1 = 3
    · rw [if_neg q1, if_neg q2, if_pos q3] at h ⊢
      rw [if_neg (show ¬ (d.1 = 1 ∨ d.1 = 2) by omega), if_pos (show d.1 = 3 ∨ d.1 = 5 ∨ d.1 = 9 by omega)] at hw
      rw [if_neg (show ¬ (d.1 = 1) by omega), if_neg (show ¬ (d.1 = 2) by omega), if_pos (show d.1 = 3 by omega)] at hg
      rw [if_neg (show ¬ (d.1 = 1 ∨ d.1 = 2) by omega), if_pos (show d.1 = 3 ∨ d.1 = 5 ∨ d.1 = 9 ∨ d.1 = 10 by omega)] at hm
      rw [if_neg (show ¬ (d.1 = 1 ∨ d.1 = 2) by omega), if_pos (show d.1 = 3 ∨ d.1 = 5 by omega)] at hz
      exact ⟨ihl _ _ hw.2 (fun _ => hw.1.2.2) hg.2.2 (by omega) (by omega) (by omega) (by omega) h.1, h.2, wi_x ⟨by omega, by omega⟩ (Or.inl rfl) (hS _ hg.1) hg.2.1⟩
    by_cases q4 : d.1 = 4
    · rw [if_neg q1, if_neg q2, if_neg q3, if_pos q4] at h ⊢
      rw [if_neg (show ¬ (d.1 = 1 ∨ d.1 = 2) by omega), if_neg (show ¬ (d.1 = 3 ∨ d.1 = 5 ∨ d.1 = 9) by omega), if_pos (show d.1 = 4 ∨ d.1 = 6 ∨ d.1 = 7 ∨ d.1 = 80 by omega)] at hw
      rw [if_neg (show ¬ (d.1 = 1) by omega), if_neg (show ¬ (d.1 = 2) by omega), if_neg (show ¬ (d.1 = 3) by omega), if_neg (show ¬ (d.1 = 5 ∨ d.1 = 9) by omega), if_neg (show ¬ (d.1 = 10) by omega)] at hg
      rw [if_neg (show ¬ (d.1 = 1 ∨ d.1 = 2) by omega), if_neg (show ¬ (d.1 = 3 ∨ d.1 = 5 ∨ d.1 = 9 ∨ d.1 = 10) by omega), if_neg (show ¬ (d.1 = 6 ∨ d.1 = 7 ∨ d.1 = 8 ∨ d.1 = 80) by omega)] at hm
      rw [if_neg (show ¬ (d.1 = 1 ∨ d.1 = 2) by omega), if_neg (show ¬ (d.1 = 3 ∨ d.1 = 5) by omega), if_pos (show d.1 = 4 by omega)] at hz
      exact ⟨ihl _ _ hw.2.1 (fun _ => hw.1.2.2) hg.1 (by omega) (by omega) (by omega) (by omega) h.1, ⟨h.2.1, wi_t ⟨by omega, by omega⟩ (Or.inr rfl) ⟨by omega, by omega⟩⟩, ihr _ _ hw.2.2.2 (fun _ => hw.2.2.1.2.2) hg.2 (by omega) (by omega) (by omega) (by omega) h.2.2.1, ⟨h.2.2.2.1, wi_n ⟨by omega, by omega⟩ (Or.inr (Or.inl rfl))⟩, ⟨h.2.2.2.2.1, wi_t ⟨by omega, by omega⟩ (Or.inl rfl) ⟨by omega, by omega⟩⟩, h.2.2.2.2.2, wi_n ⟨by omega, by omega⟩ (Or.inr (Or.inr (Or.inl ⟨((hq (by omega)).1 (by omega)).1, by have := ((hq (by omega)).1 (by omega)).2; omega⟩)))⟩
    by_cases q5 : d.1 = 5
    · rw [if_neg q1, if_neg q2, if_neg q3, if_neg q4, if_pos q5] at h ⊢
      rw [if_neg (show ¬ (d.1 = 1 ∨ d.1 = 2) by omega), if_pos (show d.1 = 3 ∨ d.1 = 5 ∨ d.1 = 9 by omega)] at hw
      rw [if_neg (show ¬ (d.1 = 1) by omega), if_neg (show ¬ (d.1 = 2) by omega), if_neg (show ¬ (d.1 = 3) by omega), if_pos (show d.1 = 5 ∨ d.1 = 9 by omega)] at hg
      rw [if_neg (show ¬ (d.1 = 1 ∨ d.1 = 2) by omega), if_pos (show d.1 = 3 ∨ d.1 = 5 ∨ d.1 = 9 ∨ d.1 = 10 by omega)] at hm
      rw [if_neg (show ¬ (d.1 = 1 ∨ d.1 = 2) by omega), if_pos (show d.1 = 3 ∨ d.1 = 5 by omega)] at hz
      exact ⟨ihl _ _ hw.2 (fun _ => hw.1.2.2) hg (by omega) (by omega) (by omega) (by omega) h.1, h.2, wi_n ⟨by omega, by omega⟩ (Or.inr (Or.inr (Or.inl ⟨by have := ((hq (by omega)).2 (by omega)).1; omega, by have := ((hq (by omega)).2 (by omega)).2; omega⟩)))⟩
    by_cases q6 : d.1 = 6 ∨ d.1 = 7
    · rw [if_neg q1, if_neg q2, if_neg q3, if_neg q4, if_neg q5, if_pos q6] at h ⊢
      rw [if_neg (show ¬ (d.1 = 1 ∨ d.1 = 2) by omega), if_neg (show ¬ (d.1 = 3 ∨ d.1 = 5 ∨ d.1 = 9) by omega), if_pos (show d.1 = 4 ∨ d.1 = 6 ∨ d.1 = 7 ∨ d.1 = 80 by omega)] at hw
      rw [if_neg (show ¬ (d.1 = 1) by omega), if_neg (show ¬ (d.1 = 2) by omega), if_neg (show ¬ (d.1 = 3) by omega), if_neg (show ¬ (d.1 = 5 ∨ d.1 = 9) by omega), if_neg (show ¬ (d.1 = 10) by omega)] at hg
      rw [if_neg (show ¬ (d.1 = 1 ∨ d.1 = 2) by omega), if_neg (show ¬ (d.1 = 3 ∨ d.1 = 5 ∨ d.1 = 9 ∨ d.1 = 10) by omega), if_pos (show d.1 = 6 ∨ d.1 = 7 ∨ d.1 = 8 ∨ d.1 = 80 by omega)] at hm
      rw [if_neg (show ¬ (d.1 = 1 ∨ d.1 = 2) by omega), if_neg (show ¬ (d.1 = 3 ∨ d.1 = 5) by omega), if_neg (show ¬ (d.1 = 4) by omega), if_neg (show ¬ (d.1 = 9) by omega), if_neg (show ¬ (d.1 = 10) by omega)] at hz
      exact ⟨ihl _ _ hw.2.1 (fun _ => hw.1.2.2) hg.1 (by omega) (by omega) (by omega) (by omega) h.1, ⟨h.2.1, wi_j ⟨by omega, by omega⟩ ⟨by split <;> omega, by split <;> omega⟩ ⟨by omega, by omega⟩⟩, ihr _ _ hw.2.2.2 (fun _ => hw.2.2.1.2.2) hg.2 (by omega) (by omega) (by omega) (by omega) h.2.2⟩
    by_cases q8 : d.1 = 8
    · rw [if_neg q1, if_neg q2, if_neg q3, if_neg q4, if_neg q5, if_neg q6, if_pos q8] at h ⊢
      rw [if_neg (show ¬ (d.1 = 1 ∨ d.1 = 2) by omega), if_neg (show ¬ (d.1 = 3 ∨ d.1 = 5 ∨ d.1 = 9) by omega), if_neg (show ¬ (d.1 = 4 ∨ d.1 = 6 ∨ d.1 = 7 ∨ d.1 = 80) by omega), if_pos (show d.1 = 8 by omega)] at hw
      rw [if_neg (show ¬ (d.1 = 1) by omega), if_neg (show ¬ (d.1 = 2) by omega), if_neg (show ¬ (d.1 = 3) by omega), if_neg (show ¬ (d.1 = 5 ∨ d.1 = 9) by omega), if_neg (show ¬ (d.1 = 10) by omega)] at hg
      rw [if_neg (show ¬ (d.1 = 1 ∨ d.1 = 2) by omega), if_neg (show ¬ (d.1 = 3 ∨ d.1 = 5 ∨ d.1 = 9 ∨ d.1 = 10) by omega), if_pos (show d.1 = 6 ∨ d.1 = 7 ∨ d.1 = 8 ∨ d.1 = 80 by omega)] at hm
      rw [if_neg (show ¬ (d.1 = 1 ∨ d.1 = 2) by omega), if_neg (show ¬ (d.1 = 3 ∨ d.1 = 5) by omega), if_neg (show ¬ (d.1 = 4) by omega), if_neg (show ¬ (d.1 = 9) by omega), if_neg (show ¬ (d.1 = 10) by omega)] at hz
      have l8 := xt_ln_80 hw.2.2.1
      have l9 := xt_ln_0 (xt_l r)
      exact ⟨ihl _ _ hw.2.1 (fun _ => hw.1.2.2) hg.1 (by omega) (by omega) (by omega) (by omega) h.1, ⟨h.2.1, wi_j ⟨by omega, by omega⟩ (by decide) ⟨by omega, by omega⟩⟩, ihr _ _ hw.2.2.2 (fun g => absurd hw.2.2.1 (by omega)) hg.2 (by omega) (by omega) (by omega) (by omega) h.2.2⟩
    by_cases q80 : d.1 = 80
    · rw [if_neg q1, if_neg q2, if_neg q3, if_neg q4, if_neg q5, if_neg q6, if_neg q8, if_pos q80] at h ⊢
      rw [if_neg (show ¬ (d.1 = 1 ∨ d.1 = 2) by omega), if_neg (show ¬ (d.1 = 3 ∨ d.1 = 5 ∨ d.1 = 9) by omega), if_pos (show d.1 = 4 ∨ d.1 = 6 ∨ d.1 = 7 ∨ d.1 = 80 by omega)] at hw
      rw [if_neg (show ¬ (d.1 = 1) by omega), if_neg (show ¬ (d.1 = 2) by omega), if_neg (show ¬ (d.1 = 3) by omega), if_neg (show ¬ (d.1 = 5 ∨ d.1 = 9) by omega), if_neg (show ¬ (d.1 = 10) by omega)] at hg
      rw [if_neg (show ¬ (d.1 = 1 ∨ d.1 = 2) by omega), if_neg (show ¬ (d.1 = 3 ∨ d.1 = 5 ∨ d.1 = 9 ∨ d.1 = 10) by omega), if_pos (show d.1 = 6 ∨ d.1 = 7 ∨ d.1 = 8 ∨ d.1 = 80 by omega)] at hm
      rw [if_neg (show ¬ (d.1 = 1 ∨ d.1 = 2) by omega), if_neg (show ¬ (d.1 = 3 ∨ d.1 = 5) by omega), if_neg (show ¬ (d.1 = 4) by omega), if_neg (show ¬ (d.1 = 9) by omega), if_neg (show ¬ (d.1 = 10) by omega)] at hz
      exact ⟨ihl _ _ hw.2.1 (fun _ => hw.1.2.2) hg.1 (by omega) (by omega) (by omega) (by omega) h.1, ⟨h.2.1, wi_j ⟨by omega, by omega⟩ (by decide) ⟨by omega, by omega⟩⟩, ihr _ _ hw.2.2.2 (fun _ => hw.2.2.1.2.2) hg.2 (by omega) (by omega) (by omega) (by omega) h.2.2⟩
    by_cases q9 : d.1 = 9
    · rw [if_neg q1, if_neg q2, if_neg q3, if_neg q4, if_neg q5, if_neg q6, if_neg q8, if_neg q80, if_pos q9] at h ⊢
      rw [if_neg (show ¬ (d.1 = 1 ∨ d.1 = 2) by omega), if_pos (show d.1 = 3 ∨ d.1 = 5 ∨ d.1 = 9 by omega)] at hw
      rw [if_neg (show ¬ (d.1 = 1) by omega), if_neg (show ¬ (d.1 = 2) by omega), if_neg (show ¬ (d.1 = 3) by omega), if_pos (show d.1 = 5 ∨ d.1 = 9 by omega)] at hg
      rw [if_neg (show ¬ (d.1 = 1 ∨ d.1 = 2) by omega), if_pos (show d.1 = 3 ∨ d.1 = 5 ∨ d.1 = 9 ∨ d.1 = 10 by omega)] at hm
      rw [if_neg (show ¬ (d.1 = 1 ∨ d.1 = 2) by omega), if_neg (show ¬ (d.1 = 3 ∨ d.1 = 5) by omega), if_neg (show ¬ (d.1 = 4) by omega), if_pos (show d.1 = 9 by omega)] at hz
      exact ⟨ihl _ _ hw.2 (fun _ => hw.1.2.2) hg (by omega) (by omega) (by omega) (by omega) h.1, ⟨h.2.1, wi_n ⟨by omega, by omega⟩ (Or.inr (Or.inr (Or.inl (by decide))))⟩, h.2.2, wi_n ⟨by omega, by omega⟩ (Or.inr (Or.inr (Or.inl (by decide))))⟩
    by_cases q10 : d.1 = 10
    · rw [if_neg q1, if_neg q2, if_neg q3, if_neg q4, if_neg q5, if_neg q6, if_neg q8, if_neg q80, if_neg q9, if_pos q10] at h ⊢
      rw [if_neg (show ¬ (d.1 = 1 ∨ d.1 = 2) by omega), if_neg (show ¬ (d.1 = 3 ∨ d.1 = 5 ∨ d.1 = 9) by omega), if_neg (show ¬ (d.1 = 4 ∨ d.1 = 6 ∨ d.1 = 7 ∨ d.1 = 80) by omega), if_neg (show ¬ (d.1 = 8) by omega), if_pos (show d.1 = 10 by omega)] at hw
      rw [if_neg (show ¬ (d.1 = 1) by omega), if_neg (show ¬ (d.1 = 2) by omega), if_neg (show ¬ (d.1 = 3) by omega), if_neg (show ¬ (d.1 = 5 ∨ d.1 = 9) by omega), if_pos (show d.1 = 10 by omega)] at hg
      rw [if_neg (show ¬ (d.1 = 1 ∨ d.1 = 2) by omega), if_pos (show d.1 = 3 ∨ d.1 = 5 ∨ d.1 = 9 ∨ d.1 = 10 by omega)] at hm
      rw [if_neg (show ¬ (d.1 = 1 ∨ d.1 = 2) by omega), if_neg (show ¬ (d.1 = 3 ∨ d.1 = 5) by omega), if_neg (show ¬ (d.1 = 4) by omega), if_neg (show ¬ (d.1 = 9) by omega), if_pos (show d.1 = 10 by omega)] at hz
      have n0 := xt_na_0 l
      have lq : xt_k l ≤ 10 → xt_q l := fun g => by
        rcases hw.1 with q | q
        · rw [q]
          exact trivial
        · omega
      have mna : xt_na l = 0 ∨ t + xt_na l ≤ mt := by
        rcases xt_mt_na l hw.2 hw.1 t with q | q
        · exact Or.inl q
        · exact Or.inr (by omega)
      exact ⟨ihl _ _ hw.2 lq hg.2 (by omega) (by omega) (by omega) (by omega) h.1, xt_ps_w l _ _ _ (hK _ _ hg.1).2 (by omega) mna (by omega) (by omega) h.2.1, h.2.2, wi_f ⟨by omega, by omega⟩ (hK _ _ hg.1).1⟩
    by_cases q11 : d.1 = 11
    · rw [if_neg q1, if_neg q2, if_neg q3, if_neg q4, if_neg q5, if_neg q6, if_neg q8, if_neg q80, if_neg q9, if_neg q10] at h ⊢
      rw [if_neg (show ¬ (d.1 = 1 ∨ d.1 = 2) by omega), if_neg (show ¬ (d.1 = 3 ∨ d.1 = 5 ∨ d.1 = 9) by omega), if_neg (show ¬ (d.1 = 4 ∨ d.1 = 6 ∨ d.1 = 7 ∨ d.1 = 80) by omega), if_neg (show ¬ (d.1 = 8) by omega), if_neg (show ¬ (d.1 = 10) by omega), if_pos (show d.1 = 11 by omega)] at hw
      rw [if_neg (show ¬ (d.1 = 1) by omega), if_neg (show ¬ (d.1 = 2) by omega), if_neg (show ¬ (d.1 = 3) by omega), if_neg (show ¬ (d.1 = 5 ∨ d.1 = 9) by omega), if_neg (show ¬ (d.1 = 10) by omega)] at hg
      rw [if_neg (show ¬ (d.1 = 1 ∨ d.1 = 2) by omega), if_neg (show ¬ (d.1 = 3 ∨ d.1 = 5 ∨ d.1 = 9 ∨ d.1 = 10) by omega), if_neg (show ¬ (d.1 = 6 ∨ d.1 = 7 ∨ d.1 = 8 ∨ d.1 = 80) by omega)] at hm
      rw [if_neg (show ¬ (d.1 = 1 ∨ d.1 = 2) by omega), if_neg (show ¬ (d.1 = 3 ∨ d.1 = 5) by omega), if_neg (show ¬ (d.1 = 4) by omega), if_neg (show ¬ (d.1 = 9) by omega), if_neg (show ¬ (d.1 = 10) by omega)] at hz
      have rq : xt_k r ≤ 10 → xt_q r := fun g => by
        rcases hw.2.2.1 with q | q
        · rw [q]
          exact trivial
        · omega
      exact ⟨ihl _ _ hw.2.1 (fun _ => hw.1.2.2) hg.1 (by omega) (by omega) (by omega) (by omega) h.1, ⟨h.2.1, wi_t ⟨by omega, by omega⟩ (Or.inr rfl) ⟨by omega, by omega⟩⟩, ihr _ _ hw.2.2.2 rq hg.2 (by omega) (by omega) (by omega) (by omega) h.2.2⟩
    rw [if_neg (show ¬ (d.1 = 1 ∨ d.1 = 2) by omega), if_neg (show ¬ (d.1 = 3 ∨ d.1 = 5 ∨ d.1 = 9) by omega), if_neg (show ¬ (d.1 = 4 ∨ d.1 = 6 ∨ d.1 = 7 ∨ d.1 = 80) by omega), if_neg (show ¬ (d.1 = 8) by omega), if_neg (show ¬ (d.1 = 10) by omega), if_neg (show ¬ (d.1 = 11) by omega)] at hw
    exact absurd hw id
theorem ls_k {l : tr_T} (h : l = .leaf ∨ xt_k l = 90) : xt_k l = 0 ∨ xt_k l = 90 := h.elim (fun q => Or.inl (by rw [q]; rfl)) Or.inr
theorem st_cd_w {P : Int → xt_I → Prop} {S S1 K1 : Int → Prop} {Z K : Int → Int → Prop} {U : Int → Int → Int → Prop} {V : Int → Int → Int → Int → Prop} {mt a z : Int} (hS : ∀ s : Int, S s → S1 s) (hK : ∀ s k : Int, K s k → K1 s ∧ ∀ j : Int, 0 ≤ j → j < k → S1 (s + 1 + j)) (e : tr_T) : ∀ t p y : Int, st_w e → st_g S Z K U V e → 0 ≤ t → (xt_k e = 25 → 1 ≤ t ∧ t ≤ mt) → (xt_k e = 0 ∨ xt_k e = 90 ∨ a ≤ y ∧ y < z) → st_mt e t ≤ mt → a ≤ p → p + st_ln e < z → st_cd P e t p y → st_cd (fun i I => P i I ∧ wi_I S1 Z K1 mt a z i I) e t p y := by
  induction e with
  | leaf => intro t p y _ _ _ _ _ _ _ _ _; exact trivial
  | inner z0 d v l r ihl ihr =>
    intro t p y hw hg ht h25 hy hm ha hz h
    replace h25 : d.1 = 25 → 1 ≤ t ∧ t ≤ mt := h25
    replace hy : d.1 = 0 ∨ d.1 = 90 ∨ a ≤ y ∧ y < z := hy
    have nl := st_ln_0 l
    have nr := st_ln_0 r
    have xl := xt_ln_0 l
    have xr := xt_ln_0 r
    rw [st_w] at hw
    rw [st_g] at hg
    rw [st_mt] at hm
    rw [st_ln] at hz
    rw [st_cd] at h ⊢
    by_cases q90 : d.1 = 90
    · rw [if_pos q90] at h hg hw hm hz ⊢
      have lk := hw.1
      exact ⟨ihl _ _ _ hw.2.1 hg.1 (by omega) (fun q => absurd q (by omega)) (Or.inr (Or.inr ⟨by omega, by omega⟩)) (by omega) (by omega) (by omega) h.1, ihr _ _ _ hw.2.2.2 hg.2 (by omega) (fun q => absurd (ls_k hw.2.2.1) (by omega)) (by have := ls_k hw.2.2.1; omega) (by omega) (by omega) (by omega) h.2⟩
    by_cases q20 : d.1 = 20
    · rw [if_neg q90, if_pos q20] at h hg hw hm hz ⊢
      exact ⟨xt_cd_w hS hK l _ _ hw.2 (fun _ => hw.1.2.2) hg.2 (by omega) (by omega) (by omega) (by omega) h.1, h.2, wi_v ⟨by omega, by omega⟩ (Or.inr rfl) (hS _ hg.1)⟩
    by_cases q21 : d.1 = 21
    · rw [if_neg q90, if_neg q20, if_pos q21] at h hg hw hm hz ⊢
      exact ⟨xt_cd_w hS hK l _ _ hw.2.1 (fun _ => hw.1.2.2) hg.2.2.1 (by omega) (by omega) (by omega) (by omega) h.1, ⟨h.2.1, wi_t ⟨by omega, by omega⟩ (Or.inr rfl) ⟨by omega, by omega⟩⟩, xt_cd_w hS hK r _ _ hw.2.2.2 (fun _ => hw.2.2.1.2.2) hg.2.2.2 (by omega) (by omega) (by omega) (by omega) h.2.2.1, ⟨h.2.2.2.1, wi_t ⟨by omega, by omega⟩ (Or.inr rfl) ⟨by omega, by omega⟩⟩, ⟨h.2.2.2.2.1, wi_t ⟨by omega, by omega⟩ (Or.inl rfl) ⟨by omega, by omega⟩⟩, ⟨h.2.2.2.2.2.1, wi_n ⟨by omega, by omega⟩ (Or.inr (Or.inl rfl))⟩, ⟨h.2.2.2.2.2.2.1, wi_t ⟨by omega, by omega⟩ (Or.inl rfl) ⟨by omega, by omega⟩⟩, h.2.2.2.2.2.2.2, wi_x ⟨by omega, by omega⟩ (Or.inr rfl) (hS _ hg.1) hg.2.1⟩
    by_cases q22 : d.1 = 22
    · rw [if_neg q90, if_neg q20, if_neg q21, if_pos q22] at h hg hw hm hz ⊢
      exact ⟨⟨h.1, wi_n ⟨by omega, by omega⟩ (Or.inl rfl)⟩, fun k g1 g2 => ⟨h.2 k g1 g2, wi_w ⟨by omega, by omega⟩ (hS _ hg.1) hg.2.1 ⟨g1, g2⟩⟩⟩
    by_cases q23 : d.1 = 23
    · rw [if_neg q90, if_neg q20, if_neg q21, if_neg q22, if_pos q23] at h hg hw hm hz ⊢
      exact ⟨xt_cd_w hS hK l _ _ hw.2 (fun _ => hw.1.2.2) hg (by omega) (by omega) (by omega) (by omega) h.1, h.2, wi_n ⟨by omega, by omega⟩ (Or.inr (Or.inr (Or.inr rfl)))⟩
    by_cases q24 : d.1 = 24
    · rw [if_neg q90, if_neg q20, if_neg q21, if_neg q22, if_neg q23, if_pos q24] at h hg hw hm hz ⊢
      exact ⟨xt_cd_w hS hK l _ _ hw.2.1 (fun _ => hw.1.2.2) hg.1 (by omega) (by omega) (by omega) (by omega) h.1, ⟨h.2.1, wi_t ⟨by omega, by omega⟩ (Or.inr rfl) ⟨by omega, by omega⟩⟩, ihr _ _ _ hw.2.2.2.1 hg.2 (by omega) (fun q => ⟨by omega, by omega⟩) (Or.inr (Or.inr ⟨by omega, by omega⟩)) (by omega) (by omega) (by omega) h.2.2⟩
    by_cases q25 : d.1 = 25
    · rw [if_neg q90, if_neg q20, if_neg q21, if_neg q22, if_neg q23, if_neg q24, if_pos q25] at h hg hw hm hz ⊢
      have w5 : 5 ≤ (if d.2.1 = 1 then (10 : Int) else 5) ∧ (d.2.1 = 1 → (if d.2.1 = 1 then (10 : Int) else 5) = 10) := by
        by_cases q : d.2.1 = 1
        · rw [if_pos q]
          exact ⟨by decide, fun _ => rfl⟩
        · rw [if_neg q]
          exact ⟨by decide, fun g => absurd g q⟩
      generalize (if d.2.1 = 1 then (10 : Int) else 5) = w at w5 h hz ⊢
      have h5 := h25 q25
      exact ⟨⟨h.1, wi_n ⟨by omega, by omega⟩ (Or.inl rfl)⟩, ⟨h.2.1, wi_n ⟨by omega, by omega⟩ (Or.inr (Or.inl rfl))⟩, ⟨h.2.2.1, wi_t ⟨by omega, by omega⟩ (Or.inl rfl) ⟨by omega, by omega⟩⟩, ⟨h.2.2.2.1, wi_n ⟨by omega, by omega⟩ (Or.inr (Or.inr (Or.inl (by split <;> decide))))⟩, ⟨h.2.2.2.2.1, wi_j ⟨by omega, by omega⟩ (by decide) ⟨by omega, by omega⟩⟩, fun q => ⟨⟨(h.2.2.2.2.2.1 q).1, wi_n ⟨by have := w5.2 q; omega, by have := w5.2 q; omega⟩ (Or.inl rfl)⟩, ⟨(h.2.2.2.2.2.1 q).2.1, wi_n ⟨by have := w5.2 q; omega, by have := w5.2 q; omega⟩ (Or.inr (Or.inl rfl))⟩, ⟨(h.2.2.2.2.2.1 q).2.2.1, wi_t ⟨by have := w5.2 q; omega, by have := w5.2 q; omega⟩ (Or.inl rfl) ⟨by have := w5.2 q; omega, by have := w5.2 q; omega⟩⟩, ⟨(h.2.2.2.2.2.1 q).2.2.2.1, wi_n ⟨by have := w5.2 q; omega, by have := w5.2 q; omega⟩ (Or.inr (Or.inr (Or.inl (by decide))))⟩, (h.2.2.2.2.2.1 q).2.2.2.2, wi_j ⟨by have := w5.2 q; omega, by have := w5.2 q; omega⟩ (by decide) ⟨by have := w5.2 q; omega, by have := w5.2 q; omega⟩⟩, ihl _ _ _ hw.2.2.1 hg.1 (by omega) (fun q => absurd (ls_k hw.2.1) (by omega)) (by have := ls_k hw.2.1; omega) (by omega) (by omega) (by omega) h.2.2.2.2.2.2.1, ⟨h.2.2.2.2.2.2.2.1, wi_j ⟨by omega, by omega⟩ (by decide) ⟨by omega, by omega⟩⟩, ihr _ _ _ hw.2.2.2.2 hg.2 (by omega) (fun q => ⟨by omega, by omega⟩) (Or.inr (Or.inr ⟨by omega, by omega⟩)) (by omega) (by omega) (by omega) h.2.2.2.2.2.2.2.2⟩
    by_cases q26 : d.1 = 26
    · rw [if_neg q90, if_neg q20, if_neg q21, if_neg q22, if_neg q23, if_neg q24, if_neg q25, if_pos q26] at h hg hw hm hz ⊢
      have l92 := st_ln_92 hw.2.2.1
      rw [hw.2.2.2.1] at l92
      have w0 : 0 ≤ (if 0 < d.2.2.2.1 then (1 : Int) else 0) := by split <;> decide
      have ll := st_ln_0 (xt_l r)
      generalize (if 0 < d.2.2.2.1 then (1 : Int) else 0) = w at l92 w0 h ⊢
      exact ⟨xt_cd_w hS hK l _ _ hw.2.1 (fun _ => hw.1.2.2) hg.1 (by omega) (by omega) (by omega) (by omega) h.1, ⟨h.2.1, wi_j ⟨by omega, by omega⟩ (by decide) ⟨by omega, by omega⟩⟩, ihr _ _ _ hw.2.2.2.2 hg.2 (by omega) (fun q => absurd q (by have := hw.2.2.1; omega)) (Or.inr (Or.inr ⟨by omega, by omega⟩)) (by omega) (by omega) (by omega) h.2.2⟩
    by_cases q27 : d.1 = 27
    · rw [if_neg q90, if_neg q20, if_neg q21, if_neg q22, if_neg q23, if_neg q24, if_neg q25, if_neg q26, if_pos q27] at h hg hw hm hz ⊢
      exact ⟨⟨h.1, wi_n ⟨by omega, by omega⟩ (Or.inl rfl)⟩, ⟨h.2.1, wi_v ⟨by omega, by omega⟩ (Or.inr rfl) (hS _ hg.1)⟩, ⟨h.2.2.1, wi_n ⟨by omega, by omega⟩ (Or.inl rfl)⟩, ⟨h.2.2.2.1, wi_n ⟨by omega, by omega⟩ (Or.inr (Or.inl rfl))⟩, ⟨h.2.2.2.2.1, wi_v ⟨by omega, by omega⟩ (Or.inl rfl) (hS _ hg.1)⟩, ⟨h.2.2.2.2.2.1, wi_n ⟨by omega, by omega⟩ (Or.inr (Or.inr (Or.inl (by decide))))⟩, ⟨h.2.2.2.2.2.2.1, wi_j ⟨by omega, by omega⟩ (by decide) ⟨by omega, by omega⟩⟩, ihl _ _ _ hw.2.2 hg.2.2 (by omega) (fun q => absurd (ls_k hw.2.1) (by omega)) (by have := ls_k hw.2.1; omega) (by omega) (by omega) (by omega) h.2.2.2.2.2.2.2.1, ⟨h.2.2.2.2.2.2.2.2.1, wi_n ⟨by omega, by omega⟩ (Or.inl rfl)⟩, ⟨h.2.2.2.2.2.2.2.2.2.1, wi_n ⟨by omega, by omega⟩ (Or.inr (Or.inl rfl))⟩, ⟨h.2.2.2.2.2.2.2.2.2.2.1, wi_v ⟨by omega, by omega⟩ (Or.inl rfl) (hS _ hg.1)⟩, ⟨h.2.2.2.2.2.2.2.2.2.2.2.1, wi_n ⟨by omega, by omega⟩ (Or.inr (Or.inr (Or.inl (by decide))))⟩, ⟨h.2.2.2.2.2.2.2.2.2.2.2.2.1, wi_v ⟨by omega, by omega⟩ (Or.inr rfl) (hS _ hg.1)⟩, h.2.2.2.2.2.2.2.2.2.2.2.2.2, wi_j ⟨by omega, by omega⟩ (by decide) ⟨by omega, by omega⟩⟩
    by_cases q28 : d.1 = 28
    · rw [if_neg q90, if_neg q20, if_neg q21, if_neg q22, if_neg q23, if_neg q24, if_neg q25, if_neg q26, if_neg q27, if_pos q28] at h hg hw hm hz ⊢
      exact xt_cd_w hS hK l _ _ hw.2.1 (fun _ => hw.1.2.2) hg (by omega) (by omega) (by omega) (by omega) h
    by_cases q92 : d.1 = 92
    · rw [if_neg q90, if_neg q20, if_neg q21, if_neg q22, if_neg q23, if_neg q24, if_neg q25, if_neg q26, if_neg q27, if_neg q28, if_pos q92] at h hg hw hm hz ⊢
      have w0 : 0 ≤ (if 0 < d.2.2.2.1 then (1 : Int) else 0) ∧ (0 < d.2.2.2.1 → (if 0 < d.2.2.2.1 then (1 : Int) else 0) = 1) := by
        by_cases q : 0 < d.2.2.2.1
        · rw [if_pos q]
          exact ⟨by decide, fun _ => rfl⟩
        · rw [if_neg q]
          exact ⟨by decide, fun g => absurd g q⟩
      generalize (if 0 < d.2.2.2.1 then (1 : Int) else 0) = w at w0 h hz ⊢
      exact ⟨ihl _ _ _ hw.2.1 hg.1 (by omega) (fun q => absurd (ls_k hw.1) (by omega)) (by have := ls_k hw.1; omega) (by omega) (by omega) (by omega) h.1, fun q => ⟨h.2.1 q, wi_j ⟨by have := w0.2 q; omega, by have := w0.2 q; omega⟩ (by decide) ⟨by have := w0.2 q; omega, by have := w0.2 q; omega⟩⟩, ihr _ _ _ hw.2.2.2 hg.2 (by omega) (fun q => absurd q (by rcases hw.2.2.1 with g | g | g <;> first | (rw [g.2]; decide) | (rcases g.2 with g2 | g2 <;> first | (rw [g2]; decide) | omega) | omega)) (Or.inr (Or.inr ⟨by omega, by omega⟩)) (by omega) (by omega) (by omega) h.2.2⟩
    rw [if_neg q90, if_neg q20, if_neg q21, if_neg q22, if_neg q23, if_neg q24, if_neg q25, if_neg q26, if_neg q27, if_neg q28, if_neg q92] at h hg hw hm hz ⊢
    by_cases q93 : d.1 = 93
    · rw [if_pos q93] at hw
      exact ihl _ _ _ hw.2 hg (by omega) (fun q => absurd (ls_k hw.1) (by omega)) (by have := ls_k hw.1; omega) (by omega) (by omega) (by omega) h
    rw [if_neg q93] at hw
    exact absurd hw id
