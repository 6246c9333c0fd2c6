/-! part 99.zzzzu: which SYMBOLS the code of a tree names -/
/-- an INSTRUCTION names a variable, or a fun -/
def xg_I (S K : Int → Prop) (I : xt_I) : Prop := (I.2.1 = 1 → S I.2.2.1) ∧ (I.2.1 ≠ 0 ∧ I.2.1 ≠ 1 ∧ I.2.1 ≠ 2 → K I.2.2.1)
section XG
variable {S1 K1 : Int → Prop} {op x y s lo hi : Int}
theorem xg_0 : xg_I S1 K1 (op, 0, x, y, s, lo, hi) := ⟨fun h => absurd h (show ¬ (0 : Int) = 1 by decide), fun h => absurd rfl h.1⟩
theorem xg_2 : xg_I S1 K1 (op, 2, x, y, s, lo, hi) := ⟨fun h => absurd h (show ¬ (2 : Int) = 1 by decide), fun h => absurd rfl h.2.2⟩
theorem xg_1 (h1 : S1 x) : xg_I S1 K1 (op, 1, x, y, s, lo, hi) := ⟨fun _ => h1, fun h => absurd rfl h.2.1⟩
theorem xg_3 (h1 : K1 x) : xg_I S1 K1 (op, 3, x, y, s, lo, hi) := ⟨fun h => absurd h (show ¬ (3 : Int) = 1 by decide), fun _ => h1⟩
end XG
theorem xt_ps_g {P : Int → xt_I → Prop} {S1 K1 : Int → Prop} (e : tr_T) : ∀ s t p : Int, (∀ j : Int, 0 ≤ j → j < xt_na e → S1 (s + j)) → xt_ps P e s t p → xt_ps (fun i I => P i I ∧ xg_I S1 K1 I) e s t p := by
  induction e with
  | leaf => intro s t p _ _; exact trivial
  | inner z d v l r ihl ihr =>
    intro s t p hs h
    have ea : xt_na (.inner z d v l r) = 1 + xt_na r := rfl
    have n0 := xt_na_0 r
    rw [ea] at hs
    have h0 := hs 0 (by omega) (by omega)
    rw [Int.add_zero] at h0
    refine ⟨⟨h.1, xg_2⟩, ⟨h.2.1, xg_1 h0⟩, ihr _ _ _ (fun j g1 g2 => ?_) h.2.2⟩
    have := hs (1 + j) (by omega) (by omega)
    rw [show s + 1 + j = s + (1 + j) by omega]
    exact this
theorem xt_cd_g {P : Int → xt_I → Prop} {S S1 K1 : Int → Prop} {Z K : Int → Int → Prop} (hS : ∀ s : Int, S s → S1 s) (hK : ∀ s k : Int, K s k → K1 s ∧ ∀ j : Int, 0 ≤ j → j < k → S1 (s + 1 + j)) (e : tr_T) : ∀ t p : Int, xt_g S Z K e → xt_cd P e t p → xt_cd (fun i I => P i I ∧ xg_I S1 K1 I) e t p := by
  induction e with
  | leaf => intro t p _ _; exact trivial
  | inner z d v l r ihl ihr =>
    intro t p hg h
    rw [xt_g] at hg
    rw [xt_cd] at h ⊢
    by_cases q1 : d.1 = 1
    · rw [if_pos q1] at h ⊢
      rw [if_pos (show d.1 = 1 by omega)] at hg
      exact ⟨h, xg_0⟩
    by_cases q2 : d.1 = 2
    · rw [if_neg q1, if_pos q2] at h ⊢
      rw [if_neg (show ¬ (d.1 = 1) by omega), if_pos (show d.1 = 2 by omega)] at hg
      exact ⟨h, xg_1 (hS _ hg)⟩
    by_cases q3 : d.1 = 3
    · rw [if_neg q1, if_neg q2, if_pos q3] at h ⊢
      rw [if_neg (show ¬ (d.1 = 1) by omega), if_neg (show ¬ (d.1 = 2) by omega), if_pos (show d.1 = 3 by omega)] at hg
      exact ⟨ihl _ _ hg.2.2 h.1, h.2, xg_1 (hS _ hg.1)⟩
    by_cases q4 : d.1 = 4
    · rw [if_neg q1, if_neg q2, if_neg q3, if_pos q4] at h ⊢
      rw [if_neg (show ¬ (d.1 = 1) by omega), if_neg (show ¬ (d.1 = 2) by omega), if_neg (show ¬ (d.1 = 3) by omega), if_neg (show ¬ (d.1 = 5 ∨ d.1 = 9) by omega), if_neg (show ¬ (d.1 = 10) by omega)] at hg
      exact ⟨ihl _ _ hg.1 h.1, ⟨h.2.1, xg_2⟩, ihr _ _ hg.2 h.2.2.1, ⟨h.2.2.2.1, xg_0⟩, ⟨h.2.2.2.2.1, xg_2⟩, h.2.2.2.2.2, xg_0⟩
    by_cases q5 : d.1 = 5
    · rw [if_neg q1, if_neg q2, if_neg q3, if_neg q4, if_pos q5] at h ⊢
      rw [if_neg (show ¬ (d.1 = 1) by omega), if_neg (show ¬ (d.1 = 2) by omega), if_neg (show ¬ (d.1 = 3) by omega), if_pos (show d.1 = 5 ∨ d.1 = 9 by omega)] at hg
      exact ⟨ihl _ _ hg h.1, h.2, xg_0⟩
    by_cases q6 : d.1 = 6 ∨ d.1 = 7
    · rw [if_neg q1, if_neg q2, if_neg q3, if_neg q4, if_neg q5, if_pos q6] at h ⊢
      rw [if_neg (show ¬ (d.1 = 1) by omega), if_neg (show ¬ (d.1 = 2) by omega), if_neg (show ¬ (d.1 = 3) by omega), if_neg (show ¬ (d.1 = 5 ∨ d.1 = 9) by omega), if_neg (show ¬ (d.1 = 10) by omega)] at hg
      exact ⟨ihl _ _ hg.1 h.1, ⟨h.2.1, xg_0⟩, ihr _ _ hg.2 h.2.2⟩
    by_cases q8 : d.1 = 8
    · rw [if_neg q1, if_neg q2, if_neg q3, if_neg q4, if_neg q5, if_neg q6, if_pos q8] at h ⊢
      rw [if_neg (show ¬ (d.1 = 1) by omega), if_neg (show ¬ (d.1 = 2) by omega), if_neg (show ¬ (d.1 = 3) by omega), if_neg (show ¬ (d.1 = 5 ∨ d.1 = 9) by omega), if_neg (show ¬ (d.1 = 10) by omega)] at hg
      exact ⟨ihl _ _ hg.1 h.1, ⟨h.2.1, xg_0⟩, ihr _ _ hg.2 h.2.2⟩
    by_cases q80 : d.1 = 80
    · rw [if_neg q1, if_neg q2, if_neg q3, if_neg q4, if_neg q5, if_neg q6, if_neg q8, if_pos q80] at h ⊢
      rw [if_neg (show ¬ (d.1 = 1) by omega), if_neg (show ¬ (d.1 = 2) by omega), if_neg (show ¬ (d.1 = 3) by omega), if_neg (show ¬ (d.1 = 5 ∨ d.1 = 9) by omega), if_neg (show ¬ (d.1 = 10) by omega)] at hg
      exact ⟨ihl _ _ hg.1 h.1, ⟨h.2.1, xg_0⟩, ihr _ _ hg.2 h.2.2⟩
    by_cases q9 : d.1 = 9
    · rw [if_neg q1, if_neg q2, if_neg q3, if_neg q4, if_neg q5, if_neg q6, if_neg q8, if_neg q80, if_pos q9] at h ⊢
      rw [if_neg (show ¬ (d.1 = 1) by omega), if_neg (show ¬ (d.1 = 2) by omega), if_neg (show ¬ (d.1 = 3) by omega), if_pos (show d.1 = 5 ∨ d.1 = 9 by omega)] at hg
      exact ⟨ihl _ _ hg h.1, ⟨h.2.1, xg_0⟩, h.2.2, xg_0⟩
    by_cases q10 : d.1 = 10
    · rw [if_neg q1, if_neg q2, if_neg q3, if_neg q4, if_neg q5, if_neg q6, if_neg q8, if_neg q80, if_neg q9, if_pos q10] at h ⊢
      rw [if_neg (show ¬ (d.1 = 1) by omega), if_neg (show ¬ (d.1 = 2) by omega), if_neg (show ¬ (d.1 = 3) by omega), if_neg (show ¬ (d.1 = 5 ∨ d.1 = 9) by omega), if_pos (show d.1 = 10 by omega)] at hg
      exact ⟨ihl _ _ hg.2 h.1, xt_ps_g l _ _ _ (hK _ _ hg.1).2 h.2.1, h.2.2, xg_3 (hK _ _ hg.1).1⟩
    rw [if_neg q1, if_neg q2, if_neg q3, if_neg q4, if_neg q5, if_neg q6, if_neg q8, if_neg q80, if_neg q9, if_neg q10] at h ⊢
    rw [if_neg (show ¬ (d.1 = 1) by omega), if_neg (show ¬ (d.1 = 2) by omega), if_neg (show ¬ (d.1 = 3) by omega), if_neg (show ¬ (d.1 = 5 ∨ d.1 = 9) by omega), if_neg (show ¬ (d.1 = 10) by omega)] at hg
    exact ⟨ihl _ _ hg.1 h.1, ⟨h.2.1, xg_2⟩, ihr _ _ hg.2 h.2.2⟩
theorem st_cd_g {P : Int → xt_I → Prop} {S S1 K1 : Int → Prop} {Z K : Int → Int → Prop} {U : Int → Int → Int → Prop} {V : Int → Int → Int → Int → Prop} (hS : ∀ s : Int, S s → S1 s) (hK : ∀ s k : Int, K s k → K1 s ∧ ∀ j : Int, 0 ≤ j → j < k → S1 (s + 1 + j)) (e : tr_T) : ∀ t p z : Int, st_g S Z K U V e → st_cd P e t p z → st_cd (fun i I => P i I ∧ xg_I S1 K1 I) e t p z := by
  induction e with
  | leaf => intro t p z _ _; exact trivial
  | inner z0 d v l r ihl ihr =>
    intro t p z hg h
    rw [st_g] at hg
    rw [st_cd] at h ⊢
    by_cases q90 : d.1 = 90
    · rw [if_pos q90] at h hg ⊢
      exact ⟨ihl _ _ _ hg.1 h.1, ihr _ _ _ hg.2 h.2⟩
    by_cases q20 : d.1 = 20
    · rw [if_neg q90, if_pos q20] at h hg ⊢
      exact ⟨xt_cd_g hS hK l _ _ hg.2 h.1, ⟨h.2, xg_1 (hS _ hg.1)⟩⟩
    by_cases q21 : d.1 = 21
    · rw [if_neg q90, if_neg q20, if_pos q21] at h hg ⊢
      exact ⟨xt_cd_g hS hK l _ _ hg.2.2.1 h.1, ⟨h.2.1, xg_2⟩, xt_cd_g hS hK r _ _ hg.2.2.2 h.2.2.1, ⟨h.2.2.2.1, xg_2⟩, ⟨h.2.2.2.2.1, xg_2⟩, ⟨h.2.2.2.2.2.1, xg_0⟩, ⟨h.2.2.2.2.2.2.1, xg_2⟩, ⟨h.2.2.2.2.2.2.2, xg_1 (hS _ hg.1)⟩⟩
    by_cases q22 : d.1 = 22
    · rw [if_neg q90, if_neg q20, if_neg q21, if_pos q22] at h hg ⊢
      exact ⟨⟨h.1, xg_0⟩, fun k g1 g2 => ⟨h.2 k g1 g2, xg_1 (hS _ hg.1)⟩⟩
    by_cases q23 : d.1 = 23
    · rw [if_neg q90, if_neg q20, if_neg q21, if_neg q22, if_pos q23] at h hg ⊢
      exact ⟨xt_cd_g hS hK l _ _ hg h.1, ⟨h.2, xg_0⟩⟩
    by_cases q24 : d.1 = 24
    · rw [if_neg q90, if_neg q20, if_neg q21, if_neg q22, if_neg q23, if_pos q24] at h hg ⊢
      exact ⟨xt_cd_g hS hK l _ _ hg.1 h.1, ⟨h.2.1, xg_2⟩, ihr _ _ _ hg.2 h.2.2⟩
    by_cases q25 : d.1 = 25
    · rw [if_neg q90, if_neg q20, if_neg q21, if_neg q22, if_neg q23, if_neg q24, if_pos q25] at h hg ⊢
      exact ⟨⟨h.1, xg_0⟩, ⟨h.2.1, xg_0⟩, ⟨h.2.2.1, xg_2⟩, ⟨h.2.2.2.1, xg_0⟩, ⟨h.2.2.2.2.1, xg_0⟩, fun q => ⟨⟨(h.2.2.2.2.2.1 q).1, xg_0⟩, ⟨(h.2.2.2.2.2.1 q).2.1, xg_0⟩, ⟨(h.2.2.2.2.2.1 q).2.2.1, xg_2⟩, ⟨(h.2.2.2.2.2.1 q).2.2.2.1, xg_0⟩, ⟨(h.2.2.2.2.2.1 q).2.2.2.2, xg_0⟩⟩, ihl _ _ _ hg.1 h.2.2.2.2.2.2.1, ⟨h.2.2.2.2.2.2.2.1, xg_0⟩, ihr _ _ _ hg.2 h.2.2.2.2.2.2.2.2⟩
    by_cases q26 : d.1 = 26
    · rw [if_neg q90, if_neg q20, if_neg q21, if_neg q22, if_neg q23, if_neg q24, if_neg q25, if_pos q26] at h hg ⊢
      exact ⟨xt_cd_g hS hK l _ _ hg.1 h.1, ⟨h.2.1, xg_0⟩, ihr _ _ _ hg.2 h.2.2⟩
    by_cases q27 : d.1 = 27
    · rw [if_neg q90, if_neg q20, if_neg q21, if_neg q22, if_neg q23, if_neg q24, if_neg q25, if_neg q26, if_pos q27] at h hg ⊢
      exact ⟨⟨h.1, xg_0⟩, ⟨h.2.1, xg_1 (hS _ hg.1)⟩, ⟨h.2.2.1, xg_0⟩, ⟨h.2.2.2.1, xg_0⟩, ⟨h.2.2.2.2.1, xg_1 (hS _ hg.1)⟩, ⟨h.2.2.2.2.2.1, xg_0⟩, ⟨h.2.2.2.2.2.2.1, xg_0⟩, ihl _ _ _ hg.2.2 h.2.2.2.2.2.2.2.1, ⟨h.2.2.2.2.2.2.2.2.1, xg_0⟩, ⟨h.2.2.2.2.2.2.2.2.2.1, xg_0⟩, ⟨h.2.2.2.2.2.2.2.2.2.2.1, xg_1 (hS _ hg.1)⟩, ⟨h.2.2.2.2.2.2.2.2.2.2.2.1, xg_0⟩, ⟨h.2.2.2.2.2.2.2.2.2.2.2.2.1, xg_1 (hS _ hg.1)⟩, ⟨h.2.2.2.2.2.2.2.2.2.2.2.2.2, xg_0⟩⟩
    by_cases q28 : d.1 = 28
    · rw [if_neg q90, if_neg q20, if_neg q21, if_neg q22, if_neg q23, if_neg q24, if_neg q25, if_neg q26, if_neg q27, if_pos q28] at h hg ⊢
      exact xt_cd_g hS hK l _ _ hg h
    by_cases q92 : d.1 = 92
    · rw [if_neg q90, if_neg q20, if_neg q21, if_neg q22, if_neg q23, if_neg q24, if_neg q25, if_neg q26, if_neg q27, if_neg q28, if_pos q92] at h hg ⊢
      exact ⟨ihl _ _ _ hg.1 h.1, fun q => ⟨h.2.1 q, xg_0⟩, ihr _ _ _ hg.2 h.2.2⟩
    rw [if_neg q90, if_neg q20, if_neg q21, if_neg q22, if_neg q23, if_neg q24, if_neg q25, if_neg q26, if_neg q27, if_neg q28, if_neg q92] at h hg ⊢
    exact ihl _ _ _ hg h
