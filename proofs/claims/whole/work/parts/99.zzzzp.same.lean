/-! part 99.zzzzp: two runs' code of one TERM: the same INSTRUCTION at each place -/
theorem xt_ps_and {P Q : Int → xt_I → Prop} (e : tr_T) : ∀ s t p : Int, xt_ps P e s t p → xt_ps Q e s t p → xt_ps (fun i I => P i I ∧ Q i I) e s t p := by
  induction e with
  | leaf => intro s t p _ _; exact trivial
  | inner z d v l r ihl ihr =>
    intro s t p h1 h2
    exact ⟨⟨h1.1, h2.1⟩, ⟨h1.2.1, h2.2.1⟩, ihr _ _ _ h1.2.2 h2.2.2⟩
theorem xt_ps_cov {P : Int → xt_I → Prop} (e : tr_T) : ∀ s t p : Int, xt_ps P e s t p → ∀ i : Int, p ≤ i → i < p + 2 * xt_na e → ∃ I : xt_I, P i I := by
  induction e with
  | leaf =>
    intro s t p _ i g1 g2
    have : xt_na (Std.DTreeMap.Internal.Impl.leaf : tr_T) = 0 := rfl
    omega
  | inner z d v l r ihl ihr =>
    intro s t p h i g1 g2
    have ea : xt_na (.inner z d v l r) = 1 + xt_na r := rfl
    rw [ea] at g2
    by_cases c1 : i = p
    · rw [c1]
      exact ⟨_, h.1⟩
    by_cases c2 : i = p + 1
    · rw [c2]
      exact ⟨_, h.2.1⟩
    · exact ihr _ _ _ h.2.2 i (by omega) (by omega)
theorem xt_cd_and {P Q : Int → xt_I → Prop} (e : tr_T) : ∀ t p : Int, xt_cd P e t p → xt_cd Q e t p → xt_cd (fun i I => P i I ∧ Q i I) e t p := by
  induction e with
  | leaf => intro t p _ _; exact trivial
  | inner z d v l r ihl ihr =>
    intro t p h1 h2
    rw [xt_cd] at h1 h2 ⊢
    by_cases q1 : d.1 = 1
    · rw [if_pos q1] at h1 h2 ⊢
      exact ⟨h1, h2⟩
    by_cases q2 : d.1 = 2
    · rw [if_neg q1, if_pos q2] at h1 h2 ⊢
      exact ⟨h1, h2⟩
    by_cases q3 : d.1 = 3
    · rw [if_neg q1, if_neg q2, if_pos q3] at h1 h2 ⊢
      exact ⟨ihl _ _ h1.1 h2.1, ⟨h1.2, h2.2⟩⟩
    by_cases q4 : d.1 = 4
    · rw [if_neg q1, if_neg q2, if_neg q3, if_pos q4] at h1 h2 ⊢
      exact ⟨ihl _ _ h1.1 h2.1, ⟨h1.2.1, h2.2.1⟩, ihr _ _ h1.2.2.1 h2.2.2.1, ⟨h1.2.2.2.1, h2.2.2.2.1⟩, ⟨h1.2.2.2.2.1, h2.2.2.2.2.1⟩, ⟨h1.2.2.2.2.2, h2.2.2.2.2.2⟩⟩
    by_cases q5 : d.1 = 5
    · rw [if_neg q1, if_neg q2, if_neg q3, if_neg q4, if_pos q5] at h1 h2 ⊢
      exact ⟨ihl _ _ h1.1 h2.1, ⟨h1.2, h2.2⟩⟩
    by_cases q6 : d.1 = 6 ∨ d.1 = 7
    · rw [if_neg q1, if_neg q2, if_neg q3, if_neg q4, if_neg q5, if_pos q6] at h1 h2 ⊢
      exact ⟨ihl _ _ h1.1 h2.1, ⟨h1.2.1, h2.2.1⟩, ihr _ _ h1.2.2 h2.2.2⟩
    by_cases q8 : d.1 = 8
    · rw [if_neg q1, if_neg q2, if_neg q3, if_neg q4, if_neg q5, if_neg q6, if_pos q8] at h1 h2 ⊢
      exact ⟨ihl _ _ h1.1 h2.1, ⟨h1.2.1, h2.2.1⟩, ihr _ _ h1.2.2 h2.2.2⟩
    by_cases q80 : d.1 = 80
    · rw [if_neg q1, if_neg q2, if_neg q3, if_neg q4, if_neg q5, if_neg q6, if_neg q8, if_pos q80] at h1 h2 ⊢
      exact ⟨ihl _ _ h1.1 h2.1, ⟨h1.2.1, h2.2.1⟩, ihr _ _ h1.2.2 h2.2.2⟩
    by_cases q9 : d.1 = 9
    · rw [if_neg q1, if_neg q2, if_neg q3, if_neg q4, if_neg q5, if_neg q6, if_neg q8, if_neg q80, if_pos q9] at h1 h2 ⊢
      exact ⟨ihl _ _ h1.1 h2.1, ⟨h1.2.1, h2.2.1⟩, ⟨h1.2.2, h2.2.2⟩⟩
    by_cases q10 : d.1 = 10
    · rw [if_neg q1, if_neg q2, if_neg q3, if_neg q4, if_neg q5, if_neg q6, if_neg q8, if_neg q80, if_neg q9, if_pos q10] at h1 h2 ⊢
      exact ⟨ihl _ _ h1.1 h2.1, xt_ps_and l _ _ _ h1.2.1 h2.2.1, ⟨h1.2.2, h2.2.2⟩⟩
    rw [if_neg q1, if_neg q2, if_neg q3, if_neg q4, if_neg q5, if_neg q6, if_neg q8, if_neg q80, if_neg q9, if_neg q10] at h1 h2 ⊢
    exact ⟨ihl _ _ h1.1 h2.1, ⟨h1.2.1, h2.2.1⟩, ihr _ _ h1.2.2 h2.2.2⟩
theorem xt_cd_cov {P : Int → xt_I → Prop} (e : tr_T) : ∀ t p : Int, xt_w e → xt_cd P e t p → ∀ i : Int, p ≤ i → i < p + xt_ln e → ∃ I : xt_I, P i I := by
  induction e with
  | leaf =>
    intro t p _ _ i g1 g2
    have : xt_ln (Std.DTreeMap.Internal.Impl.leaf : tr_T) = 0 := rfl
    omega
  | inner z d v l r ihl ihr =>
    obtain ⟨k, ty, lo, hi, a, b, c⟩ := d
    intro t p hw h i g1 g2
    have l1 := xt_ln_0 l
    have l2 := xt_ln_0 r
    have na := xt_na_0 l
    by_cases q1 : k = 1
    · subst q1
      have hw2 : xt_w (tr_n 1 ty lo hi a b c l r) := hw
      have h2 : xt_cd P (tr_n 1 ty lo hi a b c l r) t p := h
      have g2' : i < p + xt_ln (tr_n 1 ty lo hi a b c l r) := g2
      rw [xt_w1] at hw2
      rw [xt_cd1] at h2
      rw [xt_ln1] at g2'
      have ei : i = p := by omega
      rw [ei]
      exact ⟨_, h2⟩
    by_cases q2 : k = 2
    · subst q2
      have hw2 : xt_w (tr_n 2 ty lo hi a b c l r) := hw
      have h2 : xt_cd P (tr_n 2 ty lo hi a b c l r) t p := h
      have g2' : i < p + xt_ln (tr_n 2 ty lo hi a b c l r) := g2
      rw [xt_w2] at hw2
      rw [xt_cd2] at h2
      rw [xt_ln2] at g2'
      have ei : i = p := by omega
      rw [ei]
      exact ⟨_, h2⟩
    by_cases q3 : k = 3
    · subst q3
      have hw2 : xt_w (tr_n 3 ty lo hi a b c l r) := hw
      have h2 : xt_cd P (tr_n 3 ty lo hi a b c l r) t p := h
      have g2' : i < p + xt_ln (tr_n 3 ty lo hi a b c l r) := g2
      rw [xt_w3] at hw2
      rw [xt_cd3] at h2
      rw [xt_ln3] at g2'
      by_cases c0 : i < p + xt_ln l
      · exact ihl _ _ hw2.2 h2.1 i (by omega) (by omega)
      have ei : i = p + xt_ln l := by omega
      rw [ei]
      exact ⟨_, h2.2⟩
    by_cases q4 : k = 4
    · subst q4
      have hw2 : xt_w (tr_n 4 ty lo hi a b c l r) := hw
      have h2 : xt_cd P (tr_n 4 ty lo hi a b c l r) t p := h
      have g2' : i < p + xt_ln (tr_n 4 ty lo hi a b c l r) := g2
      rw [xt_w4] at hw2
      rw [xt_cd4] at h2
      rw [xt_ln4] at g2'
      by_cases c0 : i < p + xt_ln l
      · exact ihl _ _ hw2.2.1 h2.1 i (by omega) (by omega)
      by_cases c1 : i = p + xt_ln l
      · rw [c1]
        exact ⟨_, h2.2.1⟩
      by_cases c2 : i < p + xt_ln l + 1 + xt_ln r
      · exact ihr _ _ hw2.2.2.2 h2.2.2.1 i (by omega) (by omega)
      by_cases c3 : i = p + xt_ln l + 1 + xt_ln r
      · rw [c3]
        exact ⟨_, h2.2.2.2.1⟩
      by_cases c4 : i = p + xt_ln l + 1 + xt_ln r + 1
      · rw [c4]
        exact ⟨_, h2.2.2.2.2.1⟩
      have ei : i = p + xt_ln l + 1 + xt_ln r + 2 := by omega
      rw [ei]
      exact ⟨_, h2.2.2.2.2.2⟩
    by_cases q5 : k = 5
    · subst q5
      have hw2 : xt_w (tr_n 5 ty lo hi a b c l r) := hw
      have h2 : xt_cd P (tr_n 5 ty lo hi a b c l r) t p := h
      have g2' : i < p + xt_ln (tr_n 5 ty lo hi a b c l r) := g2
      rw [xt_w5] at hw2
      rw [xt_cd5] at h2
      rw [xt_ln5] at g2'
      by_cases c0 : i < p + xt_ln l
      · exact ihl _ _ hw2.2 h2.1 i (by omega) (by omega)
      have ei : i = p + xt_ln l := by omega
      rw [ei]
      exact ⟨_, h2.2⟩
    by_cases q6 : k = 6
    · subst q6
      have hw2 : xt_w (tr_n 6 ty lo hi a b c l r) := hw
      have h2 : xt_cd P (tr_n 6 ty lo hi a b c l r) t p := h
      have g2' : i < p + xt_ln (tr_n 6 ty lo hi a b c l r) := g2
      rw [xt_w6] at hw2
      rw [xt_cd6] at h2
      rw [xt_ln6] at g2'
      by_cases c0 : i < p + xt_ln l
      · exact ihl _ _ hw2.2.1 h2.1 i (by omega) (by omega)
      by_cases c1 : i = p + xt_ln l
      · rw [c1]
        exact ⟨_, h2.2.1⟩
      exact ihr _ _ hw2.2.2.2 h2.2.2 i (by omega) (by omega)
    by_cases q7 : k = 7
    · subst q7
      have hw2 : xt_w (tr_n 7 ty lo hi a b c l r) := hw
      have h2 : xt_cd P (tr_n 7 ty lo hi a b c l r) t p := h
      have g2' : i < p + xt_ln (tr_n 7 ty lo hi a b c l r) := g2
      rw [xt_w7] at hw2
      rw [xt_cd7] at h2
      rw [xt_ln7] at g2'
      by_cases c0 : i < p + xt_ln l
      · exact ihl _ _ hw2.2.1 h2.1 i (by omega) (by omega)
      by_cases c1 : i = p + xt_ln l
      · rw [c1]
        exact ⟨_, h2.2.1⟩
      exact ihr _ _ hw2.2.2.2 h2.2.2 i (by omega) (by omega)
    by_cases q8 : k = 8
    · subst q8
      have hw2 : xt_w (tr_n 8 ty lo hi a b c l r) := hw
      have h2 : xt_cd P (tr_n 8 ty lo hi a b c l r) t p := h
      have g2' : i < p + xt_ln (tr_n 8 ty lo hi a b c l r) := g2
      rw [xt_w8] at hw2
      rw [xt_cd8] at h2
      rw [xt_ln8] at g2'
      by_cases c0 : i < p + xt_ln l
      · exact ihl _ _ hw2.2.1 h2.1 i (by omega) (by omega)
      by_cases c1 : i = p + xt_ln l
      · rw [c1]
        exact ⟨_, h2.2.1⟩
      exact ihr _ _ hw2.2.2.2 h2.2.2 i (by omega) (by omega)
    by_cases q9 : k = 9
    · subst q9
      have hw2 : xt_w (tr_n 9 ty lo hi a b c l r) := hw
      have h2 : xt_cd P (tr_n 9 ty lo hi a b c l r) t p := h
      have g2' : i < p + xt_ln (tr_n 9 ty lo hi a b c l r) := g2
      rw [xt_w9] at hw2
      rw [xt_cd9] at h2
      rw [xt_ln9] at g2'
      by_cases c0 : i < p + xt_ln l
      · exact ihl _ _ hw2.2 h2.1 i (by omega) (by omega)
      by_cases c1 : i = p + xt_ln l
      · rw [c1]
        exact ⟨_, h2.2.1⟩
      have ei : i = p + xt_ln l + 1 := by omega
      rw [ei]
      exact ⟨_, h2.2.2⟩
    by_cases q10 : k = 10
    · subst q10
      have hw2 : xt_w (tr_n 10 ty lo hi a b c l r) := hw
      have h2 : xt_cd P (tr_n 10 ty lo hi a b c l r) t p := h
      have g2' : i < p + xt_ln (tr_n 10 ty lo hi a b c l r) := g2
      rw [xt_w10] at hw2
      rw [xt_cd10] at h2
      rw [xt_ln10] at g2'
      by_cases c0 : i < p + xt_ln l
      · exact ihl _ _ hw2.2 h2.1 i (by omega) (by omega)
      by_cases c1 : i < p + xt_ln l + 2 * xt_na l
      · exact xt_ps_cov l _ _ _ h2.2.1 i (by omega) (by omega)
      have ei : i = p + xt_ln l + 2 * xt_na l := by omega
      rw [ei]
      exact ⟨_, h2.2.2⟩
    by_cases q11 : k = 11
    · subst q11
      have hw2 : xt_w (tr_n 11 ty lo hi a b c l r) := hw
      have h2 : xt_cd P (tr_n 11 ty lo hi a b c l r) t p := h
      have g2' : i < p + xt_ln (tr_n 11 ty lo hi a b c l r) := g2
      rw [xt_w11] at hw2
      rw [xt_cd11] at h2
      rw [xt_ln11] at g2'
      by_cases c0 : i < p + xt_ln l
      · exact ihl _ _ hw2.2.1 h2.1 i (by omega) (by omega)
      by_cases c1 : i = p + xt_ln l
      · rw [c1]
        exact ⟨_, h2.2.1⟩
      exact ihr _ _ hw2.2.2.2 h2.2.2 i (by omega) (by omega)
    by_cases q80 : k = 80
    · subst q80
      have hw2 : xt_w (tr_n 80 ty lo hi a b c l r) := hw
      have h2 : xt_cd P (tr_n 80 ty lo hi a b c l r) t p := h
      have g2' : i < p + xt_ln (tr_n 80 ty lo hi a b c l r) := g2
      rw [xt_w80] at hw2
      rw [xt_cd80] at h2
      rw [xt_ln80] at g2'
      by_cases c0 : i < p + xt_ln l
      · exact ihl _ _ hw2.2.1 h2.1 i (by omega) (by omega)
      by_cases c1 : i = p + xt_ln l
      · rw [c1]
        exact ⟨_, h2.2.1⟩
      exact ihr _ _ hw2.2.2.2 h2.2.2 i (by omega) (by omega)
    rw [xt_w] at hw
    dsimp only at hw
    rw [if_neg (by omega), if_neg (by omega), if_neg (by omega), if_neg (by omega), if_neg (by omega), if_neg (by omega)] at hw
    exact hw.elim
