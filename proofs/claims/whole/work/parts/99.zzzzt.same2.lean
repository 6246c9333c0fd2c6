/-! part 99.zzzzt: two runs' code of one list of statements: the same INSTRUCTION at each place -/
theorem st_cd_and {P Q : Int → xt_I → Prop} (e : tr_T) : ∀ t p z : Int, st_cd P e t p z → st_cd Q e t p z → st_cd (fun i I => P i I ∧ Q i I) e t p z := by
  induction e with
  | leaf => intro t p z _ _; exact trivial
  | inner z0 d v l r ihl ihr =>
    intro t p z h1 h2
    rw [st_cd] at h1 h2 ⊢
    by_cases q90 : d.1 = 90
    · rw [if_pos q90] at h1 h2 ⊢
      exact ⟨ihl _ _ _ h1.1 h2.1, ihr _ _ _ h1.2 h2.2⟩
    by_cases q20 : d.1 = 20
    · rw [if_neg q90, if_pos q20] at h1 h2 ⊢
      exact ⟨xt_cd_and l _ _ h1.1 h2.1, ⟨h1.2, h2.2⟩⟩
    by_cases q21 : d.1 = 21
    · rw [if_neg q90, if_neg q20, if_pos q21] at h1 h2 ⊢
      exact ⟨xt_cd_and l _ _ h1.1 h2.1, ⟨h1.2.1, h2.2.1⟩, xt_cd_and r _ _ h1.2.2.1 h2.2.2.1, ⟨h1.2.2.2.1, h2.2.2.2.1⟩, ⟨h1.2.2.2.2.1, h2.2.2.2.2.1⟩, ⟨h1.2.2.2.2.2.1, h2.2.2.2.2.2.1⟩, ⟨h1.2.2.2.2.2.2.1, h2.2.2.2.2.2.2.1⟩, ⟨h1.2.2.2.2.2.2.2, h2.2.2.2.2.2.2.2⟩⟩
    by_cases q22 : d.1 = 22
    · rw [if_neg q90, if_neg q20, if_neg q21, if_pos q22] at h1 h2 ⊢
      exact ⟨⟨h1.1, h2.1⟩, fun k g1 g2 => ⟨h1.2 k g1 g2, h2.2 k g1 g2⟩⟩
    by_cases q23 : d.1 = 23
    · rw [if_neg q90, if_neg q20, if_neg q21, if_neg q22, if_pos q23] at h1 h2 ⊢
      exact ⟨xt_cd_and l _ _ h1.1 h2.1, ⟨h1.2, h2.2⟩⟩
    by_cases q24 : d.1 = 24
    · rw [if_neg q90, if_neg q20, if_neg q21, if_neg q22, if_neg q23, if_pos q24] at h1 h2 ⊢
      exact ⟨xt_cd_and l _ _ h1.1 h2.1, ⟨h1.2.1, h2.2.1⟩, ihr _ _ _ h1.2.2 h2.2.2⟩
    by_cases q25 : d.1 = 25
    · rw [if_neg q90, if_neg q20, if_neg q21, if_neg q22, if_neg q23, if_neg q24, if_pos q25] at h1 h2 ⊢
      exact ⟨⟨h1.1, h2.1⟩, ⟨h1.2.1, h2.2.1⟩, ⟨h1.2.2.1, h2.2.2.1⟩, ⟨h1.2.2.2.1, h2.2.2.2.1⟩, ⟨h1.2.2.2.2.1, h2.2.2.2.2.1⟩, fun q => ⟨⟨(h1.2.2.2.2.2.1 q).1, (h2.2.2.2.2.2.1 q).1⟩, ⟨(h1.2.2.2.2.2.1 q).2.1, (h2.2.2.2.2.2.1 q).2.1⟩, ⟨(h1.2.2.2.2.2.1 q).2.2.1, (h2.2.2.2.2.2.1 q).2.2.1⟩, ⟨(h1.2.2.2.2.2.1 q).2.2.2.1, (h2.2.2.2.2.2.1 q).2.2.2.1⟩, ⟨(h1.2.2.2.2.2.1 q).2.2.2.2, (h2.2.2.2.2.2.1 q).2.2.2.2⟩⟩, ihl _ _ _ h1.2.2.2.2.2.2.1 h2.2.2.2.2.2.2.1, ⟨h1.2.2.2.2.2.2.2.1, h2.2.2.2.2.2.2.2.1⟩, ihr _ _ _ h1.2.2.2.2.2.2.2.2 h2.2.2.2.2.2.2.2.2⟩
    by_cases q26 : d.1 = 26
    · rw [if_neg q90, if_neg q20, if_neg q21, if_neg q22, if_neg q23, if_neg q24, if_neg q25, if_pos q26] at h1 h2 ⊢
      exact ⟨xt_cd_and l _ _ h1.1 h2.1, ⟨h1.2.1, h2.2.1⟩, ihr _ _ _ h1.2.2 h2.2.2⟩
    by_cases q27 : d.1 = 27
    · rw [if_neg q90, if_neg q20, if_neg q21, if_neg q22, if_neg q23, if_neg q24, if_neg q25, if_neg q26, if_pos q27] at h1 h2 ⊢
      exact ⟨⟨h1.1, h2.1⟩, ⟨h1.2.1, h2.2.1⟩, ⟨h1.2.2.1, h2.2.2.1⟩, ⟨h1.2.2.2.1, h2.2.2.2.1⟩, ⟨h1.2.2.2.2.1, h2.2.2.2.2.1⟩, ⟨h1.2.2.2.2.2.1, h2.2.2.2.2.2.1⟩, ⟨h1.2.2.2.2.2.2.1, h2.2.2.2.2.2.2.1⟩, ihl _ _ _ h1.2.2.2.2.2.2.2.1 h2.2.2.2.2.2.2.2.1, ⟨h1.2.2.2.2.2.2.2.2.1, h2.2.2.2.2.2.2.2.2.1⟩, ⟨h1.2.2.2.2.2.2.2.2.2.1, h2.2.2.2.2.2.2.2.2.2.1⟩, ⟨h1.2.2.2.2.2.2.2.2.2.2.1, h2.2.2.2.2.2.2.2.2.2.2.1⟩, ⟨h1.2.2.2.2.2.2.2.2.2.2.2.1, h2.2.2.2.2.2.2.2.2.2.2.2.1⟩, ⟨h1.2.2.2.2.2.2.2.2.2.2.2.2.1, h2.2.2.2.2.2.2.2.2.2.2.2.2.1⟩, ⟨h1.2.2.2.2.2.2.2.2.2.2.2.2.2, h2.2.2.2.2.2.2.2.2.2.2.2.2.2⟩⟩
    by_cases q28 : d.1 = 28
    · rw [if_neg q90, if_neg q20, if_neg q21, if_neg q22, if_neg q23, if_neg q24, if_neg q25, if_neg q26, if_neg q27, if_pos q28] at h1 h2 ⊢
      exact xt_cd_and l _ _ h1 h2
    by_cases q92 : d.1 = 92
    · rw [if_neg q90, if_neg q20, if_neg q21, if_neg q22, if_neg q23, if_neg q24, if_neg q25, if_neg q26, if_neg q27, if_neg q28, if_pos q92] at h1 h2 ⊢
      exact ⟨ihl _ _ _ h1.1 h2.1, fun q => ⟨h1.2.1 q, h2.2.1 q⟩, ihr _ _ _ h1.2.2 h2.2.2⟩
    rw [if_neg q90, if_neg q20, if_neg q21, if_neg q22, if_neg q23, if_neg q24, if_neg q25, if_neg q26, if_neg q27, if_neg q28, if_neg q92] at h1 h2 ⊢
    exact ihl _ _ _ h1 h2
theorem st_cv {P : Int → xt_I → Prop} {i j : Int} {I : xt_I} (h : P j I) (e : i = j) : ∃ I : xt_I, P i I := ⟨I, e ▸ h⟩
theorem st_cd_cov {P : Int → xt_I → Prop} (e : tr_T) : ∀ t p z : Int, st_w e → st_cd P e t p z → ∀ i : Int, p ≤ i → i < p + st_ln e → ∃ I : xt_I, P i I := by
  induction e with
  | leaf =>
    intro t p z _ _ i g1 g2
    have : st_ln (Std.DTreeMap.Internal.Impl.leaf : tr_T) = 0 := rfl
    omega
  | inner z0 d v l r ihl ihr =>
    obtain ⟨k, ty, lo, hi, a, b, c⟩ := d
    intro t p z hw h i g1 g2
    have hk := st_w_x hw
    have l1 := xt_ln_0 l
    have l2 := xt_ln_0 r
    have l3 := st_ln_0 l
    have l4 := st_ln_0 r
    by_cases q90 : k = 90
    · subst q90
      have hw2 : st_w (tr_n 90 ty lo hi a b c l r) := hw
      have h2 : st_cd P (tr_n 90 ty lo hi a b c l r) t p z := h
      have g2' : i < p + st_ln (tr_n 90 ty lo hi a b c l r) := g2
      rw [st_w90] at hw2
      rw [st_cd90] at h2
      rw [st_ln90] at g2'
      by_cases c0 : i < p + (st_ln l)
      · exact ihl _ _ _ hw2.2.1 h2.1 i (by omega) (by omega)
      exact ihr _ _ _ hw2.2.2.2 h2.2 i (by omega) (by omega)
    by_cases q20 : k = 20
    · subst q20
      have hw2 : st_w (tr_n 20 ty lo hi a b c l r) := hw
      have h2 : st_cd P (tr_n 20 ty lo hi a b c l r) t p z := h
      have g2' : i < p + st_ln (tr_n 20 ty lo hi a b c l r) := g2
      rw [st_w20] at hw2
      rw [st_cd20] at h2
      rw [st_ln20] at g2'
      by_cases c0 : i < p + (xt_ln l)
      · exact xt_cd_cov l _ _ hw2.2 h2.1 i (by omega) (by omega)
      have ei := (h2.2)
      exact st_cv ei (by omega)
    by_cases q21 : k = 21
    · subst q21
      have hw2 : st_w (tr_n 21 ty lo hi a b c l r) := hw
      have h2 : st_cd P (tr_n 21 ty lo hi a b c l r) t p z := h
      have g2' : i < p + st_ln (tr_n 21 ty lo hi a b c l r) := g2
      rw [st_w21] at hw2
      rw [st_cd21] at h2
      rw [st_ln21] at g2'
      by_cases c0 : i < p + (xt_ln l)
      · exact xt_cd_cov l _ _ hw2.2.1 h2.1 i (by omega) (by omega)
      by_cases c1 : i < p + (xt_ln l) + (1)
      · have ei := (h2.2.1)
        exact st_cv ei (by omega)
      by_cases c2 : i < p + (xt_ln l) + (1) + (xt_ln r)
      · exact xt_cd_cov r _ _ hw2.2.2.2 h2.2.2.1 i (by omega) (by omega)
      by_cases c3 : i < p + (xt_ln l) + (1) + (xt_ln r) + (1)
      · have ei := (h2.2.2.2.1)
        exact st_cv ei (by omega)
      by_cases c4 : i < p + (xt_ln l) + (1) + (xt_ln r) + (1) + (1)
      · have ei := (h2.2.2.2.2.1)
        exact st_cv ei (by omega)
      by_cases c5 : i < p + (xt_ln l) + (1) + (xt_ln r) + (1) + (1) + (1)
      · have ei := (h2.2.2.2.2.2.1)
        exact st_cv ei (by omega)
      by_cases c6 : i < p + (xt_ln l) + (1) + (xt_ln r) + (1) + (1) + (1) + (1)
      · have ei := (h2.2.2.2.2.2.2.1)
        exact st_cv ei (by omega)
      have ei := (h2.2.2.2.2.2.2.2)
      exact st_cv ei (by omega)
    by_cases q22 : k = 22
    · subst q22
      have hw2 : st_w (tr_n 22 ty lo hi a b c l r) := hw
      have h2 : st_cd P (tr_n 22 ty lo hi a b c l r) t p z := h
      have g2' : i < p + st_ln (tr_n 22 ty lo hi a b c l r) := g2
      rw [st_w22] at hw2
      rw [st_cd22] at h2
      rw [st_ln22] at g2'
      by_cases c0 : i = p
      · exact st_cv h2.1 c0
      · exact st_cv (h2.2 (i - p - 1) (by omega) (by omega)) (by omega)
    by_cases q23 : k = 23
    · subst q23
      have hw2 : st_w (tr_n 23 ty lo hi a b c l r) := hw
      have h2 : st_cd P (tr_n 23 ty lo hi a b c l r) t p z := h
      have g2' : i < p + st_ln (tr_n 23 ty lo hi a b c l r) := g2
      rw [st_w23] at hw2
      rw [st_cd23] at h2
      rw [st_ln23] at g2'
      by_cases c0 : i < p + (xt_ln l)
      · exact xt_cd_cov l _ _ hw2.2 h2.1 i (by omega) (by omega)
      have ei := (h2.2)
      exact st_cv ei (by omega)
    by_cases q24 : k = 24
    · subst q24
      have hw2 : st_w (tr_n 24 ty lo hi a b c l r) := hw
      have h2 : st_cd P (tr_n 24 ty lo hi a b c l r) t p z := h
      have g2' : i < p + st_ln (tr_n 24 ty lo hi a b c l r) := g2
      rw [st_w24] at hw2
      rw [st_cd24] at h2
      rw [st_ln24] at g2'
      by_cases c0 : i < p + (xt_ln l)
      · exact xt_cd_cov l _ _ hw2.2.1 h2.1 i (by omega) (by omega)
      by_cases c1 : i < p + (xt_ln l) + (1)
      · have ei := (h2.2.1)
        exact st_cv ei (by omega)
      exact ihr _ _ _ hw2.2.2.2.1 h2.2.2 i (by omega) (by omega)
    by_cases q25 : k = 25
    · subst q25
      have hw2 : st_w (tr_n 25 ty lo hi a b c l r) := hw
      have h2 : st_cd P (tr_n 25 ty lo hi a b c l r) t p z := h
      have g2' : i < p + st_ln (tr_n 25 ty lo hi a b c l r) := g2
      rw [st_w25] at hw2
      rw [st_cd25] at h2
      rw [st_ln25] at g2'
      by_cases qt : ty = 1
      · simp only [if_pos qt] at h2 g2'
        have h6 := h2.2.2.2.2.2.1 qt
        by_cases c0 : i < p + (1)
        · have ei := (h2.1)
          exact st_cv ei (by omega)
        by_cases c1 : i < p + (1) + (1)
        · have ei := (h2.2.1)
          exact st_cv ei (by omega)
        by_cases c2 : i < p + (1) + (1) + (1)
        · have ei := (h2.2.2.1)
          exact st_cv ei (by omega)
        by_cases c3 : i < p + (1) + (1) + (1) + (1)
        · have ei := (h2.2.2.2.1)
          exact st_cv ei (by omega)
        by_cases c4 : i < p + (1) + (1) + (1) + (1) + (1)
        · have ei := (h2.2.2.2.2.1)
          exact st_cv ei (by omega)
        by_cases c5 : i < p + (1) + (1) + (1) + (1) + (1) + (1)
        · have ei := (h6.1)
          exact st_cv ei (by omega)
        by_cases c6 : i < p + (1) + (1) + (1) + (1) + (1) + (1) + (1)
        · have ei := (h6.2.1)
          exact st_cv ei (by omega)
        by_cases c7 : i < p + (1) + (1) + (1) + (1) + (1) + (1) + (1) + (1)
        · have ei := (h6.2.2.1)
          exact st_cv ei (by omega)
        by_cases c8 : i < p + (1) + (1) + (1) + (1) + (1) + (1) + (1) + (1) + (1)
        · have ei := (h6.2.2.2.1)
          exact st_cv ei (by omega)
        by_cases c9 : i < p + (1) + (1) + (1) + (1) + (1) + (1) + (1) + (1) + (1) + (1)
        · have ei := (h6.2.2.2.2)
          exact st_cv ei (by omega)
        by_cases c10 : i < p + (1) + (1) + (1) + (1) + (1) + (1) + (1) + (1) + (1) + (1) + (st_ln l)
        · exact ihl _ _ _ hw2.2.2.1 h2.2.2.2.2.2.2.1 i (by omega) (by omega)
        by_cases c11 : i < p + (1) + (1) + (1) + (1) + (1) + (1) + (1) + (1) + (1) + (1) + (st_ln l) + (1)
        · have ei := (h2.2.2.2.2.2.2.2.1)
          exact st_cv ei (by omega)
        exact ihr _ _ _ hw2.2.2.2.2 h2.2.2.2.2.2.2.2.2 i (by omega) (by omega)
      · simp only [if_neg qt] at h2 g2'
        by_cases c0 : i < p + (1)
        · have ei := (h2.1)
          exact st_cv ei (by omega)
        by_cases c1 : i < p + (1) + (1)
        · have ei := (h2.2.1)
          exact st_cv ei (by omega)
        by_cases c2 : i < p + (1) + (1) + (1)
        · have ei := (h2.2.2.1)
          exact st_cv ei (by omega)
        by_cases c3 : i < p + (1) + (1) + (1) + (1)
        · have ei := (h2.2.2.2.1)
          exact st_cv ei (by omega)
        by_cases c4 : i < p + (1) + (1) + (1) + (1) + (1)
        · have ei := (h2.2.2.2.2.1)
          exact st_cv ei (by omega)
        by_cases c5 : i < p + (1) + (1) + (1) + (1) + (1) + (st_ln l)
        · exact ihl _ _ _ hw2.2.2.1 h2.2.2.2.2.2.2.1 i (by omega) (by omega)
        by_cases c6 : i < p + (1) + (1) + (1) + (1) + (1) + (st_ln l) + (1)
        · have ei := (h2.2.2.2.2.2.2.2.1)
          exact st_cv ei (by omega)
        exact ihr _ _ _ hw2.2.2.2.2 h2.2.2.2.2.2.2.2.2 i (by omega) (by omega)
    by_cases q26 : k = 26
    · subst q26
      have hw2 : st_w (tr_n 26 ty lo hi a b c l r) := hw
      have h2 : st_cd P (tr_n 26 ty lo hi a b c l r) t p z := h
      have g2' : i < p + st_ln (tr_n 26 ty lo hi a b c l r) := g2
      rw [st_w26] at hw2
      rw [st_cd26] at h2
      rw [st_ln26] at g2'
      by_cases c0 : i < p + (xt_ln l)
      · exact xt_cd_cov l _ _ hw2.2.1 h2.1 i (by omega) (by omega)
      by_cases c1 : i < p + (xt_ln l) + (1)
      · have ei := (h2.2.1)
        exact st_cv ei (by omega)
      exact ihr _ _ _ hw2.2.2.2.2 h2.2.2 i (by omega) (by omega)
    by_cases q27 : k = 27
    · subst q27
      have hw2 : st_w (tr_n 27 ty lo hi a b c l r) := hw
      have h2 : st_cd P (tr_n 27 ty lo hi a b c l r) t p z := h
      have g2' : i < p + st_ln (tr_n 27 ty lo hi a b c l r) := g2
      rw [st_w27] at hw2
      rw [st_cd27] at h2
      rw [st_ln27] at g2'
      by_cases c0 : i < p + (1)
      · have ei := (h2.1)
        exact st_cv ei (by omega)
      by_cases c1 : i < p + (1) + (1)
      · have ei := (h2.2.1)
        exact st_cv ei (by omega)
      by_cases c2 : i < p + (1) + (1) + (1)
      · have ei := (h2.2.2.1)
        exact st_cv ei (by omega)
      by_cases c3 : i < p + (1) + (1) + (1) + (1)
      · have ei := (h2.2.2.2.1)
        exact st_cv ei (by omega)
      by_cases c4 : i < p + (1) + (1) + (1) + (1) + (1)
      · have ei := (h2.2.2.2.2.1)
        exact st_cv ei (by omega)
      by_cases c5 : i < p + (1) + (1) + (1) + (1) + (1) + (1)
      · have ei := (h2.2.2.2.2.2.1)
        exact st_cv ei (by omega)
      by_cases c6 : i < p + (1) + (1) + (1) + (1) + (1) + (1) + (1)
      · have ei := (h2.2.2.2.2.2.2.1)
        exact st_cv ei (by omega)
      by_cases c7 : i < p + (1) + (1) + (1) + (1) + (1) + (1) + (1) + (st_ln l)
      · exact ihl _ _ _ hw2.2.2 h2.2.2.2.2.2.2.2.1 i (by omega) (by omega)
      by_cases c8 : i < p + (1) + (1) + (1) + (1) + (1) + (1) + (1) + (st_ln l) + (1)
      · have ei := (h2.2.2.2.2.2.2.2.2.1)
        exact st_cv ei (by omega)
      by_cases c9 : i < p + (1) + (1) + (1) + (1) + (1) + (1) + (1) + (st_ln l) + (1) + (1)
      · have ei := (h2.2.2.2.2.2.2.2.2.2.1)
        exact st_cv ei (by omega)
      by_cases c10 : i < p + (1) + (1) + (1) + (1) + (1) + (1) + (1) + (st_ln l) + (1) + (1) + (1)
      · have ei := (h2.2.2.2.2.2.2.2.2.2.2.1)
        exact st_cv ei (by omega)
      by_cases c11 : i < p + (1) + (1) + (1) + (1) + (1) + (1) + (1) + (st_ln l) + (1) + (1) + (1) + (1)
      · have ei := (h2.2.2.2.2.2.2.2.2.2.2.2.1)
        exact st_cv ei (by omega)
      by_cases c12 : i < p + (1) + (1) + (1) + (1) + (1) + (1) + (1) + (st_ln l) + (1) + (1) + (1) + (1) + (1)
      · have ei := (h2.2.2.2.2.2.2.2.2.2.2.2.2.1)
        exact st_cv ei (by omega)
      have ei := (h2.2.2.2.2.2.2.2.2.2.2.2.2.2)
      exact st_cv ei (by omega)
    by_cases q28 : k = 28
    · subst q28
      have hw2 : st_w (tr_n 28 ty lo hi a b c l r) := hw
      have h2 : st_cd P (tr_n 28 ty lo hi a b c l r) t p z := h
      have g2' : i < p + st_ln (tr_n 28 ty lo hi a b c l r) := g2
      rw [st_w28] at hw2
      rw [st_cd28] at h2
      rw [st_ln28] at g2'
      exact xt_cd_cov l _ _ hw2.2.1 h2 i (by omega) (by omega)
    by_cases q92 : k = 92
    · subst q92
      have hw2 : st_w (tr_n 92 ty lo hi a b c l r) := hw
      have h2 : st_cd P (tr_n 92 ty lo hi a b c l r) t p z := h
      have g2' : i < p + st_ln (tr_n 92 ty lo hi a b c l r) := g2
      rw [st_w92] at hw2
      rw [st_cd92] at h2
      rw [st_ln92] at g2'
      by_cases qt : 0 < hi
      · simp only [if_pos qt] at h2 g2'
        by_cases c0 : i < p + (st_ln l)
        · exact ihl _ _ _ hw2.2.1 h2.1 i (by omega) (by omega)
        by_cases c1 : i < p + (st_ln l) + (1)
        · have ei := (h2.2.1 qt)
          exact st_cv ei (by omega)
        exact ihr _ _ _ hw2.2.2.2 h2.2.2 i (by omega) (by omega)
      · simp only [if_neg qt] at h2 g2'
        by_cases c0 : i < p + (st_ln l)
        · exact ihl _ _ _ hw2.2.1 h2.1 i (by omega) (by omega)
        exact ihr _ _ _ hw2.2.2.2 h2.2.2 i (by omega) (by omega)
    by_cases q93 : k = 93
    · subst q93
      have hw2 : st_w (tr_n 93 ty lo hi a b c l r) := hw
      have h2 : st_cd P (tr_n 93 ty lo hi a b c l r) t p z := h
      have g2' : i < p + st_ln (tr_n 93 ty lo hi a b c l r) := g2
      rw [st_w93] at hw2
      rw [st_cd93] at h2
      rw [st_ln93] at g2'
      exact ihl _ _ _ hw2.2 h2 i (by omega) (by omega)
    omega
