/-! part 99.zzzzo: counts are not below 0 -/
section CN
variable {B : Int → Int} {S : Int → Prop} {Z K : Int → Int → Prop} {U : Int → Int → Int → Prop} {V : Int → Int → Int → Int → Prop}
theorem xt_cn_nn (hB : ∀ s k : Int, K s k → 0 ≤ B s) (e : tr_T) : xt_w e → xt_g S Z K e → 0 ≤ xt_cn B e := by
  induction e with
  | leaf => intro _ _; exact Int.le_refl _
  | inner z d v l r ihl ihr =>
    obtain ⟨k, ty, lo, hi, a, b, c⟩ := d
    intro hw hg
    by_cases q1 : k = 1
    · subst q1
      show (0 : Int) ≤ xt_cn B (tr_n 1 ty lo hi a b c l r)
      rw [xt_cn1]
      decide
    by_cases q2 : k = 2
    · subst q2
      show (0 : Int) ≤ xt_cn B (tr_n 2 ty lo hi a b c l r)
      rw [xt_cn2]
      decide
    by_cases q3 : k = 3
    · subst q3
      have hw2 : xt_w (tr_n 3 ty lo hi a b c l r) := hw
      have hg2 : xt_g S Z K (tr_n 3 ty lo hi a b c l r) := hg
      rw [xt_w3] at hw2
      rw [xt_g3] at hg2
      show (0 : Int) ≤ xt_cn B (tr_n 3 ty lo hi a b c l r)
      rw [xt_cn3]
      have := ihl hw2.2 hg2.2.2
      omega
    by_cases q4 : k = 4
    · subst q4
      have hw2 : xt_w (tr_n 4 ty lo hi a b c l r) := hw
      have hg2 : xt_g S Z K (tr_n 4 ty lo hi a b c l r) := hg
      rw [xt_w4] at hw2
      rw [xt_g4] at hg2
      show (0 : Int) ≤ xt_cn B (tr_n 4 ty lo hi a b c l r)
      rw [xt_cn4]
      have := ihl hw2.2.1 hg2.1
      have := ihr hw2.2.2.2 hg2.2
      omega
    by_cases q5 : k = 5
    · subst q5
      have hw2 : xt_w (tr_n 5 ty lo hi a b c l r) := hw
      have hg2 : xt_g S Z K (tr_n 5 ty lo hi a b c l r) := hg
      rw [xt_w5] at hw2
      rw [xt_g5] at hg2
      show (0 : Int) ≤ xt_cn B (tr_n 5 ty lo hi a b c l r)
      rw [xt_cn5]
      have := ihl hw2.2 hg2
      omega
    by_cases q6 : k = 6
    · subst q6
      have hw2 : xt_w (tr_n 6 ty lo hi a b c l r) := hw
      have hg2 : xt_g S Z K (tr_n 6 ty lo hi a b c l r) := hg
      rw [xt_w6] at hw2
      rw [xt_g6] at hg2
      show (0 : Int) ≤ xt_cn B (tr_n 6 ty lo hi a b c l r)
      rw [xt_cn6]
      have := ihl hw2.2.1 hg2.1
      have := ihr hw2.2.2.2 hg2.2
      omega
    by_cases q7 : k = 7
    · subst q7
      have hw2 : xt_w (tr_n 7 ty lo hi a b c l r) := hw
      have hg2 : xt_g S Z K (tr_n 7 ty lo hi a b c l r) := hg
      rw [xt_w7] at hw2
      rw [xt_g7] at hg2
      show (0 : Int) ≤ xt_cn B (tr_n 7 ty lo hi a b c l r)
      rw [xt_cn7]
      have := ihl hw2.2.1 hg2.1
      have := ihr hw2.2.2.2 hg2.2
      omega
    by_cases q8 : k = 8
    · subst q8
      have hw2 : xt_w (tr_n 8 ty lo hi a b c l r) := hw
      have hg2 : xt_g S Z K (tr_n 8 ty lo hi a b c l r) := hg
      rw [xt_w8] at hw2
      rw [xt_g8] at hg2
      show (0 : Int) ≤ xt_cn B (tr_n 8 ty lo hi a b c l r)
      rw [xt_cn8]
      have := ihl hw2.2.1 hg2.1
      have := ihr hw2.2.2.2 hg2.2
      omega
    by_cases q9 : k = 9
    · subst q9
      have hw2 : xt_w (tr_n 9 ty lo hi a b c l r) := hw
      have hg2 : xt_g S Z K (tr_n 9 ty lo hi a b c l r) := hg
      rw [xt_w9] at hw2
      rw [xt_g9] at hg2
      show (0 : Int) ≤ xt_cn B (tr_n 9 ty lo hi a b c l r)
      rw [xt_cn9]
      have := ihl hw2.2 hg2
      omega
    by_cases q10 : k = 10
    · subst q10
      have hw2 : xt_w (tr_n 10 ty lo hi a b c l r) := hw
      have hg2 : xt_g S Z K (tr_n 10 ty lo hi a b c l r) := hg
      rw [xt_w10] at hw2
      rw [xt_g10] at hg2
      show (0 : Int) ≤ xt_cn B (tr_n 10 ty lo hi a b c l r)
      rw [xt_cn10]
      have := ihl hw2.2 hg2.2
      have := hB a _ hg2.1
      omega
    by_cases q11 : k = 11
    · subst q11
      have hw2 : xt_w (tr_n 11 ty lo hi a b c l r) := hw
      have hg2 : xt_g S Z K (tr_n 11 ty lo hi a b c l r) := hg
      rw [xt_w11] at hw2
      rw [xt_g11] at hg2
      show (0 : Int) ≤ xt_cn B (tr_n 11 ty lo hi a b c l r)
      rw [xt_cn11]
      have := ihl hw2.2.1 hg2.1
      have := ihr hw2.2.2.2 hg2.2
      omega
    by_cases q80 : k = 80
    · subst q80
      have hw2 : xt_w (tr_n 80 ty lo hi a b c l r) := hw
      have hg2 : xt_g S Z K (tr_n 80 ty lo hi a b c l r) := hg
      rw [xt_w80] at hw2
      rw [xt_g80] at hg2
      show (0 : Int) ≤ xt_cn B (tr_n 80 ty lo hi a b c l r)
      rw [xt_cn80]
      have := ihl hw2.2.1 hg2.1
      omega
    · rw [xt_w] at hw
      dsimp only at hw
      rw [if_neg (by omega), if_neg (by omega), if_neg (by omega), if_neg (by omega), if_neg (by omega), if_neg (by omega)] at hw
      exact hw.elim
end CN
