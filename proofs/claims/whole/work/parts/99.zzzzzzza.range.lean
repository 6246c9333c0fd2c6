/-! part 99.zzzzzzza: the ranges of INSTRUCTIONS are ranges of ints -/
def gi (I : xt_I) : Prop := (0 ≤ I.1 ∧ I.1 ≤ 30) ∧ (-2147483648 ≤ I.2.2.2.2.2.1 ∧ I.2.2.2.2.2.1 < 2147483648) ∧ -2147483648 ≤ I.2.2.2.2.2.2 ∧ I.2.2.2.2.2.2 < 2147483648
section GI
variable {op k x y s lo hi m : Int} {l e : tr_T} {P : Int → xt_I → Prop}
theorem gi_r (ho : 0 ≤ op ∧ op ≤ 30) (h1 : -2147483648 ≤ lo ∧ lo < 2147483648) (h2 : -2147483648 ≤ hi ∧ hi < 2147483648) : gi (op, k, x, y, s, lo, hi) := ⟨ho, h1, h2⟩
theorem gi_q (ho : 0 ≤ op ∧ op ≤ 30) (h : (-2147483648 ≤ lo ∧ lo < 2147483648) ∧ -2147483648 ≤ hi ∧ hi < 2147483648) : gi (op, k, x, y, s, lo, hi) := ⟨ho, h⟩
theorem gi_10 (ho : 0 ≤ op ∧ op ≤ 30) : gi (op, k, x, y, s, 1, 0) := gi_r ho (by decide) (by decide)
theorem gi_01 (ho : 0 ≤ op ∧ op ≤ 30) : gi (op, k, x, y, s, 0, 1) := gi_r ho (by decide) (by decide)
theorem gi_l (h : xt_e l) : (-2147483648 ≤ xt_lo l ∧ xt_lo l < 2147483648) ∧ -2147483648 ≤ xt_hi l ∧ xt_hi l < 2147483648 := by
  cases l with
  | leaf => exact absurd h.1 (by decide)
  | inner z d v l r => exact h.2.2.1
theorem gi_e (ho : 0 ≤ op ∧ op ≤ 30) (h : xt_e l) : gi (op, k, x, y, s, xt_lo l, xt_hi l) := ⟨ho, gi_l h⟩
theorem gi_m (ho : 0 ≤ op ∧ op ≤ 30) (h : xt_e l) (h2 : -2147483648 ≤ m ∧ m < 2147483648) : gi (op, k, x, y, s, max m (xt_lo l), max m (xt_hi l)) := by
  have := gi_l h
  exact gi_r ho (by omega) (by omega)
theorem xt_ps_gi (e : tr_T) : (e = .leaf ∨ xt_k e = 11) → xt_w e → ∀ s t p : Int, xt_ps P e s t p → xt_ps (fun i I => P i I ∧ gi I) e s t p := by
  induction e with
  | leaf => intro _ _ s t p _; exact trivial
  | inner z0 d v l r ihl ihr =>
    intro hk hw s t p h
    have q11 : d.1 = 11 := hk.elim (fun q => by cases q) (fun q => q)
    rw [xt_w] at hw
    rw [if_neg (show ¬ (d.1 = 1 ∨ d.1 = 2) by omega), if_neg (show ¬ (d.1 = 3 ∨ d.1 = 5 ∨ d.1 = 9) by omega), if_neg (show ¬ (d.1 = 4 ∨ d.1 = 6 ∨ d.1 = 7 ∨ d.1 = 80) by omega), if_neg (show ¬ (d.1 = 8) by omega), if_neg (show ¬ (d.1 = 10) by omega), if_pos q11] at hw
    exact ⟨⟨h.1, gi_e (by decide) hw.1⟩, ⟨h.2.1, gi_10 (by decide)⟩, ihr hw.2.2.1 hw.2.2.2 _ _ _ h.2.2⟩
theorem xt_cd_gi (e : tr_T) : ∀ t p : Int, xt_w e → (xt_k e ≤ 10 → xt_q e) → xt_cd P e t p → xt_cd (fun i I => P i I ∧ gi I) e t p := by
  induction e with
  | leaf => intro t p _ _ _; exact trivial
  | inner z0 d v l r ihl ihr =>
    intro t p hw hq h
    replace hq : d.1 ≤ 10 → ((-2147483648 ≤ d.2.2.1 ∧ d.2.2.1 < 2147483648) ∧ -2147483648 ≤ d.2.2.2.1 ∧ d.2.2.2.1 < 2147483648) ∧ (d.1 = 9 → -2147483648 ≤ d.2.2.2.2.2.1 ∧ d.2.2.2.2.2.1 < 2147483648) ∧ (d.1 = 4 → 6 ≤ d.2.2.2.2.2.2 ∧ d.2.2.2.2.2.2 ≤ 18) ∧ (d.1 = 5 → 19 ≤ d.2.2.2.2.2.2 ∧ d.2.2.2.2.2.2 ≤ 21) := fun g => ⟨(hq g).1, (hq g).2.1, (hq g).2.2⟩
    rw [xt_w] at hw
    rw [xt_cd] at h ⊢
    by_cases q1 : d.1 = 1
    · rw [if_pos q1] at h ⊢
      rw [if_pos (show d.1 = 1 ∨ d.1 = 2 by omega)] at hw
      exact ⟨h, gi_q (by decide) (hq (by omega)).1⟩
    by_cases q2 : d.1 = 2
    · rw [if_neg q1, if_pos q2] at h ⊢
      rw [if_pos (show d.1 = 1 ∨ d.1 = 2 by omega)] at hw
      exact ⟨h, gi_q (by decide) (hq (by omega)).1⟩
    by_cases q3 : d.1 = 3
    · rw [if_neg q1, if_neg q2, if_pos q3] at h ⊢
      rw [if_neg (show ¬ (d.1 = 1 ∨ d.1 = 2) by omega), if_pos (show d.1 = 3 ∨ d.1 = 5 ∨ d.1 = 9 by omega)] at hw
      exact ⟨ihl _ _ hw.2 (fun _ => hw.1.2.2) h.1, h.2, gi_q (by decide) (hq (by omega)).1⟩
    by_cases q4 : d.1 = 4
    · rw [if_neg q1, if_neg q2, if_neg q3, if_pos q4] at h ⊢
      rw [if_neg (show ¬ (d.1 = 1 ∨ d.1 = 2) by omega), if_neg (show ¬ (d.1 = 3 ∨ d.1 = 5 ∨ d.1 = 9) by omega), if_pos (show d.1 = 4 ∨ d.1 = 6 ∨ d.1 = 7 ∨ d.1 = 80 by omega)] at hw
      have op4 : 0 ≤ d.2.2.2.2.2.2 ∧ d.2.2.2.2.2.2 ≤ 30 := by have := (hq (by omega)).2.2.1 q4; omega
      exact ⟨ihl _ _ hw.2.1 (fun _ => hw.1.2.2) h.1, ⟨h.2.1, gi_10 (by decide)⟩, ihr _ _ hw.2.2.2 (fun _ => hw.2.2.1.2.2) h.2.2.1, ⟨h.2.2.2.1, gi_10 (by decide)⟩, ⟨h.2.2.2.2.1, gi_e (by decide) hw.1⟩, h.2.2.2.2.2, gi_q op4 (hq (by omega)).1⟩
    by_cases q5 : d.1 = 5
    · rw [if_neg q1, if_neg q2, if_neg q3, if_neg q4, if_pos q5] at h ⊢
      rw [if_neg (show ¬ (d.1 = 1 ∨ d.1 = 2) by omega), if_pos (show d.1 = 3 ∨ d.1 = 5 ∨ d.1 = 9 by omega)] at hw
      have op5 : 0 ≤ d.2.2.2.2.2.2 ∧ d.2.2.2.2.2.2 ≤ 30 := by have := (hq (by omega)).2.2.2 q5; omega
      exact ⟨ihl _ _ hw.2 (fun _ => hw.1.2.2) h.1, h.2, gi_q op5 (hq (by omega)).1⟩
    by_cases q6 : d.1 = 6 ∨ d.1 = 7
    · rw [if_neg q1, if_neg q2, if_neg q3, if_neg q4, if_neg q5, if_pos q6] at h ⊢
      rw [if_neg (show ¬ (d.1 = 1 ∨ d.1 = 2) by omega), if_neg (show ¬ (d.1 = 3 ∨ d.1 = 5 ∨ d.1 = 9) by omega), if_pos (show d.1 = 4 ∨ d.1 = 6 ∨ d.1 = 7 ∨ d.1 = 80 by omega)] at hw
      exact ⟨ihl _ _ hw.2.1 (fun _ => hw.1.2.2) h.1, ⟨h.2.1, gi_10 (by split <;> decide)⟩, ihr _ _ hw.2.2.2 (fun _ => hw.2.2.1.2.2) h.2.2⟩
    by_cases q8 : d.1 = 8
    · rw [if_neg q1, if_neg q2, if_neg q3, if_neg q4, if_neg q5, if_neg q6, if_pos q8] at h ⊢
      rw [if_neg (show ¬ (d.1 = 1 ∨ d.1 = 2) by omega), if_neg (show ¬ (d.1 = 3 ∨ d.1 = 5 ∨ d.1 = 9) by omega), if_neg (show ¬ (d.1 = 4 ∨ d.1 = 6 ∨ d.1 = 7 ∨ d.1 = 80) by omega), if_pos (show d.1 = 8 by omega)] at hw
      exact ⟨ihl _ _ hw.2.1 (fun _ => hw.1.2.2) h.1, ⟨h.2.1, gi_10 (by decide)⟩, ihr _ _ hw.2.2.2 (fun g => absurd hw.2.2.1 (by omega)) h.2.2⟩
    by_cases q80 : d.1 = 80
    · rw [if_neg q1, if_neg q2, if_neg q3, if_neg q4, if_neg q5, if_neg q6, if_neg q8, if_pos q80] at h ⊢
      rw [if_neg (show ¬ (d.1 = 1 ∨ d.1 = 2) by omega), if_neg (show ¬ (d.1 = 3 ∨ d.1 = 5 ∨ d.1 = 9) by omega), if_pos (show d.1 = 4 ∨ d.1 = 6 ∨ d.1 = 7 ∨ d.1 = 80 by omega)] at hw
      exact ⟨ihl _ _ hw.2.1 (fun _ => hw.1.2.2) h.1, ⟨h.2.1, gi_10 (by decide)⟩, ihr _ _ hw.2.2.2 (fun _ => hw.2.2.1.2.2) h.2.2⟩
    by_cases q9 : d.1 = 9
    · rw [if_neg q1, if_neg q2, if_neg q3, if_neg q4, if_neg q5, if_neg q6, if_neg q8, if_neg q80, if_pos q9] at h ⊢
      rw [if_neg (show ¬ (d.1 = 1 ∨ d.1 = 2) by omega), if_pos (show d.1 = 3 ∨ d.1 = 5 ∨ d.1 = 9 by omega)] at hw
      exact ⟨ihl _ _ hw.2 (fun _ => hw.1.2.2) h.1, ⟨h.2.1, gi_m (by decide) hw.1 ((hq (by omega)).2.1 q9)⟩, h.2.2, gi_q (by decide) (hq (by omega)).1⟩
    by_cases q10 : d.1 = 10
    · rw [if_neg q1, if_neg q2, if_neg q3, if_neg q4, if_neg q5, if_neg q6, if_neg q8, if_neg q80, if_neg q9, if_pos q10] at h ⊢
      rw [if_neg (show ¬ (d.1 = 1 ∨ d.1 = 2) by omega), if_neg (show ¬ (d.1 = 3 ∨ d.1 = 5 ∨ d.1 = 9) by omega), if_neg (show ¬ (d.1 = 4 ∨ d.1 = 6 ∨ d.1 = 7 ∨ d.1 = 80) by omega), if_neg (show ¬ (d.1 = 8) by omega), if_pos (show d.1 = 10 by omega)] at hw
      have lq : xt_k l ≤ 10 → xt_q l := fun g => by
        rcases hw.1 with q | q
        · rw [q]
          exact trivial
        · omega
      exact ⟨ihl _ _ hw.2 lq h.1, xt_ps_gi l hw.1 hw.2 _ _ _ h.2.1, h.2.2, gi_10 (by decide)⟩
    by_cases q11 : d.1 = 11
    · rw [if_neg q1, if_neg q2, if_neg q3, if_neg q4, if_neg q5, if_neg q6, if_neg q8, if_neg q80, if_neg q9, if_neg q10] at h ⊢
      rw [if_neg (show ¬ (d.1 = 1 ∨ d.1 = 2) by omega), if_neg (show ¬ (d.1 = 3 ∨ d.1 = 5 ∨ d.1 = 9) by omega), if_neg (show ¬ (d.1 = 4 ∨ d.1 = 6 ∨ d.1 = 7 ∨ d.1 = 80) by omega), if_neg (show ¬ (d.1 = 8) by omega), if_neg (show ¬ (d.1 = 10) by omega), if_pos (show d.1 = 11 by omega)] at hw
      have rq : xt_k r ≤ 10 → xt_q r := fun g => by
        rcases hw.2.2.1 with q | q
        · rw [q]
          exact trivial
        · omega
      exact ⟨ihl _ _ hw.2.1 (fun _ => hw.1.2.2) h.1, ⟨h.2.1, gi_10 (by decide)⟩, ihr _ _ hw.2.2.2 rq h.2.2⟩
    rw [if_neg (show ¬ (d.1 = 1 ∨ d.1 = 2) by omega), if_neg (show ¬ (d.1 = 3 ∨ d.1 = 5 ∨ d.1 = 9) by omega), if_neg (show ¬ (d.1 = 4 ∨ d.1 = 6 ∨ d.1 = 7 ∨ d.1 = 80) by omega), if_neg (show ¬ (d.1 = 8) by omega), if_neg (show ¬ (d.1 = 10) by omega), if_neg (show ¬ (d.1 = 11) by omega)] at hw
    exact absurd hw id
/-- the arms of a case test a TEMP whose range is one of ints -/
def am_g (e : tr_T) : Prop := ∃ x y : Int, ((-2147483648 ≤ x ∧ x < 2147483648) ∧ -2147483648 ≤ y ∧ y < 2147483648) ∧ am_P x y e
theorem am_0 (h : xt_k e ≠ 25) : am_g e := ⟨0, 0, by decide, by
  cases e with
  | leaf => exact trivial
  | inner z d v l r => exact fun q => absurd q h⟩
theorem st_cd_gi {S : Int → Prop} {Z K : Int → Int → Prop} {U : Int → Int → Int → Prop} {V : Int → Int → Int → Int → Prop} (hU : ∀ s x y : Int, U s x y → -2000000000 ≤ x ∧ x ≤ y ∧ y ≤ 2000000000) (hV : ∀ s v x y : Int, V s v x y → -2000000000 ≤ x ∧ x ≤ y ∧ y ≤ 2000000000) (e : tr_T) : ∀ t p z : Int, st_w e → st_g S Z K U V e → am_g e → st_cd P e t p z → st_cd (fun i I => P i I ∧ gi I) e t p z := by
  induction e with
  | leaf => intro t p z _ _ _ _; exact trivial
  | inner z0 d v l r ihl ihr =>
    intro t p z hw hg hm h
    rw [st_w] at hw
    rw [st_g] at hg
    rw [st_cd] at h ⊢
    by_cases q90 : d.1 = 90
    · rw [if_pos q90] at h hg hw ⊢
      have lk := hw.1
      exact ⟨ihl _ _ _ hw.2.1 hg.1 (am_0 (by omega)) h.1, ihr _ _ _ hw.2.2.2 hg.2 (am_0 (by have := ls_k hw.2.2.1; omega)) h.2⟩
    by_cases q20 : d.1 = 20
    · rw [if_neg q90, if_pos q20] at h hg hw ⊢
      exact ⟨xt_cd_gi l _ _ hw.2 (fun _ => hw.1.2.2) h.1, h.2, gi_10 (by decide)⟩
    by_cases q21 : d.1 = 21
    · rw [if_neg q90, if_neg q20, if_pos q21] at h hg hw ⊢
      exact ⟨xt_cd_gi l _ _ hw.2.1 (fun _ => hw.1.2.2) h.1, ⟨h.2.1, gi_10 (by decide)⟩, xt_cd_gi r _ _ hw.2.2.2 (fun _ => hw.2.2.1.2.2) h.2.2.1, ⟨h.2.2.2.1, gi_10 (by decide)⟩, ⟨h.2.2.2.2.1, gi_e (by decide) hw.1⟩, ⟨h.2.2.2.2.2.1, gi_10 (by decide)⟩, ⟨h.2.2.2.2.2.2.1, gi_e (by decide) hw.2.2.1⟩, h.2.2.2.2.2.2.2, gi_10 (by decide)⟩
    by_cases q22 : d.1 = 22
    · rw [if_neg q90, if_neg q20, if_neg q21, if_pos q22] at h hg hw ⊢
      have g := hV _ _ _ _ hg.2.2
      exact ⟨⟨h.1, gi_r (by decide) (by omega) (by omega)⟩, fun k g1 g2 => ⟨h.2 k g1 g2, gi_10 (by decide)⟩⟩
    by_cases q23 : d.1 = 23
    · rw [if_neg q90, if_neg q20, if_neg q21, if_neg q22, if_pos q23] at h hg hw ⊢
      exact ⟨xt_cd_gi l _ _ hw.2 (fun _ => hw.1.2.2) h.1, h.2, gi_10 (by decide)⟩
    by_cases q24 : d.1 = 24
    · rw [if_neg q90, if_neg q20, if_neg q21, if_neg q22, if_neg q23, if_pos q24] at h hg hw ⊢
      exact ⟨xt_cd_gi l _ _ hw.2.1 (fun _ => hw.1.2.2) h.1, ⟨h.2.1, gi_10 (by decide)⟩, ihr _ _ _ hw.2.2.2.1 hg.2 ⟨xt_lo l, xt_hi l, gi_l hw.1, hw.2.2.2.2⟩ h.2.2⟩
    by_cases q25 : d.1 = 25
    · rw [if_neg q90, if_neg q20, if_neg q21, if_neg q22, if_neg q23, if_neg q24, if_pos q25] at h hg hw ⊢
      obtain ⟨x, y, ⟨rx, ry⟩, am⟩ := hm
      have am' : d.2.2.2.2.2.1 = x ∧ d.2.2.2.2.2.2 = y ∧ am_P x y r := am q25
      have wr := hw.1
      have bx : (-2147483648 ≤ d.2.2.2.2.2.1 ∧ d.2.2.2.2.2.1 < 2147483648) := by rw [am'.1]; exact rx
      have cy : (-2147483648 ≤ d.2.2.2.2.2.2 ∧ d.2.2.2.2.2.2 < 2147483648) := by rw [am'.2.1]; exact ry
      exact ⟨⟨h.1, gi_r (by decide) (by omega) (by omega)⟩, ⟨h.2.1, gi_10 (by decide)⟩, ⟨h.2.2.1, gi_r (by decide) bx cy⟩, ⟨h.2.2.2.1, gi_01 (by split <;> decide)⟩, ⟨h.2.2.2.2.1, gi_10 (by decide)⟩, fun q => ⟨⟨(h.2.2.2.2.2.1 q).1, gi_r (by decide) (by omega) (by omega)⟩, ⟨(h.2.2.2.2.2.1 q).2.1, gi_10 (by decide)⟩, ⟨(h.2.2.2.2.2.1 q).2.2.1, gi_r (by decide) bx cy⟩, ⟨(h.2.2.2.2.2.1 q).2.2.2.1, gi_01 (by decide)⟩, (h.2.2.2.2.2.1 q).2.2.2.2, gi_10 (by decide)⟩, ihl _ _ _ hw.2.2.1 hg.1 (am_0 (by have := ls_k hw.2.1; omega)) h.2.2.2.2.2.2.1, ⟨h.2.2.2.2.2.2.2.1, gi_10 (by decide)⟩, ihr _ _ _ hw.2.2.2.2 hg.2 ⟨x, y, ⟨rx, ry⟩, am'.2.2⟩ h.2.2.2.2.2.2.2.2⟩
    by_cases q26 : d.1 = 26
    · rw [if_neg q90, if_neg q20, if_neg q21, if_neg q22, if_neg q23, if_neg q24, if_neg q25, if_pos q26] at h hg hw ⊢
      exact ⟨xt_cd_gi l _ _ hw.2.1 (fun _ => hw.1.2.2) h.1, ⟨h.2.1, gi_10 (by decide)⟩, ihr _ _ _ hw.2.2.2.2 hg.2 (am_0 (by have := hw.2.2.1; omega)) h.2.2⟩
    by_cases q27 : d.1 = 27
    · rw [if_neg q90, if_neg q20, if_neg q21, if_neg q22, if_neg q23, if_neg q24, if_neg q25, if_neg q26, if_pos q27] at h hg hw ⊢
      have g := hU _ _ _ hg.2.1
      exact ⟨⟨h.1, gi_r (by decide) (by omega) (by omega)⟩, ⟨h.2.1, gi_10 (by decide)⟩, ⟨h.2.2.1, gi_r (by decide) (by omega) (by omega)⟩, ⟨h.2.2.2.1, gi_10 (by decide)⟩, ⟨h.2.2.2.2.1, gi_r (by decide) (by omega) (by omega)⟩, ⟨h.2.2.2.2.2.1, gi_01 (by decide)⟩, ⟨h.2.2.2.2.2.2.1, gi_10 (by decide)⟩, ihl _ _ _ hw.2.2 hg.2.2 (am_0 (by have := ls_k hw.2.1; omega)) h.2.2.2.2.2.2.2.1, ⟨h.2.2.2.2.2.2.2.2.1, gi_r (by decide) (by decide) (by decide)⟩, ⟨h.2.2.2.2.2.2.2.2.2.1, gi_10 (by decide)⟩, ⟨h.2.2.2.2.2.2.2.2.2.2.1, gi_r (by decide) (by omega) (by omega)⟩, ⟨h.2.2.2.2.2.2.2.2.2.2.2.1, gi_r (by decide) (by omega) (by omega)⟩, ⟨h.2.2.2.2.2.2.2.2.2.2.2.2.1, gi_10 (by decide)⟩, h.2.2.2.2.2.2.2.2.2.2.2.2.2, gi_10 (by decide)⟩
    by_cases q28 : d.1 = 28
    · rw [if_neg q90, if_neg q20, if_neg q21, if_neg q22, if_neg q23, if_neg q24, if_neg q25, if_neg q26, if_neg q27, if_pos q28] at h hg hw ⊢
      exact xt_cd_gi l _ _ hw.2.1 (fun _ => hw.1.2.2) h
    by_cases q92 : d.1 = 92
    · rw [if_neg q90, if_neg q20, if_neg q21, if_neg q22, if_neg q23, if_neg q24, if_neg q25, if_neg q26, if_neg q27, if_neg q28, if_pos q92] at h hg hw ⊢
      exact ⟨ihl _ _ _ hw.2.1 hg.1 (am_0 (by have := ls_k hw.1; omega)) h.1, fun q => ⟨h.2.1 q, gi_10 (by decide)⟩, ihr _ _ _ hw.2.2.2 hg.2 (am_0 (by rcases hw.2.2.1 with g | g | g <;> first | (rw [g.2]; decide) | (rcases g.2 with g2 | g2 <;> first | (rw [g2]; decide) | omega) | omega)) h.2.2⟩
    rw [if_neg q90, if_neg q20, if_neg q21, if_neg q22, if_neg q23, if_neg q24, if_neg q25, if_neg q26, if_neg q27, if_neg q28, if_neg q92] at h hg hw ⊢
    by_cases q93 : d.1 = 93
    · rw [if_pos q93] at hw
      exact ihl _ _ _ hw.2 hg (am_0 (by have := ls_k hw.1; omega)) h
    rw [if_neg q93] at hw
    exact absurd hw id
end GI
section GM
variable {B : Int → Int} {Bf : Int → Int → Int} {fb fr : Int → tr_T} {r : tr_T} {ρ ρ' : js_S} {M : Nat}
theorem gi_un {A : Int → Int} {tb P0 : Int} {tf tr : tr_T} {Il : xt_I} {S : Int → Prop} {Z K : Int → Int → Prop} (hl : tf = .leaf ∨ xt_k tf = 90) (hw : st_w tf) (hg : st_g S Z K (su_U ρ) (su_V ρ) tf) (hr : tr = .leaf ∨ xt_e tr ∧ xt_w tr) (hk : st_cd (rk_P A tb ρ') tf 0 P0 0 ∧ xt_cd (rk_P A tb ρ') tr 0 (P0 + st_ln tf) ∧ rk_P A tb ρ' (P0 + st_ln tf + xt_ln tr) Il) (hIl : gi Il) (p : Int) (g1 : P0 ≤ p) (g2 : p < P0 + st_ln tf + xt_ln tr + 1) : (0 ≤ ρ' 111 p ∧ ρ' 111 p ≤ 30) ∧ (-2147483648 ≤ ρ' 114 p ∧ ρ' 114 p < 2147483648) ∧ -2147483648 ≤ ρ' 115 p ∧ ρ' 115 p < 2147483648 := by
  have go : ∀ I : xt_I, rk_P A tb ρ' p I → gi I → (0 ≤ ρ' 111 p ∧ ρ' 111 p ≤ 30) ∧ (-2147483648 ≤ ρ' 114 p ∧ ρ' 114 p < 2147483648) ∧ -2147483648 ≤ ρ' 115 p ∧ ρ' 115 p < 2147483648 := fun I a1 a2 => by
    rw [a1.1, a1.2.2.2.1, a1.2.2.2.2]
    exact a2
  have l1 := st_ln_0 tf
  have l2 := xt_ln_0 tr
  have lk := ls_k hl
  by_cases q1 : p < P0 + st_ln tf
  · have c := st_cd_gi (fun s x y q => ⟨q.2.2.2.2.1, q.2.2.2.2.2.1, q.2.2.2.2.2.2⟩) (fun s v x y q => ⟨q.2.2.2.2.1, q.2.2.2.2.2.1, q.2.2.2.2.2.2⟩) tf 0 P0 0 hw hg (am_0 (by omega)) hk.1
    obtain ⟨I, a1, a2⟩ := st_cd_cov tf _ _ _ hw c p g1 q1
    exact go I a1 a2
  by_cases q2 : p < P0 + st_ln tf + xt_ln tr
  · rcases hr with h | ⟨h1, h2⟩
    · subst h
      have : xt_ln (Std.DTreeMap.Internal.Impl.leaf : tr_T) = 0 := rfl
      omega
    · have c := xt_cd_gi tr 0 (P0 + st_ln tf) h2 (fun _ => h1.2.2) hk.2.1
      obtain ⟨I, a1, a2⟩ := xt_cd_cov tr _ _ h2 c p (by omega) q2
      exact go I a1 a2
  · have e : p = P0 + st_ln tf + xt_ln tr := by omega
    exact go Il (by rw [e]; exact hk.2.2) hIl
/-- all ranges of a program that was made -/
theorem gi_make (hp : mp_R B Bf fb fr M ρ) (hc : mc_R B fb fr r M ρ) (hmf : mf_R B fb fr r M ρ ρ') (h8 : ρ' 83 49 ≤ 8192) : lq_G ρ' := by
  intro p g1 g2
  have codes := hmf.2.2.2.2.2 h8
  have m49 := hmf.2.1.1
  by_cases q : p < fn_p ρ fb fr M
  · obtain ⟨i, i1, i2, i3, i4⟩ := fn_in M g1 q
    have tn : (i : Int).toNat = i := by omega
    obtain ⟨⟨b1, b2, b3, _⟩, rt, _⟩ := hp.2.2.2.2.2.2 i (by omega) (by omega) i2
    have kd := codes.1 i (by omega) (by omega) i2
    unfold kc_P at kd
    rw [tn] at kd
    exact gi_un (ρ := ρ) b1 b2 b3 (rt.elim (fun q => Or.inl q.1) (fun q => Or.inr ⟨q.1, q.2.1⟩)) kd (gi_10 (by decide)) p i3 i4
  · obtain ⟨⟨b1, b2, b3, _⟩, _⟩ := hc
    have lf : xt_ln (Std.DTreeMap.Internal.Impl.leaf : tr_T) = 0 := rfl
    exact gi_un (ρ := ρ) (tr := .leaf) (P0 := fn_p ρ fb fr M) (Il := (29, 0, 0, 0, 0, 1, 0)) b1 b2 b3 (Or.inl rfl) ⟨codes.2.1, trivial, by rw [lf, Int.add_zero]; exact codes.2.2⟩ (gi_10 (by decide)) p (by omega) (by rw [lf]; omega)
end GM
