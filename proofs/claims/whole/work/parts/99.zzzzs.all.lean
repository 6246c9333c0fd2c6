/-! part 99.zzzzs: the reference makes the code of every statement -/
section GS
variable {E : js_E} {B : Int → Int} {S : Int → Prop} {Z K : Int → Int → Prop} {U : Int → Int → Int → Prop} {V : Int → Int → Int → Int → Prop}
theorem st_w_x {z : Nat} {k ty lo hi a b c : Int} {v : Unit} {l r : tr_T} (h : st_w (.inner z (k, ty, lo, hi, a, b, c) v l r)) : k = 90 ∨ 20 ≤ k ∧ k ≤ 28 ∨ k = 92 ∨ k = 93 := by
  rw [st_w] at h
  dsimp only at h
  by_cases q90 : k = 90
  · omega
  by_cases q20 : k = 20
  · omega
  by_cases q21 : k = 21
  · omega
  by_cases q22 : k = 22
  · omega
  by_cases q23 : k = 23
  · omega
  by_cases q24 : k = 24
  · omega
  by_cases q25 : k = 25
  · omega
  by_cases q26 : k = 26
  · omega
  by_cases q27 : k = 27
  · omega
  by_cases q28 : k = 28
  · omega
  by_cases q92 : k = 92
  · omega
  by_cases q93 : k = 93
  · omega
  rw [if_neg q90, if_neg q20, if_neg q21, if_neg q22, if_neg q23, if_neg q24, if_neg q25, if_neg q26, if_neg q27, if_neg q28, if_neg q92, if_neg q93] at h
  exact h.elim
theorem st_cn_nn (hB : ∀ s k : Int, K s k → 0 ≤ B s) (e : tr_T) : st_w e → st_g S Z K U V e → 0 ≤ st_cn B e := by
  induction e with
  | leaf => intro _ _; exact Int.le_refl _
  | inner z d v l r ihl ihr =>
    obtain ⟨k, ty, lo, hi, a, b, c⟩ := d
    intro hw hg
    have hk := st_w_x hw
    by_cases q90 : k = 90
    · subst q90
      have hw2 : st_w (tr_n 90 ty lo hi a b c l r) := hw
      have hg2 : st_g S Z K U V (tr_n 90 ty lo hi a b c l r) := hg
      rw [st_w90] at hw2
      rw [st_g90] at hg2
      show (0 : Int) ≤ st_cn B (tr_n 90 ty lo hi a b c l r)
      rw [st_cn90]
      have := ihl hw2.2.1 hg2.1
      have := ihr hw2.2.2.2 hg2.2
      omega
    by_cases q20 : k = 20
    · subst q20
      have hw2 : st_w (tr_n 20 ty lo hi a b c l r) := hw
      have hg2 : st_g S Z K U V (tr_n 20 ty lo hi a b c l r) := hg
      rw [st_w20] at hw2
      rw [st_g20] at hg2
      show (0 : Int) ≤ st_cn B (tr_n 20 ty lo hi a b c l r)
      rw [st_cn20]
      have := xt_cn_nn hB l hw2.2 hg2.2
      omega
    by_cases q21 : k = 21
    · subst q21
      have hw2 : st_w (tr_n 21 ty lo hi a b c l r) := hw
      have hg2 : st_g S Z K U V (tr_n 21 ty lo hi a b c l r) := hg
      rw [st_w21] at hw2
      rw [st_g21] at hg2
      show (0 : Int) ≤ st_cn B (tr_n 21 ty lo hi a b c l r)
      rw [st_cn21]
      have := xt_cn_nn hB l hw2.2.1 hg2.2.2.1
      have := xt_cn_nn hB r hw2.2.2.2 hg2.2.2.2
      omega
    by_cases q22 : k = 22
    · subst q22
      have hw2 : st_w (tr_n 22 ty lo hi a b c l r) := hw
      have hg2 : st_g S Z K U V (tr_n 22 ty lo hi a b c l r) := hg
      rw [st_w22] at hw2
      rw [st_g22] at hg2
      show (0 : Int) ≤ st_cn B (tr_n 22 ty lo hi a b c l r)
      rw [st_cn22]
      omega
    by_cases q23 : k = 23
    · subst q23
      have hw2 : st_w (tr_n 23 ty lo hi a b c l r) := hw
      have hg2 : st_g S Z K U V (tr_n 23 ty lo hi a b c l r) := hg
      rw [st_w23] at hw2
      rw [st_g23] at hg2
      show (0 : Int) ≤ st_cn B (tr_n 23 ty lo hi a b c l r)
      rw [st_cn23]
      have := xt_cn_nn hB l hw2.2 hg2
      omega
    by_cases q24 : k = 24
    · subst q24
      have hw2 : st_w (tr_n 24 ty lo hi a b c l r) := hw
      have hg2 : st_g S Z K U V (tr_n 24 ty lo hi a b c l r) := hg
      rw [st_w24] at hw2
      rw [st_g24] at hg2
      show (0 : Int) ≤ st_cn B (tr_n 24 ty lo hi a b c l r)
      rw [st_cn24]
      have := xt_cn_nn hB l hw2.2.1 hg2.1
      have := ihr hw2.2.2.2.1 hg2.2
      omega
    by_cases q25 : k = 25
    · subst q25
      have hw2 : st_w (tr_n 25 ty lo hi a b c l r) := hw
      have hg2 : st_g S Z K U V (tr_n 25 ty lo hi a b c l r) := hg
      rw [st_w25] at hw2
      rw [st_g25] at hg2
      show (0 : Int) ≤ st_cn B (tr_n 25 ty lo hi a b c l r)
      rw [st_cn25]
      have := ihl hw2.2.2.1 hg2.1
      have := ihr hw2.2.2.2.2 hg2.2
      split <;> omega
    by_cases q26 : k = 26
    · subst q26
      have hw2 : st_w (tr_n 26 ty lo hi a b c l r) := hw
      have hg2 : st_g S Z K U V (tr_n 26 ty lo hi a b c l r) := hg
      rw [st_w26] at hw2
      rw [st_g26] at hg2
      show (0 : Int) ≤ st_cn B (tr_n 26 ty lo hi a b c l r)
      rw [st_cn26]
      have := xt_cn_nn hB l hw2.2.1 hg2.1
      have := ihr hw2.2.2.2.2 hg2.2
      omega
    by_cases q27 : k = 27
    · subst q27
      have hw2 : st_w (tr_n 27 ty lo hi a b c l r) := hw
      have hg2 : st_g S Z K U V (tr_n 27 ty lo hi a b c l r) := hg
      rw [st_w27] at hw2
      rw [st_g27] at hg2
      show (0 : Int) ≤ st_cn B (tr_n 27 ty lo hi a b c l r)
      rw [st_cn27]
      have h1 := ihl hw2.2.2 hg2.2.2
      have h2 := hw2.1
      have := Int.mul_nonneg (show 0 ≤ hi - lo + 1 by omega) (show 0 ≤ st_cn B l + 11 by omega)
      omega
    by_cases q28 : k = 28
    · subst q28
      have hw2 : st_w (tr_n 28 ty lo hi a b c l r) := hw
      have hg2 : st_g S Z K U V (tr_n 28 ty lo hi a b c l r) := hg
      rw [st_w28] at hw2
      rw [st_g28] at hg2
      show (0 : Int) ≤ st_cn B (tr_n 28 ty lo hi a b c l r)
      rw [st_cn28]
      exact xt_cn_nn hB l hw2.2.1 hg2
    by_cases q92 : k = 92
    · subst q92
      have hw2 : st_w (tr_n 92 ty lo hi a b c l r) := hw
      have hg2 : st_g S Z K U V (tr_n 92 ty lo hi a b c l r) := hg
      rw [st_w92] at hw2
      rw [st_g92] at hg2
      show (0 : Int) ≤ st_cn B (tr_n 92 ty lo hi a b c l r)
      rw [st_cn92]
      have := ihl hw2.2.1 hg2.1
      have := ihr hw2.2.2.2 hg2.2
      split <;> omega
    by_cases q93 : k = 93
    · subst q93
      have hw2 : st_w (tr_n 93 ty lo hi a b c l r) := hw
      have hg2 : st_g S Z K U V (tr_n 93 ty lo hi a b c l r) := hg
      rw [st_w93] at hw2
      rw [st_g93] at hg2
      show (0 : Int) ≤ st_cn B (tr_n 93 ty lo hi a b c l r)
      rw [st_cn93]
      exact ihl hw2.2 hg2
    omega
/-- what is to be shown of a tree of statements, by its kind -/
def gs_A (E : js_E) (B : Int → Int) (S : Int → Prop) (Z K : Int → Int → Prop) (U : Int → Int → Int → Prop) (V : Int → Int → Int → Int → Prop) (e : tr_T) : Prop := ((20 ≤ xt_k e ∧ xt_k e ≤ 28 ∧ xt_k e ≠ 25) → gst_P E B S Z K U V e) ∧ ((xt_k e = 0 ∨ xt_k e = 90) → gli_P E B S Z K U V e) ∧ (xt_k e = 26 → gif_P E B S Z K U V e) ∧ ((xt_k e = 25 ∨ xt_k e = 93) → gar_P E B S Z K U V e) ∧ (xt_k e = 92 → gli_P E B S Z K U V (xt_l e) ∧ (xt_hi e = 1 → gli_P E B S Z K U V (xt_rt e)) ∧ (xt_hi e = 2 → gif_P E B S Z K U V (xt_rt e)))
theorem gs_ls {e : tr_T} (h : gs_A E B S Z K U V e) (hk : e = .leaf ∨ xt_k e = 90) : gli_P E B S Z K U V e := by
  refine h.2.1 ?_
  rcases hk with q | q
  · rw [q]
    exact Or.inl rfl
  · exact Or.inr q
theorem gs_st {k ty lo hi a b c : Int} {l r : tr_T} (h : gst_P E B S Z K U V (tr_n k ty lo hi a b c l r)) (hk : 20 ≤ k ∧ k ≤ 28 ∧ k ≠ 25 ∧ k ≠ 26) : gs_A E B S Z K U V (tr_n k ty lo hi a b c l r) := by
  have ek : xt_k (tr_n k ty lo hi a b c l r) = k := rfl
  unfold gs_A
  rw [ek]
  exact ⟨fun _ => h, fun q => by omega, fun q => by omega, fun q => by omega, fun q => by omega⟩
theorem gst_all (hB : ∀ s k : Int, K s k → 0 ≤ B s) (e : tr_T) : st_w e → st_g S Z K U V e → gs_A E B S Z K U V e := by
  induction e with
  | leaf =>
    intro _ _
    have ek : xt_k (Std.DTreeMap.Internal.Impl.leaf : tr_T) = 0 := rfl
    unfold gs_A
    rw [ek]
    exact ⟨fun q => by omega, fun _ => gli_0, fun q => by omega, fun q => by omega, fun q => by omega⟩
  | inner z d v l r ihl ihr =>
    obtain ⟨k, ty, lo, hi, a, b, c⟩ := d
    intro hw hg
    have hk := st_w_x hw
    by_cases q90 : k = 90
    · subst q90
      have hw2 : st_w (tr_n 90 ty lo hi a b c l r) := hw
      have hg2 : st_g S Z K U V (tr_n 90 ty lo hi a b c l r) := hg
      rw [st_w90] at hw2
      rw [st_g90] at hg2
      have h : gli_P E B S Z K U V (tr_n 90 ty lo hi a b c l r) := gli_90 ((ihl hw2.2.1 hg2.1).1 hw2.1) (gs_ls (ihr hw2.2.2.2 hg2.2) hw2.2.2.1) (st_cn_nn hB r hw2.2.2.2 hg2.2)
      have h2 : gs_A E B S Z K U V (tr_n 90 ty lo hi a b c l r) := ⟨fun q => absurd q.2.1 (show ¬ (90 : Int) ≤ 28 by decide), fun _ => h, fun q => absurd q (show ¬ (90 : Int) = 26 by decide), fun q => absurd q (show ¬ ((90 : Int) = 25 ∨ (90 : Int) = 93) by decide), fun q => absurd q (show ¬ (90 : Int) = 92 by decide)⟩
      exact h2
    by_cases q20 : k = 20
    · subst q20
      have hw2 : st_w (tr_n 20 ty lo hi a b c l r) := hw
      have hg2 : st_g S Z K U V (tr_n 20 ty lo hi a b c l r) := hg
      rw [st_w20] at hw2
      rw [st_g20] at hg2
      have h2 := gs_st (E := E) (B := B) (S := S) (Z := Z) (K := K) (U := U) (V := V) (gst_20 (ty := ty) (lo := lo) (hi := hi) (a := a) (b := b) (c := c) (l := l) (r := r)) (by decide)
      exact h2
    by_cases q21 : k = 21
    · subst q21
      have hw2 : st_w (tr_n 21 ty lo hi a b c l r) := hw
      have hg2 : st_g S Z K U V (tr_n 21 ty lo hi a b c l r) := hg
      rw [st_w21] at hw2
      rw [st_g21] at hg2
      have h2 := gs_st (E := E) (B := B) (S := S) (Z := Z) (K := K) (U := U) (V := V) (gst_21 (ty := ty) (lo := lo) (hi := hi) (a := a) (b := b) (c := c) (l := l) (r := r)) (by decide)
      exact h2
    by_cases q22 : k = 22
    · subst q22
      have hw2 : st_w (tr_n 22 ty lo hi a b c l r) := hw
      have hg2 : st_g S Z K U V (tr_n 22 ty lo hi a b c l r) := hg
      rw [st_w22] at hw2
      rw [st_g22] at hg2
      have h2 := gs_st (E := E) (B := B) (S := S) (Z := Z) (K := K) (U := U) (V := V) (gst_22 (ty := ty) (lo := lo) (hi := hi) (a := a) (b := b) (c := c) (l := l) (r := r)) (by decide)
      exact h2
    by_cases q23 : k = 23
    · subst q23
      have hw2 : st_w (tr_n 23 ty lo hi a b c l r) := hw
      have hg2 : st_g S Z K U V (tr_n 23 ty lo hi a b c l r) := hg
      rw [st_w23] at hw2
      rw [st_g23] at hg2
      have h2 := gs_st (E := E) (B := B) (S := S) (Z := Z) (K := K) (U := U) (V := V) (gst_23 (ty := ty) (lo := lo) (hi := hi) (a := a) (b := b) (c := c) (l := l) (r := r)) (by decide)
      exact h2
    by_cases q24 : k = 24
    · subst q24
      have hw2 : st_w (tr_n 24 ty lo hi a b c l r) := hw
      have hg2 : st_g S Z K U V (tr_n 24 ty lo hi a b c l r) := hg
      rw [st_w24] at hw2
      rw [st_g24] at hg2
      have h2 := gs_st (gst_24 (ty := ty) (lo := lo) (hi := hi) (a := a) (b' := b) (c' := c) (l := l) ((ihr hw2.2.2.2.1 hg2.2).2.2.2.1 hw2.2.2.1) (xt_cn_nn hB l hw2.2.1 hg2.1) (st_cn_nn hB r hw2.2.2.2.1 hg2.2)) (by decide)
      exact h2
    by_cases q25 : k = 25
    · subst q25
      have hw2 : st_w (tr_n 25 ty lo hi a b c l r) := hw
      have hg2 : st_g S Z K U V (tr_n 25 ty lo hi a b c l r) := hg
      rw [st_w25] at hw2
      rw [st_g25] at hg2
      have h : gar_P E B S Z K U V (tr_n 25 ty lo hi a b c l r) := gar_25 (gs_ls (ihl hw2.2.2.1 hg2.1) hw2.2.1) ((ihr hw2.2.2.2.2 hg2.2).2.2.2.1 hw2.2.2.2.1)
      have h2 : gs_A E B S Z K U V (tr_n 25 ty lo hi a b c l r) := ⟨fun q => absurd rfl q.2.2, fun q => absurd q (show ¬ ((25 : Int) = 0 ∨ (25 : Int) = 90) by decide), fun q => absurd q (show ¬ (25 : Int) = 26 by decide), fun _ => h, fun q => absurd q (show ¬ (25 : Int) = 92 by decide)⟩
      exact h2
    by_cases q26 : k = 26
    · subst q26
      have hw2 : st_w (tr_n 26 ty lo hi a b c l r) := hw
      have hg2 : st_g S Z K U V (tr_n 26 ty lo hi a b c l r) := hg
      rw [st_w26] at hw2
      rw [st_g26] at hg2
      have hcn := st_cn_nn hB r hw2.2.2.2.2 hg2.2
      have hce := xt_cn_nn hB l hw2.2.1 hg2.1
      have ihr' := (ihr hw2.2.2.2.2 hg2.2).2.2.2.2 hw2.2.2.1
      obtain ⟨_, _, k92, khi, wr⟩ := hw2
      have gr := hg2.2
      have hgif : gif_P E B S Z K U V (tr_n 26 ty lo hi a b c l r) := by
        cases r with
        | leaf =>
          have : xt_k (Std.DTreeMap.Internal.Impl.leaf : tr_T) = 0 := rfl
          omega
        | inner z2 d2 v2 x y =>
          obtain ⟨k2, ty2, lo2, hi2, a2, b2, c2⟩ := d2
          have ek2 : k2 = 92 := k92
          have eh2 : hi2 = hi := khi
          subst ek2
          subst eh2
          have wr2 : st_w (tr_n 92 ty2 lo2 hi2 a2 b2 c2 x y) := wr
          have gr2 : st_g S Z K U V (tr_n 92 ty2 lo2 hi2 a2 b2 c2 x y) := gr
          rw [st_w92] at wr2
          rw [st_g92] at gr2
          have hx : gli_P E B S Z K U V x := ihr'.1
          rcases wr2.2.2.1 with p | p | p
          · obtain ⟨p1, p2⟩ := p
            subst p1
            subst p2
            have h : gif_P E B S Z K U V (tr_n 26 ty lo 0 a b c l (tr_n 92 ty2 lo2 0 a2 b2 c2 x .leaf)) := gif_0 hx
            exact h
          · obtain ⟨p1, p2⟩ := p
            subst p1
            have hy : gli_P E B S Z K U V y := ihr'.2.1 rfl
            have h : gif_P E B S Z K U V (tr_n 26 ty lo 1 a b c l (tr_n 92 ty2 lo2 1 a2 b2 c2 x y)) := gif_1 hx hy
            exact h
          · obtain ⟨p1, p2⟩ := p
            subst p1
            have hy : gif_P E B S Z K U V y := ihr'.2.2 rfl
            have h : gif_P E B S Z K U V (tr_n 26 ty lo 2 a b c l (tr_n 92 ty2 lo2 2 a2 b2 c2 x y)) := gif_2 hx hy p2 (st_cn_nn hB y wr2.2.2.2 gr2.2)
            exact h
      have h2 : gs_A E B S Z K U V (tr_n 26 ty lo hi a b c l r) := ⟨fun _ => gst_26 hgif (by rw [st_cn26]; omega), fun q => absurd q (show ¬ ((26 : Int) = 0 ∨ (26 : Int) = 90) by decide), fun _ => hgif, fun q => absurd q (show ¬ ((26 : Int) = 25 ∨ (26 : Int) = 93) by decide), fun q => absurd q (show ¬ (26 : Int) = 92 by decide)⟩
      exact h2
    by_cases q27 : k = 27
    · subst q27
      have hw2 : st_w (tr_n 27 ty lo hi a b c l r) := hw
      have hg2 : st_g S Z K U V (tr_n 27 ty lo hi a b c l r) := hg
      rw [st_w27] at hw2
      rw [st_g27] at hg2
      have h2 := gs_st (gst_27 (ty := ty) (lo := lo) (hi := hi) (a := a) (b := b) (c := c) (r := r) (gs_ls (ihl hw2.2.2 hg2.2.2) hw2.2.1)) (by decide)
      exact h2
    by_cases q28 : k = 28
    · subst q28
      have hw2 : st_w (tr_n 28 ty lo hi a b c l r) := hw
      have hg2 : st_g S Z K U V (tr_n 28 ty lo hi a b c l r) := hg
      rw [st_w28] at hw2
      rw [st_g28] at hg2
      have h2 := gs_st (E := E) (B := B) (S := S) (Z := Z) (K := K) (U := U) (V := V) (gst_28 (ty := ty) (lo := lo) (hi := hi) (a := a) (b := b) (c := c) (l := l) (r := r)) (by decide)
      exact h2
    by_cases q92 : k = 92
    · subst q92
      have hw2 : st_w (tr_n 92 ty lo hi a b c l r) := hw
      have hg2 : st_g S Z K U V (tr_n 92 ty lo hi a b c l r) := hg
      rw [st_w92] at hw2
      rw [st_g92] at hg2
      have hr1 := ihr hw2.2.2.2 hg2.2
      have h1 : hi = 1 → gli_P E B S Z K U V r := fun q => by
        rcases hw2.2.2.1 with p | p | p
        · omega
        · exact gs_ls hr1 p.2
        · omega
      have h3 : hi = 2 → gif_P E B S Z K U V r := fun q => by
        rcases hw2.2.2.1 with p | p | p
        · omega
        · omega
        · exact hr1.2.2.1 p.2
      have h2 : gs_A E B S Z K U V (tr_n 92 ty lo hi a b c l r) := ⟨fun q => absurd q.2.1 (show ¬ (92 : Int) ≤ 28 by decide), fun q => absurd q (show ¬ ((92 : Int) = 0 ∨ (92 : Int) = 90) by decide), fun q => absurd q (show ¬ (92 : Int) = 26 by decide), fun q => absurd q (show ¬ ((92 : Int) = 25 ∨ (92 : Int) = 93) by decide), fun _ => ⟨gs_ls (ihl hw2.2.1 hg2.1) hw2.1, h1, h3⟩⟩
      exact h2
    by_cases q93 : k = 93
    · subst q93
      have hw2 : st_w (tr_n 93 ty lo hi a b c l r) := hw
      have hg2 : st_g S Z K U V (tr_n 93 ty lo hi a b c l r) := hg
      rw [st_w93] at hw2
      rw [st_g93] at hg2
      have h : gar_P E B S Z K U V (tr_n 93 ty lo hi a b c l r) := gar_93 (gs_ls (ihl hw2.2 hg2) hw2.1)
      have h2 : gs_A E B S Z K U V (tr_n 93 ty lo hi a b c l r) := ⟨fun q => absurd q.2.1 (show ¬ (93 : Int) ≤ 28 by decide), fun q => absurd q (show ¬ ((93 : Int) = 0 ∨ (93 : Int) = 90) by decide), fun q => absurd q (show ¬ (93 : Int) = 26 by decide), fun _ => h, fun q => absurd q (show ¬ (93 : Int) = 92 by decide)⟩
      exact h2
    omega
/-- the code of a list of statements, made by the reference -/
theorem gen_list (hB : ∀ s k : Int, K s k → 0 ≤ B s) (e : tr_T) (hk : e = .leaf ∨ xt_k e = 90) (hw : st_w e) (hg : st_g S Z K U V e) : gli_P E B S Z K U V e := gs_ls (gst_all hB e hw hg) hk
end GS
