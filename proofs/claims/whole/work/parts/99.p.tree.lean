/-! part 99.p: trees of expressions: their code, its length, its count, its TEMPS -/
/-- kind, type, low, high, a, b, c (as in a node) -/
abbrev tr_D := Int × Int × Int × Int × Int × Int × Int
abbrev tr_T := Std.DTreeMap.Internal.Impl tr_D (fun _ => Unit)
/-- an INSTRUCTION: op, what its first operand is (0 a number, 1 a cell of a SYMBOL, 2 a TEMP, 3 a fun), the operand, an offset, the second, low, high -/
abbrev xt_I := Int × Int × Int × Int × Int × Int × Int
def tr_n (k ty lo hi a b c : Int) (l r : tr_T) : tr_T := .inner 0 (k, ty, lo, hi, a, b, c) () l r
def xt_k : tr_T → Int
  | .leaf => 0
  | .inner _ d _ _ _ => d.1
def xt_ty : tr_T → Int
  | .leaf => 0
  | .inner _ d _ _ _ => d.2.1
def xt_lo : tr_T → Int
  | .leaf => 0
  | .inner _ d _ _ _ => d.2.2.1
def xt_hi : tr_T → Int
  | .leaf => 0
  | .inner _ d _ _ _ => d.2.2.2.1
def xt_l : tr_T → tr_T
  | .leaf => .leaf
  | .inner _ _ _ l _ => l
def xt_na : tr_T → Int
  | .leaf => 0
  | .inner _ _ _ _ r => 1 + xt_na r
def xt_ln : tr_T → Int
  | .leaf => 0
  | .inner _ d _ l r => if d.1 = 1 ∨ d.1 = 2 then 1 else if d.1 = 3 ∨ d.1 = 5 then xt_ln l + 1 else if d.1 = 4 then xt_ln l + 1 + xt_ln r + 3 else if d.1 = 9 then xt_ln l + 2 else if d.1 = 10 then xt_ln l + 2 * xt_na l + 1 else xt_ln l + 1 + xt_ln r
def xt_cn (B : Int → Int) : tr_T → Int
  | .leaf => 0
  | .inner _ d _ l r => if d.1 = 1 ∨ d.1 = 2 then 1 else if d.1 = 3 ∨ d.1 = 5 then xt_cn B l + 1 else if d.1 = 4 then xt_cn B l + 4 + xt_cn B r else if d.1 = 6 ∨ d.1 = 7 ∨ d.1 = 8 then xt_cn B l + 1 + xt_cn B r else if d.1 = 80 then max (xt_cn B l + 1) (xt_cn B r) else if d.1 = 9 then xt_cn B l + 2 else if d.1 = 10 then xt_cn B l + 1 + B d.2.2.2.2.1 else xt_cn B l + 3 + xt_cn B r
def xt_mt : tr_T → Int → Int
  | .leaf, _ => 0
  | .inner _ d _ l r, t => if d.1 = 1 ∨ d.1 = 2 then 0 else if d.1 = 3 ∨ d.1 = 5 ∨ d.1 = 9 ∨ d.1 = 10 then xt_mt l t else if d.1 = 6 ∨ d.1 = 7 ∨ d.1 = 8 ∨ d.1 = 80 then max (xt_mt l t) (xt_mt r t) else max (xt_mt l t) (max (t + 1) (xt_mt r (t + 1)))
def xt_ps (P : Int → xt_I → Prop) : tr_T → Int → Int → Int → Prop
  | .leaf, _, _, _ => True
  | .inner _ _ _ l r, s, t, p => P p (1, 2, t, 0, 0, xt_lo l, xt_hi l) ∧ P (p + 1) (2, 1, s, 0, 0, 1, 0) ∧ xt_ps P r (s + 1) (t + 1) (p + 2)
/-- the code of a tree from place p on, with t TEMPS in use -/
def xt_cd (P : Int → xt_I → Prop) : tr_T → Int → Int → Prop
  | .leaf, _, _ => True
  | .inner _ d _ l r, t, p => if d.1 = 1 then P p (0, 0, d.2.2.2.2.1, 0, 0, d.2.2.1, d.2.2.2.1) else if d.1 = 2 then P p (1, 1, d.2.2.2.2.1, 0, 0, d.2.2.1, d.2.2.2.1) else if d.1 = 3 then xt_cd P l t p ∧ P (p + xt_ln l) (4, 1, d.2.2.2.2.1, 0, d.2.2.2.2.2.2, d.2.2.1, d.2.2.2.1) else if d.1 = 4 then xt_cd P l t p ∧ P (p + xt_ln l) (2, 2, t, 0, 0, 1, 0) ∧ xt_cd P r (t + 1) (p + xt_ln l + 1) ∧ P (p + xt_ln l + 1 + xt_ln r) (3, 0, 0, 0, 0, 1, 0) ∧ P (p + xt_ln l + 1 + xt_ln r + 1) (1, 2, t, 0, 0, xt_lo l, xt_hi l) ∧ P (p + xt_ln l + 1 + xt_ln r + 2) (d.2.2.2.2.2.2, 0, 0, 0, 0, d.2.2.1, d.2.2.2.1) else if d.1 = 5 then xt_cd P l t p ∧ P (p + xt_ln l) (d.2.2.2.2.2.2, 0, 0, 0, 0, d.2.2.1, d.2.2.2.1) else if d.1 = 6 ∨ d.1 = 7 then xt_cd P l t p ∧ P (p + xt_ln l) (if d.1 = 6 then 25 else 26, 0, p + xt_ln l + 1 + xt_ln r, 0, 0, 1, 0) ∧ xt_cd P r t (p + xt_ln l + 1) else if d.1 = 8 then xt_cd P l t p ∧ P (p + xt_ln l) (25, 0, p + xt_ln l + 1 + xt_ln (xt_l r) + 1, 0, 0, 1, 0) ∧ xt_cd P r t (p + xt_ln l + 1) else if d.1 = 80 then xt_cd P l t p ∧ P (p + xt_ln l) (24, 0, p + xt_ln l + 1 + xt_ln r, 0, 0, 1, 0) ∧ xt_cd P r t (p + xt_ln l + 1) else if d.1 = 9 then xt_cd P l t p ∧ P (p + xt_ln l) (22, 0, d.2.2.2.2.2.1, 0, 0, max d.2.2.2.2.2.1 (xt_lo l), max d.2.2.2.2.2.1 (xt_hi l)) ∧ P (p + xt_ln l + 1) (23, 0, d.2.2.2.2.2.2, 0, 0, d.2.2.1, d.2.2.2.1) else if d.1 = 10 then xt_cd P l t p ∧ xt_ps P l (d.2.2.2.2.1 + 1) t (p + xt_ln l) ∧ P (p + xt_ln l + 2 * xt_na l) (27, 3, d.2.2.2.2.1, 0, 0, 1, 0) else xt_cd P l t p ∧ P (p + xt_ln l) (2, 2, t, 0, 0, 1, 0) ∧ xt_cd P r (t + 1) (p + xt_ln l + 1)
/-- node n of the reference is this tree; all its nodes lie below N (m: the second node of a pair) -/
def xt_nd (ρ : js_S) (M : Int) : tr_T → Int → Int → Int → Prop
  | .leaf, _, n, _ => n = -1
  | .inner _ d _ l r, N, n, m => if d.1 = 11 then (0 ≤ n ∧ M ≤ n) ∧ n < N ∧ xt_nd ρ M l N n 0 ∧ xt_nd ρ M r N (ρ 107 n) 0 else if d.1 = 80 then xt_nd ρ M l N n 0 ∧ xt_nd ρ M r N m 0 else ((0 ≤ n ∧ M ≤ n) ∧ n < N ∧ ρ 100 n = d.1 ∧ ρ 101 n = d.2.1 ∧ ρ 105 n = d.2.2.1 ∧ ρ 106 n = d.2.2.2.1) ∧ (if d.1 = 1 ∨ d.1 = 2 then ρ 102 n = d.2.2.2.2.1 else if d.1 = 3 then ρ 102 n = d.2.2.2.2.1 ∧ xt_nd ρ M l n (ρ 103 n) 0 else if d.1 = 4 then xt_nd ρ M l n (ρ 102 n) 0 ∧ xt_nd ρ M r n (ρ 103 n) 0 ∧ ρ 104 n = d.2.2.2.2.2.2 else if d.1 = 5 then xt_nd ρ M l n (ρ 102 n) 0 ∧ ρ 104 n = d.2.2.2.2.2.2 else if d.1 = 6 ∨ d.1 = 7 then xt_nd ρ M l n (ρ 102 n) 0 ∧ xt_nd ρ M r n (ρ 103 n) 0 else if d.1 = 8 then xt_nd ρ M l n (ρ 102 n) 0 ∧ xt_nd ρ M r n (ρ 103 n) (ρ 104 n) else if d.1 = 9 then xt_nd ρ M l n (ρ 102 n) 0 ∧ ρ 103 n = d.2.2.2.2.2.1 ∧ ρ 104 n = d.2.2.2.2.2.2 else if d.1 = 10 then ρ 102 n = d.2.2.2.2.1 ∧ xt_nd ρ M l n (ρ 103 n) 0 else False)
/-- its range is one of ints -/
def xt_q : tr_T → Prop
  | .leaf => True
  | .inner _ d _ _ _ => ((-2147483648 ≤ d.2.2.1 ∧ d.2.2.1 < 2147483648) ∧ -2147483648 ≤ d.2.2.2.1 ∧ d.2.2.2.1 < 2147483648) ∧ (d.1 = 9 → -2147483648 ≤ d.2.2.2.2.2.1 ∧ d.2.2.2.2.2.1 < 2147483648) ∧ (d.1 = 4 → 6 ≤ d.2.2.2.2.2.2 ∧ d.2.2.2.2.2.2 ≤ 18) ∧ (d.1 = 5 → 19 ≤ d.2.2.2.2.2.2 ∧ d.2.2.2.2.2.2 ≤ 21)
def xt_e (e : tr_T) : Prop := 1 ≤ xt_k e ∧ xt_k e ≤ 10 ∧ xt_q e
/-- how deep making its code calls -/
def xt_dp : tr_T → Int
  | .leaf => 6
  | .inner _ d _ l r => if d.1 = 1 ∨ d.1 = 2 then 6 else if d.1 = 3 ∨ d.1 = 5 ∨ d.1 = 9 then 2 + xt_dp l else if d.1 = 4 ∨ d.1 = 6 ∨ d.1 = 7 then max (xt_dp l) (1 + xt_dp r) else if d.1 = 8 then 2 + max (xt_dp l) (xt_dp r) else if d.1 = 10 then 3 + xt_dp l else max (xt_dp l) (xt_dp r)
theorem xt_dp_6 (e : tr_T) : 6 ≤ xt_dp e := by
  induction e with
  | leaf => exact Int.le_refl _
  | inner z d v l r ihl ihr =>
    rw [xt_dp]
    repeat' split
    all_goals omega
/-- a tree as it should be -/
def xt_w : tr_T → Prop
  | .leaf => True
  | .inner _ d _ l r => if d.1 = 1 ∨ d.1 = 2 then True else if d.1 = 3 ∨ d.1 = 5 ∨ d.1 = 9 then xt_e l ∧ xt_w l else if d.1 = 4 ∨ d.1 = 6 ∨ d.1 = 7 ∨ d.1 = 80 then xt_e l ∧ xt_w l ∧ xt_e r ∧ xt_w r else if d.1 = 8 then xt_e l ∧ xt_w l ∧ xt_k r = 80 ∧ xt_w r else if d.1 = 10 then (l = .leaf ∨ xt_k l = 11) ∧ xt_w l else if d.1 = 11 then xt_e l ∧ xt_w l ∧ (r = .leaf ∨ xt_k r = 11) ∧ xt_w r else False
/-- of the SYMBOLS that it names: S of variables, Z of lengths of arrays, K of funs and how many are given -/
def xt_g (S : Int → Prop) (Z : Int → Int → Prop) (K : Int → Int → Prop) : tr_T → Prop
  | .leaf => True
  | .inner _ d _ l r => if d.1 = 1 then True else if d.1 = 2 then S d.2.2.2.2.1 else if d.1 = 3 then S d.2.2.2.2.1 ∧ Z d.2.2.2.2.1 d.2.2.2.2.2.2 ∧ xt_g S Z K l else if d.1 = 5 ∨ d.1 = 9 then xt_g S Z K l else if d.1 = 10 then K d.2.2.2.2.1 (xt_na l) ∧ xt_g S Z K l else xt_g S Z K l ∧ xt_g S Z K r
theorem xt_na_0 (e : tr_T) : 0 ≤ xt_na e := by
  induction e with
  | leaf => exact Int.le_refl _
  | inner z d v l r ihl ihr =>
    show 0 ≤ 1 + xt_na r
    omega
theorem xt_ln_0 (e : tr_T) : 0 ≤ xt_ln e := by
  induction e with
  | leaf => exact Int.le_refl _
  | inner z d v l r ihl ihr =>
    have := xt_na_0 l
    rw [xt_ln]
    repeat' split
    all_goals omega
theorem xt_ps_of {P Q : Int → xt_I → Prop} (e : tr_T) : ∀ s t p : Int, (∀ (i : Int) (I : xt_I), p ≤ i → i < p + 2 * xt_na e → P i I → Q i I) → xt_ps P e s t p → xt_ps Q e s t p := by
  induction e with
  | leaf => intro s t p _ _; exact trivial
  | inner z d v l r ihl ihr =>
    intro s t p h hp
    have h0 := xt_na_0 r
    have e1 : xt_na (.inner z d v l r) = 1 + xt_na r := rfl
    rw [e1] at h
    obtain ⟨h1, h2, h3⟩ := hp
    exact ⟨h _ _ (by omega) (by omega) h1, h _ _ (by omega) (by omega) h2, ihr _ _ _ (fun i I g1 g2 => h i I (by omega) (by omega)) h3⟩
theorem xt_cd_of {P Q : Int → xt_I → Prop} (e : tr_T) : ∀ t p : Int, (∀ (i : Int) (I : xt_I), p ≤ i → i < p + xt_ln e → P i I → Q i I) → xt_cd P e t p → xt_cd Q e t p := by
  induction e with
  | leaf => intro t p _ _; exact trivial
  | inner z d v l r ihl ihr =>
    intro t p h hp
    have hl := xt_ln_0 l
    have hr := xt_ln_0 r
    have hn := xt_na_0 l
    rw [xt_ln] at h
    rw [xt_cd] at hp ⊢
    by_cases q1 : d.1 = 1
    · rw [if_pos q1] at hp ⊢
      rw [if_pos (show d.1 = 1 ∨ d.1 = 2 by omega)] at h
      exact h _ _ (by omega) (by omega) hp
    by_cases q2 : d.1 = 2
    · rw [if_neg q1, if_pos q2] at hp ⊢
      rw [if_pos (show d.1 = 1 ∨ d.1 = 2 by omega)] at h
      exact h _ _ (by omega) (by omega) hp
    by_cases q3 : d.1 = 3
    · rw [if_neg q1, if_neg q2, if_pos q3] at hp ⊢
      rw [if_neg (show ¬ (d.1 = 1 ∨ d.1 = 2) by omega), if_pos (show d.1 = 3 ∨ d.1 = 5 by omega)] at h
      obtain ⟨a1, a2⟩ := hp
      exact ⟨ihl _ _ (fun i I g1 g2 => h i I (by omega) (by omega)) a1, h _ _ (by omega) (by omega) a2⟩
    by_cases q4 : d.1 = 4
    · rw [if_neg q1, if_neg q2, if_neg q3, if_pos q4] at hp ⊢
      rw [if_neg (show ¬ (d.1 = 1 ∨ d.1 = 2) by omega), if_neg (show ¬ (d.1 = 3 ∨ d.1 = 5) by omega), if_pos (show d.1 = 4 by omega)] at h
      obtain ⟨a1, a2, a3, a4, a5, a6⟩ := hp
      exact ⟨ihl _ _ (fun i I g1 g2 => h i I (by omega) (by omega)) a1, h _ _ (by omega) (by omega) a2, ihr _ _ (fun i I g1 g2 => h i I (by omega) (by omega)) a3, h _ _ (by omega) (by omega) a4, h _ _ (by omega) (by omega) a5, h _ _ (by omega) (by omega) a6⟩
    by_cases q5 : d.1 = 5
    · rw [if_neg q1, if_neg q2, if_neg q3, if_neg q4, if_pos q5] at hp ⊢
      rw [if_neg (show ¬ (d.1 = 1 ∨ d.1 = 2) by omega), if_pos (show d.1 = 3 ∨ d.1 = 5 by omega)] at h
      obtain ⟨a1, a2⟩ := hp
      exact ⟨ihl _ _ (fun i I g1 g2 => h i I (by omega) (by omega)) a1, h _ _ (by omega) (by omega) a2⟩
    by_cases q6 : d.1 = 6 ∨ d.1 = 7
    · rw [if_neg q1, if_neg q2, if_neg q3, if_neg q4, if_neg q5, if_pos q6] at hp ⊢
      rw [if_neg (show ¬ (d.1 = 1 ∨ d.1 = 2) by omega), if_neg (show ¬ (d.1 = 3 ∨ d.1 = 5) by omega), if_neg (show ¬ (d.1 = 4) by omega), if_neg (show ¬ (d.1 = 9) by omega), if_neg (show ¬ (d.1 = 10) by omega)] at h
      obtain ⟨a1, a2, a3⟩ := hp
      exact ⟨ihl _ _ (fun i I g1 g2 => h i I (by omega) (by omega)) a1, h _ _ (by omega) (by omega) a2, ihr _ _ (fun i I g1 g2 => h i I (by omega) (by omega)) a3⟩
    by_cases q8 : d.1 = 8
    · rw [if_neg q1, if_neg q2, if_neg q3, if_neg q4, if_neg q5, if_neg q6, if_pos q8] at hp ⊢
      rw [if_neg (show ¬ (d.1 = 1 ∨ d.1 = 2) by omega), if_neg (show ¬ (d.1 = 3 ∨ d.1 = 5) by omega), if_neg (show ¬ (d.1 = 4) by omega), if_neg (show ¬ (d.1 = 9) by omega), if_neg (show ¬ (d.1 = 10) by omega)] at h
      obtain ⟨a1, a2, a3⟩ := hp
      exact ⟨ihl _ _ (fun i I g1 g2 => h i I (by omega) (by omega)) a1, h _ _ (by omega) (by omega) a2, ihr _ _ (fun i I g1 g2 => h i I (by omega) (by omega)) a3⟩
    by_cases q80 : d.1 = 80
    · rw [if_neg q1, if_neg q2, if_neg q3, if_neg q4, if_neg q5, if_neg q6, if_neg q8, if_pos q80] at hp ⊢
      rw [if_neg (show ¬ (d.1 = 1 ∨ d.1 = 2) by omega), if_neg (show ¬ (d.1 = 3 ∨ d.1 = 5) by omega), if_neg (show ¬ (d.1 = 4) by omega), if_neg (show ¬ (d.1 = 9) by omega), if_neg (show ¬ (d.1 = 10) by omega)] at h
      obtain ⟨a1, a2, a3⟩ := hp
      exact ⟨ihl _ _ (fun i I g1 g2 => h i I (by omega) (by omega)) a1, h _ _ (by omega) (by omega) a2, ihr _ _ (fun i I g1 g2 => h i I (by omega) (by omega)) a3⟩
    by_cases q9 : d.1 = 9
    · rw [if_neg q1, if_neg q2, if_neg q3, if_neg q4, if_neg q5, if_neg q6, if_neg q8, if_neg q80, if_pos q9] at hp ⊢
      rw [if_neg (show ¬ (d.1 = 1 ∨ d.1 = 2) by omega), if_neg (show ¬ (d.1 = 3 ∨ d.1 = 5) by omega), if_neg (show ¬ (d.1 = 4) by omega), if_pos (show d.1 = 9 by omega)] at h
      obtain ⟨a1, a2, a3⟩ := hp
      exact ⟨ihl _ _ (fun i I g1 g2 => h i I (by omega) (by omega)) a1, h _ _ (by omega) (by omega) a2, h _ _ (by omega) (by omega) a3⟩
    by_cases q10 : d.1 = 10
    · rw [if_neg q1, if_neg q2, if_neg q3, if_neg q4, if_neg q5, if_neg q6, if_neg q8, if_neg q80, if_neg q9, if_pos q10] at hp ⊢
      rw [if_neg (show ¬ (d.1 = 1 ∨ d.1 = 2) by omega), if_neg (show ¬ (d.1 = 3 ∨ d.1 = 5) by omega), if_neg (show ¬ (d.1 = 4) by omega), if_neg (show ¬ (d.1 = 9) by omega), if_pos (show d.1 = 10 by omega)] at h
      obtain ⟨a1, a2, a3⟩ := hp
      exact ⟨ihl _ _ (fun i I g1 g2 => h i I (by omega) (by omega)) a1, xt_ps_of l _ _ _ (fun i I g1 g2 => h i I (by omega) (by omega)) a2, h _ _ (by omega) (by omega) a3⟩
    rw [if_neg q1, if_neg q2, if_neg q3, if_neg q4, if_neg q5, if_neg q6, if_neg q8, if_neg q80, if_neg q9, if_neg q10] at hp ⊢
    rw [if_neg (show ¬ (d.1 = 1 ∨ d.1 = 2) by omega), if_neg (show ¬ (d.1 = 3 ∨ d.1 = 5) by omega), if_neg q4, if_neg q9, if_neg q10] at h
    obtain ⟨a1, a2, a3⟩ := hp
    exact ⟨ihl _ _ (fun i I g1 g2 => h i I (by omega) (by omega)) a1, h _ _ (by omega) (by omega) a2, ihr _ _ (fun i I g1 g2 => h i I (by omega) (by omega)) a3⟩
/-- a tree stays where its nodes stay (the next of its own node aside) -/
theorem xt_nd_of {ρ ρ' : js_S} {M : Int} (e : tr_T) : ∀ N n m : Int, (∀ a i : Int, 100 ≤ a → a ≤ 106 → M ≤ i → i < N → ρ' a i = ρ a i) → (∀ i : Int, M ≤ i → i < N → (i = n → xt_k e = 11 ∨ xt_k e = 80) → ρ' 107 i = ρ 107 i) → xt_nd ρ M e N n m → xt_nd ρ' M e N n m := by
  induction e with
  | leaf => intro N n m _ _ h; exact h
  | inner z d v l r ihl ihr =>
    intro N n m h h7 hp
    have ek : xt_k (.inner z d v l r) = d.1 := rfl
    rw [ek] at h7
    rw [xt_nd] at hp ⊢
    by_cases q11 : d.1 = 11
    · rw [if_pos q11] at hp ⊢
      obtain ⟨a1, a2, a3, a4⟩ := hp
      have h8 : ∀ i : Int, M ≤ i → i < N → ρ' 107 i = ρ 107 i := fun i hm hi => h7 i hm hi (fun _ => Or.inl q11)
      refine ⟨a1, a2, ihl _ _ _ h (fun i hm hi _ => h8 i hm hi) a3, ?_⟩
      rw [h8 n a1.2 a2]
      exact ihr _ _ _ h (fun i hm hi _ => h8 i hm hi) a4
    · rw [if_neg q11] at hp ⊢
      by_cases q80 : d.1 = 80
      · rw [if_pos q80] at hp ⊢
        have h8 : ∀ i : Int, M ≤ i → i < N → ρ' 107 i = ρ 107 i := fun i hm hi => h7 i hm hi (fun _ => Or.inr q80)
        exact ⟨ihl _ _ _ h (fun i hm hi _ => h8 i hm hi) hp.1, ihr _ _ _ h (fun i hm hi _ => h8 i hm hi) hp.2⟩
      · rw [if_neg q80] at hp ⊢
        obtain ⟨⟨a1, a2, a3, a4, a5, a6⟩, hp⟩ := hp
        have hh : ∀ a i : Int, 100 ≤ a → a ≤ 106 → M ≤ i → i < n → ρ' a i = ρ a i := fun a i g1 g2 gm g3 => h a i g1 g2 gm (by omega)
        have h8 : ∀ i : Int, M ≤ i → i < n → ρ' 107 i = ρ 107 i := fun i hm hi => h7 i hm (by omega) (fun hh => by omega)
        have s : ∀ a : Int, 100 ≤ a → a ≤ 106 → ρ' a n = ρ a n := fun a g1 g2 => h a n g1 g2 a1.2 a2
        rw [s 100 (by decide) (by decide), s 101 (by decide) (by decide), s 102 (by decide) (by decide), s 103 (by decide) (by decide), s 104 (by decide) (by decide), s 105 (by decide) (by decide), s 106 (by decide) (by decide)]
        refine ⟨⟨a1, a2, a3, a4, a5, a6⟩, ?_⟩
        have kl : ∀ c m' : Int, xt_nd ρ M l n c m' → xt_nd ρ' M l n c m' := fun c m' => ihl n c m' hh (fun i hm hi _ => h8 i hm hi)
        have kr : ∀ c m' : Int, xt_nd ρ M r n c m' → xt_nd ρ' M r n c m' := fun c m' => ihr n c m' hh (fun i hm hi _ => h8 i hm hi)
        by_cases q1 : d.1 = 1 ∨ d.1 = 2
        · rw [if_pos q1] at hp ⊢
          exact hp
        by_cases q3 : d.1 = 3
        · rw [if_neg q1, if_pos q3] at hp ⊢
          exact ⟨hp.1, kl _ _ hp.2⟩
        by_cases q4 : d.1 = 4
        · rw [if_neg q1, if_neg q3, if_pos q4] at hp ⊢
          exact ⟨kl _ _ hp.1, kr _ _ hp.2.1, hp.2.2⟩
        by_cases q5 : d.1 = 5
        · rw [if_neg q1, if_neg q3, if_neg q4, if_pos q5] at hp ⊢
          exact ⟨kl _ _ hp.1, hp.2⟩
        by_cases q6 : d.1 = 6 ∨ d.1 = 7
        · rw [if_neg q1, if_neg q3, if_neg q4, if_neg q5, if_pos q6] at hp ⊢
          exact ⟨kl _ _ hp.1, kr _ _ hp.2⟩
        by_cases q8 : d.1 = 8
        · rw [if_neg q1, if_neg q3, if_neg q4, if_neg q5, if_neg q6, if_pos q8] at hp ⊢
          exact ⟨kl _ _ hp.1, kr _ _ hp.2⟩
        by_cases q9 : d.1 = 9
        · rw [if_neg q1, if_neg q3, if_neg q4, if_neg q5, if_neg q6, if_neg q8, if_pos q9] at hp ⊢
          exact ⟨kl _ _ hp.1, hp.2⟩
        by_cases q10 : d.1 = 10
        · rw [if_neg q1, if_neg q3, if_neg q4, if_neg q5, if_neg q6, if_neg q8, if_neg q9, if_pos q10] at hp ⊢
          exact ⟨hp.1, kl _ _ hp.2⟩
        rw [if_neg q1, if_neg q3, if_neg q4, if_neg q5, if_neg q6, if_neg q8, if_neg q9, if_neg q10] at hp
        exact hp.elim
theorem xt_g_of {S S' : Int → Prop} {Z Z' K K' : Int → Int → Prop} (hS : ∀ s : Int, S s → S' s) (hZ : ∀ s c : Int, Z s c → Z' s c) (hK : ∀ s c : Int, K s c → K' s c) (e : tr_T) : xt_g S Z K e → xt_g S' Z' K' e := by
  induction e with
  | leaf => exact fun _ => trivial
  | inner z d v l r ihl ihr =>
    intro hp
    rw [xt_g] at hp ⊢
    by_cases q1 : d.1 = 1
    · rw [if_pos q1]
      exact trivial
    rw [if_neg q1] at hp ⊢
    by_cases q2 : d.1 = 2
    · rw [if_pos q2] at hp ⊢
      exact hS _ hp
    rw [if_neg q2] at hp ⊢
    by_cases q3 : d.1 = 3
    · rw [if_pos q3] at hp ⊢
      exact ⟨hS _ hp.1, hZ _ _ hp.2.1, ihl hp.2.2⟩
    rw [if_neg q3] at hp ⊢
    by_cases q5 : d.1 = 5 ∨ d.1 = 9
    · rw [if_pos q5] at hp ⊢
      exact ihl hp
    rw [if_neg q5] at hp ⊢
    by_cases q10 : d.1 = 10
    · rw [if_pos q10] at hp ⊢
      exact ⟨hK _ _ hp.1, ihl hp.2⟩
    rw [if_neg q10] at hp ⊢
    exact ⟨ihl hp.1, ihr hp.2⟩
