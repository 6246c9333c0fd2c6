/-! part 99.zx: trees of statements: their code, its length, its count, its TEMPS (printed by gen99x) -/
/-- kinds: 20 to 28 as the nodes, 90 a list, 92 the BLOCK of an if and what stands behind else, 93 the end of the arms of a case -/
def st_ln : tr_T → Int
  | .leaf => 0
  | .inner _ d _ l r => if d.1 = 90 then st_ln l + st_ln r else if d.1 = 20 then xt_ln l + 1 else if d.1 = 21 then xt_ln l + 1 + xt_ln r + 5 else if d.1 = 22 then 1 + max 0 d.2.2.2.2.2.2 else if d.1 = 23 then xt_ln l + 1 else if d.1 = 24 then xt_ln l + 1 + st_ln r else if d.1 = 25 then (if d.2.1 = 1 then 10 else 5) + st_ln l + 1 + st_ln r else if d.1 = 26 then xt_ln l + 1 + st_ln r else if d.1 = 27 then st_ln l + 13 else if d.1 = 28 then xt_ln l else if d.1 = 92 then st_ln l + (if 0 < d.2.2.2.1 then 1 else 0) + st_ln r else st_ln l
def st_cn (B : Int → Int) : tr_T → Int
  | .leaf => 0
  | .inner _ d _ l r => if d.1 = 90 then st_cn B l + st_cn B r else if d.1 = 20 then xt_cn B l + 1 else if d.1 = 21 then xt_cn B l + xt_cn B r + 6 else if d.1 = 22 then 1 + max 0 d.2.2.2.2.2.2 else if d.1 = 23 then xt_cn B l + 1 else if d.1 = 24 then xt_cn B l + 1 + st_cn B r else if d.1 = 25 then (if d.2.1 = 1 then 10 else 5) + max (st_cn B l + 1) (st_cn B r) else if d.1 = 26 then xt_cn B l + 1 + st_cn B r else if d.1 = 27 then 7 + (d.2.2.2.1 - d.2.2.1 + 1) * (st_cn B l + 11) else if d.1 = 28 then xt_cn B l else if d.1 = 92 then max (st_cn B l + (if 0 < d.2.2.2.1 then 1 else 0)) (st_cn B r) else st_cn B l
def st_mt : tr_T → Int → Int
  | .leaf, _ => 0
  | .inner _ d _ l r, t => if d.1 = 90 then max (st_mt l t) (st_mt r t) else if d.1 = 20 then xt_mt l t else if d.1 = 21 then max (xt_mt l t) (max (xt_mt r (t + 1)) (t + 2)) else if d.1 = 22 then 0 else if d.1 = 23 then xt_mt l t else if d.1 = 24 then max (xt_mt l t) (max (t + 1) (st_mt r (t + 1))) else if d.1 = 25 then max (st_mt l t) (st_mt r t) else if d.1 = 26 then max (xt_mt l t) (st_mt r t) else if d.1 = 27 then st_mt l t else if d.1 = 28 then xt_mt l t else if d.1 = 92 then max (st_mt l t) (st_mt r t) else st_mt l t
def st_cd (P : Int → xt_I → Prop) : tr_T → Int → Int → Int → Prop
  | .leaf, _, _, _ => True
  | .inner _ d _ l r, t, p, z => if d.1 = 90 then st_cd P l t p (p + st_ln l) ∧ st_cd P r t (p + st_ln l) z else if d.1 = 20 then xt_cd P l t p ∧ P (p + xt_ln l) (2, 1, d.2.2.2.2.1, 0, 0, 1, 0) else if d.1 = 21 then xt_cd P l t p ∧ P (p + xt_ln l) (2, 2, t, 0, 0, 1, 0) ∧ xt_cd P r (t + 1) (p + xt_ln l + 1) ∧ P (p + xt_ln l + 1 + xt_ln r) (2, 2, t + 1, 0, 0, 1, 0) ∧ P (p + xt_ln l + 1 + xt_ln r + 1) (1, 2, t, 0, 0, xt_lo l, xt_hi l) ∧ P (p + xt_ln l + 1 + xt_ln r + 2) (3, 0, 0, 0, 0, 1, 0) ∧ P (p + xt_ln l + 1 + xt_ln r + 3) (1, 2, t + 1, 0, 0, xt_lo r, xt_hi r) ∧ P (p + xt_ln l + 1 + xt_ln r + 4) (5, 1, d.2.2.2.2.1, 0, d.2.2.2.2.2.2, 1, 0) else if d.1 = 22 then P p (0, 0, d.2.2.2.2.2.1, 0, 0, d.2.2.1, d.2.2.2.1) ∧ ∀ k : Int, 0 ≤ k → k < d.2.2.2.2.2.2 → P (p + 1 + k) (2, 1, d.2.2.2.2.1, k, 0, 1, 0) else if d.1 = 23 then xt_cd P l t p ∧ P (p + xt_ln l) (30, 0, 0, 0, 0, 1, 0) else if d.1 = 24 then xt_cd P l t p ∧ P (p + xt_ln l) (2, 2, t, 0, 0, 1, 0) ∧ st_cd P r (t + 1) (p + xt_ln l + 1) z else if d.1 = 25 then P (p) (0, 0, d.2.2.1, 0, 0, d.2.2.1, d.2.2.1) ∧ P (p + 1) (3, 0, 0, 0, 0, 1, 0) ∧ P (p + 2) (1, 2, t - 1, 0, 0, d.2.2.2.2.2.1, d.2.2.2.2.2.2) ∧ P (p + 3) (if d.2.1 = 1 then 16 else 17, 0, 0, 0, 0, 0, 1) ∧ P (p + 4) (25, 0, p + (if d.2.1 = 1 then 10 else 5) + st_ln l + 1, 0, 0, 1, 0) ∧ (d.2.1 = 1 → P (p + 5) (0, 0, d.2.2.2.1, 0, 0, d.2.2.2.1, d.2.2.2.1) ∧ P (p + 5 + 1) (3, 0, 0, 0, 0, 1, 0) ∧ P (p + 5 + 2) (1, 2, t - 1, 0, 0, d.2.2.2.2.2.1, d.2.2.2.2.2.2) ∧ P (p + 5 + 3) (14, 0, 0, 0, 0, 0, 1) ∧ P (p + 5 + 4) (25, 0, p + (if d.2.1 = 1 then 10 else 5) + st_ln l + 1, 0, 0, 1, 0)) ∧ st_cd P l t (p + (if d.2.1 = 1 then 10 else 5)) 0 ∧ P (p + (if d.2.1 = 1 then 10 else 5) + st_ln l) (24, 0, z, 0, 0, 1, 0) ∧ st_cd P r t (p + (if d.2.1 = 1 then 10 else 5) + st_ln l + 1) z else if d.1 = 26 then xt_cd P l t p ∧ P (p + xt_ln l) (25, 0, p + xt_ln l + 1 + st_ln (xt_l r) + (if 0 < d.2.2.2.1 then 1 else 0), 0, 0, 1, 0) ∧ st_cd P r t (p + xt_ln l + 1) z else if d.1 = 27 then P p (0, 0, d.2.2.1, 0, 0, d.2.2.1, d.2.2.1) ∧ P (p + 1) (2, 1, d.2.2.2.2.1, 0, 0, 1, 0) ∧ P (p + 2) (0, 0, d.2.2.2.1, 0, 0, d.2.2.2.1, d.2.2.2.1) ∧ P (p + 3) (3, 0, 0, 0, 0, 1, 0) ∧ P (p + 4) (1, 1, d.2.2.2.2.1, 0, 0, d.2.2.1, d.2.2.2.1 + 1) ∧ P (p + 5) (14, 0, 0, 0, 0, 0, 1) ∧ P (p + 6) (25, 0, p + 13 + st_ln l, 0, 0, 1, 0) ∧ st_cd P l t (p + 7) 0 ∧ P (p + 7 + st_ln l) (0, 0, 1, 0, 0, 1, 1) ∧ P (p + 8 + st_ln l) (3, 0, 0, 0, 0, 1, 0) ∧ P (p + 9 + st_ln l) (1, 1, d.2.2.2.2.1, 0, 0, d.2.2.1, d.2.2.2.1) ∧ P (p + 10 + st_ln l) (6, 0, 0, 0, 0, d.2.2.1 + 1, d.2.2.2.1 + 1) ∧ P (p + 11 + st_ln l) (2, 1, d.2.2.2.2.1, 0, 0, 1, 0) ∧ P (p + 12 + st_ln l) (24, 0, p + 2, 0, 0, 1, 0) else if d.1 = 28 then xt_cd P l t p else if d.1 = 92 then st_cd P l t p 0 ∧ (0 < d.2.2.2.1 → P (p + st_ln l) (24, 0, z, 0, 0, 1, 0)) ∧ st_cd P r t (p + st_ln l + (if 0 < d.2.2.2.1 then 1 else 0)) z else st_cd P l t p z
def st_nd (ρ : js_S) : tr_T → Int → Int → Int → Int → Prop
  | .leaf, _, _, n, _ => n = -1
  | .inner _ d _ l r, M, N, n, m => if d.1 = 90 then (0 ≤ n ∧ M ≤ n) ∧ n < N ∧ st_nd ρ l M N n 0 ∧ st_nd ρ r (n + 1) N (ρ 107 n) 0 else if d.1 = 20 then (0 ≤ n ∧ M ≤ n) ∧ n < N ∧ ρ 100 n = 20 ∧ ρ 102 n = d.2.2.2.2.1 ∧ xt_nd ρ M l n (ρ 103 n) 0 else if d.1 = 21 then (0 ≤ n ∧ M ≤ n) ∧ n < N ∧ ρ 100 n = 21 ∧ ρ 102 n = d.2.2.2.2.1 ∧ xt_nd ρ M l n (ρ 104 n) 0 ∧ xt_nd ρ M r n (ρ 103 n) 0 else if d.1 = 22 then (0 ≤ n ∧ M ≤ n) ∧ n < N ∧ ρ 100 n = 22 ∧ ρ 102 n = d.2.2.2.2.1 ∧ ρ 103 n = d.2.2.2.2.2.1 else if d.1 = 23 then (0 ≤ n ∧ M ≤ n) ∧ n < N ∧ ρ 100 n = 23 ∧ xt_nd ρ M l n (ρ 102 n) 0 else if d.1 = 24 then (0 ≤ n ∧ M ≤ n) ∧ n < N ∧ ρ 100 n = 24 ∧ (ρ 101 n = d.2.1 ∧ (d.2.1 = 0 ∧ ρ 104 n = -1 ∨ d.2.1 = 1)) ∧ xt_nd ρ M l n (ρ 102 n) 0 ∧ st_nd ρ r M n (ρ 103 n) (ρ 104 n) else if d.1 = 25 then (0 ≤ n ∧ M ≤ n) ∧ n < N ∧ ρ 100 n = 25 ∧ ρ 101 n = d.2.1 ∧ ρ 105 n = d.2.2.1 ∧ ρ 106 n = d.2.2.2.1 ∧ st_nd ρ l M n (ρ 102 n) 0 ∧ st_nd ρ r (n + 1) N (ρ 107 n) m else if d.1 = 26 then (0 ≤ n ∧ M ≤ n) ∧ n < N ∧ ρ 100 n = 26 ∧ ρ 106 n = d.2.2.2.1 ∧ xt_k r = 92 ∧ xt_nd ρ M l n (ρ 102 n) 0 ∧ st_nd ρ r M N n 0 else if d.1 = 27 then (0 ≤ n ∧ M ≤ n) ∧ n < N ∧ ρ 100 n = 27 ∧ ρ 102 n = d.2.2.2.2.1 ∧ st_nd ρ l M n (ρ 103 n) 0 else if d.1 = 28 then (0 ≤ n ∧ M ≤ n) ∧ n < N ∧ ρ 100 n = 28 ∧ xt_nd ρ M l n (ρ 102 n) 0 else if d.1 = 92 then (0 ≤ n ∧ M ≤ n) ∧ n < N ∧ st_nd ρ l M n (ρ 103 n) 0 ∧ st_nd ρ r (n + 1) N (ρ 104 n) 0 else n = -1 ∧ st_nd ρ l M N m 0
/-- all arms test the same TEMP, of range x to y -/
def am_P (x y : Int) : tr_T → Prop
  | .leaf => True
  | .inner _ d _ _ r => d.1 = 25 → d.2.2.2.2.2.1 = x ∧ d.2.2.2.2.2.2 = y ∧ am_P x y r
theorem am_25 {x y ty lo hi a b c : Int} {l r : tr_T} (h1 : b = x) (h2 : c = y) (h : am_P x y r) : am_P x y (tr_n 25 ty lo hi a b c l r) := fun _ => ⟨h1, h2, h⟩
theorem am_93 {x y ty lo hi a b c : Int} {l r : tr_T} : am_P x y (tr_n 93 ty lo hi a b c l r) := fun h => absurd h (show ¬ (93 : Int) = 25 by decide)
def st_w : tr_T → Prop
  | .leaf => True
  | .inner _ d _ l r => if d.1 = 90 then (20 ≤ xt_k l ∧ xt_k l ≤ 28 ∧ xt_k l ≠ 25) ∧ st_w l ∧ (r = .leaf ∨ xt_k r = 90) ∧ st_w r else if d.1 = 20 then xt_e l ∧ xt_w l else if d.1 = 21 then xt_e l ∧ xt_w l ∧ xt_e r ∧ xt_w r else if d.1 = 22 then 1 ≤ d.2.2.2.2.2.2 else if d.1 = 23 then xt_e l ∧ xt_w l else if d.1 = 24 then xt_e l ∧ xt_w l ∧ (xt_k r = 25 ∨ xt_k r = 93) ∧ st_w r ∧ am_P (xt_lo l) (xt_hi l) r else if d.1 = 25 then ((d.2.1 = 0 ∨ d.2.1 = 1) ∧ -2000000000 ≤ d.2.2.1 ∧ d.2.2.1 ≤ d.2.2.2.1 ∧ d.2.2.2.1 ≤ 2000000000) ∧ (l = .leaf ∨ xt_k l = 90) ∧ st_w l ∧ (xt_k r = 25 ∨ xt_k r = 93) ∧ st_w r else if d.1 = 26 then xt_e l ∧ xt_w l ∧ xt_k r = 92 ∧ xt_hi r = d.2.2.2.1 ∧ st_w r else if d.1 = 27 then d.2.2.1 ≤ d.2.2.2.1 ∧ (l = .leaf ∨ xt_k l = 90) ∧ st_w l else if d.1 = 28 then xt_e l ∧ xt_w l ∧ xt_k l = 10 else if d.1 = 92 then (l = .leaf ∨ xt_k l = 90) ∧ st_w l ∧ (d.2.2.2.1 = 0 ∧ r = .leaf ∨ d.2.2.2.1 = 1 ∧ (r = .leaf ∨ xt_k r = 90) ∨ d.2.2.2.1 = 2 ∧ xt_k r = 26) ∧ st_w r else if d.1 = 93 then (l = .leaf ∨ xt_k l = 90) ∧ st_w l else False
def st_g (S : Int → Prop) (Z K : Int → Int → Prop) (U : Int → Int → Int → Prop) (V : Int → Int → Int → Int → Prop) : tr_T → Prop
  | .leaf => True
  | .inner _ d _ l r => if d.1 = 90 then st_g S Z K U V l ∧ st_g S Z K U V r else if d.1 = 20 then S d.2.2.2.2.1 ∧ xt_g S Z K l else if d.1 = 21 then S d.2.2.2.2.1 ∧ Z d.2.2.2.2.1 d.2.2.2.2.2.2 ∧ xt_g S Z K l ∧ xt_g S Z K r else if d.1 = 22 then S d.2.2.2.2.1 ∧ Z d.2.2.2.2.1 d.2.2.2.2.2.2 ∧ V d.2.2.2.2.1 d.2.2.2.2.2.1 d.2.2.1 d.2.2.2.1 else if d.1 = 23 then xt_g S Z K l else if d.1 = 24 then xt_g S Z K l ∧ st_g S Z K U V r else if d.1 = 25 then st_g S Z K U V l ∧ st_g S Z K U V r else if d.1 = 26 then xt_g S Z K l ∧ st_g S Z K U V r else if d.1 = 27 then S d.2.2.2.2.1 ∧ U d.2.2.2.2.1 d.2.2.1 d.2.2.2.1 ∧ st_g S Z K U V l else if d.1 = 28 then xt_g S Z K l else if d.1 = 92 then st_g S Z K U V l ∧ st_g S Z K U V r else st_g S Z K U V l
section ES
variable {P : Int → xt_I → Prop} {B : Int → Int} {ty lo hi a b c t p z : Int} {l r : tr_T} {S : Int → Prop} {Z K : Int → Int → Prop} {U : Int → Int → Int → Prop} {V : Int → Int → Int → Int → Prop} {ρ : js_S} {M N n m : Int}
theorem st_ln90 : st_ln (tr_n 90 ty lo hi a b c l r) = (st_ln l + st_ln r) := by
  unfold tr_n
  rw [st_ln]
  dsimp only
  rw [if_pos (by decide)]
theorem st_cn90 : st_cn B (tr_n 90 ty lo hi a b c l r) = (st_cn B l + st_cn B r) := by
  unfold tr_n
  rw [st_cn]
  dsimp only
  rw [if_pos (by decide)]
theorem st_mt90 : st_mt (tr_n 90 ty lo hi a b c l r) t = (max (st_mt l t) (st_mt r t)) := by
  unfold tr_n
  rw [st_mt]
  dsimp only
  rw [if_pos (by decide)]
theorem st_cd90 : st_cd P (tr_n 90 ty lo hi a b c l r) t p z = (st_cd P l t p (p + st_ln l) ∧ st_cd P r t (p + st_ln l) z) := by
  unfold tr_n
  rw [st_cd]
  dsimp only
  rw [if_pos (by decide)]
theorem st_nd90 : st_nd ρ (tr_n 90 ty lo hi a b c l r) M N n m = ((0 ≤ n ∧ M ≤ n) ∧ n < N ∧ st_nd ρ l M N n 0 ∧ st_nd ρ r (n + 1) N (ρ 107 n) 0) := by
  unfold tr_n
  rw [st_nd]
  dsimp only
  rw [if_pos (by decide)]
theorem st_w90 : st_w (tr_n 90 ty lo hi a b c l r) = ((20 ≤ xt_k l ∧ xt_k l ≤ 28 ∧ xt_k l ≠ 25) ∧ st_w l ∧ (r = .leaf ∨ xt_k r = 90) ∧ st_w r) := by
  unfold tr_n
  rw [st_w]
  dsimp only
  rw [if_pos (by decide)]
theorem st_g90 : st_g S Z K U V (tr_n 90 ty lo hi a b c l r) = (st_g S Z K U V l ∧ st_g S Z K U V r) := by
  unfold tr_n
  rw [st_g]
  dsimp only
  rw [if_pos (by decide)]
theorem st_ln20 : st_ln (tr_n 20 ty lo hi a b c l r) = (xt_ln l + 1) := by
  unfold tr_n
  rw [st_ln]
  dsimp only
  rw [if_neg (by decide), if_pos (by decide)]
theorem st_cn20 : st_cn B (tr_n 20 ty lo hi a b c l r) = (xt_cn B l + 1) := by
  unfold tr_n
  rw [st_cn]
  dsimp only
  rw [if_neg (by decide), if_pos (by decide)]
theorem st_mt20 : st_mt (tr_n 20 ty lo hi a b c l r) t = (xt_mt l t) := by
  unfold tr_n
  rw [st_mt]
  dsimp only
  rw [if_neg (by decide), if_pos (by decide)]
theorem st_cd20 : st_cd P (tr_n 20 ty lo hi a b c l r) t p z = (xt_cd P l t p ∧ P (p + xt_ln l) (2, 1, a, 0, 0, 1, 0)) := by
  unfold tr_n
  rw [st_cd]
  dsimp only
  rw [if_neg (by decide), if_pos (by decide)]
theorem st_nd20 : st_nd ρ (tr_n 20 ty lo hi a b c l r) M N n m = ((0 ≤ n ∧ M ≤ n) ∧ n < N ∧ ρ 100 n = 20 ∧ ρ 102 n = a ∧ xt_nd ρ M l n (ρ 103 n) 0) := by
  unfold tr_n
  rw [st_nd]
  dsimp only
  rw [if_neg (by decide), if_pos (by decide)]
theorem st_w20 : st_w (tr_n 20 ty lo hi a b c l r) = (xt_e l ∧ xt_w l) := by
  unfold tr_n
  rw [st_w]
  dsimp only
  rw [if_neg (by decide), if_pos (by decide)]
theorem st_g20 : st_g S Z K U V (tr_n 20 ty lo hi a b c l r) = (S a ∧ xt_g S Z K l) := by
  unfold tr_n
  rw [st_g]
  dsimp only
  rw [if_neg (by decide), if_pos (by decide)]
theorem st_ln21 : st_ln (tr_n 21 ty lo hi a b c l r) = (xt_ln l + 1 + xt_ln r + 5) := by
  unfold tr_n
  rw [st_ln]
  dsimp only
  rw [if_neg (by decide), if_neg (by decide), if_pos (by decide)]
theorem st_cn21 : st_cn B (tr_n 21 ty lo hi a b c l r) = (xt_cn B l + xt_cn B r + 6) := by
  unfold tr_n
  rw [st_cn]
  dsimp only
  rw [if_neg (by decide), if_neg (by decide), if_pos (by decide)]
theorem st_mt21 : st_mt (tr_n 21 ty lo hi a b c l r) t = (max (xt_mt l t) (max (xt_mt r (t + 1)) (t + 2))) := by
  unfold tr_n
  rw [st_mt]
  dsimp only
  rw [if_neg (by decide), if_neg (by decide), if_pos (by decide)]
theorem st_cd21 : st_cd P (tr_n 21 ty lo hi a b c l r) t p z = (xt_cd P l t p ∧ P (p + xt_ln l) (2, 2, t, 0, 0, 1, 0) ∧ xt_cd P r (t + 1) (p + xt_ln l + 1) ∧ P (p + xt_ln l + 1 + xt_ln r) (2, 2, t + 1, 0, 0, 1, 0) ∧ P (p + xt_ln l + 1 + xt_ln r + 1) (1, 2, t, 0, 0, xt_lo l, xt_hi l) ∧ P (p + xt_ln l + 1 + xt_ln r + 2) (3, 0, 0, 0, 0, 1, 0) ∧ P (p + xt_ln l + 1 + xt_ln r + 3) (1, 2, t + 1, 0, 0, xt_lo r, xt_hi r) ∧ P (p + xt_ln l + 1 + xt_ln r + 4) (5, 1, a, 0, c, 1, 0)) := by
  unfold tr_n
  rw [st_cd]
  dsimp only
  rw [if_neg (by decide), if_neg (by decide), if_pos (by decide)]
theorem st_nd21 : st_nd ρ (tr_n 21 ty lo hi a b c l r) M N n m = ((0 ≤ n ∧ M ≤ n) ∧ n < N ∧ ρ 100 n = 21 ∧ ρ 102 n = a ∧ xt_nd ρ M l n (ρ 104 n) 0 ∧ xt_nd ρ M r n (ρ 103 n) 0) := by
  unfold tr_n
  rw [st_nd]
  dsimp only
  rw [if_neg (by decide), if_neg (by decide), if_pos (by decide)]
theorem st_w21 : st_w (tr_n 21 ty lo hi a b c l r) = (xt_e l ∧ xt_w l ∧ xt_e r ∧ xt_w r) := by
  unfold tr_n
  rw [st_w]
  dsimp only
  rw [if_neg (by decide), if_neg (by decide), if_pos (by decide)]
theorem st_g21 : st_g S Z K U V (tr_n 21 ty lo hi a b c l r) = (S a ∧ Z a c ∧ xt_g S Z K l ∧ xt_g S Z K r) := by
  unfold tr_n
  rw [st_g]
  dsimp only
  rw [if_neg (by decide), if_neg (by decide), if_pos (by decide)]
theorem st_ln22 : st_ln (tr_n 22 ty lo hi a b c l r) = (1 + max 0 c) := by
  unfold tr_n
  rw [st_ln]
  dsimp only
  rw [if_neg (by decide), if_neg (by decide), if_neg (by decide), if_pos (by decide)]
theorem st_cn22 : st_cn B (tr_n 22 ty lo hi a b c l r) = (1 + max 0 c) := by
  unfold tr_n
  rw [st_cn]
  dsimp only
  rw [if_neg (by decide), if_neg (by decide), if_neg (by decide), if_pos (by decide)]
theorem st_mt22 : st_mt (tr_n 22 ty lo hi a b c l r) t = (0) := by
  unfold tr_n
  rw [st_mt]
  dsimp only
  rw [if_neg (by decide), if_neg (by decide), if_neg (by decide), if_pos (by decide)]
theorem st_cd22 : st_cd P (tr_n 22 ty lo hi a b c l r) t p z = (P p (0, 0, b, 0, 0, lo, hi) ∧ ∀ k : Int, 0 ≤ k → k < c → P (p + 1 + k) (2, 1, a, k, 0, 1, 0)) := by
  unfold tr_n
  rw [st_cd]
  dsimp only
  rw [if_neg (by decide), if_neg (by decide), if_neg (by decide), if_pos (by decide)]
theorem st_nd22 : st_nd ρ (tr_n 22 ty lo hi a b c l r) M N n m = ((0 ≤ n ∧ M ≤ n) ∧ n < N ∧ ρ 100 n = 22 ∧ ρ 102 n = a ∧ ρ 103 n = b) := by
  unfold tr_n
  rw [st_nd]
  dsimp only
  rw [if_neg (by decide), if_neg (by decide), if_neg (by decide), if_pos (by decide)]
theorem st_w22 : st_w (tr_n 22 ty lo hi a b c l r) = (1 ≤ c) := by
  unfold tr_n
  rw [st_w]
  dsimp only
  rw [if_neg (by decide), if_neg (by decide), if_neg (by decide), if_pos (by decide)]
theorem st_g22 : st_g S Z K U V (tr_n 22 ty lo hi a b c l r) = (S a ∧ Z a c ∧ V a b lo hi) := by
  unfold tr_n
  rw [st_g]
  dsimp only
  rw [if_neg (by decide), if_neg (by decide), if_neg (by decide), if_pos (by decide)]
theorem st_ln23 : st_ln (tr_n 23 ty lo hi a b c l r) = (xt_ln l + 1) := by
  unfold tr_n
  rw [st_ln]
  dsimp only
  rw [if_neg (by decide), if_neg (by decide), if_neg (by decide), if_neg (by decide), if_pos (by decide)]
theorem st_cn23 : st_cn B (tr_n 23 ty lo hi a b c l r) = (xt_cn B l + 1) := by
  unfold tr_n
  rw [st_cn]
  dsimp only
  rw [if_neg (by decide), if_neg (by decide), if_neg (by decide), if_neg (by decide), if_pos (by decide)]
theorem st_mt23 : st_mt (tr_n 23 ty lo hi a b c l r) t = (xt_mt l t) := by
  unfold tr_n
  rw [st_mt]
  dsimp only
  rw [if_neg (by decide), if_neg (by decide), if_neg (by decide), if_neg (by decide), if_pos (by decide)]
theorem st_cd23 : st_cd P (tr_n 23 ty lo hi a b c l r) t p z = (xt_cd P l t p ∧ P (p + xt_ln l) (30, 0, 0, 0, 0, 1, 0)) := by
  unfold tr_n
  rw [st_cd]
  dsimp only
  rw [if_neg (by decide), if_neg (by decide), if_neg (by decide), if_neg (by decide), if_pos (by decide)]
theorem st_nd23 : st_nd ρ (tr_n 23 ty lo hi a b c l r) M N n m = ((0 ≤ n ∧ M ≤ n) ∧ n < N ∧ ρ 100 n = 23 ∧ xt_nd ρ M l n (ρ 102 n) 0) := by
  unfold tr_n
  rw [st_nd]
  dsimp only
  rw [if_neg (by decide), if_neg (by decide), if_neg (by decide), if_neg (by decide), if_pos (by decide)]
theorem st_w23 : st_w (tr_n 23 ty lo hi a b c l r) = (xt_e l ∧ xt_w l) := by
  unfold tr_n
  rw [st_w]
  dsimp only
  rw [if_neg (by decide), if_neg (by decide), if_neg (by decide), if_neg (by decide), if_pos (by decide)]
theorem st_g23 : st_g S Z K U V (tr_n 23 ty lo hi a b c l r) = (xt_g S Z K l) := by
  unfold tr_n
  rw [st_g]
  dsimp only
  rw [if_neg (by decide), if_neg (by decide), if_neg (by decide), if_neg (by decide), if_pos (by decide)]
theorem st_ln24 : st_ln (tr_n 24 ty lo hi a b c l r) = (xt_ln l + 1 + st_ln r) := by
  unfold tr_n
  rw [st_ln]
  dsimp only
  rw [if_neg (by decide), if_neg (by decide), if_neg (by decide), if_neg (by decide), if_neg (by decide), if_pos (by decide)]
theorem st_cn24 : st_cn B (tr_n 24 ty lo hi a b c l r) = (xt_cn B l + 1 + st_cn B r) := by
  unfold tr_n
  rw [st_cn]
  dsimp only
  rw [if_neg (by decide), if_neg (by decide), if_neg (by decide), if_neg (by decide), if_neg (by decide), if_pos (by decide)]
theorem st_mt24 : st_mt (tr_n 24 ty lo hi a b c l r) t = (max (xt_mt l t) (max (t + 1) (st_mt r (t + 1)))) := by
  unfold tr_n
  rw [st_mt]
  dsimp only
  rw [if_neg (by decide), if_neg (by decide), if_neg (by decide), if_neg (by decide), if_neg (by decide), if_pos (by decide)]
theorem st_cd24 : st_cd P (tr_n 24 ty lo hi a b c l r) t p z = (xt_cd P l t p ∧ P (p + xt_ln l) (2, 2, t, 0, 0, 1, 0) ∧ st_cd P r (t + 1) (p + xt_ln l + 1) z) := by
  unfold tr_n
  rw [st_cd]
  dsimp only
  rw [if_neg (by decide), if_neg (by decide), if_neg (by decide), if_neg (by decide), if_neg (by decide), if_pos (by decide)]
theorem st_nd24 : st_nd ρ (tr_n 24 ty lo hi a b c l r) M N n m = ((0 ≤ n ∧ M ≤ n) ∧ n < N ∧ ρ 100 n = 24 ∧ (ρ 101 n = ty ∧ (ty = 0 ∧ ρ 104 n = -1 ∨ ty = 1)) ∧ xt_nd ρ M l n (ρ 102 n) 0 ∧ st_nd ρ r M n (ρ 103 n) (ρ 104 n)) := by
  unfold tr_n
  rw [st_nd]
  dsimp only
  rw [if_neg (by decide), if_neg (by decide), if_neg (by decide), if_neg (by decide), if_neg (by decide), if_pos (by decide)]
theorem st_w24 : st_w (tr_n 24 ty lo hi a b c l r) = (xt_e l ∧ xt_w l ∧ (xt_k r = 25 ∨ xt_k r = 93) ∧ st_w r ∧ am_P (xt_lo l) (xt_hi l) r) := by
  unfold tr_n
  rw [st_w]
  dsimp only
  rw [if_neg (by decide), if_neg (by decide), if_neg (by decide), if_neg (by decide), if_neg (by decide), if_pos (by decide)]
theorem st_g24 : st_g S Z K U V (tr_n 24 ty lo hi a b c l r) = (xt_g S Z K l ∧ st_g S Z K U V r) := by
  unfold tr_n
  rw [st_g]
  dsimp only
  rw [if_neg (by decide), if_neg (by decide), if_neg (by decide), if_neg (by decide), if_neg (by decide), if_pos (by decide)]
theorem st_ln25 : st_ln (tr_n 25 ty lo hi a b c l r) = ((if ty = 1 then 10 else 5) + st_ln l + 1 + st_ln r) := by
  unfold tr_n
  rw [st_ln]
  dsimp only
  rw [if_neg (by decide), if_neg (by decide), if_neg (by decide), if_neg (by decide), if_neg (by decide), if_neg (by decide), if_pos (by decide)]
theorem st_cn25 : st_cn B (tr_n 25 ty lo hi a b c l r) = ((if ty = 1 then 10 else 5) + max (st_cn B l + 1) (st_cn B r)) := by
  unfold tr_n
  rw [st_cn]
  dsimp only
  rw [if_neg (by decide), if_neg (by decide), if_neg (by decide), if_neg (by decide), if_neg (by decide), if_neg (by decide), if_pos (by decide)]
theorem st_mt25 : st_mt (tr_n 25 ty lo hi a b c l r) t = (max (st_mt l t) (st_mt r t)) := by
  unfold tr_n
  rw [st_mt]
  dsimp only
  rw [if_neg (by decide), if_neg (by decide), if_neg (by decide), if_neg (by decide), if_neg (by decide), if_neg (by decide), if_pos (by decide)]
theorem st_cd25 : st_cd P (tr_n 25 ty lo hi a b c l r) t p z = (P (p) (0, 0, lo, 0, 0, lo, lo) ∧ P (p + 1) (3, 0, 0, 0, 0, 1, 0) ∧ P (p + 2) (1, 2, t - 1, 0, 0, b, c) ∧ P (p + 3) (if ty = 1 then 16 else 17, 0, 0, 0, 0, 0, 1) ∧ P (p + 4) (25, 0, p + (if ty = 1 then 10 else 5) + st_ln l + 1, 0, 0, 1, 0) ∧ (ty = 1 → P (p + 5) (0, 0, hi, 0, 0, hi, hi) ∧ P (p + 5 + 1) (3, 0, 0, 0, 0, 1, 0) ∧ P (p + 5 + 2) (1, 2, t - 1, 0, 0, b, c) ∧ P (p + 5 + 3) (14, 0, 0, 0, 0, 0, 1) ∧ P (p + 5 + 4) (25, 0, p + (if ty = 1 then 10 else 5) + st_ln l + 1, 0, 0, 1, 0)) ∧ st_cd P l t (p + (if ty = 1 then 10 else 5)) 0 ∧ P (p + (if ty = 1 then 10 else 5) + st_ln l) (24, 0, z, 0, 0, 1, 0) ∧ st_cd P r t (p + (if ty = 1 then 10 else 5) + st_ln l + 1) z) := by
  unfold tr_n
  rw [st_cd]
  dsimp only
  rw [if_neg (by decide), if_neg (by decide), if_neg (by decide), if_neg (by decide), if_neg (by decide), if_neg (by decide), if_pos (by decide)]
theorem st_nd25 : st_nd ρ (tr_n 25 ty lo hi a b c l r) M N n m = ((0 ≤ n ∧ M ≤ n) ∧ n < N ∧ ρ 100 n = 25 ∧ ρ 101 n = ty ∧ ρ 105 n = lo ∧ ρ 106 n = hi ∧ st_nd ρ l M n (ρ 102 n) 0 ∧ st_nd ρ r (n + 1) N (ρ 107 n) m) := by
  unfold tr_n
  rw [st_nd]
  dsimp only
  rw [if_neg (by decide), if_neg (by decide), if_neg (by decide), if_neg (by decide), if_neg (by decide), if_neg (by decide), if_pos (by decide)]
theorem st_w25 : st_w (tr_n 25 ty lo hi a b c l r) = (((ty = 0 ∨ ty = 1) ∧ -2000000000 ≤ lo ∧ lo ≤ hi ∧ hi ≤ 2000000000) ∧ (l = .leaf ∨ xt_k l = 90) ∧ st_w l ∧ (xt_k r = 25 ∨ xt_k r = 93) ∧ st_w r) := by
  unfold tr_n
  rw [st_w]
  dsimp only
  rw [if_neg (by decide), if_neg (by decide), if_neg (by decide), if_neg (by decide), if_neg (by decide), if_neg (by decide), if_pos (by decide)]
theorem st_g25 : st_g S Z K U V (tr_n 25 ty lo hi a b c l r) = (st_g S Z K U V l ∧ st_g S Z K U V r) := by
  unfold tr_n
  rw [st_g]
  dsimp only
  rw [if_neg (by decide), if_neg (by decide), if_neg (by decide), if_neg (by decide), if_neg (by decide), if_neg (by decide), if_pos (by decide)]
theorem st_ln26 : st_ln (tr_n 26 ty lo hi a b c l r) = (xt_ln l + 1 + st_ln r) := by
  unfold tr_n
  rw [st_ln]
  dsimp only
  rw [if_neg (by decide), if_neg (by decide), if_neg (by decide), if_neg (by decide), if_neg (by decide), if_neg (by decide), if_neg (by decide), if_pos (by decide)]
theorem st_cn26 : st_cn B (tr_n 26 ty lo hi a b c l r) = (xt_cn B l + 1 + st_cn B r) := by
  unfold tr_n
  rw [st_cn]
  dsimp only
  rw [if_neg (by decide), if_neg (by decide), if_neg (by decide), if_neg (by decide), if_neg (by decide), if_neg (by decide), if_neg (by decide), if_pos (by decide)]
theorem st_mt26 : st_mt (tr_n 26 ty lo hi a b c l r) t = (max (xt_mt l t) (st_mt r t)) := by
  unfold tr_n
  rw [st_mt]
  dsimp only
  rw [if_neg (by decide), if_neg (by decide), if_neg (by decide), if_neg (by decide), if_neg (by decide), if_neg (by decide), if_neg (by decide), if_pos (by decide)]
theorem st_cd26 : st_cd P (tr_n 26 ty lo hi a b c l r) t p z = (xt_cd P l t p ∧ P (p + xt_ln l) (25, 0, p + xt_ln l + 1 + st_ln (xt_l r) + (if 0 < hi then 1 else 0), 0, 0, 1, 0) ∧ st_cd P r t (p + xt_ln l + 1) z) := by
  unfold tr_n
  rw [st_cd]
  dsimp only
  rw [if_neg (by decide), if_neg (by decide), if_neg (by decide), if_neg (by decide), if_neg (by decide), if_neg (by decide), if_neg (by decide), if_pos (by decide)]
theorem st_nd26 : st_nd ρ (tr_n 26 ty lo hi a b c l r) M N n m = ((0 ≤ n ∧ M ≤ n) ∧ n < N ∧ ρ 100 n = 26 ∧ ρ 106 n = hi ∧ xt_k r = 92 ∧ xt_nd ρ M l n (ρ 102 n) 0 ∧ st_nd ρ r M N n 0) := by
  unfold tr_n
  rw [st_nd]
  dsimp only
  rw [if_neg (by decide), if_neg (by decide), if_neg (by decide), if_neg (by decide), if_neg (by decide), if_neg (by decide), if_neg (by decide), if_pos (by decide)]
theorem st_w26 : st_w (tr_n 26 ty lo hi a b c l r) = (xt_e l ∧ xt_w l ∧ xt_k r = 92 ∧ xt_hi r = hi ∧ st_w r) := by
  unfold tr_n
  rw [st_w]
  dsimp only
  rw [if_neg (by decide), if_neg (by decide), if_neg (by decide), if_neg (by decide), if_neg (by decide), if_neg (by decide), if_neg (by decide), if_pos (by decide)]
theorem st_g26 : st_g S Z K U V (tr_n 26 ty lo hi a b c l r) = (xt_g S Z K l ∧ st_g S Z K U V r) := by
  unfold tr_n
  rw [st_g]
  dsimp only
  rw [if_neg (by decide), if_neg (by decide), if_neg (by decide), if_neg (by decide), if_neg (by decide), if_neg (by decide), if_neg (by decide), if_pos (by decide)]
theorem st_ln27 : st_ln (tr_n 27 ty lo hi a b c l r) = (st_ln l + 13) := by
  unfold tr_n
  rw [st_ln]
  dsimp only
  rw [if_neg (by decide), if_neg (by decide), if_neg (by decide), if_neg (by decide), if_neg (by decide), if_neg (by decide), if_neg (by decide), if_neg (by decide), if_pos (by decide)]
theorem st_cn27 : st_cn B (tr_n 27 ty lo hi a b c l r) = (7 + (hi - lo + 1) * (st_cn B l + 11)) := by
  unfold tr_n
  rw [st_cn]
  dsimp only
  rw [if_neg (by decide), if_neg (by decide), if_neg (by decide), if_neg (by decide), if_neg (by decide), if_neg (by decide), if_neg (by decide), if_neg (by decide), if_pos (by decide)]
theorem st_mt27 : st_mt (tr_n 27 ty lo hi a b c l r) t = (st_mt l t) := by
  unfold tr_n
  rw [st_mt]
  dsimp only
  rw [if_neg (by decide), if_neg (by decide), if_neg (by decide), if_neg (by decide), if_neg (by decide), if_neg (by decide), if_neg (by decide), if_neg (by decide), if_pos (by decide)]
theorem st_cd27 : st_cd P (tr_n 27 ty lo hi a b c l r) t p z = (P p (0, 0, lo, 0, 0, lo, lo) ∧ P (p + 1) (2, 1, a, 0, 0, 1, 0) ∧ P (p + 2) (0, 0, hi, 0, 0, hi, hi) ∧ P (p + 3) (3, 0, 0, 0, 0, 1, 0) ∧ P (p + 4) (1, 1, a, 0, 0, lo, hi + 1) ∧ P (p + 5) (14, 0, 0, 0, 0, 0, 1) ∧ P (p + 6) (25, 0, p + 13 + st_ln l, 0, 0, 1, 0) ∧ st_cd P l t (p + 7) 0 ∧ P (p + 7 + st_ln l) (0, 0, 1, 0, 0, 1, 1) ∧ P (p + 8 + st_ln l) (3, 0, 0, 0, 0, 1, 0) ∧ P (p + 9 + st_ln l) (1, 1, a, 0, 0, lo, hi) ∧ P (p + 10 + st_ln l) (6, 0, 0, 0, 0, lo + 1, hi + 1) ∧ P (p + 11 + st_ln l) (2, 1, a, 0, 0, 1, 0) ∧ P (p + 12 + st_ln l) (24, 0, p + 2, 0, 0, 1, 0)) := by
  unfold tr_n
  rw [st_cd]
  dsimp only
  rw [if_neg (by decide), if_neg (by decide), if_neg (by decide), if_neg (by decide), if_neg (by decide), if_neg (by decide), if_neg (by decide), if_neg (by decide), if_pos (by decide)]
theorem st_nd27 : st_nd ρ (tr_n 27 ty lo hi a b c l r) M N n m = ((0 ≤ n ∧ M ≤ n) ∧ n < N ∧ ρ 100 n = 27 ∧ ρ 102 n = a ∧ st_nd ρ l M n (ρ 103 n) 0) := by
  unfold tr_n
  rw [st_nd]
  dsimp only
  rw [if_neg (by decide), if_neg (by decide), if_neg (by decide), if_neg (by decide), if_neg (by decide), if_neg (by decide), if_neg (by decide), if_neg (by decide), if_pos (by decide)]
theorem st_w27 : st_w (tr_n 27 ty lo hi a b c l r) = (lo ≤ hi ∧ (l = .leaf ∨ xt_k l = 90) ∧ st_w l) := by
  unfold tr_n
  rw [st_w]
  dsimp only
  rw [if_neg (by decide), if_neg (by decide), if_neg (by decide), if_neg (by decide), if_neg (by decide), if_neg (by decide), if_neg (by decide), if_neg (by decide), if_pos (by decide)]
theorem st_g27 : st_g S Z K U V (tr_n 27 ty lo hi a b c l r) = (S a ∧ U a lo hi ∧ st_g S Z K U V l) := by
  unfold tr_n
  rw [st_g]
  dsimp only
  rw [if_neg (by decide), if_neg (by decide), if_neg (by decide), if_neg (by decide), if_neg (by decide), if_neg (by decide), if_neg (by decide), if_neg (by decide), if_pos (by decide)]
theorem st_ln28 : st_ln (tr_n 28 ty lo hi a b c l r) = (xt_ln l) := by
  unfold tr_n
  rw [st_ln]
  dsimp only
  rw [if_neg (by decide), if_neg (by decide), if_neg (by decide), if_neg (by decide), if_neg (by decide), if_neg (by decide), if_neg (by decide), if_neg (by decide), if_neg (by decide), if_pos (by decide)]
theorem st_cn28 : st_cn B (tr_n 28 ty lo hi a b c l r) = (xt_cn B l) := by
  unfold tr_n
  rw [st_cn]
  dsimp only
  rw [if_neg (by decide), if_neg (by decide), if_neg (by decide), if_neg (by decide), if_neg (by decide), if_neg (by decide), if_neg (by decide), if_neg (by decide), if_neg (by decide), if_pos (by decide)]
theorem st_mt28 : st_mt (tr_n 28 ty lo hi a b c l r) t = (xt_mt l t) := by
  unfold tr_n
  rw [st_mt]
  dsimp only
  rw [if_neg (by decide), if_neg (by decide), if_neg (by decide), if_neg (by decide), if_neg (by decide), if_neg (by decide), if_neg (by decide), if_neg (by decide), if_neg (by decide), if_pos (by decide)]
theorem st_cd28 : st_cd P (tr_n 28 ty lo hi a b c l r) t p z = (xt_cd P l t p) := by
  unfold tr_n
  rw [st_cd]
  dsimp only
  rw [if_neg (by decide), if_neg (by decide), if_neg (by decide), if_neg (by decide), if_neg (by decide), if_neg (by decide), if_neg (by decide), if_neg (by decide), if_neg (by decide), if_pos (by decide)]
theorem st_nd28 : st_nd ρ (tr_n 28 ty lo hi a b c l r) M N n m = ((0 ≤ n ∧ M ≤ n) ∧ n < N ∧ ρ 100 n = 28 ∧ xt_nd ρ M l n (ρ 102 n) 0) := by
  unfold tr_n
  rw [st_nd]
  dsimp only
  rw [if_neg (by decide), if_neg (by decide), if_neg (by decide), if_neg (by decide), if_neg (by decide), if_neg (by decide), if_neg (by decide), if_neg (by decide), if_neg (by decide), if_pos (by decide)]
theorem st_w28 : st_w (tr_n 28 ty lo hi a b c l r) = (xt_e l ∧ xt_w l ∧ xt_k l = 10) := by
  unfold tr_n
  rw [st_w]
  dsimp only
  rw [if_neg (by decide), if_neg (by decide), if_neg (by decide), if_neg (by decide), if_neg (by decide), if_neg (by decide), if_neg (by decide), if_neg (by decide), if_neg (by decide), if_pos (by decide)]
theorem st_g28 : st_g S Z K U V (tr_n 28 ty lo hi a b c l r) = (xt_g S Z K l) := by
  unfold tr_n
  rw [st_g]
  dsimp only
  rw [if_neg (by decide), if_neg (by decide), if_neg (by decide), if_neg (by decide), if_neg (by decide), if_neg (by decide), if_neg (by decide), if_neg (by decide), if_neg (by decide), if_pos (by decide)]
theorem st_ln92 : st_ln (tr_n 92 ty lo hi a b c l r) = (st_ln l + (if 0 < hi then 1 else 0) + st_ln r) := by
  unfold tr_n
  rw [st_ln]
  dsimp only
  rw [if_neg (by decide), if_neg (by decide), if_neg (by decide), if_neg (by decide), if_neg (by decide), if_neg (by decide), if_neg (by decide), if_neg (by decide), if_neg (by decide), if_neg (by decide), if_pos (by decide)]
theorem st_cn92 : st_cn B (tr_n 92 ty lo hi a b c l r) = (max (st_cn B l + (if 0 < hi then 1 else 0)) (st_cn B r)) := by
  unfold tr_n
  rw [st_cn]
  dsimp only
  rw [if_neg (by decide), if_neg (by decide), if_neg (by decide), if_neg (by decide), if_neg (by decide), if_neg (by decide), if_neg (by decide), if_neg (by decide), if_neg (by decide), if_neg (by decide), if_pos (by decide)]
theorem st_mt92 : st_mt (tr_n 92 ty lo hi a b c l r) t = (max (st_mt l t) (st_mt r t)) := by
  unfold tr_n
  rw [st_mt]
  dsimp only
  rw [if_neg (by decide), if_neg (by decide), if_neg (by decide), if_neg (by decide), if_neg (by decide), if_neg (by decide), if_neg (by decide), if_neg (by decide), if_neg (by decide), if_neg (by decide), if_pos (by decide)]
theorem st_cd92 : st_cd P (tr_n 92 ty lo hi a b c l r) t p z = (st_cd P l t p 0 ∧ (0 < hi → P (p + st_ln l) (24, 0, z, 0, 0, 1, 0)) ∧ st_cd P r t (p + st_ln l + (if 0 < hi then 1 else 0)) z) := by
  unfold tr_n
  rw [st_cd]
  dsimp only
  rw [if_neg (by decide), if_neg (by decide), if_neg (by decide), if_neg (by decide), if_neg (by decide), if_neg (by decide), if_neg (by decide), if_neg (by decide), if_neg (by decide), if_neg (by decide), if_pos (by decide)]
theorem st_nd92 : st_nd ρ (tr_n 92 ty lo hi a b c l r) M N n m = ((0 ≤ n ∧ M ≤ n) ∧ n < N ∧ st_nd ρ l M n (ρ 103 n) 0 ∧ st_nd ρ r (n + 1) N (ρ 104 n) 0) := by
  unfold tr_n
  rw [st_nd]
  dsimp only
  rw [if_neg (by decide), if_neg (by decide), if_neg (by decide), if_neg (by decide), if_neg (by decide), if_neg (by decide), if_neg (by decide), if_neg (by decide), if_neg (by decide), if_neg (by decide), if_pos (by decide)]
theorem st_w92 : st_w (tr_n 92 ty lo hi a b c l r) = ((l = .leaf ∨ xt_k l = 90) ∧ st_w l ∧ (hi = 0 ∧ r = .leaf ∨ hi = 1 ∧ (r = .leaf ∨ xt_k r = 90) ∨ hi = 2 ∧ xt_k r = 26) ∧ st_w r) := by
  unfold tr_n
  rw [st_w]
  dsimp only
  rw [if_neg (by decide), if_neg (by decide), if_neg (by decide), if_neg (by decide), if_neg (by decide), if_neg (by decide), if_neg (by decide), if_neg (by decide), if_neg (by decide), if_neg (by decide), if_pos (by decide)]
theorem st_g92 : st_g S Z K U V (tr_n 92 ty lo hi a b c l r) = (st_g S Z K U V l ∧ st_g S Z K U V r) := by
  unfold tr_n
  rw [st_g]
  dsimp only
  rw [if_neg (by decide), if_neg (by decide), if_neg (by decide), if_neg (by decide), if_neg (by decide), if_neg (by decide), if_neg (by decide), if_neg (by decide), if_neg (by decide), if_neg (by decide), if_pos (by decide)]
theorem st_ln93 : st_ln (tr_n 93 ty lo hi a b c l r) = (st_ln l) := by
  unfold tr_n
  rw [st_ln]
  dsimp only
  rw [if_neg (by decide), if_neg (by decide), if_neg (by decide), if_neg (by decide), if_neg (by decide), if_neg (by decide), if_neg (by decide), if_neg (by decide), if_neg (by decide), if_neg (by decide), if_neg (by decide)]
theorem st_cn93 : st_cn B (tr_n 93 ty lo hi a b c l r) = (st_cn B l) := by
  unfold tr_n
  rw [st_cn]
  dsimp only
  rw [if_neg (by decide), if_neg (by decide), if_neg (by decide), if_neg (by decide), if_neg (by decide), if_neg (by decide), if_neg (by decide), if_neg (by decide), if_neg (by decide), if_neg (by decide), if_neg (by decide)]
theorem st_mt93 : st_mt (tr_n 93 ty lo hi a b c l r) t = (st_mt l t) := by
  unfold tr_n
  rw [st_mt]
  dsimp only
  rw [if_neg (by decide), if_neg (by decide), if_neg (by decide), if_neg (by decide), if_neg (by decide), if_neg (by decide), if_neg (by decide), if_neg (by decide), if_neg (by decide), if_neg (by decide), if_neg (by decide)]
theorem st_cd93 : st_cd P (tr_n 93 ty lo hi a b c l r) t p z = (st_cd P l t p z) := by
  unfold tr_n
  rw [st_cd]
  dsimp only
  rw [if_neg (by decide), if_neg (by decide), if_neg (by decide), if_neg (by decide), if_neg (by decide), if_neg (by decide), if_neg (by decide), if_neg (by decide), if_neg (by decide), if_neg (by decide), if_neg (by decide)]
theorem st_nd93 : st_nd ρ (tr_n 93 ty lo hi a b c l r) M N n m = (n = -1 ∧ st_nd ρ l M N m 0) := by
  unfold tr_n
  rw [st_nd]
  dsimp only
  rw [if_neg (by decide), if_neg (by decide), if_neg (by decide), if_neg (by decide), if_neg (by decide), if_neg (by decide), if_neg (by decide), if_neg (by decide), if_neg (by decide), if_neg (by decide), if_neg (by decide)]
theorem st_w93 : st_w (tr_n 93 ty lo hi a b c l r) = ((l = .leaf ∨ xt_k l = 90) ∧ st_w l) := by
  unfold tr_n
  rw [st_w]
  dsimp only
  rw [if_neg (by decide), if_neg (by decide), if_neg (by decide), if_neg (by decide), if_neg (by decide), if_neg (by decide), if_neg (by decide), if_neg (by decide), if_neg (by decide), if_neg (by decide), if_neg (by decide), if_pos (by decide)]
theorem st_g93 : st_g S Z K U V (tr_n 93 ty lo hi a b c l r) = (st_g S Z K U V l) := by
  unfold tr_n
  rw [st_g]
  dsimp only
  rw [if_neg (by decide), if_neg (by decide), if_neg (by decide), if_neg (by decide), if_neg (by decide), if_neg (by decide), if_neg (by decide), if_neg (by decide), if_neg (by decide), if_neg (by decide), if_neg (by decide)]
end ES
theorem st_ln_0 (e : tr_T) : 0 ≤ st_ln e := by
  induction e with
  | leaf => exact Int.le_refl _
  | inner z d v l r ihl ihr =>
    have hl := xt_ln_0 l
    have hr := xt_ln_0 r
    rw [st_ln]
    repeat' split
    all_goals omega
theorem st_cd_of {P Q : Int → xt_I → Prop} (e : tr_T) : ∀ t p z : Int, (∀ (i : Int) (I : xt_I), p ≤ i → i < p + st_ln e → P i I → Q i I) → st_cd P e t p z → st_cd Q e t p z := by
  induction e with
  | leaf => intro t p z _ _; exact trivial
  | inner z0 d v l r ihl ihr =>
    intro t p z h hp
    have hl := xt_ln_0 l
    have hr := xt_ln_0 r
    have sl := st_ln_0 l
    have sr := st_ln_0 r
    rw [st_ln] at h
    rw [st_cd] at hp ⊢
    by_cases q90 : d.1 = 90
    · rw [if_pos q90] at hp h ⊢
      obtain ⟨a0, a1⟩ := hp
      exact ⟨ihl _ _ _ (fun i I g1 g2 => h i I (by omega) (by omega)) a0, ihr _ _ _ (fun i I g1 g2 => h i I (by omega) (by omega)) a1⟩
    by_cases q20 : d.1 = 20
    · rw [if_neg q90, if_pos q20] at hp h ⊢
      obtain ⟨a0, a1⟩ := hp
      exact ⟨xt_cd_of l _ _ (fun i I g1 g2 => h i I (by omega) (by omega)) a0, h _ _ (by omega) (by omega) a1⟩
    by_cases q21 : d.1 = 21
    · rw [if_neg q90, if_neg q20, if_pos q21] at hp h ⊢
      obtain ⟨a0, a1, a2, a3, a4, a5, a6, a7⟩ := hp
      exact ⟨xt_cd_of l _ _ (fun i I g1 g2 => h i I (by omega) (by omega)) a0, h _ _ (by omega) (by omega) a1, xt_cd_of r _ _ (fun i I g1 g2 => h i I (by omega) (by omega)) a2, h _ _ (by omega) (by omega) a3, h _ _ (by omega) (by omega) a4, h _ _ (by omega) (by omega) a5, h _ _ (by omega) (by omega) a6, h _ _ (by omega) (by omega) a7⟩
    by_cases q22 : d.1 = 22
    · rw [if_neg q90, if_neg q20, if_neg q21, if_pos q22] at hp h ⊢
      obtain ⟨a0, a1⟩ := hp
      exact ⟨h _ _ (by omega) (by omega) a0, fun k g1 g2 => h _ _ (by omega) (by omega) (a1 k g1 g2)⟩
    by_cases q23 : d.1 = 23
    · rw [if_neg q90, if_neg q20, if_neg q21, if_neg q22, if_pos q23] at hp h ⊢
      obtain ⟨a0, a1⟩ := hp
      exact ⟨xt_cd_of l _ _ (fun i I g1 g2 => h i I (by omega) (by omega)) a0, h _ _ (by omega) (by omega) a1⟩
    by_cases q24 : d.1 = 24
    · rw [if_neg q90, if_neg q20, if_neg q21, if_neg q22, if_neg q23, if_pos q24] at hp h ⊢
      obtain ⟨a0, a1, a2⟩ := hp
      exact ⟨xt_cd_of l _ _ (fun i I g1 g2 => h i I (by omega) (by omega)) a0, h _ _ (by omega) (by omega) a1, ihr _ _ _ (fun i I g1 g2 => h i I (by omega) (by omega)) a2⟩
    by_cases q25 : d.1 = 25
    · rw [if_neg q90, if_neg q20, if_neg q21, if_neg q22, if_neg q23, if_neg q24, if_pos q25] at hp h ⊢
      have w1 : d.2.1 = 1 ∨ ¬ d.2.1 = 1 := Classical.em _
      have w0 : (if d.2.1 = 1 then (10 : Int) else 5) = 5 ∨ (if d.2.1 = 1 then (10 : Int) else 5) = 10 ∧ d.2.1 = 1 := by
        split
        · exact Or.inr ⟨rfl, by assumption⟩
        · exact Or.inl rfl
      have w2 : d.2.1 = 1 → (if d.2.1 = 1 then (10 : Int) else 5) = 10 := fun hh => if_pos hh
      generalize (if d.2.1 = 1 then (10 : Int) else 5) = ww at hp h w0 w2 ⊢
      clear w1
      obtain ⟨a0, a1, a2, a3, a4, a5, a6, a7, a8⟩ := hp
      exact ⟨h _ _ (by omega) (by omega) a0, h _ _ (by omega) (by omega) a1, h _ _ (by omega) (by omega) a2, h _ _ (by omega) (by omega) a3, h _ _ (by omega) (by omega) a4, fun hh => ⟨h _ _ (by omega) (by have := w2 hh; omega) (a5 hh).1, h _ _ (by omega) (by have := w2 hh; omega) (a5 hh).2.1, h _ _ (by omega) (by have := w2 hh; omega) (a5 hh).2.2.1, h _ _ (by omega) (by have := w2 hh; omega) (a5 hh).2.2.2.1, h _ _ (by omega) (by have := w2 hh; omega) (a5 hh).2.2.2.2⟩, ihl _ _ _ (fun i I g1 g2 => h i I (by omega) (by omega)) a6, h _ _ (by omega) (by omega) a7, ihr _ _ _ (fun i I g1 g2 => h i I (by omega) (by omega)) a8⟩
    by_cases q26 : d.1 = 26
    · rw [if_neg q90, if_neg q20, if_neg q21, if_neg q22, if_neg q23, if_neg q24, if_neg q25, if_pos q26] at hp h ⊢
      have w0 : (if 0 < d.2.2.2.1 then (1 : Int) else 0) = 0 ∨ (if 0 < d.2.2.2.1 then (1 : Int) else 0) = 1 := by
        split
        · exact Or.inr rfl
        · exact Or.inl rfl
      have w2 : 0 < d.2.2.2.1 → (if 0 < d.2.2.2.1 then (1 : Int) else 0) = 1 := fun hh => if_pos hh
      generalize (if 0 < d.2.2.2.1 then (1 : Int) else 0) = ww at hp h w0 w2 ⊢
      obtain ⟨a0, a1, a2⟩ := hp
      exact ⟨xt_cd_of l _ _ (fun i I g1 g2 => h i I (by omega) (by omega)) a0, h _ _ (by omega) (by omega) a1, ihr _ _ _ (fun i I g1 g2 => h i I (by omega) (by omega)) a2⟩
    by_cases q27 : d.1 = 27
    · rw [if_neg q90, if_neg q20, if_neg q21, if_neg q22, if_neg q23, if_neg q24, if_neg q25, if_neg q26, if_pos q27] at hp h ⊢
      obtain ⟨a0, a1, a2, a3, a4, a5, a6, a7, a8, a9, a10, a11, a12, a13⟩ := hp
      exact ⟨h _ _ (by omega) (by omega) a0, h _ _ (by omega) (by omega) a1, h _ _ (by omega) (by omega) a2, h _ _ (by omega) (by omega) a3, h _ _ (by omega) (by omega) a4, h _ _ (by omega) (by omega) a5, h _ _ (by omega) (by omega) a6, ihl _ _ _ (fun i I g1 g2 => h i I (by omega) (by omega)) a7, h _ _ (by omega) (by omega) a8, h _ _ (by omega) (by omega) a9, h _ _ (by omega) (by omega) a10, h _ _ (by omega) (by omega) a11, h _ _ (by omega) (by omega) a12, h _ _ (by omega) (by omega) a13⟩
    by_cases q28 : d.1 = 28
    · rw [if_neg q90, if_neg q20, if_neg q21, if_neg q22, if_neg q23, if_neg q24, if_neg q25, if_neg q26, if_neg q27, if_pos q28] at hp h ⊢
      exact xt_cd_of l _ _ (fun i I g1 g2 => h i I (by omega) (by omega)) hp
    by_cases q92 : d.1 = 92
    · rw [if_neg q90, if_neg q20, if_neg q21, if_neg q22, if_neg q23, if_neg q24, if_neg q25, if_neg q26, if_neg q27, if_neg q28, if_pos q92] at hp h ⊢
      have w0 : (if 0 < d.2.2.2.1 then (1 : Int) else 0) = 0 ∨ (if 0 < d.2.2.2.1 then (1 : Int) else 0) = 1 := by
        split
        · exact Or.inr rfl
        · exact Or.inl rfl
      have w2 : 0 < d.2.2.2.1 → (if 0 < d.2.2.2.1 then (1 : Int) else 0) = 1 := fun hh => if_pos hh
      generalize (if 0 < d.2.2.2.1 then (1 : Int) else 0) = ww at hp h w0 w2 ⊢
      obtain ⟨a0, a1, a2⟩ := hp
      exact ⟨ihl _ _ _ (fun i I g1 g2 => h i I (by omega) (by omega)) a0, fun hh => h _ _ (by omega) (by have := w2 hh; omega) (a1 hh), ihr _ _ _ (fun i I g1 g2 => h i I (by omega) (by omega)) a2⟩
    rw [if_neg q90, if_neg q20, if_neg q21, if_neg q22, if_neg q23, if_neg q24, if_neg q25, if_neg q26, if_neg q27, if_neg q28, if_neg q92] at hp h ⊢
    exact ihl _ _ _ (fun i I g1 g2 => h i I (by omega) (by omega)) hp
theorem st_nd_of {ρ ρ' : js_S} (e : tr_T) : ∀ M M' N N' n m : Int, M' ≤ M → N ≤ N' → (∀ a i : Int, 100 ≤ a → a ≤ 106 → M ≤ i → i < N → ρ' a i = ρ a i) → (∀ i : Int, M ≤ i → i < N → (i = n → ¬ (20 ≤ xt_k e ∧ xt_k e ≤ 28 ∧ xt_k e ≠ 25) ∧ xt_k e ≠ 92) → ρ' 107 i = ρ 107 i) → st_nd ρ e M N n m → st_nd ρ' e M' N' n m := by
  induction e with
  | leaf => intro M M' N N' n m _ _ _ _ h; exact h
  | inner z0 d v l r ihl ihr =>
    intro M M' N N' n m hM hN h h7 hp
    have ek : xt_k (.inner z0 d v l r) = d.1 := rfl
    rw [ek] at h7
    rw [st_nd] at hp ⊢
    have kx : ∀ (x : tr_T) (c : Int), n ≤ N → xt_nd ρ M x n c 0 → xt_nd ρ' M' x n c 0 := fun x c hn hx => xt_nd_up hM x n n c 0 (Int.le_refl _) (xt_nd_of x n c 0 (fun a i g1 g2 g3 g4 => h a i g1 g2 g3 (by omega)) (fun i g1 g2 _ => h7 i g1 (by omega) (fun hh => by omega)) hx)
    by_cases q90 : d.1 = 90
    · rw [if_pos q90] at hp ⊢
      obtain ⟨a0, a1, a2, a3⟩ := hp
      rw [h7 n a0.2 a1 (fun _ => by omega)]
      exact ⟨⟨a0.1, by omega⟩, by omega, ihl _ _ _ _ _ _ hM hN (fun a i g1 g2 g3 g4 => h a i g1 g2 (by omega) (by omega)) (fun i g1 g2 _ => h7 i (by omega) (by omega) (fun _ => by omega)) a2, ihr _ _ _ _ _ _ (Int.le_refl _) hN (fun a i g1 g2 g3 g4 => h a i g1 g2 (by omega) (by omega)) (fun i g1 g2 _ => h7 i (by omega) (by omega) (fun _ => by omega)) a3⟩
    by_cases q20 : d.1 = 20
    · rw [if_neg q90, if_pos q20] at hp ⊢
      obtain ⟨a0, a1, a2, a3, a4⟩ := hp
      rw [h 100 n (by decide) (by decide) a0.2 a1, h 102 n (by decide) (by decide) a0.2 a1, h 103 n (by decide) (by decide) a0.2 a1]
      exact ⟨⟨a0.1, by omega⟩, by omega, a2, a3, kx l _ (by omega) a4⟩
    by_cases q21 : d.1 = 21
    · rw [if_neg q90, if_neg q20, if_pos q21] at hp ⊢
      obtain ⟨a0, a1, a2, a3, a4, a5⟩ := hp
      rw [h 100 n (by decide) (by decide) a0.2 a1, h 102 n (by decide) (by decide) a0.2 a1, h 103 n (by decide) (by decide) a0.2 a1, h 104 n (by decide) (by decide) a0.2 a1]
      exact ⟨⟨a0.1, by omega⟩, by omega, a2, a3, kx l _ (by omega) a4, kx r _ (by omega) a5⟩
    by_cases q22 : d.1 = 22
    · rw [if_neg q90, if_neg q20, if_neg q21, if_pos q22] at hp ⊢
      obtain ⟨a0, a1, a2, a3, a4⟩ := hp
      rw [h 100 n (by decide) (by decide) a0.2 a1, h 102 n (by decide) (by decide) a0.2 a1, h 103 n (by decide) (by decide) a0.2 a1]
      exact ⟨⟨a0.1, by omega⟩, by omega, a2, a3, a4⟩
    by_cases q23 : d.1 = 23
    · rw [if_neg q90, if_neg q20, if_neg q21, if_neg q22, if_pos q23] at hp ⊢
      obtain ⟨a0, a1, a2, a3⟩ := hp
      rw [h 100 n (by decide) (by decide) a0.2 a1, h 102 n (by decide) (by decide) a0.2 a1]
      exact ⟨⟨a0.1, by omega⟩, by omega, a2, kx l _ (by omega) a3⟩
    by_cases q24 : d.1 = 24
    · rw [if_neg q90, if_neg q20, if_neg q21, if_neg q22, if_neg q23, if_pos q24] at hp ⊢
      obtain ⟨a0, a1, a2, a3, a4, a5⟩ := hp
      rw [h 100 n (by decide) (by decide) a0.2 a1, h 101 n (by decide) (by decide) a0.2 a1, h 102 n (by decide) (by decide) a0.2 a1, h 103 n (by decide) (by decide) a0.2 a1, h 104 n (by decide) (by decide) a0.2 a1]
      exact ⟨⟨a0.1, by omega⟩, by omega, a2, a3, kx l _ (by omega) a4, ihr _ _ _ _ _ _ hM (Int.le_refl _) (fun a i g1 g2 g3 g4 => h a i g1 g2 (by omega) (by omega)) (fun i g1 g2 _ => h7 i (by omega) (by omega) (fun hh => by omega)) a5⟩
    by_cases q25 : d.1 = 25
    · rw [if_neg q90, if_neg q20, if_neg q21, if_neg q22, if_neg q23, if_neg q24, if_pos q25] at hp ⊢
      obtain ⟨a0, a1, a2, a3, a4, a5, a6, a7⟩ := hp
      rw [h 100 n (by decide) (by decide) a0.2 a1, h 101 n (by decide) (by decide) a0.2 a1, h 102 n (by decide) (by decide) a0.2 a1, h 105 n (by decide) (by decide) a0.2 a1, h 106 n (by decide) (by decide) a0.2 a1]
      rw [h7 n a0.2 a1 (fun _ => by omega)]
      exact ⟨⟨a0.1, by omega⟩, by omega, a2, a3, a4, a5, ihl _ _ _ _ _ _ hM (Int.le_refl _) (fun a i g1 g2 g3 g4 => h a i g1 g2 (by omega) (by omega)) (fun i g1 g2 _ => h7 i (by omega) (by omega) (fun _ => by omega)) a6, ihr _ _ _ _ _ _ (Int.le_refl _) hN (fun a i g1 g2 g3 g4 => h a i g1 g2 (by omega) (by omega)) (fun i g1 g2 _ => h7 i (by omega) (by omega) (fun _ => by omega)) a7⟩
    by_cases q26 : d.1 = 26
    · rw [if_neg q90, if_neg q20, if_neg q21, if_neg q22, if_neg q23, if_neg q24, if_neg q25, if_pos q26] at hp ⊢
      obtain ⟨a0, a1, a2, a3, a4, a5, a6⟩ := hp
      rw [h 100 n (by decide) (by decide) a0.2 a1, h 102 n (by decide) (by decide) a0.2 a1, h 106 n (by decide) (by decide) a0.2 a1]
      exact ⟨⟨a0.1, by omega⟩, by omega, a2, a3, a4, kx l _ (by omega) a5, ihr _ _ _ _ _ _ hM hN (fun a i g1 g2 g3 g4 => h a i g1 g2 (by omega) (by omega)) (fun i g1 g2 g3 => h7 i (by omega) (by omega) (fun hh => absurd a4 (g3 hh).2)) a6⟩
    by_cases q27 : d.1 = 27
    · rw [if_neg q90, if_neg q20, if_neg q21, if_neg q22, if_neg q23, if_neg q24, if_neg q25, if_neg q26, if_pos q27] at hp ⊢
      obtain ⟨a0, a1, a2, a3, a4⟩ := hp
      rw [h 100 n (by decide) (by decide) a0.2 a1, h 102 n (by decide) (by decide) a0.2 a1, h 103 n (by decide) (by decide) a0.2 a1]
      exact ⟨⟨a0.1, by omega⟩, by omega, a2, a3, ihl _ _ _ _ _ _ hM (Int.le_refl _) (fun a i g1 g2 g3 g4 => h a i g1 g2 (by omega) (by omega)) (fun i g1 g2 _ => h7 i (by omega) (by omega) (fun hh => by omega)) a4⟩
    by_cases q28 : d.1 = 28
    · rw [if_neg q90, if_neg q20, if_neg q21, if_neg q22, if_neg q23, if_neg q24, if_neg q25, if_neg q26, if_neg q27, if_pos q28] at hp ⊢
      obtain ⟨a0, a1, a2, a3⟩ := hp
      rw [h 100 n (by decide) (by decide) a0.2 a1, h 102 n (by decide) (by decide) a0.2 a1]
      exact ⟨⟨a0.1, by omega⟩, by omega, a2, kx l _ (by omega) a3⟩
    by_cases q92 : d.1 = 92
    · rw [if_neg q90, if_neg q20, if_neg q21, if_neg q22, if_neg q23, if_neg q24, if_neg q25, if_neg q26, if_neg q27, if_neg q28, if_pos q92] at hp ⊢
      obtain ⟨a0, a1, a2, a3⟩ := hp
      rw [h 103 n (by decide) (by decide) a0.2 a1, h 104 n (by decide) (by decide) a0.2 a1]
      exact ⟨⟨a0.1, by omega⟩, by omega, ihl _ _ _ _ _ _ hM (Int.le_refl _) (fun a i g1 g2 g3 g4 => h a i g1 g2 (by omega) (by omega)) (fun i g1 g2 _ => h7 i (by omega) (by omega) (fun hh => by omega)) a2, ihr _ _ _ _ _ _ (Int.le_refl _) hN (fun a i g1 g2 g3 g4 => h a i g1 g2 (by omega) (by omega)) (fun i g1 g2 _ => h7 i (by omega) (by omega) (fun hh => by omega)) a3⟩
    rw [if_neg q90, if_neg q20, if_neg q21, if_neg q22, if_neg q23, if_neg q24, if_neg q25, if_neg q26, if_neg q27, if_neg q28, if_neg q92] at hp ⊢
    exact ⟨hp.1, ihl _ _ _ _ _ _ hM hN h (fun i g1 g2 _ => h7 i g1 g2 (fun _ => by omega)) hp.2⟩
theorem st_g_of {S S' : Int → Prop} {Z Z' K K' : Int → Int → Prop} {U U' : Int → Int → Int → Prop} {V V' : Int → Int → Int → Int → Prop} (hS : ∀ s : Int, S s → S' s) (hZ : ∀ s c : Int, Z s c → Z' s c) (hK : ∀ s c : Int, K s c → K' s c) (hU : ∀ s x y : Int, U s x y → U' s x y) (hV : ∀ s c x y : Int, V s c x y → V' s c x y) (e : tr_T) : st_g S Z K U V e → st_g S' Z' K' U' V' e := by
  induction e with
  | leaf => exact fun _ => trivial
  | inner z d v l r ihl ihr =>
    intro hp
    rw [st_g] at hp ⊢
    by_cases q90 : d.1 = 90
    · rw [if_pos q90] at hp ⊢
      exact ⟨ihl hp.1, ihr hp.2⟩
    by_cases q20 : d.1 = 20
    · rw [if_neg q90, if_pos q20] at hp ⊢
      exact ⟨hS _ hp.1, xt_g_of hS hZ hK l hp.2⟩
    by_cases q21 : d.1 = 21
    · rw [if_neg q90, if_neg q20, if_pos q21] at hp ⊢
      exact ⟨hS _ hp.1, hZ _ _ hp.2.1, xt_g_of hS hZ hK l hp.2.2.1, xt_g_of hS hZ hK r hp.2.2.2⟩
    by_cases q22 : d.1 = 22
    · rw [if_neg q90, if_neg q20, if_neg q21, if_pos q22] at hp ⊢
      exact ⟨hS _ hp.1, hZ _ _ hp.2.1, hV _ _ _ _ hp.2.2⟩
    by_cases q23 : d.1 = 23
    · rw [if_neg q90, if_neg q20, if_neg q21, if_neg q22, if_pos q23] at hp ⊢
      exact xt_g_of hS hZ hK l hp
    by_cases q24 : d.1 = 24
    · rw [if_neg q90, if_neg q20, if_neg q21, if_neg q22, if_neg q23, if_pos q24] at hp ⊢
      exact ⟨xt_g_of hS hZ hK l hp.1, ihr hp.2⟩
    by_cases q25 : d.1 = 25
    · rw [if_neg q90, if_neg q20, if_neg q21, if_neg q22, if_neg q23, if_neg q24, if_pos q25] at hp ⊢
      exact ⟨ihl hp.1, ihr hp.2⟩
    by_cases q26 : d.1 = 26
    · rw [if_neg q90, if_neg q20, if_neg q21, if_neg q22, if_neg q23, if_neg q24, if_neg q25, if_pos q26] at hp ⊢
      exact ⟨xt_g_of hS hZ hK l hp.1, ihr hp.2⟩
    by_cases q27 : d.1 = 27
    · rw [if_neg q90, if_neg q20, if_neg q21, if_neg q22, if_neg q23, if_neg q24, if_neg q25, if_neg q26, if_pos q27] at hp ⊢
      exact ⟨hS _ hp.1, hU _ _ _ hp.2.1, ihl hp.2.2⟩
    by_cases q28 : d.1 = 28
    · rw [if_neg q90, if_neg q20, if_neg q21, if_neg q22, if_neg q23, if_neg q24, if_neg q25, if_neg q26, if_neg q27, if_pos q28] at hp ⊢
      exact xt_g_of hS hZ hK l hp
    by_cases q92 : d.1 = 92
    · rw [if_neg q90, if_neg q20, if_neg q21, if_neg q22, if_neg q23, if_neg q24, if_neg q25, if_neg q26, if_neg q27, if_neg q28, if_pos q92] at hp ⊢
      exact ⟨ihl hp.1, ihr hp.2⟩
    rw [if_neg q90, if_neg q20, if_neg q21, if_neg q22, if_neg q23, if_neg q24, if_neg q25, if_neg q26, if_neg q27, if_neg q28, if_neg q92] at hp ⊢
    exact ihl hp
/-- how deep making its code calls -/
def st_dp : tr_T → Int
  | .leaf => 8
  | .inner _ d _ l r => if d.1 = 90 then max (1 + st_dp l) (st_dp r) else if d.1 = 20 ∨ d.1 = 23 ∨ d.1 = 28 then 1 + xt_dp l else if d.1 = 21 then 1 + max (xt_dp l) (xt_dp r) else if d.1 = 22 then 8 else if d.1 = 24 ∨ d.1 = 26 then 2 + max (xt_dp l) (st_dp r) else if d.1 = 25 then max (st_dp l) (st_dp r) else if d.1 = 27 then 2 + st_dp l else if d.1 = 92 then max (st_dp l) (if d.2.2.2.1 = 2 then st_dp r - 2 else st_dp r) else st_dp l
theorem st_dz {e : tr_T} {x z : Int} (h : st_dp e = x) (h2 : x ≤ z) : st_dp e ≤ z := by omega
