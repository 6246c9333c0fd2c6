/-! part 99.u: what holds while an e is read; how trees are put together -/
theorem xt_cd_ef {b n t p u t0 p0 : Int} {σ σ' : js_S} {e : tr_T} (hb : b = 0 ∨ b = 25) (h : ef_R b n t p σ σ') (hg : ∀ s : Int, 0 ≤ s → s < σ (7 + b) 1 → 137 ≤ σ (19 + b) s) (hn : p0 + xt_ln e ≤ n) (hc : xt_cd (ci_P σ b u) e t0 p0) : xt_cd (ci_P σ' b u) e t0 p0 :=
  xt_cd_of e t0 p0 (fun i I g1 g2 hI => ci_P_of hI (fun a h1 h2 => h a i (by unfold ef_D; omega)) (by rw [h (7 + b) 1 (by unfold ef_D; omega)]; exact Int.le_refl _) (fun s _ _ => h _ _ (by unfold ef_D; omega)) (fun s k g3 g4 g5 => by have := hg s g3 g4; exact h _ _ (by unfold ef_D; omega))) hc
theorem ci_ef {b n t p u i : Int} {σ σ' : js_S} {I : xt_I} (hb : b = 0 ∨ b = 25) (h : ef_R b n t p σ σ') (hg : ∀ s : Int, 0 ≤ s → s < σ (7 + b) 1 → 137 ≤ σ (19 + b) s) (hn : i < n) (hI : ci_P σ b u i I) : ci_P σ' b u i I :=
  ci_P_of hI (fun a h1 h2 => h a i (by unfold ef_D; omega)) (by rw [h (7 + b) 1 (by unfold ef_D; omega)]; exact Int.le_refl _) (fun s _ _ => h _ _ (by unfold ef_D; omega)) (fun s k g3 g4 g5 => by have := hg s g3 g4; exact h _ _ (by unfold ef_D; omega))
section EQ
variable {P : Int → xt_I → Prop} {B : Int → Int} {ty lo hi a b c t p : Int} {l r : tr_T} {S : Int → Prop} {Z K : Int → Int → Prop} {ρ : js_S} {M N n m : Int}
theorem xt_ln1 : xt_ln (tr_n 1 ty lo hi a b c l r) = 1 := by
  unfold tr_n
  rw [xt_ln]
  dsimp only
  rw [if_pos (by decide)]
theorem xt_cn1 : xt_cn B (tr_n 1 ty lo hi a b c l r) = 1 := by
  unfold tr_n
  rw [xt_cn]
  dsimp only
  rw [if_pos (by decide)]
theorem xt_mt1 : xt_mt (tr_n 1 ty lo hi a b c l r) t = 0 := by
  unfold tr_n
  rw [xt_mt]
  dsimp only
  rw [if_pos (by decide)]
theorem xt_cd1 : xt_cd P (tr_n 1 ty lo hi a b c l r) t p = (P p (0, 0, a, 0, 0, lo, hi)) := by
  unfold tr_n
  rw [xt_cd]
  dsimp only
  rw [if_pos (by decide)]
theorem xt_nd1 : xt_nd ρ M (tr_n 1 ty lo hi a b c l r) N n m = (((0 ≤ n ∧ M ≤ n) ∧ n < N ∧ ρ 100 n = 1 ∧ ρ 101 n = ty ∧ ρ 105 n = lo ∧ ρ 106 n = hi) ∧ (ρ 102 n = a)) := by
  unfold tr_n
  rw [xt_nd]
  dsimp only
  rw [if_neg (by decide), if_neg (by decide), if_pos (by decide)]
theorem xt_w1 : xt_w (tr_n 1 ty lo hi a b c l r) = (True) := by
  unfold tr_n
  rw [xt_w]
  dsimp only
  rw [if_pos (by decide)]
theorem xt_g1 : xt_g S Z K (tr_n 1 ty lo hi a b c l r) = (True) := by
  unfold tr_n
  rw [xt_g]
  dsimp only
  rw [if_pos (by decide)]
theorem xt_ln2 : xt_ln (tr_n 2 ty lo hi a b c l r) = 1 := by
  unfold tr_n
  rw [xt_ln]
  dsimp only
  rw [if_pos (by decide)]
theorem xt_cn2 : xt_cn B (tr_n 2 ty lo hi a b c l r) = 1 := by
  unfold tr_n
  rw [xt_cn]
  dsimp only
  rw [if_pos (by decide)]
theorem xt_mt2 : xt_mt (tr_n 2 ty lo hi a b c l r) t = 0 := by
  unfold tr_n
  rw [xt_mt]
  dsimp only
  rw [if_pos (by decide)]
theorem xt_cd2 : xt_cd P (tr_n 2 ty lo hi a b c l r) t p = (P p (1, 1, a, 0, 0, lo, hi)) := by
  unfold tr_n
  rw [xt_cd]
  dsimp only
  rw [if_neg (by decide), if_pos (by decide)]
theorem xt_nd2 : xt_nd ρ M (tr_n 2 ty lo hi a b c l r) N n m = (((0 ≤ n ∧ M ≤ n) ∧ n < N ∧ ρ 100 n = 2 ∧ ρ 101 n = ty ∧ ρ 105 n = lo ∧ ρ 106 n = hi) ∧ (ρ 102 n = a)) := by
  unfold tr_n
  rw [xt_nd]
  dsimp only
  rw [if_neg (by decide), if_neg (by decide), if_pos (by decide)]
theorem xt_w2 : xt_w (tr_n 2 ty lo hi a b c l r) = (True) := by
  unfold tr_n
  rw [xt_w]
  dsimp only
  rw [if_pos (by decide)]
theorem xt_g2 : xt_g S Z K (tr_n 2 ty lo hi a b c l r) = (S a) := by
  unfold tr_n
  rw [xt_g]
  dsimp only
  rw [if_neg (by decide), if_pos (by decide)]
theorem xt_ln3 : xt_ln (tr_n 3 ty lo hi a b c l r) = xt_ln l + 1 := by
  unfold tr_n
  rw [xt_ln]
  dsimp only
  rw [if_neg (by decide), if_pos (by decide)]
theorem xt_cn3 : xt_cn B (tr_n 3 ty lo hi a b c l r) = xt_cn B l + 1 := by
  unfold tr_n
  rw [xt_cn]
  dsimp only
  rw [if_neg (by decide), if_pos (by decide)]
theorem xt_mt3 : xt_mt (tr_n 3 ty lo hi a b c l r) t = xt_mt l t := by
  unfold tr_n
  rw [xt_mt]
  dsimp only
  rw [if_neg (by decide), if_pos (by decide)]
theorem xt_cd3 : xt_cd P (tr_n 3 ty lo hi a b c l r) t p = (xt_cd P l t p ∧ P (p + xt_ln l) (4, 1, a, 0, c, lo, hi)) := by
  unfold tr_n
  rw [xt_cd]
  dsimp only
  rw [if_neg (by decide), if_neg (by decide), if_pos (by decide)]
theorem xt_nd3 : xt_nd ρ M (tr_n 3 ty lo hi a b c l r) N n m = (((0 ≤ n ∧ M ≤ n) ∧ n < N ∧ ρ 100 n = 3 ∧ ρ 101 n = ty ∧ ρ 105 n = lo ∧ ρ 106 n = hi) ∧ (ρ 102 n = a ∧ xt_nd ρ M l n (ρ 103 n) 0)) := by
  unfold tr_n
  rw [xt_nd]
  dsimp only
  rw [if_neg (by decide), if_neg (by decide), if_neg (by decide), if_pos (by decide)]
theorem xt_w3 : xt_w (tr_n 3 ty lo hi a b c l r) = (xt_e l ∧ xt_w l) := by
  unfold tr_n
  rw [xt_w]
  dsimp only
  rw [if_neg (by decide), if_pos (by decide)]
theorem xt_g3 : xt_g S Z K (tr_n 3 ty lo hi a b c l r) = (S a ∧ Z a c ∧ xt_g S Z K l) := by
  unfold tr_n
  rw [xt_g]
  dsimp only
  rw [if_neg (by decide), if_neg (by decide), if_pos (by decide)]
theorem xt_ln4 : xt_ln (tr_n 4 ty lo hi a b c l r) = xt_ln l + 1 + xt_ln r + 3 := by
  unfold tr_n
  rw [xt_ln]
  dsimp only
  rw [if_neg (by decide), if_neg (by decide), if_pos (by decide)]
theorem xt_cn4 : xt_cn B (tr_n 4 ty lo hi a b c l r) = xt_cn B l + 4 + xt_cn B r := by
  unfold tr_n
  rw [xt_cn]
  dsimp only
  rw [if_neg (by decide), if_neg (by decide), if_pos (by decide)]
theorem xt_mt4 : xt_mt (tr_n 4 ty lo hi a b c l r) t = max (xt_mt l t) (max (t + 1) (xt_mt r (t + 1))) := by
  unfold tr_n
  rw [xt_mt]
  dsimp only
  rw [if_neg (by decide), if_neg (by decide), if_neg (by decide)]
theorem xt_cd4 : xt_cd P (tr_n 4 ty lo hi a b c l r) t p = (xt_cd P l t p ∧ P (p + xt_ln l) (2, 2, t, 0, 0, 1, 0) ∧ xt_cd P r (t + 1) (p + xt_ln l + 1) ∧ P (p + xt_ln l + 1 + xt_ln r) (3, 0, 0, 0, 0, 1, 0) ∧ P (p + xt_ln l + 1 + xt_ln r + 1) (1, 2, t, 0, 0, xt_lo l, xt_hi l) ∧ P (p + xt_ln l + 1 + xt_ln r + 2) (c, 0, 0, 0, 0, lo, hi)) := by
  unfold tr_n
  rw [xt_cd]
  dsimp only
  rw [if_neg (by decide), if_neg (by decide), if_neg (by decide), if_pos (by decide)]
theorem xt_nd4 : xt_nd ρ M (tr_n 4 ty lo hi a b c l r) N n m = (((0 ≤ n ∧ M ≤ n) ∧ n < N ∧ ρ 100 n = 4 ∧ ρ 101 n = ty ∧ ρ 105 n = lo ∧ ρ 106 n = hi) ∧ (xt_nd ρ M l n (ρ 102 n) 0 ∧ xt_nd ρ M r n (ρ 103 n) 0 ∧ ρ 104 n = c)) := by
  unfold tr_n
  rw [xt_nd]
  dsimp only
  rw [if_neg (by decide), if_neg (by decide), if_neg (by decide), if_neg (by decide), if_pos (by decide)]
theorem xt_w4 : xt_w (tr_n 4 ty lo hi a b c l r) = (xt_e l ∧ xt_w l ∧ xt_e r ∧ xt_w r) := by
  unfold tr_n
  rw [xt_w]
  dsimp only
  rw [if_neg (by decide), if_neg (by decide), if_pos (by decide)]
theorem xt_g4 : xt_g S Z K (tr_n 4 ty lo hi a b c l r) = (xt_g S Z K l ∧ xt_g S Z K r) := by
  unfold tr_n
  rw [xt_g]
  dsimp only
  rw [if_neg (by decide), if_neg (by decide), if_neg (by decide), if_neg (by decide), if_neg (by decide)]
theorem xt_ln5 : xt_ln (tr_n 5 ty lo hi a b c l r) = xt_ln l + 1 := by
  unfold tr_n
  rw [xt_ln]
  dsimp only
  rw [if_neg (by decide), if_pos (by decide)]
theorem xt_cn5 : xt_cn B (tr_n 5 ty lo hi a b c l r) = xt_cn B l + 1 := by
  unfold tr_n
  rw [xt_cn]
  dsimp only
  rw [if_neg (by decide), if_pos (by decide)]
theorem xt_mt5 : xt_mt (tr_n 5 ty lo hi a b c l r) t = xt_mt l t := by
  unfold tr_n
  rw [xt_mt]
  dsimp only
  rw [if_neg (by decide), if_pos (by decide)]
theorem xt_cd5 : xt_cd P (tr_n 5 ty lo hi a b c l r) t p = (xt_cd P l t p ∧ P (p + xt_ln l) (c, 0, 0, 0, 0, lo, hi)) := by
  unfold tr_n
  rw [xt_cd]
  dsimp only
  rw [if_neg (by decide), if_neg (by decide), if_neg (by decide), if_neg (by decide), if_pos (by decide)]
theorem xt_nd5 : xt_nd ρ M (tr_n 5 ty lo hi a b c l r) N n m = (((0 ≤ n ∧ M ≤ n) ∧ n < N ∧ ρ 100 n = 5 ∧ ρ 101 n = ty ∧ ρ 105 n = lo ∧ ρ 106 n = hi) ∧ (xt_nd ρ M l n (ρ 102 n) 0 ∧ ρ 104 n = c)) := by
  unfold tr_n
  rw [xt_nd]
  dsimp only
  rw [if_neg (by decide), if_neg (by decide), if_neg (by decide), if_neg (by decide), if_neg (by decide), if_pos (by decide)]
theorem xt_w5 : xt_w (tr_n 5 ty lo hi a b c l r) = (xt_e l ∧ xt_w l) := by
  unfold tr_n
  rw [xt_w]
  dsimp only
  rw [if_neg (by decide), if_pos (by decide)]
theorem xt_g5 : xt_g S Z K (tr_n 5 ty lo hi a b c l r) = (xt_g S Z K l) := by
  unfold tr_n
  rw [xt_g]
  dsimp only
  rw [if_neg (by decide), if_neg (by decide), if_neg (by decide), if_pos (by decide)]
theorem xt_ln6 : xt_ln (tr_n 6 ty lo hi a b c l r) = xt_ln l + 1 + xt_ln r := by
  unfold tr_n
  rw [xt_ln]
  dsimp only
  rw [if_neg (by decide), if_neg (by decide), if_neg (by decide), if_neg (by decide), if_neg (by decide)]
theorem xt_cn6 : xt_cn B (tr_n 6 ty lo hi a b c l r) = xt_cn B l + 1 + xt_cn B r := by
  unfold tr_n
  rw [xt_cn]
  dsimp only
  rw [if_neg (by decide), if_neg (by decide), if_neg (by decide), if_pos (by decide)]
theorem xt_mt6 : xt_mt (tr_n 6 ty lo hi a b c l r) t = max (xt_mt l t) (xt_mt r t) := by
  unfold tr_n
  rw [xt_mt]
  dsimp only
  rw [if_neg (by decide), if_neg (by decide), if_pos (by decide)]
theorem xt_cd6 : xt_cd P (tr_n 6 ty lo hi a b c l r) t p = (xt_cd P l t p ∧ P (p + xt_ln l) (25, 0, p + xt_ln l + 1 + xt_ln r, 0, 0, 1, 0) ∧ xt_cd P r t (p + xt_ln l + 1)) := by
  unfold tr_n
  rw [xt_cd]
  dsimp only
  rw [if_neg (by decide), if_neg (by decide), if_neg (by decide), if_neg (by decide), if_neg (by decide), if_pos (by decide), if_pos (by decide)]
theorem xt_nd6 : xt_nd ρ M (tr_n 6 ty lo hi a b c l r) N n m = (((0 ≤ n ∧ M ≤ n) ∧ n < N ∧ ρ 100 n = 6 ∧ ρ 101 n = ty ∧ ρ 105 n = lo ∧ ρ 106 n = hi) ∧ (xt_nd ρ M l n (ρ 102 n) 0 ∧ xt_nd ρ M r n (ρ 103 n) 0)) := by
  unfold tr_n
  rw [xt_nd]
  dsimp only
  rw [if_neg (by decide), if_neg (by decide), if_neg (by decide), if_neg (by decide), if_neg (by decide), if_neg (by decide), if_pos (by decide)]
theorem xt_w6 : xt_w (tr_n 6 ty lo hi a b c l r) = (xt_e l ∧ xt_w l ∧ xt_e r ∧ xt_w r) := by
  unfold tr_n
  rw [xt_w]
  dsimp only
  rw [if_neg (by decide), if_neg (by decide), if_pos (by decide)]
theorem xt_g6 : xt_g S Z K (tr_n 6 ty lo hi a b c l r) = (xt_g S Z K l ∧ xt_g S Z K r) := by
  unfold tr_n
  rw [xt_g]
  dsimp only
  rw [if_neg (by decide), if_neg (by decide), if_neg (by decide), if_neg (by decide), if_neg (by decide)]
theorem xt_ln7 : xt_ln (tr_n 7 ty lo hi a b c l r) = xt_ln l + 1 + xt_ln r := by
  unfold tr_n
  rw [xt_ln]
  dsimp only
  rw [if_neg (by decide), if_neg (by decide), if_neg (by decide), if_neg (by decide), if_neg (by decide)]
theorem xt_cn7 : xt_cn B (tr_n 7 ty lo hi a b c l r) = xt_cn B l + 1 + xt_cn B r := by
  unfold tr_n
  rw [xt_cn]
  dsimp only
  rw [if_neg (by decide), if_neg (by decide), if_neg (by decide), if_pos (by decide)]
theorem xt_mt7 : xt_mt (tr_n 7 ty lo hi a b c l r) t = max (xt_mt l t) (xt_mt r t) := by
  unfold tr_n
  rw [xt_mt]
  dsimp only
  rw [if_neg (by decide), if_neg (by decide), if_pos (by decide)]
theorem xt_cd7 : xt_cd P (tr_n 7 ty lo hi a b c l r) t p = (xt_cd P l t p ∧ P (p + xt_ln l) (26, 0, p + xt_ln l + 1 + xt_ln r, 0, 0, 1, 0) ∧ xt_cd P r t (p + xt_ln l + 1)) := by
  unfold tr_n
  rw [xt_cd]
  dsimp only
  rw [if_neg (by decide), if_neg (by decide), if_neg (by decide), if_neg (by decide), if_neg (by decide), if_pos (by decide), if_neg (by decide)]
theorem xt_nd7 : xt_nd ρ M (tr_n 7 ty lo hi a b c l r) N n m = (((0 ≤ n ∧ M ≤ n) ∧ n < N ∧ ρ 100 n = 7 ∧ ρ 101 n = ty ∧ ρ 105 n = lo ∧ ρ 106 n = hi) ∧ (xt_nd ρ M l n (ρ 102 n) 0 ∧ xt_nd ρ M r n (ρ 103 n) 0)) := by
  unfold tr_n
  rw [xt_nd]
  dsimp only
  rw [if_neg (by decide), if_neg (by decide), if_neg (by decide), if_neg (by decide), if_neg (by decide), if_neg (by decide), if_pos (by decide)]
theorem xt_w7 : xt_w (tr_n 7 ty lo hi a b c l r) = (xt_e l ∧ xt_w l ∧ xt_e r ∧ xt_w r) := by
  unfold tr_n
  rw [xt_w]
  dsimp only
  rw [if_neg (by decide), if_neg (by decide), if_pos (by decide)]
theorem xt_g7 : xt_g S Z K (tr_n 7 ty lo hi a b c l r) = (xt_g S Z K l ∧ xt_g S Z K r) := by
  unfold tr_n
  rw [xt_g]
  dsimp only
  rw [if_neg (by decide), if_neg (by decide), if_neg (by decide), if_neg (by decide), if_neg (by decide)]
theorem xt_ln8 : xt_ln (tr_n 8 ty lo hi a b c l r) = xt_ln l + 1 + xt_ln r := by
  unfold tr_n
  rw [xt_ln]
  dsimp only
  rw [if_neg (by decide), if_neg (by decide), if_neg (by decide), if_neg (by decide), if_neg (by decide)]
theorem xt_cn8 : xt_cn B (tr_n 8 ty lo hi a b c l r) = xt_cn B l + 1 + xt_cn B r := by
  unfold tr_n
  rw [xt_cn]
  dsimp only
  rw [if_neg (by decide), if_neg (by decide), if_neg (by decide), if_pos (by decide)]
theorem xt_mt8 : xt_mt (tr_n 8 ty lo hi a b c l r) t = max (xt_mt l t) (xt_mt r t) := by
  unfold tr_n
  rw [xt_mt]
  dsimp only
  rw [if_neg (by decide), if_neg (by decide), if_pos (by decide)]
theorem xt_cd8 : xt_cd P (tr_n 8 ty lo hi a b c l r) t p = (xt_cd P l t p ∧ P (p + xt_ln l) (25, 0, p + xt_ln l + 1 + xt_ln (xt_l r) + 1, 0, 0, 1, 0) ∧ xt_cd P r t (p + xt_ln l + 1)) := by
  unfold tr_n
  rw [xt_cd]
  dsimp only
  rw [if_neg (by decide), if_neg (by decide), if_neg (by decide), if_neg (by decide), if_neg (by decide), if_neg (by decide), if_pos (by decide)]
theorem xt_nd8 : xt_nd ρ M (tr_n 8 ty lo hi a b c l r) N n m = (((0 ≤ n ∧ M ≤ n) ∧ n < N ∧ ρ 100 n = 8 ∧ ρ 101 n = ty ∧ ρ 105 n = lo ∧ ρ 106 n = hi) ∧ (xt_nd ρ M l n (ρ 102 n) 0 ∧ xt_nd ρ M r n (ρ 103 n) (ρ 104 n))) := by
  unfold tr_n
  rw [xt_nd]
  dsimp only
  rw [if_neg (by decide), if_neg (by decide), if_neg (by decide), if_neg (by decide), if_neg (by decide), if_neg (by decide), if_neg (by decide), if_pos (by decide)]
theorem xt_w8 : xt_w (tr_n 8 ty lo hi a b c l r) = (xt_e l ∧ xt_w l ∧ xt_k r = 80 ∧ xt_w r) := by
  unfold tr_n
  rw [xt_w]
  dsimp only
  rw [if_neg (by decide), if_neg (by decide), if_neg (by decide), if_pos (by decide)]
theorem xt_g8 : xt_g S Z K (tr_n 8 ty lo hi a b c l r) = (xt_g S Z K l ∧ xt_g S Z K r) := by
  unfold tr_n
  rw [xt_g]
  dsimp only
  rw [if_neg (by decide), if_neg (by decide), if_neg (by decide), if_neg (by decide), if_neg (by decide)]
theorem xt_ln9 : xt_ln (tr_n 9 ty lo hi a b c l r) = xt_ln l + 2 := by
  unfold tr_n
  rw [xt_ln]
  dsimp only
  rw [if_neg (by decide), if_neg (by decide), if_neg (by decide), if_pos (by decide)]
theorem xt_cn9 : xt_cn B (tr_n 9 ty lo hi a b c l r) = xt_cn B l + 2 := by
  unfold tr_n
  rw [xt_cn]
  dsimp only
  rw [if_neg (by decide), if_neg (by decide), if_neg (by decide), if_neg (by decide), if_neg (by decide), if_pos (by decide)]
theorem xt_mt9 : xt_mt (tr_n 9 ty lo hi a b c l r) t = xt_mt l t := by
  unfold tr_n
  rw [xt_mt]
  dsimp only
  rw [if_neg (by decide), if_pos (by decide)]
theorem xt_cd9 : xt_cd P (tr_n 9 ty lo hi a b c l r) t p = (xt_cd P l t p ∧ P (p + xt_ln l) (22, 0, b, 0, 0, max b (xt_lo l), max b (xt_hi l)) ∧ P (p + xt_ln l + 1) (23, 0, c, 0, 0, lo, hi)) := by
  unfold tr_n
  rw [xt_cd]
  dsimp only
  rw [if_neg (by decide), if_neg (by decide), if_neg (by decide), if_neg (by decide), if_neg (by decide), if_neg (by decide), if_neg (by decide), if_neg (by decide), if_pos (by decide)]
theorem xt_nd9 : xt_nd ρ M (tr_n 9 ty lo hi a b c l r) N n m = (((0 ≤ n ∧ M ≤ n) ∧ n < N ∧ ρ 100 n = 9 ∧ ρ 101 n = ty ∧ ρ 105 n = lo ∧ ρ 106 n = hi) ∧ (xt_nd ρ M l n (ρ 102 n) 0 ∧ ρ 103 n = b ∧ ρ 104 n = c)) := by
  unfold tr_n
  rw [xt_nd]
  dsimp only
  rw [if_neg (by decide), if_neg (by decide), if_neg (by decide), if_neg (by decide), if_neg (by decide), if_neg (by decide), if_neg (by decide), if_neg (by decide), if_pos (by decide)]
theorem xt_w9 : xt_w (tr_n 9 ty lo hi a b c l r) = (xt_e l ∧ xt_w l) := by
  unfold tr_n
  rw [xt_w]
  dsimp only
  rw [if_neg (by decide), if_pos (by decide)]
theorem xt_g9 : xt_g S Z K (tr_n 9 ty lo hi a b c l r) = (xt_g S Z K l) := by
  unfold tr_n
  rw [xt_g]
  dsimp only
  rw [if_neg (by decide), if_neg (by decide), if_neg (by decide), if_pos (by decide)]
theorem xt_ln10 : xt_ln (tr_n 10 ty lo hi a b c l r) = xt_ln l + 2 * xt_na l + 1 := by
  unfold tr_n
  rw [xt_ln]
  dsimp only
  rw [if_neg (by decide), if_neg (by decide), if_neg (by decide), if_neg (by decide), if_pos (by decide)]
theorem xt_cn10 : xt_cn B (tr_n 10 ty lo hi a b c l r) = xt_cn B l + 1 + B a := by
  unfold tr_n
  rw [xt_cn]
  dsimp only
  rw [if_neg (by decide), if_neg (by decide), if_neg (by decide), if_neg (by decide), if_neg (by decide), if_neg (by decide), if_pos (by decide)]
theorem xt_mt10 : xt_mt (tr_n 10 ty lo hi a b c l r) t = xt_mt l t := by
  unfold tr_n
  rw [xt_mt]
  dsimp only
  rw [if_neg (by decide), if_pos (by decide)]
theorem xt_cd10 : xt_cd P (tr_n 10 ty lo hi a b c l r) t p = (xt_cd P l t p ∧ xt_ps P l (a + 1) t (p + xt_ln l) ∧ P (p + xt_ln l + 2 * xt_na l) (27, 3, a, 0, 0, 1, 0)) := by
  unfold tr_n
  rw [xt_cd]
  dsimp only
  rw [if_neg (by decide), if_neg (by decide), if_neg (by decide), if_neg (by decide), if_neg (by decide), if_neg (by decide), if_neg (by decide), if_neg (by decide), if_neg (by decide), if_pos (by decide)]
theorem xt_nd10 : xt_nd ρ M (tr_n 10 ty lo hi a b c l r) N n m = (((0 ≤ n ∧ M ≤ n) ∧ n < N ∧ ρ 100 n = 10 ∧ ρ 101 n = ty ∧ ρ 105 n = lo ∧ ρ 106 n = hi) ∧ (ρ 102 n = a ∧ xt_nd ρ M l n (ρ 103 n) 0)) := by
  unfold tr_n
  rw [xt_nd]
  dsimp only
  rw [if_neg (by decide), if_neg (by decide), if_neg (by decide), if_neg (by decide), if_neg (by decide), if_neg (by decide), if_neg (by decide), if_neg (by decide), if_neg (by decide), if_pos (by decide)]
theorem xt_w10 : xt_w (tr_n 10 ty lo hi a b c l r) = ((l = .leaf ∨ xt_k l = 11) ∧ xt_w l) := by
  unfold tr_n
  rw [xt_w]
  dsimp only
  rw [if_neg (by decide), if_neg (by decide), if_neg (by decide), if_neg (by decide), if_pos (by decide)]
theorem xt_g10 : xt_g S Z K (tr_n 10 ty lo hi a b c l r) = (K a (xt_na l) ∧ xt_g S Z K l) := by
  unfold tr_n
  rw [xt_g]
  dsimp only
  rw [if_neg (by decide), if_neg (by decide), if_neg (by decide), if_neg (by decide), if_pos (by decide)]
theorem xt_ln11 : xt_ln (tr_n 11 ty lo hi a b c l r) = xt_ln l + 1 + xt_ln r := by
  unfold tr_n
  rw [xt_ln]
  dsimp only
  rw [if_neg (by decide), if_neg (by decide), if_neg (by decide), if_neg (by decide), if_neg (by decide)]
theorem xt_cn11 : xt_cn B (tr_n 11 ty lo hi a b c l r) = xt_cn B l + 3 + xt_cn B r := by
  unfold tr_n
  rw [xt_cn]
  dsimp only
  rw [if_neg (by decide), if_neg (by decide), if_neg (by decide), if_neg (by decide), if_neg (by decide), if_neg (by decide), if_neg (by decide)]
theorem xt_mt11 : xt_mt (tr_n 11 ty lo hi a b c l r) t = max (xt_mt l t) (max (t + 1) (xt_mt r (t + 1))) := by
  unfold tr_n
  rw [xt_mt]
  dsimp only
  rw [if_neg (by decide), if_neg (by decide), if_neg (by decide)]
theorem xt_cd11 : xt_cd P (tr_n 11 ty lo hi a b c l r) t p = (xt_cd P l t p ∧ P (p + xt_ln l) (2, 2, t, 0, 0, 1, 0) ∧ xt_cd P r (t + 1) (p + xt_ln l + 1)) := by
  unfold tr_n
  rw [xt_cd]
  dsimp only
  rw [if_neg (by decide), if_neg (by decide), if_neg (by decide), if_neg (by decide), if_neg (by decide), if_neg (by decide), if_neg (by decide), if_neg (by decide), if_neg (by decide), if_neg (by decide)]
theorem xt_nd11 : xt_nd ρ M (tr_n 11 ty lo hi a b c l r) N n m = ((0 ≤ n ∧ M ≤ n) ∧ n < N ∧ xt_nd ρ M l N n 0 ∧ xt_nd ρ M r N (ρ 107 n) 0) := by
  unfold tr_n
  rw [xt_nd]
  dsimp only
  rw [if_pos rfl]
theorem xt_w11 : xt_w (tr_n 11 ty lo hi a b c l r) = (xt_e l ∧ xt_w l ∧ (r = .leaf ∨ xt_k r = 11) ∧ xt_w r) := by
  unfold tr_n
  rw [xt_w]
  dsimp only
  rw [if_neg (by decide), if_neg (by decide), if_neg (by decide), if_neg (by decide), if_neg (by decide), if_pos (by decide)]
theorem xt_g11 : xt_g S Z K (tr_n 11 ty lo hi a b c l r) = (xt_g S Z K l ∧ xt_g S Z K r) := by
  unfold tr_n
  rw [xt_g]
  dsimp only
  rw [if_neg (by decide), if_neg (by decide), if_neg (by decide), if_neg (by decide), if_neg (by decide)]
theorem xt_ln80 : xt_ln (tr_n 80 ty lo hi a b c l r) = xt_ln l + 1 + xt_ln r := by
  unfold tr_n
  rw [xt_ln]
  dsimp only
  rw [if_neg (by decide), if_neg (by decide), if_neg (by decide), if_neg (by decide), if_neg (by decide)]
theorem xt_cn80 : xt_cn B (tr_n 80 ty lo hi a b c l r) = max (xt_cn B l + 1) (xt_cn B r) := by
  unfold tr_n
  rw [xt_cn]
  dsimp only
  rw [if_neg (by decide), if_neg (by decide), if_neg (by decide), if_neg (by decide), if_pos (by decide)]
theorem xt_mt80 : xt_mt (tr_n 80 ty lo hi a b c l r) t = max (xt_mt l t) (xt_mt r t) := by
  unfold tr_n
  rw [xt_mt]
  dsimp only
  rw [if_neg (by decide), if_neg (by decide), if_pos (by decide)]
theorem xt_cd80 : xt_cd P (tr_n 80 ty lo hi a b c l r) t p = (xt_cd P l t p ∧ P (p + xt_ln l) (24, 0, p + xt_ln l + 1 + xt_ln r, 0, 0, 1, 0) ∧ xt_cd P r t (p + xt_ln l + 1)) := by
  unfold tr_n
  rw [xt_cd]
  dsimp only
  rw [if_neg (by decide), if_neg (by decide), if_neg (by decide), if_neg (by decide), if_neg (by decide), if_neg (by decide), if_neg (by decide), if_pos (by decide)]
theorem xt_nd80 : xt_nd ρ M (tr_n 80 ty lo hi a b c l r) N n m = (xt_nd ρ M l N n 0 ∧ xt_nd ρ M r N m 0) := by
  unfold tr_n
  rw [xt_nd]
  dsimp only
  rw [if_neg (by decide), if_pos rfl]
theorem xt_w80 : xt_w (tr_n 80 ty lo hi a b c l r) = (xt_e l ∧ xt_w l ∧ xt_e r ∧ xt_w r) := by
  unfold tr_n
  rw [xt_w]
  dsimp only
  rw [if_neg (by decide), if_neg (by decide), if_pos (by decide)]
theorem xt_g80 : xt_g S Z K (tr_n 80 ty lo hi a b c l r) = (xt_g S Z K l ∧ xt_g S Z K r) := by
  unfold tr_n
  rw [xt_g]
  dsimp only
  rw [if_neg (by decide), if_neg (by decide), if_neg (by decide), if_neg (by decide), if_neg (by decide)]
end EQ
