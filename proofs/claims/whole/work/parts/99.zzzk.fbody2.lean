/-! part 99.zzzk: the BLOCK of a fun: putting together -/
/-- what y_fend leaves alone of compiler b -/
theorem sf_fe {b n t p mm : Int} {σ σ' : js_S} (hb : b = 0 ∨ b = 25) (hg : ∀ i : Int, 0 ≤ i → i < mm → 137 ≤ σ (19 + b) i) (c1 : ∀ a k : Int, a < 137 → ¬ (a = 1 ∧ (k = 1 ∨ k = 2 ∨ k = 3 ∨ k = 5 ∨ k = 11)) → a ≠ 2 → σ' a k = σ a k) (c2 : ∀ a k : Int, 137 ≤ a → k ≠ 13 → σ' a k = σ a k) (fr : fr_R b σ σ') : sf_R b n t p mm σ σ' := ⟨fr, fun a i g1 g2 _ => c1 a i (by omega) (by omega) (by omega), fun i g1 g2 => ⟨c1 _ _ (by omega) (by omega) (by omega), fun k hk => c2 _ _ (hg i g1 g2) hk⟩, by rw [c1 _ _ (by omega) (by omega) (by omega)]; exact Int.le_refl _⟩
theorem fe_m1 {a b c : Int} : max (max a b) c = max a (max b c) := by omega
theorem fe_m2 {a x y : Int} (ha : 0 ≤ a) (h1 : 0 ≤ x) (h2 : 0 ≤ y) : min 400000 (min 400000 (a + x) + y) = min 400000 (a + x + y) := by omega
theorem fe_m3 {a x : Int} : a + x + 0 = a + x := by omega
/-- a fun that gives nothing -/
theorem fe_of0 {E : js_E} {b m mm : Int} {B U : Int → Int} {X : Int → Prop} {σ ρ σ1 ρ1 ρ2 σ' ρ' : js_S} {j j1 : Nat} {r : tr_T} (hb : b = 0 ∨ b = 25) (h7 : 0 ≤ σ (8 + b) 7) (h11 : 0 ≤ σ (8 + b) 11) (hm : 0 ≤ m ∧ m < ρ 83 11) (H : lr_R E b m B U X (-1) σ ρ j σ1 ρ1 j1 mm r) (w : ∀ a i : Int, ¬ ((a = 108 ∨ a = 109) ∧ i = m) → ρ2 a i = ρ1 a i) (w8 : ρ2 108 m = mm) (w9 : ρ2 109 m = -1) (hR' : rd_R σ' ρ' (j1 + 1)) (d' : ρ' 83 10 = ρ2 83 10 - 1) (c1 : ∀ a k : Int, a < 137 → ¬ (a = 1 ∧ (k = 1 ∨ k = 2 ∨ k = 3 ∨ k = 5 ∨ k = 11)) → a ≠ 2 → σ' a k = σ1 a k) (c2 : ∀ a k : Int, 137 ≤ a → k ≠ 13 → σ' a k = σ1 a k) (v1 : ∀ i : Int, m < i → i < ρ2 83 11 → ρ' 99 i = 0) (v2 : ∀ a i : Int, ¬ (a = 83 ∧ 5 ≤ i ∧ i ≤ 10) → ¬ (a = 99 ∧ m < i) → ρ' a i = ρ2 a i) (fr : fr_R b σ1 σ') (hux : ux_R E b m B U X σ' ρ') (p0 : 0 ≤ σ (23 + b) 15) : fe_R E b m 0 B U X σ ρ j σ' ρ' (j1 + 1) r .leaf := by
  obtain ⟨⟨r1, q1, dp1, F01, H01, m1, m1', k1⟩, hL, ⟨⟨c15, c10, c6, c7, c11⟩, cc⟩, ⟨nd, ⟨rk, rw1, rG⟩, ⟨tl, tcn, tmt⟩, _, hz2⟩, hu⟩ := H
  have hzr : st_dp r ≤ 1210 := by
    have a1 : st_dp r ≤ 2 * (400 - σ (23 + b) 15) + 6 * (65 - ρ 83 10) + 11 := hz2
    have a2 := r1.2.2.2.2.1
    omega
  have z : ∀ a i : Int, ¬ (a = 83 ∧ 5 ≤ i ∧ i ≤ 10) → a ≠ 99 → ¬ ((a = 108 ∨ a = 109) ∧ i = m) → ρ' a i = ρ1 a i := fun a i g1 g2 g3 => by rw [v2 a i g1 (by omega), w a i g3]
  have z11 : ρ' 83 11 = ρ1 83 11 := z _ _ (by omega) (by omega) (by omega)
  have z33 : ρ' 83 33 = ρ1 83 33 := z _ _ (by omega) (by omega) (by omega)
  have v : ∀ k : Int, σ' (8 + b) k = σ1 (8 + b) k := fun k => c1 _ _ (by omega) (by omega) (by omega)
  have l0 : xt_ln (.leaf : tr_T) = 0 := rfl
  have n0 : xt_cn B (.leaf : tr_T) = 0 := rfl
  have t0 : xt_mt (.leaf : tr_T) (σ (8 + b) 10) = 0 := rfl
  have lr := st_ln_0 r
  have told1 : σ1 (7 + b) 1 = ρ1 83 11 := hu.1.1.2.2.2.2.1
  have w211 : ρ2 83 11 = ρ1 83 11 := w _ _ (by omega)
  have F1' : ∀ n t p mm : Int, mm ≤ ρ1 83 11 → sf_R b n t p mm σ1 σ' := fun n t p mm h => sf_fe hb (fun i g1 g2 => xs_ge hu.1 i g1 (by omega)) c1 c2 fr
  refine ⟨⟨hR', by omega, ?_, sf_R_trans F01 (F1' _ _ _ _ k1) (Int.le_refl _) (Int.le_refl _) (Int.le_refl _) (Int.le_refl _), fun a i g1 g2 g3 g4 g5 g6 => ?_, by omega, ?_, by omega⟩, ?_, ⟨⟨?_, ?_, ?_, ?_, ?_⟩, fun hs => ⟨?_, trivial⟩⟩, ⟨⟨?_, rk, rw1, ?_⟩, Or.inl ⟨rfl, rfl, ?_⟩⟩, ⟨⟨?_, ?_, ?_⟩, ⟨tcn, by rw [n0]; exact Int.le_refl _⟩, tmt, by rw [t0]; decide, hzr, (show (6 : Int) ≤ 1210 by decide)⟩, fun i g1 g2 => v1 i g1 (by omega), hux⟩
  · rw [d', w _ _ (by omega), dp1]
  · rw [z a i (by omega) g5 g6]
    exact sg_R_sh H01 (by decide) a i g1 g2 g3 g4 g5
  · push_cast
    omega
  · obtain ⟨x, x1, x2, x3, x4⟩ := hL
    exact ⟨x, x1, x2, by rw [z _ _ (by omega) (by omega) (by omega)]; exact x3, by rw [v]; exact x4⟩
  · rw [c1 _ _ (by omega) (by omega) (by omega)]
    exact c15
  · rw [v]
    exact c10
  · rw [v, c6, l0]
    omega
  · rw [v, c7, n0, fe_m3]
  · rw [v, c11, t0]
    have := tmt
    omega
  · rw [v] at hs
    have sfq : sf_R b (σ1 (8 + b) 6) (σ1 (8 + b) 10) (σ1 (23 + b) 15) (σ1 (7 + b) 1) σ1 σ' := F1' _ _ _ _ (by omega)
    exact st_cd_sf hb sfq (by omega) (cc hs)
  · rw [z33, v2 108 m (by omega) (by omega), w8]
    exact st_nd_of r _ _ _ _ _ _ (Int.le_refl _) (Int.le_refl _) (fun a i g1 g2 _ _ => z _ _ (by omega) (by omega) (by omega)) (fun i _ _ _ => z _ _ (by omega) (by omega) (by omega)) nd
  · exact st_G_of rG (by omega) (fun a i g1 g2 _ _ => z _ _ (by omega) (by omega) (by omega)) (by rw [z _ _ (by omega) (by omega) (by omega)]; exact Int.le_refl _)
  · rw [v2 109 m (by omega) (by omega)]
    exact w9
  · push_cast
    omega
  · rw [l0]
    push_cast
    omega
  · rw [l0]
    push_cast
    omega
/-- a fun that gives an e -/
theorem fe_of1 {E : js_E} {b m mm nn : Int} {B U : Int → Int} {X : Int → Prop} {σ ρ σ1 ρ1 ρ2 σ3 ρ3 σ4 ρ4 ρ5 σ6 ρ6 σ' ρ' : js_S} {j j1 j4 : Nat} {r l : tr_T} (hb : b = 0 ∨ b = 25) (h7 : 0 ≤ σ (8 + b) 7) (hm : 0 ≤ m ∧ m < ρ 83 11) (h33 : 0 ≤ ρ 83 33) (H : lr_R E b m B U X (-1) σ ρ j σ1 ρ1 j1 mm r) (w : ∀ a i : Int, ¬ ((a = 108 ∨ a = 109) ∧ i = m) → ρ2 a i = ρ1 a i) (w8 : ρ2 108 m = mm) (f3 : tk_fr σ1 σ3) (t3 : ∀ a i : Int, ¬ (a = 83 ∧ 5 ≤ i ∧ i ≤ 9) → ρ3 a i = ρ2 a i) (K : xr_R b m B σ3 ρ3 (j1 + 1) σ4 ρ4 j4 nn l) (w5 : ∀ a i : Int, ¬ (a = 109 ∧ i = m) → ρ5 a i = ρ4 a i) (w59 : ρ5 109 m = nn) (f6 : tk_fr σ4 σ6) (t6 : ∀ a i : Int, ¬ (a = 83 ∧ 5 ≤ i ∧ i ≤ 9) → ρ6 a i = ρ5 a i) (hu6 : ux_R E b m B U X σ6 ρ6) (hR' : rd_R σ' ρ' (j4 + 1 + 1)) (d' : ρ' 83 10 = ρ6 83 10 - 1) (c1 : ∀ a k : Int, a < 137 → ¬ (a = 1 ∧ (k = 1 ∨ k = 2 ∨ k = 3 ∨ k = 5 ∨ k = 11)) → a ≠ 2 → σ' a k = σ6 a k) (c2 : ∀ a k : Int, 137 ≤ a → k ≠ 13 → σ' a k = σ6 a k) (v1 : ∀ i : Int, m < i → i < ρ6 83 11 → ρ' 99 i = 0) (v2 : ∀ a i : Int, ¬ (a = 83 ∧ 5 ≤ i ∧ i ≤ 10) → ¬ (a = 99 ∧ m < i) → ρ' a i = ρ6 a i) (fr : fr_R b σ6 σ') (hux : ux_R E b m B U X σ' ρ') (p0 : 0 ≤ σ (23 + b) 15) : fe_R E b m 1 B U X σ ρ j σ' ρ' (j4 + 1 + 1) r l := by
  have hz1 := xr_zz K
  obtain ⟨⟨r1, q1, dp1, F01, H01, m1, m1', k1⟩, hL, ⟨⟨c15, c10, c6, c7, c11⟩, cc⟩, ⟨nd, ⟨rk, rw1, rG⟩, ⟨tl, tcn, tmt⟩, _, hz2⟩, hu⟩ := H
  have hzr : st_dp r ≤ 1210 := by
    have a1 : st_dp r ≤ 2 * (400 - σ (23 + b) 15) + 6 * (65 - ρ 83 10) + 11 := hz2
    have a2 := r1.2.2.2.2.1
    omega
  obtain ⟨⟨r4, q4, dp4, F34, G34, n4, n4'⟩, hL4, ⟨⟨_, _, _, y15⟩, ⟨y10, y6, y7, y11⟩, yc⟩, ⟨nd4, ⟨te, tw, tG⟩, ⟨el, ecn, emt⟩, _⟩⟩ := K
  have hzl : xt_dp l ≤ 1210 := by
    have a3 : σ3 (23 + b) 15 = σ1 (23 + b) 15 := f3 _ _ (by omega) (by omega)
    have a4 : ρ3 83 10 = ρ1 83 10 := by rw [t3 _ _ (by omega), w _ _ (by omega)]
    have a5 := r1.2.2.2.2.1
    omega
  have u3 : ∀ k : Int, σ3 (8 + b) k = σ1 (8 + b) k := fun k => f3 _ _ (by omega) (by omega)
  have u6 : ∀ k : Int, σ6 (8 + b) k = σ4 (8 + b) k := fun k => f6 _ _ (by omega) (by omega)
  have v : ∀ k : Int, σ' (8 + b) k = σ4 (8 + b) k := fun k => by rw [c1 _ _ (by omega) (by omega) (by omega), u6]
  have u315 : σ3 (23 + b) 15 = σ1 (23 + b) 15 := f3 _ _ (by omega) (by omega)
  have z3 : ∀ a i : Int, ¬ (a = 83 ∧ 5 ≤ i ∧ i ≤ 9) → ¬ ((a = 108 ∨ a = 109) ∧ i = m) → ρ3 a i = ρ1 a i := fun a i g1 g2 => by rw [t3 a i g1, w a i g2]
  have z4 : ∀ a i : Int, ¬ (a = 83 ∧ 5 ≤ i ∧ i ≤ 10) → a ≠ 99 → ¬ (a = 109 ∧ i = m) → ρ' a i = ρ4 a i := fun a i g1 g2 g3 => by rw [v2 a i g1 (by omega), t6 a i (by omega), w5 a i g3]
  have z34 : ∀ a i : Int, ¬ (a = 83 ∧ (5 ≤ i ∧ i ≤ 10 ∨ 27 ≤ i ∧ i ≤ 33 ∨ 42 ≤ i ∧ i ≤ 44)) → ¬ (100 ≤ a ∧ a ≤ 107 ∧ ρ3 83 33 ≤ i) → a ≠ 99 → ¬ ((a = 108 ∨ a = 109) ∧ i = m) → ρ' a i = ρ1 a i := fun a i g1 g2 g3 g4 => by rw [z4 a i (by omega) g3 (by omega), G34 a i g1 g2, z3 a i (by omega) g4]
  have e33 : ρ3 83 33 = ρ1 83 33 := z3 _ _ (by omega) (by omega)
  have e44 : ρ3 83 44 = ρ1 83 44 := z3 _ _ (by omega) (by omega)
  have z33 : ρ' 83 33 = ρ4 83 33 := z4 _ _ (by omega) (by omega) (by omega)
  have z44 : ρ' 83 44 = ρ4 83 44 := z4 _ _ (by omega) (by omega) (by omega)
  have z11 : ρ' 83 11 = ρ1 83 11 := z34 _ _ (by omega) (by omega) (by omega) (by omega)
  have e411 : ρ4 83 11 = ρ1 83 11 := by rw [G34 _ _ (by omega) (by omega), z3 _ _ (by omega) (by omega)]
  have l44 := xr_L_up hL4
  have lr := st_ln_0 r
  have ll := xt_ln_0 l
  rw [u3 6, u3 10, u315] at F34
  rw [u3 10] at y10 emt
  rw [u3 6] at y6
  rw [u3 7] at y7
  rw [u3 11, u3 10] at y11
  rw [u3 8, u3 10, u3 6] at yc
  rw [e33] at nd4 n4 n4'
  have told1 : σ1 (7 + b) 1 = ρ1 83 11 := hu.1.1.2.2.2.2.1
  have hgf1 : ∀ i : Int, 0 ≤ i → i < ρ1 83 11 → 137 ≤ σ1 (19 + b) i := xs_ge hu.1
  have F14 : ef_R b (σ1 (8 + b) 6) (σ1 (8 + b) 10) (σ1 (23 + b) 15) σ1 σ4 := ef_R_trans (ef_R_tk f3) F34
  have F46 : ∀ n t p : Int, ef_R b n t p σ4 σ6 := fun n t p => ef_R_tk f6
  have F16 : ef_R b (σ1 (8 + b) 6) (σ1 (8 + b) 10) (σ1 (23 + b) 15) σ1 σ6 := ef_R_trans F14 (F46 _ _ _)
  have hg1 : hg_R σ1 b := xs_hg hu.1
  have hg4 : hg_R σ4 b := hg_ef hb hg1 F14
  have F6' : ∀ n t p mm : Int, mm ≤ ρ6 83 11 → sf_R b n t p mm σ6 σ' := fun n t p mm h => sf_fe hb (fun i g1 g2 => xs_ge hu6.1 i g1 (by omega)) c1 c2 fr
  have e611 : ρ6 83 11 = ρ1 83 11 := by rw [t6 _ _ (by omega), w5 _ _ (by omega)]; exact e411
  have told6 : σ6 (7 + b) 1 = ρ6 83 11 := hu6.1.1.2.2.2.2.1
  have told4 : σ4 (7 + b) 1 = ρ1 83 11 := by rw [ef_71 hb F14]; exact told1
  have S16 : sf_R b (σ1 (8 + b) 6) (σ1 (8 + b) 10) (σ1 (23 + b) 15) (ρ1 83 11) σ1 σ6 := sf_R_ef hb hgf1 F16
  have S1' : sf_R b (σ1 (8 + b) 6) (σ1 (8 + b) 10) (σ1 (23 + b) 15) (ρ1 83 11) σ1 σ' := sf_R_trans S16 (F6' _ _ _ _ (by omega)) (Int.le_refl _) (Int.le_refl _) (Int.le_refl _) (Int.le_refl _)
  have S4' : sf_R b (σ4 (8 + b) 6) (σ4 (8 + b) 10) (σ4 (23 + b) 15) (σ4 (7 + b) 1) σ4 σ' := sf_R_trans (sf_R_ef hb hg4 (F46 _ _ _)) (F6' _ _ _ _ (by omega)) (Int.le_refl _) (Int.le_refl _) (Int.le_refl _) (Int.le_refl _)
  push_cast at q4 n4' el
  have e8 : σ1 (8 + b) 8 = σ (8 + b) 8 := sf_88 hb F01
  refine ⟨⟨hR', by omega, ?_, sf_R_trans F01 S1' (by omega) (by omega) (by omega) k1, fun a i g1 g2 g3 g4 g5 g6 => ?_, by omega, ?_, by omega⟩, ?_, ⟨⟨?_, ?_, ?_, ?_, ?_⟩, fun hs => ⟨?_, ?_⟩⟩, ⟨⟨?_, rk, rw1, ?_⟩, Or.inr ⟨rfl, ?_, te, tw, ?_⟩⟩, ⟨⟨?_, ?_, ?_⟩, ⟨tcn, ecn⟩, tmt, ?_, hzr, hzl⟩, fun i g1 g2 => v1 i g1 (by omega), hux⟩
  · rw [d', t6 _ _ (by omega), w5 _ _ (by omega), dp4, z3 _ _ (by omega) (by omega), dp1]
  · rw [z34 a i (by omega) (by omega) g5 g6]
    exact sg_R_sh H01 (by decide) a i g1 g2 g3 g4 g5
  · push_cast
    omega
  · obtain ⟨x, x1, x2, x3, x4⟩ := hL
    obtain ⟨y, a1, a2, a3, a4⟩ := hL4
    have xy := ic_m4 x1 x2 a1 a2
    refine ⟨max x y, xy.1, xy.2, ?_, ?_⟩
    · rw [z44, a3, e44, x3]
      exact fe_m1
    · rw [v, a4, u3, x4]
      exact fe_m1
  · rw [c1 _ _ (by omega) (by omega) (by omega), f6 _ _ (by omega) (by omega), y15, u315, c15]
  · rw [v, y10, c10]
  · rw [v, y6, c6]
  · rw [v, y7, c7]
    exact fe_m2 h7 tcn ecn
  · rw [v, y11, c11, c10]
    exact fe_m1
  · rw [v] at hs
    have sfq : sf_R b (σ1 (8 + b) 6) (σ1 (8 + b) 10) (σ1 (23 + b) 15) (σ1 (7 + b) 1) σ1 σ' := by rw [told1]; exact S1'
    exact st_cd_sf hb sfq (by omega) (cc (by omega))
  · rw [v] at hs
    have k := yc hs
    rw [e8, c10, c6] at k
    exact xt_cd_sf hb S4' (by omega) k
  · rw [z33, v2 108 m (by omega) (by omega), t6 108 m (by omega), w5 108 m (by omega), G34 108 m (by omega) (by omega), t3 108 m (by omega), w8]
    exact st_nd_of r _ _ _ _ _ _ (Int.le_refl _) n4 (fun a i g1 g2 g3 g4 => z34 _ _ (by omega) (by omega) (by omega) (by omega)) (fun i g3 g4 _ => z34 _ _ (by omega) (by omega) (by omega) (by omega)) nd
  · exact st_G_of rG (by omega) (fun a i g1 g2 _ _ => z34 _ _ (by omega) (by omega) (by omega) (by omega)) (by omega)
  · rw [z33, v2 109 m (by omega) (by omega), t6 _ _ (by omega), w59]
    exact xt_nd_up (by omega) l _ _ _ _ (Int.le_refl _) (xt_nd_of l _ _ _ (fun a i g1 g2 _ g4 => z4 _ _ (by omega) (by omega) (by omega)) (fun i _ _ _ => z4 _ _ (by omega) (by omega) (by omega)) nd4)
  · exact xt_G_of tG (by omega) (fun a i g1 g2 _ _ => z4 _ _ (by omega) (by omega) (by omega)) (by omega)
  · push_cast
    omega
  · push_cast
    omega
  · push_cast
    omega
  · rw [c10] at emt
    exact emt
