/-! part 99.zzzzd: a choice -/
theorem gy_land {n o : Int} {ρ ρ' : js_S} (h : ∀ a k : Int, ¬ (a = 112 ∧ k = o) → ρ' a k = ρ a k) (hn : n ≤ o) : gy_R n ρ ρ' := ⟨fun a i g1 g2 g3 => h a i (by omega), fun i => h _ _ (by omega), h _ _ (by omega)⟩
theorem gx_land {n q o : Int} {ρ ρ' : js_S} (h : ∀ a k : Int, ¬ (a = 112 ∧ k = o) → ρ' a k = ρ a k) (hn : n ≤ o) : gx_R n q ρ ρ' := fun a i g1 g2 g3 => h a i (by omega)
theorem gt_8 {c1 cx cy k1 kx ky v1 vx vy : Int} (h1 : gc_P c1 k1 v1) (hx : gc_P cx kx vx) (hy : gc_P cy ky vy) (hk : 0 ≤ k1 ∧ 0 ≤ kx ∧ 0 ≤ ky) : gc_P (c1 + 1 + max (cx + 1) cy) (k1 + 1 + (kx + 1 + ky)) (min 1000000000000000 (v1 + 1 + (if vy < vx + 1 then vx + 1 else vy))) := by
  unfold gc_P at h1 hx hy ⊢
  split <;> omega
theorem gt_8b {c1 cx cy k1 kx ky v1 vx vy : Int} (h1 : gc_P c1 k1 v1) (hx : gc_P cx kx vx) (hy : gc_P cy ky vy) (hk : k1 ≤ 100000000 ∧ kx ≤ 100000000 ∧ ky ≤ 100000000) : 0 ≤ v1 + 1 + (if vy < vx + 1 then vx + 1 else vy) ∧ v1 + 1 + (if vy < vx + 1 then vx + 1 else vy) < 9000000000000000000 := by
  have a1 := h1.1
  have a2 := hx.1
  have a3 := hy.1
  split <;> omega
theorem gt_m8 {a x y z p1 p3 p6 : Int} (h1 : p1 = max a x) (h3 : p3 = max p1 y) (h6 : p6 = max p3 z) : p6 = max a (max x (max y z)) := by omega
section GD
variable {E : js_E} {B : Int → Int} {S : Int → Prop} {Z K : Int → Int → Prop} {ty lo hi a b c ty2 lo2 hi2 a2 b2 c2 : Int} {l x y : tr_T}
theorem gat_8 (hl : gen_P E B S Z K l) (hx : gen_P E B S Z K x) (hy : gen_P E B S Z K y) : gat_P E B S Z K (tr_n 8 ty lo hi a b c l (tr_n 80 ty2 lo2 hi2 a2 b2 c2 x y)) := by
  intro f ρ n t M N m hp hf
  obtain ⟨hk, hn, ⟨_, hw, hg, hr⟩, h52, h49, h54, ht⟩ := hp
  rw [xt_nd8, xt_nd80] at hn
  rw [xt_r_n, xt_r_n] at hr
  rw [xt_g8, xt_g80] at hg
  rw [xt_w8, xt_w80] at hw
  rw [xt_ln8, xt_ln80] at h49
  rw [xt_mt8, xt_mt80] at h54
  have ed : xt_dp (tr_n 8 ty lo hi a b c l (tr_n 80 ty2 lo2 hi2 a2 b2 c2 x y)) = 2 + max (xt_dp l) (max (xt_dp x) (xt_dp y)) := rfl
  rw [ed] at hf
  have d6 := xt_dp_6 l
  have hfl : 2 + xt_dp l ≤ f + 1 ∧ 2 + xt_dp x ≤ f + 1 ∧ 2 + xt_dp y ≤ f + 1 := by omega
  have hmt : xt_mt l t ≤ 1024 ∧ xt_mt x t ≤ 1024 ∧ xt_mt y t ≤ 1024 := by omega
  have h54' : 0 ≤ ρ 83 54 ∧ ρ 83 54 ≤ 1024 := ⟨h54.1, h54.2.1⟩
  clear hf ed h54
  obtain ⟨⟨n1, n2, n3, n4, n5, n6⟩, n7, n8, n9⟩ := hn
  have l1 := xt_ln_0 l
  have l2 := xt_ln_0 x
  have l3 := xt_ln_0 y
  have w : js_w n = n := js_w_of (by omega) (by omega)
  have hn6 : 0 ≤ n ∧ n < 66000 := by omega
  obtain ⟨ρ1, v1, e1, ⟨g1, k1, t1, d1⟩, c1⟩ := hl (f - 1) ρ (ρ 102 n) t M n 0 (gp_of hk n7 ⟨hw.1, hw.2.1, hg.1, hr.2.1⟩ (fun _ _ _ => rfl) ⟨h52.1, by omega⟩ ⟨h49.1, by omega⟩ ⟨h54'.1, h54'.2, hmt.1⟩ ht) (by omega)
  obtain ⟨ρ2, e2, h2⟩ := r_plain (E := E) (f := f - 1) (ρ := ρ1) (x1 := 25) (x2 := 0) (x3 := 0) (by omega) ⟨by omega, by omega⟩
  have k2 := h2.1
  have X2 : gx_R (ρ 83 49) (ρ 83 52) ρ ρ2 := gx_trans g1 (gm_gx h2) (by omega) (Int.le_refl _)
  have m2 : ρ2 83 54 = ρ1 83 54 := h2.2.2 _ _ (by omega) (by omega)
  have q2 : ρ2 83 52 = ρ 83 52 := X2 _ _ (by omega) (by omega) (by omega)
  have b154 : 0 ≤ ρ1 83 54 ∧ ρ1 83 54 ≤ 1024 := by omega
  obtain ⟨ρ3, v2, e3, ⟨g3, k3, t3, d3⟩, c3⟩ := hx (f - 1) ρ2 (ρ 103 n) t M n 0 (gp_of hk n8 ⟨hw.2.2.2.1, hw.2.2.2.2.1, hg.2.1, hr.2.2.2.1⟩ (fun z i q => X2 z i (by omega) (by omega) (by omega)) ⟨by omega, by omega⟩ ⟨by omega, by omega⟩ ⟨by omega, by omega, hmt.2.1⟩ ht) (by omega)
  rw [q2] at g3
  have X3 : gx_R (ρ 83 49) (ρ 83 52) ρ ρ3 := gx_trans X2 g3 (by omega) (Int.le_refl _)
  obtain ⟨ρ4, e4, h4⟩ := r_plain (E := E) (f := f - 1) (ρ := ρ3) (x1 := 24) (x2 := 0) (x3 := 0) (by omega) ⟨by omega, by omega⟩
  have k4 := h4.1
  have X4 : gx_R (ρ 83 49) (ρ 83 52) ρ ρ4 := gx_trans X3 (gm_gx h4) (by omega) (Int.le_refl _)
  have m4 : ρ4 83 54 = ρ3 83 54 := h4.2.2 _ _ (by omega) (by omega)
  obtain ⟨ρ5, e5, la5, fa5⟩ := r_land (E := E) (f := f - 1) (ρ := ρ4) (i := ρ1 83 49) ⟨by omega, by omega⟩
  have X5 : gx_R (ρ 83 49) (ρ 83 52) ρ ρ5 := gx_trans X4 (gx_land (q := ρ 83 52) fa5 (Int.le_refl _)) (by omega) (Int.le_refl _)
  have k5 : ρ5 83 49 = ρ4 83 49 := fa5 _ _ (by omega)
  have m5 : ρ5 83 54 = ρ3 83 54 := by rw [fa5 _ _ (by omega)]; exact m4
  have q5 : ρ5 83 52 = ρ 83 52 := X5 _ _ (by omega) (by omega) (by omega)
  have b354 : 0 ≤ ρ3 83 54 ∧ ρ3 83 54 ≤ 1024 := by omega
  obtain ⟨ρ6, v3, e6, ⟨g6, k6, t6, d6'⟩, c6⟩ := hy (f - 1) ρ5 (ρ 104 n) t M n 0 (gp_of hk n9 ⟨hw.2.2.2.2.2.1, hw.2.2.2.2.2.2, hg.2.2, hr.2.2.2.2⟩ (fun z i q => X5 z i (by omega) (by omega) (by omega)) ⟨by omega, by omega⟩ ⟨by omega, by omega⟩ ⟨by omega, by omega, hmt.2.2⟩ ht) (by omega)
  rw [q5] at g6
  have X6 : gx_R (ρ 83 49) (ρ 83 52) ρ ρ6 := gx_trans X5 g6 (by omega) (Int.le_refl _)
  obtain ⟨ρ7, e7, la7, fa7⟩ := r_land (E := E) (f := f - 1) (ρ := ρ6) (i := ρ3 83 49) ⟨by omega, by omega⟩
  have X7 : gx_R (ρ 83 49) (ρ 83 52) ρ ρ7 := gx_trans X6 (gx_land (q := ρ 83 52) fa7 (Int.le_refl _)) (by omega) (Int.le_refl _)
  have k7 : ρ7 83 49 = ρ6 83 49 := fa7 _ _ (by omega)
  have m7 : ρ7 83 54 = ρ6 83 54 := fa7 _ _ (by omega)
  have i103 : ρ2 103 n = ρ 103 n := X2 _ _ (by omega) (by omega) (by omega)
  have i104 : ρ5 104 n = ρ 104 n := X5 _ _ (by omega) (by omega) (by omega)
  have cc := gt_8 c1 c3 c6 ⟨l1, l2, l3⟩
  have vb := gt_8b c1 c3 c6 ⟨by omega, by omega, by omega⟩
  have vx := c3.1
  have vy := c6.1
  have j1 : js_l v3 = v3 := js_l_of (by omega) (by omega)
  have j2 : js_l (v2 + 1) = v2 + 1 := js_l_of (by omega) (by omega)
  refine ⟨ρ7, min 1000000000000000 (v1 + 1 + (if v3 < v2 + 1 then v2 + 1 else v3)), ?_, ⟨X7, by rw [xt_ln8, xt_ln80]; omega, ?_, fun hs => ?_⟩, by rw [xt_cn8, xt_cn80, xt_ln8, xt_ln80]; exact cc⟩
  · rw [b_249_0, w, if_pos hn6, n3, s_249_13_8 (by decide), b_249_207, k_249_210 (by omega) e1, b_249_213, k_249_220 (by omega) e2, b_249_223, w, if_pos hn6, i103, k_249_233 (by omega) e3, b_249_236, k_249_243 (by omega) e4, b_249_246, k_249_251 (by omega) e5, b_249_254, w, if_pos hn6, i104, k_249_262 (by omega) e6, b_249_265, k_249_270 (by omega) e7, b_249_273 (by omega), j1, j2, k_249_287 (by omega) (r_bound vb), b_249_290]
  · rw [xt_mt8, xt_mt80, m7]
    rw [m2] at t3
    rw [m5] at t6
    exact gt_m8 t1 t3 t6
  · rw [k1] at la5 fa5
    have y12 : gy_R (ρ 83 49 + xt_ln l) ρ1 ρ2 := gy_mono (gy_gm h2) (by omega)
    have y23 : gy_R (ρ 83 49 + xt_ln l + 1) ρ2 ρ3 := gy_mono (gy_gx g3) (by omega)
    have y34 : gy_R (ρ 83 49 + xt_ln l + 1 + xt_ln x) ρ3 ρ4 := gy_mono (gy_gm h4) (by omega)
    have y45 : gy_R (ρ 83 49 + xt_ln l) ρ4 ρ5 := gy_land fa5 (Int.le_refl _)
    have y56 : gy_R (ρ 83 49 + xt_ln l + 1 + xt_ln x + 1) ρ5 ρ6 := gy_mono (gy_gx g6) (by omega)
    have c3e : ρ3 83 49 = ρ 83 49 + xt_ln l + 1 + xt_ln x := by omega
    rw [c3e] at la7 fa7
    have y67 : gy_R (ρ 83 49 + xt_ln l + 1 + xt_ln x) ρ6 ρ7 := gy_land fa7 (Int.le_refl _)
    have y57 : gy_R (ρ 83 49 + xt_ln l + 1 + xt_ln x) ρ5 ρ7 := gy_trans (gy_mono y56 (by omega)) y67 (Int.le_refl _)
    have y17 : gy_R (ρ 83 49 + xt_ln l) ρ1 ρ7 := gy_trans y12 (gy_trans (gy_mono y23 (by omega)) (gy_trans (gy_mono y34 (by omega)) (gy_trans y45 y57 (by omega)) (Int.le_refl _)) (Int.le_refl _)) (Int.le_refl _)
    have j2' := gm_ri (k := 0) (x := 0) (y := 0) h2 (by omega) (if_pos rfl).symm
    rw [k1] at j2'
    have j4' := gm_ri (k := 0) (x := 0) (y := 0) h4 (by omega) (if_pos rfl).symm
    rw [c3e] at j4'
    rw [xt_cd8, xt_cd80]
    refine ⟨xr_gy y17 (Int.le_refl _) (d1 (by omega)), ?_, ?_, ?_, ?_⟩
    · have e := ri_land (x := ρ4 83 49) (ri_gy y34 (by omega) (ri_gy y23 (by omega) j2')) (la5 (by omega)) fa5
      have e' := ri_gy y57 (by omega) e
      have ex : xt_ln (xt_l (tr_n 80 ty2 lo2 hi2 a2 b2 c2 x y)) = xt_ln x := rfl
      rw [ex]
      have e4e : ρ4 83 49 = ρ 83 49 + xt_ln l + 1 + xt_ln x + 1 := by omega
      rw [e4e] at e'
      exact e'
    · have e := d3 (by omega)
      rw [k2, k1] at e
      exact xr_gy y57 (by omega) (xr_lo fa5 (Or.inl (by omega)) (xr_gy y34 (by omega) e))
    · have e := ri_gy y56 (by omega) (ri_lo fa5 (by omega) j4')
      exact ri_land e (by rw [la7 (by omega)]; omega) fa7
    · have e := d6' (by omega)
      have e5e : ρ5 83 49 = ρ 83 49 + xt_ln l + 1 + xt_ln x + 1 := by omega
      rw [e5e] at e
      exact xr_lo fa7 (Or.inl (by omega)) e
end GD
