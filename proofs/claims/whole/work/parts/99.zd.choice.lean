/-! part 99.zd: c ? a : b, joined -/
/-- kept from the arithmetic -/
def nt_P (p : Prop) : Prop := p
theorem xr_choice {E : js_E} {b F : Int} {B : Int → Int} {X : Int → Prop} {σ0 ρ0 σ1 ρ1 σ3 ρ3 σ4 ρ4 σ8 ρ8 σ9 ρ9 σ12 ρ11 ρ12 : js_S} {j0 j1 j3 j4 j8 j9 : Nat} {n1 n2 n3 ty lo hi : Int} {l ta tb : tr_T} (hb : b = 0 ∨ b = 25) (hx : xs_R E b F B X σ0 ρ0) (hn : xn_R b σ0 ρ0 j0) {z z1 z2 z3 : Int} (h1 : xz_R z1 b F B σ0 ρ0 j0 σ1 ρ1 j1 n1 l)
  (F13 : ef_R b (σ1 (8 + b) 6) (σ1 (8 + b) 10) (σ1 (23 + b) 15) σ1 σ3) (a6 : σ3 (8 + b) 6 = σ1 (8 + b) 6 + 1) (a7 : nt_P (σ3 (8 + b) 7 = min 400000 (σ1 (8 + b) 7 + 1))) (aO : ∀ i : Int, i = 8 ∨ 10 ≤ i ∧ i ≤ 12 → σ3 (8 + b) i = σ1 (8 + b) i) (a15 : σ3 (23 + b) 15 = σ1 (23 + b) 15) (aj : σ1 (8 + b) 6 < 8192 → σ3 (9 + b) (σ1 (8 + b) 6) = 25 ∧ σ3 (11 + b) (σ1 (8 + b) 6) = 0 ∧ σ3 (12 + b) (σ1 (8 + b) 6) = 1 ∧ σ3 (13 + b) (σ1 (8 + b) 6) = 0 ∧ σ3 (14 + b) (σ1 (8 + b) 6) = 0) (G13 : eg_R (ρ1 83 33) ρ1 ρ3) (n33 : ρ3 83 33 = ρ1 83 33) (n44 : ρ3 83 44 = ρ1 83 44) (hj3 : j1 + 1 ≤ j3) (h2 : xz_R z2 b F B σ3 ρ3 j3 σ4 ρ4 j4 n2 ta)
  (F48 : ∀ a i : Int, ¬ (a = 1 ∧ (i = 1 ∨ i = 2 ∨ i = 3 ∨ i = 5 ∨ i = 11)) → a ≠ 2 → ¬ (a = 8 + b ∧ (i = 6 ∨ i = 7)) → ¬ (9 + b ≤ a ∧ a ≤ 14 + b ∧ (i = σ4 (8 + b) 6 ∨ i = σ1 (8 + b) 6)) → σ8 a i = σ4 a i) (F48' : ∀ a : Int, 9 + b ≤ a → a ≤ 14 + b → a ≠ 10 + b → σ8 a (σ1 (8 + b) 6) = σ4 a (σ1 (8 + b) 6)) (b6 : σ8 (8 + b) 6 = σ4 (8 + b) 6 + 1) (b7 : σ8 (8 + b) 7 = σ3 (8 + b) 7) (bj : σ4 (8 + b) 6 < 8192 → σ8 (9 + b) (σ4 (8 + b) 6) = 24 ∧ σ8 (11 + b) (σ4 (8 + b) 6) = 0 ∧ σ8 (12 + b) (σ4 (8 + b) 6) = 1 ∧ σ8 (13 + b) (σ4 (8 + b) 6) = 0 ∧ σ8 (14 + b) (σ4 (8 + b) 6) = 0) (bl : σ1 (8 + b) 6 < 8192 → σ8 (10 + b) (σ1 (8 + b) 6) = σ4 (8 + b) 6 + 1) (G48 : eg_R (ρ4 83 33) ρ4 ρ8) (m33 : ρ8 83 33 = ρ4 83 33) (m44 : ρ8 83 44 = ρ4 83 44) (hj8 : j4 ≤ j8) (h3 : xz_R z3 b F B σ8 ρ8 j8 σ9 ρ9 j9 n3 tb)
  (F9 : ∀ a i : Int, ¬ (a = 1 ∧ i = 5) → ¬ (a = 8 + b ∧ i = 7) → ¬ (a = 23 + b ∧ 0 ≤ i ∧ i ≤ 2) → ¬ (a = 10 + b ∧ i = σ4 (8 + b) 6) → σ12 a i = σ9 a i) (c7 : nt_P (σ12 (8 + b) 7 = max (min 400000 (σ4 (8 + b) 7 + 1)) (σ9 (8 + b) 7))) (s0 : σ12 (23 + b) 0 = ty) (s1 : σ12 (23 + b) 1 = lo) (s2 : σ12 (23 + b) 2 = hi) (cl : σ4 (8 + b) 6 < 8192 → σ12 (10 + b) (σ4 (8 + b) 6) = σ9 (8 + b) 6) (hR : rd_R σ12 ρ12 j9) (g10 : ρ12 83 10 = ρ0 83 10) (h11 : ∀ a i : Int, ¬ (a = 83 ∧ i = 10) → ρ11 a i = ρ9 a i) (hw : nw_R ρ11 ρ12 8 ty lo hi n1 n2 n3) (hty : 0 ≤ ty ∧ ty < 1000 ∧ -2000000000 ≤ lo ∧ lo ≤ hi ∧ hi ≤ 2000000000) (hty2 : ty_b ty lo hi) (hzz : 2 + xt_dp l ≤ z ∧ 2 + xt_dp ta ≤ z ∧ 2 + xt_dp tb ≤ z) : xz_R z b F B σ0 ρ0 j0 σ12 ρ12 j9 (ρ9 83 33) (tr_n 8 ty lo hi 0 0 0 l (tr_n 80 0 0 0 0 0 0 ta tb)) := by
  have hg0 := xs_hg hx
  have q1 := h1.1.2.1
  have q2 := h2.1.2.1
  have q3 := h3.1.2.1
  have F01 := h1.1.2.2.2.1
  have F34 := h2.1.2.2.2.1
  have F89 := h3.1.2.2.2.1
  have G01 := h1.1.2.2.2.2.1
  have G34 := h2.1.2.2.2.2.1
  have G89 := h3.1.2.2.2.2.1
  have m1 := h1.1.2.2.2.2.2.1
  have m1' := h1.1.2.2.2.2.2.2
  have m2 := h2.1.2.2.2.2.2.1
  have m2' := h2.1.2.2.2.2.2.2
  have m3 := h3.1.2.2.2.2.2.1
  have m3' := h3.1.2.2.2.2.2.2
  have y15 := h1.2.2.1.1.2.2.2
  have y15b := h2.2.2.1.1.2.2.2
  have y15c := h3.2.2.1.1.2.2.2
  have c10 := h1.2.2.1.2.1.1
  have c6 := h1.2.2.1.2.1.2.1
  have d10 := h2.2.2.1.2.1.1
  have d6 := h2.2.2.1.2.1.2.1
  have e10 := h3.2.2.1.2.1.1
  have e6 := h3.2.2.1.2.1.2.1
  have ll := xt_ln_0 l
  have la := xt_ln_0 ta
  have lb := xt_ln_0 tb
  have a10 := aO 10 (by omega)
  have a8 := aO 8 (by omega)
  have b8 : ∀ i : Int, i = 8 ∨ 10 ≤ i ∧ i ≤ 12 → σ8 (8 + b) i = σ4 (8 + b) i := fun i hi => F48 _ _ (by omega) (by omega) (by omega) (by omega)
  have b10 := b8 10 (by omega)
  have b15 : σ8 (23 + b) 15 = σ4 (23 + b) 15 := F48 _ _ (by omega) (by omega) (by omega) (by omega)
  have u1 : σ1 (8 + b) 8 = σ0 (8 + b) 8 := F01 _ _ (by unfold ef_D; omega)
  have u4 : σ4 (8 + b) 8 = σ3 (8 + b) 8 := F34 _ _ (by unfold ef_D; omega)
  have u8 := b8 8 (by omega)
  have E48 : ef_R b (σ1 (8 + b) 6) (σ0 (8 + b) 10) (σ0 (23 + b) 15) σ4 σ8 := fun a i g => F48 a i (fun hh => g (ef_D1 hh)) (fun hh => g (ef_D2 hh)) (fun hh => g (ef_D8 ⟨hh.1, by omega⟩)) (fun hh => g (ef_D9 ⟨hh.1, hh.2.1, by omega⟩))
  have E9 : ef_R b (σ1 (8 + b) 6) (σ0 (8 + b) 10) (σ0 (23 + b) 15) σ9 σ12 := fun a i g => F9 a i (fun hh => g (ef_D1 ⟨hh.1, by omega⟩)) (fun hh => g (ef_D8 ⟨hh.1, by omega⟩)) (fun hh => g (ef_D23 ⟨hh.1, by omega⟩)) (fun hh => g (ef_D9 ⟨by omega, by omega, by omega⟩))
  have E14 : ef_R b (σ1 (8 + b) 6) (σ0 (8 + b) 10) (σ0 (23 + b) 15) σ1 σ4 := ef_R_trans (ef_R_mono F13 (by omega) (by omega) (by omega)) (ef_R_mono F34 (by omega) (by omega) (by omega))
  have E19 : ef_R b (σ1 (8 + b) 6) (σ0 (8 + b) 10) (σ0 (23 + b) 15) σ1 σ9 := ef_R_trans E14 (ef_R_trans E48 (ef_R_mono F89 (by omega) (by omega) (by omega)))
  have E1z : ef_R b (σ1 (8 + b) 6) (σ0 (8 + b) 10) (σ0 (23 + b) 15) σ1 σ12 := ef_R_trans E19 E9
  have E0z : ef_R b (σ0 (8 + b) 6) (σ0 (8 + b) 10) (σ0 (23 + b) 15) σ0 σ12 := ef_R_trans F01 (ef_R_mono E1z (by omega) (by omega) (by omega))
  have hg1 := hg_ef hb hg0 F01
  have hg4 := hg_ef hb hg1 E14
  have hg9 := hg_ef hb hg1 E19
  have v33 : ρ11 83 33 = ρ9 83 33 := h11 _ _ (by omega)
  have G9z : eg_R (ρ9 83 33) ρ9 ρ12 := by
    have k := eg_R_nw hw
    rw [v33] at k
    exact eg_R_trans (N' := ρ9 83 33) (fun a i g1 g2 => h11 a i (by omega)) k (Int.le_refl _)
  have G4z : eg_R (ρ4 83 33) ρ4 ρ12 := eg_R_trans (eg_R_trans G48 G89 (by omega)) G9z (by omega)
  have G1z : eg_R (ρ1 83 33) ρ1 ρ12 := eg_R_trans (eg_R_trans G13 G34 (by omega)) G4z (by omega)
  have G0z : eg_R (ρ0 83 33) ρ0 ρ12 := eg_R_trans G01 G1z (by omega)
  obtain ⟨hw1, ⟨hw2, hw3, hw4, hw5⟩, hw6, hw7, hw8, hw9, hwO⟩ := hw
  rw [v33] at hw1 hw2 hw3 hw4 hw5 hw6 hw7 hw8 hw9
  have n0 : 0 ≤ ρ0 83 33 := hn.2.2.2.2.1.1
  have cn1 := h1.2.2.2.2.2.1.2.1
  have cn2 := h2.2.2.2.2.2.1.2.1
  have cn3 := h3.2.2.2.2.2.1.2.1
  have z6 : σ12 (8 + b) 6 = σ9 (8 + b) 6 := F9 _ _ (by omega) (by omega) (by omega) (by omega)
  refine ⟨⟨hR, by omega, g10, E0z, G0z, by omega, by omega⟩, ?_, ⟨⟨s0, s1, s2, ?_⟩, ⟨?_, ?_, ?_, ?_⟩, fun hs => ?_⟩, ⟨?_, ⟨?_, ?_, ?_⟩, ⟨?_, ?_, ?_⟩, xr_Y_op hty hty2 (by omega) hw9 (xt_dz (x := 2 + max (xt_dp l) (max (xt_dp ta) (xt_dp tb))) rfl (by omega))⟩⟩
  · have r44 : ρ12 83 44 = ρ9 83 44 := by rw [hwO _ _ (by omega) (by omega), h11 _ _ (by omega)]
    have c12 : σ12 (8 + b) 12 = σ9 (8 + b) 12 := F9 _ _ (by omega) (by omega) (by omega) (by omega)
    have b12 := b8 12 (by omega)
    have a12 := aO 12 (by omega)
    obtain ⟨x1, x1a, x1b, x1c, x1d⟩ := h1.2.1
    obtain ⟨x2, x2a, x2b, x2c, x2d⟩ := h2.2.1
    obtain ⟨x3, x3a, x3b, x3c, x3d⟩ := h3.2.1
    refine ⟨max x1 (max x2 x3), by omega, by omega, ?_, ?_⟩
    · rw [r44, x3c, m44, x2c, n44, x1c]
      omega
    · rw [c12, x3d, b12, x2d, a12, x1d]
      omega
  · rw [F9 _ _ (by omega) (by omega) (by omega) (by omega)]
    omega
  · rw [F9 _ _ (by omega) (by omega) (by omega) (by omega)]
    omega
  · rw [z6, xt_ln8, xt_ln80]
    omega
  · have c7' : σ12 (8 + b) 7 = max (min 400000 (σ4 (8 + b) 7 + 1)) (σ9 (8 + b) 7) := c7
    have a7' : σ3 (8 + b) 7 = min 400000 (σ1 (8 + b) 7 + 1) := a7
    rw [c7', h3.2.2.1.2.1.2.2.1, b7, h2.2.2.1.2.1.2.2.1, a7', h1.2.2.1.2.1.2.2.1, xt_cn8, xt_cn80]
    clear c7' a7'
    omega
  · have c11 : σ12 (8 + b) 11 = σ9 (8 + b) 11 := F9 _ _ (by omega) (by omega) (by omega) (by omega)
    have b11 := b8 11 (by omega)
    have a11 := aO 11 (by omega)
    have t4 : σ8 (8 + b) 10 = σ0 (8 + b) 10 := by omega
    have t3 : σ3 (8 + b) 10 = σ0 (8 + b) 10 := by omega
    rw [c11, h3.2.2.1.2.1.2.2.2, b11, h2.2.2.1.2.1.2.2.2, a11, h1.2.2.1.2.1.2.2.2, t4, t3, xt_mt8, xt_mt80]
    omega
  · rw [z6] at hs
    rw [xt_cd8, xt_cd80]
    have e1 : xt_l (tr_n 80 0 0 0 0 0 0 ta tb) = ta := rfl
    rw [e1]
    have t4 : σ8 (8 + b) 10 = σ0 (8 + b) 10 := by omega
    have t3 : σ3 (8 + b) 10 = σ0 (8 + b) 10 := by omega
    have w3 : σ3 (8 + b) 8 = σ0 (8 + b) 8 := by omega
    have w8 : σ8 (8 + b) 8 = σ0 (8 + b) 8 := by omega
    have p3 : σ3 (8 + b) 6 = σ0 (8 + b) 6 + xt_ln l + 1 := by omega
    have p4 : σ4 (8 + b) 6 = σ0 (8 + b) 6 + xt_ln l + 1 + xt_ln ta := by omega
    have p8 : σ8 (8 + b) 6 = σ0 (8 + b) 6 + xt_ln l + 1 + xt_ln ta + 1 := by omega
    have p9 : σ9 (8 + b) 6 = σ0 (8 + b) 6 + xt_ln l + 1 + xt_ln ta + 1 + xt_ln tb := by omega
    refine ⟨xt_cd_ef hb E1z hg1 (by omega) (h1.2.2.1.2.2 (by omega)), ?_, ?_, ?_, ?_⟩
    · obtain ⟨i1, i2, i3, i4, i5⟩ := aj (by omega)
      have i0 := bl (by omega)
      have g : ∀ a : Int, 9 + b ≤ a → a ≤ 14 + b → a ≠ 10 + b → σ12 a (σ1 (8 + b) 6) = σ3 a (σ1 (8 + b) 6) := fun a g1 g2 g3 => by rw [F9 _ _ (by omega) (by omega) (by omega) (by omega), F89 _ _ (by unfold ef_D; omega), F48' _ g1 g2 g3, F34 _ _ (by unfold ef_D; omega)]
      have gl : σ12 (10 + b) (σ1 (8 + b) 6) = σ8 (10 + b) (σ1 (8 + b) 6) := by rw [F9 _ _ (by omega) (by omega) (by omega) (by omega), F89 _ _ (by unfold ef_D; omega)]
      rw [← g _ (by omega) (by omega) (by omega)] at i1 i2 i3 i4 i5
      rw [← gl, p4] at i0
      rw [c6] at i0 i1 i2 i3 i4 i5
      refine ⟨i1, i2, i3, i4, ?_⟩
      rw [if_pos rfl]
      exact ⟨i0, i5⟩
    · have k := h2.2.2.1.2.2 (by omega)
      rw [w3, t3, p3] at k
      refine xt_cd_of ta _ _ (fun i I g1 g2 hI => ci_P_of hI (fun a a1 a2 => by rw [F9 _ _ (by omega) (by omega) (by omega) (by omega), F89 _ _ (by unfold ef_D; omega), F48 _ _ (by omega) (by omega) (by omega) (by omega)]) (by rw [F9 _ _ (by omega) (by omega) (by omega) (by omega), F89 _ _ (by unfold ef_D; omega), F48 _ _ (by omega) (by omega) (by omega) (by omega)]; exact Int.le_refl _) (fun s _ _ => by rw [F9 _ _ (by omega) (by omega) (by omega) (by omega), F89 _ _ (by unfold ef_D; omega), F48 _ _ (by omega) (by omega) (by omega) (by omega)]) (fun s kk g3 g4 g5 => by have := hg4 s g3 g4; rw [F9 _ _ (by omega) (by omega) (by omega) (by omega), F89 _ _ (by unfold ef_D; omega), F48 _ _ (by omega) (by omega) (by omega) (by omega)])) k
    · obtain ⟨i1, i2, i3, i4, i5⟩ := bj (by omega)
      have i0 := cl (by omega)
      have g : ∀ a : Int, 9 + b ≤ a → a ≤ 14 + b → a ≠ 10 + b → σ12 a (σ4 (8 + b) 6) = σ8 a (σ4 (8 + b) 6) := fun a g1 g2 g3 => by rw [F9 _ _ (by omega) (by omega) (by omega) (by omega), F89 _ _ (by unfold ef_D; omega)]
      rw [← g _ (by omega) (by omega) (by omega)] at i1 i2 i3 i4 i5
      rw [p9] at i0
      rw [p4] at i0 i1 i2 i3 i4 i5
      refine ⟨i1, i2, i3, i4, ?_⟩
      rw [if_pos rfl]
      exact ⟨i0, i5⟩
    · have k := h3.2.2.1.2.2 (by omega)
      rw [w8, t4, p8] at k
      refine xt_cd_of tb _ _ (fun i I g1 g2 hI => ci_P_of hI (fun a a1 a2 => F9 _ _ (by omega) (by omega) (by omega) (by omega)) (by rw [F9 _ _ (by omega) (by omega) (by omega) (by omega)]; exact Int.le_refl _) (fun s _ _ => F9 _ _ (by omega) (by omega) (by omega) (by omega)) (fun s kk g3 g4 g5 => by have := hg9 s g3 g4; exact F9 _ _ (by omega) (by omega) (by omega) (by omega))) k
  · rw [xt_nd8, xt_nd80, hw2, hw3, hw4, hw5, hw6, hw7, hw8]
    have k1 := xt_nd_eg (M' := ρ0 83 33) (N' := ρ9 83 33) h1.2.2.2.1 G1z (by omega)
    have k2 := xt_nd_eg (M' := ρ0 83 33) (N' := ρ9 83 33) h2.2.2.2.1 G4z (by omega)
    have k3 := xt_nd_eg (M' := ρ0 83 33) (N' := ρ9 83 33) h3.2.2.2.1 G9z (Int.le_refl _)
    exact ⟨⟨by omega, by omega, rfl, rfl, rfl, rfl⟩, k1, k2, k3⟩
  · exact xt_e_n (by decide) (by decide) hty.2.2 (fun hh => absurd hh (by decide)) (fun hh => absurd hh (by decide)) (fun hh => absurd hh (by decide))
  · rw [xt_w8, xt_w80]
    exact ⟨h1.2.2.2.2.1.1, h1.2.2.2.2.1.2.1, rfl, h2.2.2.2.2.1.1, h2.2.2.2.2.1.2.1, h3.2.2.2.2.1.1, h3.2.2.2.2.1.2.1⟩
  · unfold xt_G
    rw [xt_g8, xt_g80]
    have r44 : ρ12 83 44 = ρ9 83 44 := by rw [hwO _ _ (by omega) (by omega), h11 _ _ (by omega)]
    have e2 := xr_L_up h2.2.1
    have e3 := xr_L_up h3.2.1
    exact ⟨xt_G_eg h1.2.2.2.2.1.2.2 G1z (by omega), xt_G_eg h2.2.2.2.2.1.2.2 G4z (by omega), xt_G_eg h3.2.2.2.2.1.2.2 G9z (by omega)⟩
  · rw [xt_ln8, xt_ln80]
    have k1 := h1.2.2.2.2.2.1.1
    have k2 := h2.2.2.2.2.2.1.1
    have k3 := h3.2.2.2.2.2.1.1
    push_cast at k1 k2 k3 ⊢
    omega
  · rw [xt_cn8, xt_cn80]
    omega
  · rw [xt_mt8, xt_mt80]
    have k1 := h1.2.2.2.2.2.1.2.2
    have k2 := h2.2.2.2.2.2.1.2.2
    have k3 := h3.2.2.2.2.2.1.2.2
    have t4 : σ8 (8 + b) 10 = σ0 (8 + b) 10 := by omega
    have t3 : σ3 (8 + b) 10 = σ0 (8 + b) 10 := by omega
    rw [t3] at k2
    rw [t4] at k3
    omega
