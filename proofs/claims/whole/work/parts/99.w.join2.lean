/-! part 99.w: joining: && and ||, what stands in brackets, one operand -/
/-- two e and a jump (&&) -/
theorem xr_jp6 {E : js_E} {b F : Int} {B : Int → Int} {X : Int → Prop} {σ0 ρ0 σ1 ρ1 σ2 σ4 ρ2 σ5 ρ5 σ7 σ8 ρ7 : js_S} {j0 j1 j4 j5 : Nat} {n1 n2 : Int} {l r : tr_T} (hb : b = 0 ∨ b = 25) (hx : xs_R E b F B X σ0 ρ0) (hn : xn_R b σ0 ρ0 j0) {z z1 z2 : Int} (h1 : xz_R z1 b F B σ0 ρ0 j0 σ1 ρ1 j1 n1 l) (he : em_R b σ1 σ2 25 0 0 1 0 0) (F24 : ef_R b (σ1 (8 + b) 6 + 1) (σ1 (8 + b) 10) (σ1 (23 + b) 15) σ2 σ4) (v : ∀ i : Int, 6 ≤ i → i ≤ 12 → σ4 (8 + b) i = σ2 (8 + b) i) (v15 : σ1 (23 + b) 15 ≤ σ4 (23 + b) 15) (G12 : eg_R (ρ1 83 33) ρ1 ρ2) (n33 : ρ2 83 33 = ρ1 83 33) (n44 : ρ2 83 44 = ρ1 83 44) (n10 : ρ2 83 10 = ρ1 83 10) (hj : j1 + 1 ≤ j4) (h2 : xz_R z2 b F B σ4 ρ2 j4 σ5 ρ5 j5 n2 r) (h7 : ∀ a i : Int, ¬ (a = 23 + b ∧ (0 ≤ i ∧ i ≤ 2 ∨ i = 15)) → σ7 a i = σ5 a i) (s0 : σ7 (23 + b) 0 = 1) (s1 : σ7 (23 + b) 1 = 0) (s2 : σ7 (23 + b) 2 = 1) (s15 : σ7 (23 + b) 15 = σ0 (23 + b) 15) (hl1 : σ1 (8 + b) 6 < 8192 → σ8 (10 + b) (σ1 (8 + b) 6) = σ7 (8 + b) 6) (hl2 : ∀ a i : Int, ¬ (a = 10 + b ∧ i = σ1 (8 + b) 6) → σ8 a i = σ7 a i) (hw : nw_R ρ5 ρ7 6 1 0 1 n1 n2 0) (hzz : xt_dp l ≤ z ∧ 1 + xt_dp r ≤ z) : xz_R z b F B σ0 ρ0 j0 σ8 ρ7 j5 (ρ5 83 33) (tr_n 6 1 0 1 0 0 0 l r) := by
  have hg0 := xs_hg hx
  have r5 := h2.1.1
  have q1 := h1.1.2.1
  have q5 := h2.1.2.1
  have dp1 := h1.1.2.2.1
  have dp5 := h2.1.2.2.1
  have F01 := h1.1.2.2.2.1
  have F45 := h2.1.2.2.2.1
  have G01 := h1.1.2.2.2.2.1
  have G25 := h2.1.2.2.2.2.1
  have m1 := h1.1.2.2.2.2.2.1
  have m1' := h1.1.2.2.2.2.2.2
  have m5 := h2.1.2.2.2.2.2.1
  have m5' := h2.1.2.2.2.2.2.2
  have y15 := h1.2.2.1.1.2.2.2
  have c10 := h1.2.2.1.2.1.1
  have c6 := h1.2.2.1.2.1.2.1
  have d10 := h2.2.2.1.2.1.1
  have d6 := h2.2.2.1.2.1.2.1
  have k6 := he.1
  have kO := he.2.2.2
  have ll := xt_ln_0 l
  have lr := xt_ln_0 r
  have F12 : ef_R b (σ1 (8 + b) 6) (σ1 (8 + b) 10) (σ1 (23 + b) 15) σ1 σ2 := ef_R_em he (Int.le_refl _)
  have k10 : σ2 (8 + b) 10 = σ0 (8 + b) 10 := by rw [kO _ _ (by omega) (by omega), c10]
  have v10 : σ4 (8 + b) 10 = σ0 (8 + b) 10 := by rw [v _ (by decide) (by decide), k10]
  have v6 : σ4 (8 + b) 6 = σ0 (8 + b) 6 + xt_ln l + 1 := by rw [v _ (by decide) (by decide), k6, c6]
  have v8 : σ4 (8 + b) 8 = σ0 (8 + b) 8 := by rw [v _ (by decide) (by decide), kO _ _ (by omega) (by omega), F01 _ _ (by unfold ef_D; omega)]
  have v12 : σ4 (8 + b) 12 = σ1 (8 + b) 12 := by rw [v _ (by decide) (by decide), kO _ _ (by omega) (by omega)]
  have w : ∀ i : Int, σ7 (8 + b) i = σ5 (8 + b) i := fun i => h7 _ _ (by omega)
  have u : ∀ i : Int, σ8 (8 + b) i = σ5 (8 + b) i := fun i => by rw [hl2 _ _ (by omega), w]
  have w6 : σ7 (8 + b) 6 = σ0 (8 + b) 6 + xt_ln l + 1 + xt_ln r := by rw [w, d6, v6]
  have F57 : ∀ n t p : Int, ef_R b n t p σ5 σ7 := fun n t p a i g => h7 a i (fun hh => g (ef_D23 ⟨hh.1, by omega⟩))
  have F78 : ef_R b (σ0 (8 + b) 6 + xt_ln l) (σ0 (8 + b) 10) (σ0 (23 + b) 15) σ7 σ8 := fun a i g => hl2 a i (fun hh => g (ef_D9 ⟨by omega, by omega, by omega⟩))
  have F58 : ef_R b (σ0 (8 + b) 6 + xt_ln l) (σ0 (8 + b) 10) (σ0 (23 + b) 15) σ5 σ8 := ef_R_trans (F57 _ _ _) F78
  have F25 : ef_R b (σ0 (8 + b) 6 + xt_ln l + 1) (σ0 (8 + b) 10) (σ0 (23 + b) 15) σ2 σ5 := ef_R_trans (ef_R_mono F24 (by omega) (by omega) (by omega)) (ef_R_mono F45 (by omega) (by omega) (by omega))
  have F28 : ef_R b (σ0 (8 + b) 6 + xt_ln l) (σ0 (8 + b) 10) (σ0 (23 + b) 15) σ2 σ8 := ef_R_trans (ef_R_mono F25 (by omega) (by omega) (by omega)) F58
  have F18 : ef_R b (σ0 (8 + b) 6 + xt_ln l) (σ0 (8 + b) 10) (σ0 (23 + b) 15) σ1 σ8 := ef_R_trans (ef_R_mono F12 (by omega) (by omega) (by omega)) F28
  have F08 : ef_R b (σ0 (8 + b) 6) (σ0 (8 + b) 10) (σ0 (23 + b) 15) σ0 σ8 := ef_R_trans F01 (ef_R_mono F18 (by omega) (by omega) (by omega))
  have hg1 := hg_ef hb hg0 F01
  have hg2 := hg_ef hb hg1 F12
  have hg4 := hg_ef hb hg2 F24
  have hg5 := hg_ef hb hg4 F45
  have G57 : eg_R (ρ5 83 33) ρ5 ρ7 := eg_R_nw hw
  have G17 : eg_R (ρ1 83 33) ρ1 ρ7 := eg_R_trans (eg_R_trans G12 G25 (by omega)) G57 (by omega)
  have G07 : eg_R (ρ0 83 33) ρ0 ρ7 := eg_R_trans G01 G17 (by omega)
  obtain ⟨hw1, ⟨hw2, hw3, hw4, hw5⟩, hw6, hw7, hw8, hw9, hwO⟩ := hw
  have R8 : rd_R σ8 ρ7 j5 := rd_R_of r5 (fun i hi => by rw [hl2 _ _ (by omega), h7 _ _ (by omega)]) (fun a i g1 g2 => by rw [hl2 _ _ (by omega), h7 _ _ (by omega)]) (fun i g1 g2 => by rw [hwO _ _ (by omega) (by omega)]) (fun i => by rw [hwO _ _ (by omega) (by omega)])
  have n0 : 0 ≤ ρ0 83 33 := hn.2.2.2.2.1.1
  have cn1 := h1.2.2.2.2.2.1.2.1
  have cn5 := h2.2.2.2.2.2.1.2.1
  refine ⟨⟨R8, by omega, ?_, F08, G07, by omega, by omega⟩, ?_, ⟨⟨?_, ?_, ?_, ?_⟩, ⟨?_, ?_, ?_, ?_⟩, fun hs => ?_⟩, ⟨?_, ⟨?_, ?_, ?_⟩, ⟨?_, ?_, ?_⟩, xr_Y_op (by decide) ⟨by decide, fun _ => ⟨rfl, rfl⟩⟩ (by omega) hw9 (xt_dz (x := max (xt_dp l) (1 + xt_dp r)) rfl (by omega))⟩⟩
  · rw [hwO _ _ (by omega) (by omega), dp5, n10, dp1]
  · have e1 : ρ7 83 44 = ρ5 83 44 := hwO _ _ (by omega) (by omega)
    obtain ⟨x1, x1a, x1b, x1c, x1d⟩ := h1.2.1
    obtain ⟨x2, x2a, x2b, x2c, x2d⟩ := h2.2.1
    refine ⟨max x1 x2, by omega, by omega, ?_, ?_⟩
    · rw [e1, x2c, n44, x1c]
      omega
    · rw [u, x2d, v12, x1d]
      omega
  · rw [hl2 _ _ (by omega)]
    exact s0
  · rw [hl2 _ _ (by omega)]
    exact s1
  · rw [hl2 _ _ (by omega)]
    exact s2
  · rw [hl2 _ _ (by omega)]
    exact s15
  · rw [u, d10, v10]
  · rw [u, ← w, w6, xt_ln6]
    omega
  · rw [u, h2.2.2.1.2.1.2.2.1, v _ (by decide) (by decide), he.2.1, h1.2.2.1.2.1.2.2.1, xt_cn6]
    omega
  · have e11 : σ2 (8 + b) 11 = σ1 (8 + b) 11 := kO _ _ (by omega) (by omega)
    rw [u, h2.2.2.1.2.1.2.2.2, v10, v _ (by decide) (by decide), e11, h1.2.2.1.2.1.2.2.2, xt_mt6]
    omega
  · rw [xt_cd6]
    rw [u, ← w, w6] at hs
    refine ⟨xt_cd_ef hb F18 hg1 (Int.le_refl _) (h1.2.2.1.2.2 (by omega)), ?_, ?_⟩
    · obtain ⟨i1, i2, i3, i4, i5, i6⟩ := he.2.2.1 (by omega)
      have g : ∀ a : Int, 9 + b ≤ a → a ≤ 14 + b → a ≠ 10 + b → σ8 a (σ1 (8 + b) 6) = σ2 a (σ1 (8 + b) 6) := fun a a1 a2 a3 => by rw [hl2 _ _ (by omega), h7 _ _ (by omega), F25 _ _ (by unfold ef_D; omega)]
      have i0 := hl1 (by omega)
      rw [w6] at i0
      rw [← g _ (by omega) (by omega) (by omega)] at i1 i3 i4 i5 i6
      rw [c6] at i0 i1 i3 i4 i5 i6
      refine ⟨i1, i3, i4, i5, ?_⟩
      rw [if_pos rfl]
      exact ⟨i0, i6⟩
    · have k := h2.2.2.1.2.2 (by omega)
      rw [v8, v10, v6] at k
      refine xt_cd_of r _ _ (fun i I g1 g2 hI => ci_P_of hI (fun a a1 a2 => by rw [hl2 _ _ (by omega), h7 _ _ (by omega)]) (by rw [hl2 _ _ (by omega), h7 _ _ (by omega)]; exact Int.le_refl _) (fun s _ _ => by rw [hl2 _ _ (by omega), h7 _ _ (by omega)]) (fun s kk g3 g4 g5 => by have := hg5 s g3 g4; rw [hl2 _ _ (by omega), h7 _ _ (by omega)])) k
  · rw [xt_nd6, hw2, hw3, hw4, hw5, hw6, hw7]
    have a1 := xt_nd_eg (M' := ρ0 83 33) (N' := ρ5 83 33) h1.2.2.2.1 G17 (by omega)
    have a2 := xt_nd_eg (M' := ρ0 83 33) (N' := ρ5 83 33) h2.2.2.2.1 G57 (Int.le_refl _)
    exact ⟨⟨by omega, by omega, rfl, rfl, rfl, rfl⟩, a1, a2⟩
  · exact xt_e_n (by decide) (by decide) (by decide) (fun hh => absurd hh (by decide)) (fun hh => absurd hh (by decide)) (fun hh => absurd hh (by decide))
  · rw [xt_w6]
    exact ⟨h1.2.2.2.2.1.1, h1.2.2.2.2.1.2.1, h2.2.2.2.2.1.1, h2.2.2.2.2.1.2.1⟩
  · unfold xt_G
    rw [xt_g6]
    have e1 : ρ7 83 44 = ρ5 83 44 := hwO _ _ (by omega) (by omega)
    have e2 := xr_L_up h2.2.1
    exact ⟨xt_G_eg h1.2.2.2.2.1.2.2 G17 (by omega), xt_G_eg h2.2.2.2.2.1.2.2 G57 (by omega)⟩
  · rw [xt_ln6]
    have a1 := h1.2.2.2.2.2.1.1
    have a2 := h2.2.2.2.2.2.1.1
    push_cast at a1 a2 ⊢
    omega
  · rw [xt_cn6]
    omega
  · rw [xt_mt6]
    have a1 := h1.2.2.2.2.2.1.2.2
    have a2 := h2.2.2.2.2.2.1.2.2
    rw [v10] at a2
    omega
/-- two e and a jump (||) -/
theorem xr_jp7 {E : js_E} {b F : Int} {B : Int → Int} {X : Int → Prop} {σ0 ρ0 σ1 ρ1 σ2 σ4 ρ2 σ5 ρ5 σ7 σ8 ρ7 : js_S} {j0 j1 j4 j5 : Nat} {n1 n2 : Int} {l r : tr_T} (hb : b = 0 ∨ b = 25) (hx : xs_R E b F B X σ0 ρ0) (hn : xn_R b σ0 ρ0 j0) {z z1 z2 : Int} (h1 : xz_R z1 b F B σ0 ρ0 j0 σ1 ρ1 j1 n1 l) (he : em_R b σ1 σ2 26 0 0 1 0 0) (F24 : ef_R b (σ1 (8 + b) 6 + 1) (σ1 (8 + b) 10) (σ1 (23 + b) 15) σ2 σ4) (v : ∀ i : Int, 6 ≤ i → i ≤ 12 → σ4 (8 + b) i = σ2 (8 + b) i) (v15 : σ1 (23 + b) 15 ≤ σ4 (23 + b) 15) (G12 : eg_R (ρ1 83 33) ρ1 ρ2) (n33 : ρ2 83 33 = ρ1 83 33) (n44 : ρ2 83 44 = ρ1 83 44) (n10 : ρ2 83 10 = ρ1 83 10) (hj : j1 + 1 ≤ j4) (h2 : xz_R z2 b F B σ4 ρ2 j4 σ5 ρ5 j5 n2 r) (h7 : ∀ a i : Int, ¬ (a = 23 + b ∧ (0 ≤ i ∧ i ≤ 2 ∨ i = 15)) → σ7 a i = σ5 a i) (s0 : σ7 (23 + b) 0 = 1) (s1 : σ7 (23 + b) 1 = 0) (s2 : σ7 (23 + b) 2 = 1) (s15 : σ7 (23 + b) 15 = σ0 (23 + b) 15) (hl1 : σ1 (8 + b) 6 < 8192 → σ8 (10 + b) (σ1 (8 + b) 6) = σ7 (8 + b) 6) (hl2 : ∀ a i : Int, ¬ (a = 10 + b ∧ i = σ1 (8 + b) 6) → σ8 a i = σ7 a i) (hw : nw_R ρ5 ρ7 7 1 0 1 n1 n2 0) (hzz : xt_dp l ≤ z ∧ 1 + xt_dp r ≤ z) : xz_R z b F B σ0 ρ0 j0 σ8 ρ7 j5 (ρ5 83 33) (tr_n 7 1 0 1 0 0 0 l r) := by
  have hg0 := xs_hg hx
  have r5 := h2.1.1
  have q1 := h1.1.2.1
  have q5 := h2.1.2.1
  have dp1 := h1.1.2.2.1
  have dp5 := h2.1.2.2.1
  have F01 := h1.1.2.2.2.1
  have F45 := h2.1.2.2.2.1
  have G01 := h1.1.2.2.2.2.1
  have G25 := h2.1.2.2.2.2.1
  have m1 := h1.1.2.2.2.2.2.1
  have m1' := h1.1.2.2.2.2.2.2
  have m5 := h2.1.2.2.2.2.2.1
  have m5' := h2.1.2.2.2.2.2.2
  have y15 := h1.2.2.1.1.2.2.2
  have c10 := h1.2.2.1.2.1.1
  have c6 := h1.2.2.1.2.1.2.1
  have d10 := h2.2.2.1.2.1.1
  have d6 := h2.2.2.1.2.1.2.1
  have k6 := he.1
  have kO := he.2.2.2
  have ll := xt_ln_0 l
  have lr := xt_ln_0 r
  have F12 : ef_R b (σ1 (8 + b) 6) (σ1 (8 + b) 10) (σ1 (23 + b) 15) σ1 σ2 := ef_R_em he (Int.le_refl _)
  have k10 : σ2 (8 + b) 10 = σ0 (8 + b) 10 := by rw [kO _ _ (by omega) (by omega), c10]
  have v10 : σ4 (8 + b) 10 = σ0 (8 + b) 10 := by rw [v _ (by decide) (by decide), k10]
  have v6 : σ4 (8 + b) 6 = σ0 (8 + b) 6 + xt_ln l + 1 := by rw [v _ (by decide) (by decide), k6, c6]
  have v8 : σ4 (8 + b) 8 = σ0 (8 + b) 8 := by rw [v _ (by decide) (by decide), kO _ _ (by omega) (by omega), F01 _ _ (by unfold ef_D; omega)]
  have v12 : σ4 (8 + b) 12 = σ1 (8 + b) 12 := by rw [v _ (by decide) (by decide), kO _ _ (by omega) (by omega)]
  have w : ∀ i : Int, σ7 (8 + b) i = σ5 (8 + b) i := fun i => h7 _ _ (by omega)
  have u : ∀ i : Int, σ8 (8 + b) i = σ5 (8 + b) i := fun i => by rw [hl2 _ _ (by omega), w]
  have w6 : σ7 (8 + b) 6 = σ0 (8 + b) 6 + xt_ln l + 1 + xt_ln r := by rw [w, d6, v6]
  have F57 : ∀ n t p : Int, ef_R b n t p σ5 σ7 := fun n t p a i g => h7 a i (fun hh => g (ef_D23 ⟨hh.1, by omega⟩))
  have F78 : ef_R b (σ0 (8 + b) 6 + xt_ln l) (σ0 (8 + b) 10) (σ0 (23 + b) 15) σ7 σ8 := fun a i g => hl2 a i (fun hh => g (ef_D9 ⟨by omega, by omega, by omega⟩))
  have F58 : ef_R b (σ0 (8 + b) 6 + xt_ln l) (σ0 (8 + b) 10) (σ0 (23 + b) 15) σ5 σ8 := ef_R_trans (F57 _ _ _) F78
  have F25 : ef_R b (σ0 (8 + b) 6 + xt_ln l + 1) (σ0 (8 + b) 10) (σ0 (23 + b) 15) σ2 σ5 := ef_R_trans (ef_R_mono F24 (by omega) (by omega) (by omega)) (ef_R_mono F45 (by omega) (by omega) (by omega))
  have F28 : ef_R b (σ0 (8 + b) 6 + xt_ln l) (σ0 (8 + b) 10) (σ0 (23 + b) 15) σ2 σ8 := ef_R_trans (ef_R_mono F25 (by omega) (by omega) (by omega)) F58
  have F18 : ef_R b (σ0 (8 + b) 6 + xt_ln l) (σ0 (8 + b) 10) (σ0 (23 + b) 15) σ1 σ8 := ef_R_trans (ef_R_mono F12 (by omega) (by omega) (by omega)) F28
  have F08 : ef_R b (σ0 (8 + b) 6) (σ0 (8 + b) 10) (σ0 (23 + b) 15) σ0 σ8 := ef_R_trans F01 (ef_R_mono F18 (by omega) (by omega) (by omega))
  have hg1 := hg_ef hb hg0 F01
  have hg2 := hg_ef hb hg1 F12
  have hg4 := hg_ef hb hg2 F24
  have hg5 := hg_ef hb hg4 F45
  have G57 : eg_R (ρ5 83 33) ρ5 ρ7 := eg_R_nw hw
  have G17 : eg_R (ρ1 83 33) ρ1 ρ7 := eg_R_trans (eg_R_trans G12 G25 (by omega)) G57 (by omega)
  have G07 : eg_R (ρ0 83 33) ρ0 ρ7 := eg_R_trans G01 G17 (by omega)
  obtain ⟨hw1, ⟨hw2, hw3, hw4, hw5⟩, hw6, hw7, hw8, hw9, hwO⟩ := hw
  have R8 : rd_R σ8 ρ7 j5 := rd_R_of r5 (fun i hi => by rw [hl2 _ _ (by omega), h7 _ _ (by omega)]) (fun a i g1 g2 => by rw [hl2 _ _ (by omega), h7 _ _ (by omega)]) (fun i g1 g2 => by rw [hwO _ _ (by omega) (by omega)]) (fun i => by rw [hwO _ _ (by omega) (by omega)])
  have n0 : 0 ≤ ρ0 83 33 := hn.2.2.2.2.1.1
  have cn1 := h1.2.2.2.2.2.1.2.1
  have cn5 := h2.2.2.2.2.2.1.2.1
  refine ⟨⟨R8, by omega, ?_, F08, G07, by omega, by omega⟩, ?_, ⟨⟨?_, ?_, ?_, ?_⟩, ⟨?_, ?_, ?_, ?_⟩, fun hs => ?_⟩, ⟨?_, ⟨?_, ?_, ?_⟩, ⟨?_, ?_, ?_⟩, xr_Y_op (by decide) ⟨by decide, fun _ => ⟨rfl, rfl⟩⟩ (by omega) hw9 (xt_dz (x := max (xt_dp l) (1 + xt_dp r)) rfl (by omega))⟩⟩
  · rw [hwO _ _ (by omega) (by omega), dp5, n10, dp1]
  · have e1 : ρ7 83 44 = ρ5 83 44 := hwO _ _ (by omega) (by omega)
    obtain ⟨x1, x1a, x1b, x1c, x1d⟩ := h1.2.1
    obtain ⟨x2, x2a, x2b, x2c, x2d⟩ := h2.2.1
    refine ⟨max x1 x2, by omega, by omega, ?_, ?_⟩
    · rw [e1, x2c, n44, x1c]
      omega
    · rw [u, x2d, v12, x1d]
      omega
  · rw [hl2 _ _ (by omega)]
    exact s0
  · rw [hl2 _ _ (by omega)]
    exact s1
  · rw [hl2 _ _ (by omega)]
    exact s2
  · rw [hl2 _ _ (by omega)]
    exact s15
  · rw [u, d10, v10]
  · rw [u, ← w, w6, xt_ln7]
    omega
  · rw [u, h2.2.2.1.2.1.2.2.1, v _ (by decide) (by decide), he.2.1, h1.2.2.1.2.1.2.2.1, xt_cn7]
    omega
  · have e11 : σ2 (8 + b) 11 = σ1 (8 + b) 11 := kO _ _ (by omega) (by omega)
    rw [u, h2.2.2.1.2.1.2.2.2, v10, v _ (by decide) (by decide), e11, h1.2.2.1.2.1.2.2.2, xt_mt7]
    omega
  · rw [xt_cd7]
    rw [u, ← w, w6] at hs
    refine ⟨xt_cd_ef hb F18 hg1 (Int.le_refl _) (h1.2.2.1.2.2 (by omega)), ?_, ?_⟩
    · obtain ⟨i1, i2, i3, i4, i5, i6⟩ := he.2.2.1 (by omega)
      have g : ∀ a : Int, 9 + b ≤ a → a ≤ 14 + b → a ≠ 10 + b → σ8 a (σ1 (8 + b) 6) = σ2 a (σ1 (8 + b) 6) := fun a a1 a2 a3 => by rw [hl2 _ _ (by omega), h7 _ _ (by omega), F25 _ _ (by unfold ef_D; omega)]
      have i0 := hl1 (by omega)
      rw [w6] at i0
      rw [← g _ (by omega) (by omega) (by omega)] at i1 i3 i4 i5 i6
      rw [c6] at i0 i1 i3 i4 i5 i6
      refine ⟨i1, i3, i4, i5, ?_⟩
      rw [if_pos rfl]
      exact ⟨i0, i6⟩
    · have k := h2.2.2.1.2.2 (by omega)
      rw [v8, v10, v6] at k
      refine xt_cd_of r _ _ (fun i I g1 g2 hI => ci_P_of hI (fun a a1 a2 => by rw [hl2 _ _ (by omega), h7 _ _ (by omega)]) (by rw [hl2 _ _ (by omega), h7 _ _ (by omega)]; exact Int.le_refl _) (fun s _ _ => by rw [hl2 _ _ (by omega), h7 _ _ (by omega)]) (fun s kk g3 g4 g5 => by have := hg5 s g3 g4; rw [hl2 _ _ (by omega), h7 _ _ (by omega)])) k
  · rw [xt_nd7, hw2, hw3, hw4, hw5, hw6, hw7]
    have a1 := xt_nd_eg (M' := ρ0 83 33) (N' := ρ5 83 33) h1.2.2.2.1 G17 (by omega)
    have a2 := xt_nd_eg (M' := ρ0 83 33) (N' := ρ5 83 33) h2.2.2.2.1 G57 (Int.le_refl _)
    exact ⟨⟨by omega, by omega, rfl, rfl, rfl, rfl⟩, a1, a2⟩
  · exact xt_e_n (by decide) (by decide) (by decide) (fun hh => absurd hh (by decide)) (fun hh => absurd hh (by decide)) (fun hh => absurd hh (by decide))
  · rw [xt_w7]
    exact ⟨h1.2.2.2.2.1.1, h1.2.2.2.2.1.2.1, h2.2.2.2.2.1.1, h2.2.2.2.2.1.2.1⟩
  · unfold xt_G
    rw [xt_g7]
    have e1 : ρ7 83 44 = ρ5 83 44 := hwO _ _ (by omega) (by omega)
    have e2 := xr_L_up h2.2.1
    exact ⟨xt_G_eg h1.2.2.2.2.1.2.2 G17 (by omega), xt_G_eg h2.2.2.2.2.1.2.2 G57 (by omega)⟩
  · rw [xt_ln7]
    have a1 := h1.2.2.2.2.2.1.1
    have a2 := h2.2.2.2.2.2.1.1
    push_cast at a1 a2 ⊢
    omega
  · rw [xt_cn7]
    omega
  · rw [xt_mt7]
    have a1 := h1.2.2.2.2.2.1.2.2
    have a2 := h2.2.2.2.2.2.1.2.2
    rw [v10] at a2
    omega
/-- nothing is made before and behind an e -/
theorem xr_frame {b F : Int} {B : Int → Int} {σ0 ρ0 σ1 ρ1 σ2 ρ2 σ3 ρ3 : js_S} {j0 j1 j2 j3 : Nat} {n : Int} {e : tr_T} (hb : b = 0 ∨ b = 25) (hg0 : hg_R σ0 b) (F01 : ef_R b (σ0 (8 + b) 6) (σ0 (8 + b) 10) (σ0 (23 + b) 15) σ0 σ1) (v : ∀ i : Int, 6 ≤ i → i ≤ 12 → σ1 (8 + b) i = σ0 (8 + b) i) (v15 : σ0 (23 + b) 15 ≤ σ1 (23 + b) 15) (G01 : eg_R (ρ0 83 33) ρ0 ρ1) (n33 : ρ1 83 33 = ρ0 83 33) (n44 : ρ1 83 44 = ρ0 83 44) (hj1 : j0 ≤ j1) {z1 : Int} (h : xz_R z1 b F B σ1 ρ1 j1 σ2 ρ2 j2 n e) (F23 : ef_R b (σ2 (8 + b) 6) (σ0 (8 + b) 10) (σ0 (23 + b) 15) σ2 σ3) (w : ∀ i : Int, 6 ≤ i → i ≤ 12 → σ3 (8 + b) i = σ2 (8 + b) i) (w0 : ∀ i : Int, 0 ≤ i → i ≤ 2 → σ3 (23 + b) i = σ2 (23 + b) i) (w15 : σ3 (23 + b) 15 = σ0 (23 + b) 15) (G23 : eg_R (ρ2 83 33) ρ2 ρ3) (m33 : ρ3 83 33 = ρ2 83 33) (m44 : ρ3 83 44 = ρ2 83 44) (m10 : ρ3 83 10 = ρ0 83 10) (hj3 : j2 ≤ j3) (hR : rd_R σ3 ρ3 j3) {z : Int} (hzz : z1 ≤ z) : xz_R z b F B σ0 ρ0 j0 σ3 ρ3 j3 n e := by
  have q := h.1.2.1
  have F12 := h.1.2.2.2.1
  have G12 := h.1.2.2.2.2.1
  have m1 := h.1.2.2.2.2.2.1
  have m1' := h.1.2.2.2.2.2.2
  have c10 := h.2.2.1.2.1.1
  have c6 := h.2.2.1.2.1.2.1
  have v6 := v 6 (by decide) (by decide)
  have v8 := v 8 (by decide) (by decide)
  have v10 := v 10 (by decide) (by decide)
  have w6 := w 6 (by decide) (by decide)
  have w10 := w 10 (by decide) (by decide)
  have ll := xt_ln_0 e
  have F02 : ef_R b (σ0 (8 + b) 6) (σ0 (8 + b) 10) (σ0 (23 + b) 15) σ0 σ2 := ef_R_trans F01 (ef_R_mono F12 (by omega) (by omega) (by omega))
  have hg2 := hg_ef hb hg0 F02
  have G13 : eg_R (ρ1 83 33) ρ1 ρ3 := eg_R_trans G12 G23 (by omega)
  refine ⟨⟨hR, by omega, m10, ef_R_trans F02 (ef_R_mono F23 (by omega) (by omega) (by omega)), eg_R_trans G01 G13 (by omega), by omega, by omega⟩, ?_, ⟨⟨?_, ?_, ?_, w15⟩, ⟨by omega, by omega, ?_, ?_⟩, fun hs => ?_⟩, ⟨?_, ⟨h.2.2.2.2.1.1, h.2.2.2.2.1.2.1, xt_G_eg h.2.2.2.2.1.2.2 G23 (by omega)⟩, ⟨?_, h.2.2.2.2.2.1.2.1, ?_⟩, h.2.2.2.2.2.2.1, h.2.2.2.2.2.2.2.1, by have := h.2.2.2.2.2.2.2.2.1; omega, by rw [G23 _ _ (by omega) (by have := (xt_nd_in h.2.2.2.1 h.2.2.2.2.1.1).2.1; omega)]; exact h.2.2.2.2.2.2.2.2.2.1, Int.le_trans h.2.2.2.2.2.2.2.2.2.2 hzz⟩⟩
  · obtain ⟨x, x1, x2, x3, x4⟩ := h.2.1
    exact ⟨x, x1, x2, by rw [m44, x3, n44], by rw [w _ (by decide) (by decide), x4, v _ (by decide) (by decide)]⟩
  · rw [w0 _ (by decide) (by decide)]
    exact h.2.2.1.1.1
  · rw [w0 _ (by decide) (by decide)]
    exact h.2.2.1.1.2.1
  · rw [w0 _ (by decide) (by decide)]
    exact h.2.2.1.1.2.2.1
  · rw [w _ (by decide) (by decide), h.2.2.1.2.1.2.2.1, v _ (by decide) (by decide)]
  · rw [w _ (by decide) (by decide), h.2.2.1.2.1.2.2.2, v _ (by decide) (by decide), v10]
  · have k := h.2.2.1.2.2 (by omega)
    rw [v8, v10, v6] at k
    exact xt_cd_ef hb F23 hg2 (by omega) k
  · have k := xt_nd_eg (M' := ρ0 83 33) (N' := ρ3 83 33) h.2.2.2.1 G23 (by omega)
    exact k
  · have k := h.2.2.2.2.2.1.1
    push_cast at k ⊢
    omega
  · have k := h.2.2.2.2.2.1.2.2
    rw [v10] at k
    exact k
/-- one operand -/
theorem xr_one {E : js_E} {b F : Int} {B : Int → Int} {X : Int → Prop} {σ0 ρ0 σ2 ρ2 σ3 σ4 ρ3 : js_S} {j0 j2 : Nat} {n1 : Int} {l : tr_T} {op ty lo hi : Int} (hb : b = 0 ∨ b = 25) (hx : xs_R E b F B X σ0 ρ0) (hn : xn_R b σ0 ρ0 j0) {z z1 : Int} (h : xz_R z1 b F B σ0 ρ0 j0 σ2 ρ2 j2 n1 l) (hj : (ρ2 83 33 + 1) + j0 ≤ ρ0 83 33 + j2) (hln : xt_ln l + 1 ≤ 8 * ((j2 : Int) - j0)) (h3 : ∀ a i : Int, ¬ (a = 23 + b ∧ 0 ≤ i ∧ i ≤ 2) → σ3 a i = σ2 a i) (s0 : σ3 (23 + b) 0 = ty) (s1 : σ3 (23 + b) 1 = lo) (s2 : σ3 (23 + b) 2 = hi) (he : em_R b σ3 σ4 op 0 0 lo hi 0) (hw : nw_R ρ2 ρ3 5 ty lo hi n1 0 op) (hty : 0 ≤ ty ∧ ty < 1000 ∧ -2000000000 ≤ lo ∧ lo ≤ hi ∧ hi ≤ 2000000000) (hty2 : ty_b ty lo hi) (hzz : 2 + xt_dp l ≤ z) (hop : 19 ≤ op ∧ op ≤ 21) : xz_R z b F B σ0 ρ0 j0 σ4 ρ3 j2 (ρ2 83 33) (tr_n 5 ty lo hi 0 0 op l .leaf) := by
  have hg0 := xs_hg hx
  have r2 := h.1.1
  have q := h.1.2.1
  have dp := h.1.2.2.1
  have F02 := h.1.2.2.2.1
  have G02 := h.1.2.2.2.2.1
  have m1 := h.1.2.2.2.2.2.1
  have y15 := h.2.2.1.1.2.2.2
  have c10 := h.2.2.1.2.1.1
  have c6 := h.2.2.1.2.1.2.1
  have kO := he.2.2.2
  have k6 := he.1
  have ll := xt_ln_0 l
  have F23 : ∀ n t p : Int, ef_R b n t p σ2 σ3 := fun n t p a i g => h3 a i (fun hh => g (ef_D23 ⟨hh.1, by omega⟩))
  have w : ∀ i : Int, σ3 (8 + b) i = σ2 (8 + b) i := fun i => h3 _ _ (by omega)
  have w6 := w 6
  have F34 : ef_R b (σ0 (8 + b) 6 + xt_ln l) (σ0 (8 + b) 10) (σ0 (23 + b) 15) σ3 σ4 := ef_R_em he (by omega)
  have F24 : ef_R b (σ0 (8 + b) 6 + xt_ln l) (σ0 (8 + b) 10) (σ0 (23 + b) 15) σ2 σ4 := ef_R_trans (F23 _ _ _) F34
  have hg2 := hg_ef hb hg0 F02
  have G23 : eg_R (ρ2 83 33) ρ2 ρ3 := eg_R_nw hw
  obtain ⟨hw1, ⟨hw2, hw3, hw4, hw5⟩, hw6, hw7, hw8, hw9, hwO⟩ := hw
  have n0 : 0 ≤ ρ0 83 33 := hn.2.2.2.2.1.1
  refine ⟨⟨rd_R_of r2 (fun i hi => by rw [kO _ _ (by omega) (by omega), h3 _ _ (by omega)]) (fun a i g1 g2 => by rw [kO _ _ (by omega) (by omega), h3 _ _ (by omega)]) (fun i g1 g2 => by rw [hwO _ _ (by omega) (by omega)]) (fun i => by rw [hwO _ _ (by omega) (by omega)]), q, ?_, ef_R_trans F02 (ef_R_mono F24 (by omega) (by omega) (by omega)), eg_R_trans G02 G23 m1, by omega, by omega⟩, ?_, ⟨⟨?_, ?_, ?_, ?_⟩, ⟨?_, ?_, ?_, ?_⟩, fun hs => ?_⟩, ⟨?_, ⟨?_, ?_, ?_⟩, ⟨?_, ?_, ?_⟩, xr_Y_op hty hty2 (by omega) hw9 (xt_dz (x := 2 + xt_dp l) rfl hzz)⟩⟩
  · rw [hwO _ _ (by omega) (by omega), dp]
  · obtain ⟨x, x1, x2, x3, x4⟩ := h.2.1
    exact ⟨x, x1, x2, by rw [hwO _ _ (by omega) (by omega), x3], by rw [kO _ _ (by omega) (by omega), w, x4]⟩
  · rw [kO _ _ (by omega) (by omega)]
    exact s0
  · rw [kO _ _ (by omega) (by omega)]
    exact s1
  · rw [kO _ _ (by omega) (by omega)]
    exact s2
  · rw [kO _ _ (by omega) (by omega), h3 _ _ (by omega)]
    exact y15
  · rw [kO _ _ (by omega) (by omega), w]
    exact c10
  · rw [k6, w, c6, xt_ln5]
    omega
  · have cn := h.2.2.2.2.2.1.2.1
    rw [he.2.1, w, h.2.2.1.2.1.2.2.1, xt_cn5]
    omega
  · rw [kO _ _ (by omega) (by omega), w, h.2.2.1.2.1.2.2.2, xt_mt5]
  · rw [xt_cd5]
    rw [k6, w, c6] at hs
    have k := em_ci0 (u := σ0 (8 + b) 8) he (by omega)
    rw [w, c6] at k
    exact ⟨xt_cd_ef hb F24 hg2 (Int.le_refl _) (h.2.2.1.2.2 (by omega)), k⟩
  · rw [xt_nd5, hw2, hw3, hw4, hw5, hw6, hw8]
    exact ⟨⟨by omega, by omega, rfl, rfl, rfl, rfl⟩, xt_nd_eg (M' := ρ0 83 33) (N' := ρ2 83 33) h.2.2.2.1 G23 (Int.le_refl _), rfl⟩
  · exact xt_e_n (by decide) (by decide) hty.2.2 (fun hh => absurd hh (by decide)) (fun hh => absurd hh (by decide)) (fun _ => hop)
  · rw [xt_w5]
    exact ⟨h.2.2.2.2.1.1, h.2.2.2.2.1.2.1⟩
  · unfold xt_G
    rw [xt_g5]
    exact xt_G_eg h.2.2.2.2.1.2.2 G23 (by rw [hwO _ _ (by omega) (by omega)]; exact Int.le_refl _)
  · rw [xt_ln5]
    exact hln
  · have cn := h.2.2.2.2.2.1.2.1
    rw [xt_cn5]
    omega
  · rw [xt_mt5]
    exact h.2.2.2.2.2.1.2.2
