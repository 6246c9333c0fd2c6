/-! part 99.zzzd: parameters in step -/
/-- n parameters of fun m were told (s its symbol); 0: ahead of the fun -/
def pa_I (E : js_E) (b m s n : Int) (σ0 ρ0 σ ρ : js_S) : Prop := (sy_Y E.1 σ ρ b (m + 1) (m + 1 + n) (fun i => i = m) ∧ kx_R ρ (m + 1) (m + 1 + n) (fun i => i = m)) ∧ ((0 ≤ m ∧ 0 ≤ n ∧ n ≤ 8 ∧ ρ 83 11 = m + 1 + n ∧ m + n < 400) ∧ ρ 83 26 = m ∧ ρ 83 44 = 0) ∧ (js_desc E.1 σ s = some (0, 11, js_sym) ∧ σ (19 + b) m = s) ∧ (σ s 0 = m ∧ σ s 1 = 4 ∧ σ s 2 = 2 ∧ σ s 3 = 0 ∧ σ s 4 = 0 ∧ σ s 5 = σ0 (8 + b) 6 ∧ σ s 6 = n ∧ σ s 7 = -1 ∧ σ s 8 = 0 ∧ σ s 9 = 0 ∧ σ s 10 = 0 ∧ σ s 11 = -1 ∧ σ s 12 = 0) ∧ (ρ 86 m = 4 ∧ ρ 88 m = 0 ∧ ρ 89 m = 0 ∧ ρ 92 m = 0 ∧ ρ 93 m = -1 ∧ ρ 94 m = 0 ∧ ρ 96 m = 0 ∧ ρ 99 m = 0) ∧ fr_R b σ0 σ ∧ ((∀ a i : Int, 6 + b ≤ a → a ≤ 30 + b → a ≠ 19 + b → a ≠ 20 + b → a ≠ 21 + b → ¬ (a = 7 + b ∧ i = 1) → ¬ (a = 8 + b ∧ i = 9) → ¬ (a = 22 + b ∧ i = 0) → σ a i = σ0 a i) ∧ ∀ i : Int, 0 ≤ i → i < m → σ (19 + b) i = σ0 (19 + b) i ∧ ∀ k : Int, σ (σ0 (19 + b) i) k = σ0 (σ0 (19 + b) i) k) ∧ (∀ a i : Int, ¬ (a = 83 ∧ (5 ≤ i ∧ i ≤ 11 ∨ 26 ≤ i ∧ i ≤ 32 ∨ i = 44)) → ¬ (86 ≤ a ∧ a ≤ 99 ∧ a ≠ 98 ∧ m ≤ i) → ¬ (a = 98 ∧ 20 * m ≤ i) → ρ a i = ρ0 a i) ∧ (σ (22 + b) 0 = m ∧ σ (8 + b) 9 = n) ∧ ∀ i : Int, m < i → i < m + 1 + n → (ρ 86 i = 5 ∧ ρ 91 i = 1 ∧ ρ 92 i = 0 ∧ ρ 93 i = m ∧ ρ 99 i = 0) ∧ (-2000000000 ≤ ρ 88 i ∧ ρ 88 i ≤ ρ 89 i ∧ ρ 89 i ≤ 2000000000 ∧ ty_b (ρ 87 i) (ρ 88 i) (ρ 89 i)) ∧ σ (σ (19 + b) i) 5 = i - m - 1 ∧ σ (σ (19 + b) i) 11 = σ0 (8 + b) 8 ∧ σ (σ (19 + b) i) 9 = 0
theorem pa_rf {E : js_E} {b m s n : Int} {σ0 ρ0 σ ρ : js_S} (h : pa_I E b m s n σ0 ρ0 σ ρ) : rf_R ρ0 ρ := fun a i g1 g2 => h.2.2.2.2.2.2.2.1 a i (by omega) (by omega) (by omega)
theorem rx_tm_in (ρ : js_S) (p : Int) : rx_tm ρ p = 1 ∨ rx_tm ρ p = 2 ∨ rx_tm ρ p = 10 := by
  unfold rx_tm
  split
  · exact Or.inl rfl
  · split
    · exact Or.inr (Or.inl rfl)
    · exact Or.inr (Or.inr rfl)
/-- tokens alone -/
theorem pa_tk {E : js_E} {b m s n : Int} {σ0 ρ0 σ ρ σ' ρ' : js_S} (hb : b = 0 ∨ b = 25) (h : pa_I E b m s n σ0 ρ0 σ ρ) (o : of_R σ σ') (g : og_R ρ ρ') : pa_I E b m s n σ0 ρ0 σ' ρ' := by
  obtain ⟨⟨hY, hk⟩, ⟨⟨h0, n0, n8, h11, h400⟩, h26, h44⟩, ⟨hds, h19⟩, hs, hr, hfr, ⟨hc1, hc2⟩, hg, ⟨h22, h9⟩, hp⟩ := h
  have ge := js_sym_ge hds
  have e11 : ρ' 83 11 = ρ 83 11 := g _ _ (by omega)
  have x : ∀ k : Int, σ' s k = σ s k := fun k => o _ _ (by omega) (by omega)
  have r : ∀ a i : Int, 86 ≤ a → ρ' a i = ρ a i := fun a i g1 => g _ _ (by omega)
  have ge2 : ∀ i : Int, 0 ≤ i → i < ρ 83 11 → 137 ≤ σ (19 + b) i := fun i g1 g2 => js_sym_ge (hY.2.2.2.2.2.1 i g1 g2).1
  refine ⟨⟨sy_Y_of hY (fun a i hh => o a i (by omega) (by omega)) e11 (fun a i g1 g2 => r a i g1), kx_R_og hk g⟩, ⟨⟨h0, n0, n8, by omega, h400⟩, by rw [g _ _ (by omega)]; exact h26, by rw [g _ _ (by omega)]; exact h44⟩, ⟨js_desc_mono hds (by rw [o _ _ (by omega) (by omega)]; exact Int.le_refl _) (fun _ => x _), by rw [o _ _ (by omega) (by omega)]; exact h19⟩, ?_, ?_, fr_R_trans hfr (fr_R_og hb o), ⟨fun a i g1 g2 g3 g4 g5 g6 g7 g8 => ?_, fun i g1 g2 => ?_⟩, fun a i g1 g2 g3 => ?_, ⟨?_, ?_⟩, fun i g1 g2 => ?_⟩
  · simp only [x]
    exact hs
  · simp only [r 86 m (by decide), r 88 m (by decide), r 89 m (by decide), r 92 m (by decide), r 93 m (by decide), r 94 m (by decide), r 96 m (by decide), r 99 m (by decide)]
    exact hr
  · rw [o _ _ (by omega) (by omega)]
    exact hc1 a i g1 g2 g3 g4 g5 g6 g7 g8
  · obtain ⟨b1, b2⟩ := hc2 i g1 g2
    have := ge2 i g1 (by omega)
    exact ⟨by rw [o _ _ (by omega) (by omega)]; exact b1, fun k => by rw [← b1, o _ _ (by omega) (by omega), b1]; exact b2 k⟩
  · rw [g a i (by omega)]
    exact hg a i g1 g2 g3
  · rw [o _ _ (by omega) (by omega)]
    exact h22
  · rw [o _ _ (by omega) (by omega)]
    exact h9
  · have := ge2 i (by omega) (by omega)
    rw [o (19 + b) i (by omega) (by omega), o _ 5 (by omega) (by omega), o _ 11 (by omega) (by omega), o _ 9 (by omega) (by omega), r 86 i (by decide), r 91 i (by decide), r 92 i (by decide), r 93 i (by decide), r 99 i (by decide), r 88 i (by decide), r 89 i (by decide), r 87 i (by decide)]
    exact hp i g1 g2
/-- one more parameter: x its symbol; σ4, ρ4 behind its TYPE -/
theorem pa_step {E : js_E} {b m s n x : Int} {σ0 ρ0 σ ρ τ ρ2 σ4 ρ4 σ6 : js_S} (hb : b = 0 ∨ b = 25) (hI : pa_I E b m s n σ0 ρ0 σ ρ) (hn8 : n < 8) (hg : gt_R E.1 b (m + 1) (m + 1 + n) (m + 1 + n) 5 x (fun i => i = m) σ ρ τ ρ2) (hY4 : sy_Y E.1 σ4 ρ4 b (m + 1) (m + 1 + n) (fun i => i = m ∨ i = m + 1 + n)) (ct : ∀ a i : Int, ¬ (a = 1 ∧ (i = 1 ∨ i = 2 ∨ i = 3 ∨ i = 11)) → a ≠ 2 → ¬ (a = 21 + b ∧ 0 ≤ i ∧ i ≤ 2) → ¬ (a = x ∧ 2 ≤ i ∧ i ≤ 4) → σ4 a i = τ a i) (rt : tf_R ρ2 ρ4) (s2 : σ4 x 2 = ρ4 83 30) (s3 : σ4 x 3 = ρ4 83 31) (s4 : σ4 x 4 = ρ4 83 32) (hin : ty_in ρ4) (c6 : ∀ a i : Int, ¬ (a = x ∧ (i = 5 ∨ i = 7 ∨ i = 11 ∨ i = 13)) → ¬ (a = 8 + b ∧ i = 9) → ¬ (a = s ∧ i = 6) → σ6 a i = σ4 a i) (v5 : σ6 x 5 = n) (v7 : σ6 x 7 = m) (v11 : σ6 x 11 = σ0 (8 + b) 8) (v13 : σ6 x 13 = 1) (v9 : σ6 (8 + b) 9 = n + 1) (v6 : σ6 s 6 = n + 1) : pa_I E b m s (n + 1) σ0 ρ0 σ6 (tp_S ρ4 (m + 1 + n)) := by
  obtain ⟨⟨hY, hk⟩, ⟨⟨h0, n0, n8, h11, h400⟩, h26, h44⟩, ⟨hds, h19⟩, hs, hr, hfr, ⟨hc1, hc2⟩, hgf, ⟨h22, h9⟩, hp⟩ := hI
  obtain ⟨hY2, fr2, dm2, xds, x19, ⟨nl, xn⟩, xne, ⟨_, hm4⟩, m11, xr, hgr, t71⟩ := hg
  have gs := js_sym_ge hds
  have gx := js_sym_ge xds
  have sx : s ≠ x := fun hh => xne m (by omega) (by omega) (by rw [h19]; exact hh)
  have f4 : ∀ a i : Int, ¬ (a = 83 ∧ (5 ≤ i ∧ i ≤ 9 ∨ i = 11 ∨ 27 ≤ i ∧ i ≤ 32)) → ¬ (86 ≤ a ∧ a ≤ 99 ∧ a ≠ 98 ∧ i = m + 1 + n) → ¬ (a = 98 ∧ 20 * (m + 1 + n) ≤ i) → ρ4 a i = ρ a i := fun a i g1 g2 g3 => by rw [rt a i (by omega), hgr a i (by omega) g2 g3]
  have e11 : ρ4 83 11 = m + 1 + n + 1 := by rw [rt _ _ (by omega)]; exact m11
  have tO : ∀ a i : Int, ¬ (87 ≤ a ∧ a ≤ 89 ∧ i = m + 1 + n) → tp_S ρ4 (m + 1 + n) a i = ρ4 a i := fun a i g => tp_o g
  have w11 : tp_S ρ4 (m + 1 + n) 83 11 = m + 1 + n + 1 := by rw [tO _ _ (by omega)]; exact e11
  have xr4 : ∀ a : Int, 86 ≤ a → ρ4 a (m + 1 + n) = ρ2 a (m + 1 + n) := fun a g => rt _ _ (by omega)
  have t19 : ∀ i : Int, 0 ≤ i → i < m + 1 + n → τ (19 + b) i = σ (19 + b) i := fun i g1 g2 => (dm2.2 i g1 g2).1
  have t19s : ∀ i k : Int, 0 ≤ i → i < m + 1 + n → τ (σ (19 + b) i) k = σ (σ (19 + b) i) k := fun i k g1 g2 => (dm2.2 i g1 g2).2 k
  have e419 : ∀ i : Int, σ4 (19 + b) i = τ (19 + b) i := fun i => ct _ _ (by omega) (by omega) (by omega) (by omega)
  have e619 : ∀ i : Int, σ6 (19 + b) i = σ4 (19 + b) i := fun i => c6 _ _ (by omega) (by omega) (by omega)
  have ys : ∀ i : Int, 0 ≤ i → i < m + 1 + n → σ (19 + b) i ≠ x ∧ 137 ≤ σ (19 + b) i := fun i g1 g2 => ⟨xne i g1 g2, js_sym_ge (hY.2.2.2.2.2.1 i g1 (by omega)).1⟩
  have ns : ∀ i : Int, 0 ≤ i → i < m + 1 + n → i ≠ m → σ (19 + b) i ≠ s := fun i g1 g2 g3 => by
    rw [← h19]
    exact sy_Y_ne hY g1 (by omega) h0 (by omega) g3
  -- fields of earlier symbols
  have old : ∀ i k : Int, 0 ≤ i → i < m + 1 + n → i ≠ m → σ6 (σ (19 + b) i) k = σ (σ (19 + b) i) k := fun i k g1 g2 g3 => by
    have a := ys i g1 g2
    have c := ns i g1 g2 g3
    rw [c6 _ _ (by omega) (by omega) (by omega), ct _ _ (by omega) (by omega) (by omega) (by omega), t19s i k g1 g2]
  have oldm : ∀ k : Int, k ≠ 6 → σ6 s k = σ s k := fun k g => by
    have a := t19s m k h0 (by omega)
    rw [h19] at a
    rw [c6 _ _ (by omega) (by omega) (by omega), ct _ _ (by omega) (by omega) (by omega) (by omega), a]
  have p19 : ∀ i : Int, 0 ≤ i → i < m + 1 + n → σ6 (19 + b) i = σ (19 + b) i := fun i g1 g2 => by rw [e619, e419, t19 i g1 g2]
  have px : σ6 (19 + b) (m + 1 + n) = x := by rw [e619, e419, x19]
  have xk : ∀ k : Int, ¬ (2 ≤ k ∧ k ≤ 4) → k ≠ 5 → k ≠ 7 → k ≠ 11 → k ≠ 13 → σ6 x k = τ x k := fun k g1 g2 g3 g4 g5 => by rw [c6 _ _ (by omega) (by omega) (by omega), ct _ _ (by omega) (by omega) (by omega) (by omega)]
  have xt : ∀ k : Int, 2 ≤ k → k ≤ 4 → σ6 x k = σ4 x k := fun k g1 g2 => c6 _ _ (by omega) (by omega) (by omega)
  obtain ⟨z0, z1, z2, z3, z4, z5, z6, z7, z8, z9, z10, z11, z12, z13, z14⟩ := xn
  obtain ⟨x86, x87, x88, x89, x91, x92, x93, x94, x96, x99⟩ := xr
  have fX : sy_F σ6 (tp_S ρ4 (m + 1 + n)) b (m + 1 + n) := by
    unfold sy_F
    rw [px, xk 1 (by omega) (by decide) (by decide) (by decide) (by decide), z1, xt 2 (by decide) (by decide), s2, xt 3 (by decide) (by decide), s3, xt 4 (by decide) (by decide), s4, xk 6 (by omega) (by decide) (by decide) (by decide) (by decide), z6, v7, xk 8 (by omega) (by decide) (by decide) (by decide) (by decide), z8, xk 10 (by omega) (by decide) (by decide) (by decide) (by decide), z10, xk 12 (by omega) (by decide) (by decide) (by decide) (by decide), z12, tp_87, tp_88, tp_89, tO 86 _ (by omega), tO 91 _ (by omega), tO 93 _ (by omega), tO 94 _ (by omega), tO 96 _ (by omega), tO 92 _ (by omega), xr4 86 (by decide), xr4 91 (by decide), xr4 93 (by decide), xr4 94 (by decide), xr4 96 (by decide), xr4 92 (by decide), x86, x91, x93, x94, x96, x92, h26]
    exact ⟨rfl, rfl, rfl, rfl, rfl, rfl, rfl, rfl, rfl⟩
  have r4 : ∀ a i : Int, 86 ≤ a → a ≤ 99 → a ≠ 98 → i ≠ m + 1 + n → tp_S ρ4 (m + 1 + n) a i = ρ a i := fun a i g1 g2 g3 g4 => by rw [tO _ _ (by omega), f4 _ _ (by omega) (by omega) (by omega)]
  have hY6 : sy_Y E.1 σ6 (tp_S ρ4 (m + 1 + n)) b (m + 1) (m + 1 + (n + 1)) (fun i => i = m) := by
    refine sy_Y_gen hb hY4 (fun a i hh => c6 a i (by omega) (by omega) (by omega)) (by rw [w11, e11]) (fun a i hh => tO _ _ (by omega)) (fun i g1 g2 => ?_) (fun i g1 g2 => ?_) (fun i g1 g2 => ?_) (fun i g1 g2 g3 => ?_)
    · rw [tO _ _ (by omega)]
      exact hY4.1.2.2.2.2 i g1 g2
    · have a := hY4.2.1 i g1 g2
      rw [tO 86 _ (by omega), tO 94 _ (by omega)]
      by_cases q : i = m + 1 + n
      · rw [q, tp_87]
        rw [q] at a
        exact ⟨a.1, a.2.1, hin.1, hin.2.1, a.2.2.2.2.1, a.2.2.2.2.2.1, rs_z_of a.2.2.2.2.2.2 (by rw [w11, e11]) (tO _ _ (by omega)) (tO _ _ (by omega))⟩
      · rw [tO 87 _ (by omega)]
        exact rs_6 a (rs_z_of a.2.2.2.2.2.2 (by rw [w11, e11]) (tO _ _ (by omega)) (tO _ _ (by omega)))
    · rw [e11] at g2
      by_cases q : i = m + 1 + n
      · rw [q, e419, x19, v13]
        exact (if_pos (by omega)).symm
      · have a := (hY4.2.2.2.2.2.1 i g1 (by omega)).2.2.1
        have e1 : sy_S (tp_S ρ4 (m + 1 + n)) (m + 1) (m + 1 + (n + 1)) 99 i = sy_S ρ4 (m + 1) (m + 1 + n) 99 i := by
          unfold sy_S
          by_cases q2 : m + 1 ≤ i
          · rw [if_pos ⟨rfl, q2, by omega⟩, if_pos ⟨rfl, q2, by omega⟩]
          · rw [if_neg (by omega), if_neg (by omega), tO _ _ (by omega)]
        have y := ys i g1 (by omega)
        rw [e1, ← a, e419, t19 i g1 (by omega)]
        exact c6 _ _ (by omega) (by omega) (by omega)
    · rw [e11] at g2
      by_cases q : i = m + 1 + n
      · rw [q]
        exact fX
      · have a := hY.2.2.2.2.2.2 i g1 (by omega) g3
        unfold sy_F at a ⊢
        rw [p19 i g1 (by omega)]
        simp only [old i _ g1 (by omega : i < m + 1 + n) g3, r4 86 i (by decide) (by decide) (by decide) q, r4 87 i (by decide) (by decide) (by decide) q, r4 88 i (by decide) (by decide) (by decide) q, r4 89 i (by decide) (by decide) (by decide) q, r4 91 i (by decide) (by decide) (by decide) q, r4 92 i (by decide) (by decide) (by decide) q, r4 93 i (by decide) (by decide) (by decide) q, r4 94 i (by decide) (by decide) (by decide) q, r4 96 i (by decide) (by decide) (by decide) q]
        exact a
  have hk6 : kx_R (tp_S ρ4 (m + 1 + n)) (m + 1) (m + 1 + (n + 1)) (fun i => i = m) := by
    refine ⟨Or.inr (fun i g1 g2 => ?_), fun i hi => ?_, fun i g1 g2 g3 g4 => ?_⟩
    · rw [w11] at g2
      by_cases q : i = m + 1 + n
      · rw [q, tO _ _ (by omega), xr4 86 (by decide), x86]
      · rw [r4 86 i (by decide) (by decide) (by decide) q]
        exact (hp i (by omega) (by omega)).1.1
    · rw [hi]
      unfold sy_S
      rw [if_neg (by omega), r4 99 m (by decide) (by decide) (by decide) (by omega), hr.2.2.2.2.2.2.2]
      decide
    · rw [w11] at g2
      by_cases q : i = m + 1 + n
      · rw [q, tO _ _ (by omega), xr4 86 (by decide), x86] at g4
        omega
      · rw [r4 86 i (by decide) (by decide) (by decide) q] at g4
        rw [r4 87 i (by decide) (by decide) (by decide) q, r4 89 i (by decide) (by decide) (by decide) q, r4 91 i (by decide) (by decide) (by decide) q]
        exact hk.2.2 i g1 (by omega) g3 g4
  have frx : fr_R b τ σ6 := fr_R_of hb (fun a i g1 g2 g3 g4 => by
    have a1 := g4 (m + 1 + n) (by omega) (by omega)
    rw [x19] at a1
    have a2 := g4 m (by omega) (by omega)
    rw [t19 m h0 (by omega), h19] at a2
    rw [c6 a i (by omega) (by omega) (by omega), ct a i (by omega) g2 (by omega) (by omega)])
  have q1 : ∀ a : Int, a ≠ m + 1 + n → 86 ≤ a ∧ a ≤ 99 ∧ a ≠ 98 → tp_S ρ4 (m + 1 + n) a m = ρ a m := fun a _ g => r4 a m g.1 g.2.1 g.2.2 (by omega)
  refine ⟨⟨hY6, hk6⟩, ⟨⟨h0, by omega, by omega, by omega, by omega⟩, ?_, ?_⟩, ⟨?_, ?_⟩, ?_, ?_, fr_R_trans hfr (fr_R_trans fr2 frx), ⟨fun a i g1 g2 g3 g4 g5 g6 g7 g8 => ?_, fun i g1 g2 => ?_⟩, fun a i g1 g2 g3 => ?_, ⟨?_, v9⟩, fun i g1 g2 => ?_⟩
  · rw [tO _ _ (by omega), f4 _ _ (by omega) (by omega) (by omega)]
    exact h26
  · rw [tO _ _ (by omega), f4 _ _ (by omega) (by omega) (by omega)]
    exact h44
  · have a1 : τ s 15 = σ s 15 := by
      have a := t19s m 15 h0 (by omega)
      rw [h19] at a
      exact a
    have a0 : σ (-1) 0 ≤ τ (-1) 0 := fr2.2.2.2.2.1
    have a2 : τ (-1) 0 ≤ σ6 (-1) 0 := frx.2.2.2.2.1
    exact js_desc_mono hds (by omega) (fun _ => oldm 15 (by decide))
  · rw [p19 m h0 (by omega)]
    exact h19
  · obtain ⟨a0, a1, a2, a3, a4, a5, a6, a7, a8, a9, a10, a11, a12⟩ := hs
    simp only [oldm 0 (by decide), oldm 1 (by decide), oldm 2 (by decide), oldm 3 (by decide), oldm 4 (by decide), oldm 5 (by decide), oldm 7 (by decide), oldm 8 (by decide), oldm 9 (by decide), oldm 10 (by decide), oldm 11 (by decide), oldm 12 (by decide)]
    exact ⟨a0, a1, a2, a3, a4, a5, v6, a7, a8, a9, a10, a11, a12⟩
  · simp only [r4 86 m (by decide) (by decide) (by decide) (by omega : m ≠ m + 1 + n), r4 88 m (by decide) (by decide) (by decide) (by omega : m ≠ m + 1 + n), r4 89 m (by decide) (by decide) (by decide) (by omega : m ≠ m + 1 + n), r4 92 m (by decide) (by decide) (by decide) (by omega : m ≠ m + 1 + n), r4 93 m (by decide) (by decide) (by decide) (by omega : m ≠ m + 1 + n), r4 94 m (by decide) (by decide) (by decide) (by omega : m ≠ m + 1 + n), r4 96 m (by decide) (by decide) (by decide) (by omega : m ≠ m + 1 + n), r4 99 m (by decide) (by decide) (by decide) (by omega : m ≠ m + 1 + n)]
    exact hr
  · rw [c6 a i (by omega) (by omega) (by omega), ct a i (by omega) (by omega) (by omega) (by omega), dm2.1 a i g1 g2 g3 g4 g6]
    exact hc1 a i g1 g2 g3 g4 g5 g6 g7 g8
  · obtain ⟨b1, b2⟩ := hc2 i g1 g2
    refine ⟨by rw [p19 i g1 (by omega)]; exact b1, fun k => ?_⟩
    rw [← b1, old i k g1 (by omega) (by omega), b1]
    exact b2 k
  · rw [tO a i (by omega), f4 a i (by omega) (by omega) (by omega)]
    exact hgf a i g1 g2 g3
  · rw [c6 _ _ (by omega) (by omega) (by omega), ct _ _ (by omega) (by omega) (by omega) (by omega), dm2.1 _ _ (by omega) (by omega) (by omega) (by omega) (by omega)]
    exact h22
  · by_cases q : i = m + 1 + n
    · rw [q, px, v5, v11, tO 86 _ (by omega), tO 91 _ (by omega), tO 92 _ (by omega), tO 93 _ (by omega), tO 99 _ (by omega), xr4 86 (by decide), xr4 91 (by decide), xr4 92 (by decide), xr4 93 (by decide), xr4 99 (by decide), x86, x91, x92, x93, x99, h26, tp_87, tp_88, tp_89]
      exact ⟨⟨rfl, rfl, rfl, rfl, rfl⟩, ⟨hin.2.2.1, hin.2.2.2.1, hin.2.2.2.2.1, hin.2.2.2.2.2⟩, by omega, rfl, (xk 9 (by omega) (by decide) (by decide) (by decide) (by decide)).trans z9⟩
    · have a := hp i g1 (by omega)
      rw [p19 i (by omega) (by omega), old i 5 (by omega) (by omega) (by omega), old i 11 (by omega) (by omega) (by omega), old i 9 (by omega) (by omega) (by omega), r4 86 i (by decide) (by decide) (by decide) q, r4 91 i (by decide) (by decide) (by decide) q, r4 92 i (by decide) (by decide) (by decide) q, r4 93 i (by decide) (by decide) (by decide) q, r4 99 i (by decide) (by decide) (by decide) q, r4 88 i (by decide) (by decide) (by decide) q, r4 89 i (by decide) (by decide) (by decide) q, r4 87 i (by decide) (by decide) (by decide) q]
      exact a
