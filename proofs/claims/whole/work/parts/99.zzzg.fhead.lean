/-! part 99.zzzg: the head of a fun, up to its { -/
/-- a fun's name was told -/
theorem pa_0 {E : js_E} {b m s : Int} {σ ρ σ1 ρ1 τ ρ2 : js_S} (hb : b = 0 ∨ b = 25) (hD : dc_R E.1 σ1 ρ1 b) (hm : ρ1 83 11 = m) (f1 : of_R σ σ1) (g1 : og_R ρ ρ1) (h9 : σ (8 + b) 9 = 0) (hg : gt_R E.1 b 0 0 m 4 s (fun _ => False) σ1 ρ1 τ ρ2) : pa_I E b m s 0 σ ρ (js_up (js_up (js_up τ s 5 (τ (8 + b) 6)) s 6 0) (22 + b) 0 m) (js_up (js_up ρ2 83 26 m) 83 44 0) := by
  obtain ⟨hY2, fr2, dm2, xds, x19, ⟨nl, xn⟩, xne, ⟨m0, hm4⟩, m11, xr, hgr, t71⟩ := hg
  obtain ⟨hY1, hk1, h26⟩ := hD
  have gx := js_sym_ge xds
  obtain ⟨z0, z1, z2, z3, z4, z5, z6, z7, z8, z9, z10, z11, z12, z13, z14⟩ := xn
  obtain ⟨x86, x87, x88, x89, x91, x92, x93, x94, x96, x99⟩ := xr
  have t8 : ∀ k : Int, τ (8 + b) k = σ (8 + b) k := fun k => by rw [dm2.1 _ _ (by omega) (by omega) (by omega) (by omega) (by omega), f1 _ _ (by omega) (by omega)]
  have u : ∀ a i : Int, ¬ (a = s ∧ (i = 5 ∨ i = 6)) → ¬ (a = 22 + b ∧ i = 0) → js_up (js_up (js_up τ s 5 (τ (8 + b) 6)) s 6 0) (22 + b) 0 m a i = τ a i := fun a i h1 h2 => by rw [js_up_ne _ h2, js_up_ne _ (by omega), js_up_ne _ (by omega)]
  have u5 : js_up (js_up (js_up τ s 5 (τ (8 + b) 6)) s 6 0) (22 + b) 0 m s 5 = σ (8 + b) 6 := by rw [js_up_na _ (by omega), js_up_ni _ (by decide), js_up_same, t8]
  have u6 : js_up (js_up (js_up τ s 5 (τ (8 + b) 6)) s 6 0) (22 + b) 0 m s 6 = 0 := by rw [js_up_na _ (by omega), js_up_same]
  have u22 : js_up (js_up (js_up τ s 5 (τ (8 + b) 6)) s 6 0) (22 + b) 0 m (22 + b) 0 = m := js_up_same _ _ _ _
  generalize js_up (js_up (js_up τ s 5 (τ (8 + b) 6)) s 6 0) (22 + b) 0 m = σ3 at u u5 u6 u22 ⊢
  have w : ∀ a i : Int, ¬ (a = 83 ∧ (i = 26 ∨ i = 44)) → js_up (js_up ρ2 83 26 m) 83 44 0 a i = ρ2 a i := fun a i h => by rw [js_up_ne _ (by omega), js_up_ne _ (by omega)]
  have w26 : js_up (js_up ρ2 83 26 m) 83 44 0 83 26 = m := by rw [js_up_ni _ (by decide), js_up_same]
  have w44 : js_up (js_up ρ2 83 26 m) 83 44 0 83 44 = 0 := js_up_same _ _ _ _
  generalize js_up (js_up ρ2 83 26 m) 83 44 0 = ρ3 at w w26 w44 ⊢
  have e11 : ρ3 83 11 = m + 1 := by rw [w _ _ (by omega)]; exact m11
  have old : ∀ i : Int, 0 ≤ i → i < m → σ1 (19 + b) i = σ (19 + b) i ∧ τ (19 + b) i = σ (19 + b) i ∧ 137 ≤ σ (19 + b) i ∧ σ (19 + b) i ≠ s ∧ ∀ k : Int, τ (σ (19 + b) i) k = σ (σ (19 + b) i) k := fun i g1 g2 => by
    have e19 : σ1 (19 + b) i = σ (19 + b) i := f1 _ _ (by omega) (by omega)
    have a := dm2.2 i g1 g2
    have ge := js_sym_ge (hY1.2.2.2.2.2.1 i g1 (by omega)).1
    have ne := xne i g1 g2
    rw [e19] at a ge ne
    exact ⟨e19, a.1, ge, ne, fun k => by rw [a.2 k, f1 _ _ (by omega) (by omega)]⟩
  have sid : ∀ i : Int, sy_S ρ3 (m + 1) (m + 1 + 0) 99 i = ρ3 99 i := fun i => by
    unfold sy_S
    rw [if_neg (by omega)]
  refine ⟨⟨?_, Or.inl (by omega), fun i hi => ?_, fun i h1 h2 h3 h4 => ?_⟩, ⟨⟨m0, by decide, by decide, by omega, by omega⟩, w26, w44⟩, ⟨?_, ?_⟩, ⟨?_, ?_, ?_, ?_, ?_, u5, u6, ?_, ?_, ?_, ?_, ?_, ?_⟩, ⟨?_, ?_, ?_, ?_, ?_, ?_, ?_, ?_⟩, ?_, ⟨fun a i h1 h2 h3 h4 h5 h6 h7 h8 => ?_, fun i h1 h2 => ?_⟩, fun a i h1 h2 h3 => ?_, ⟨u22, ?_⟩, fun i h1 h2 => by omega⟩
  · refine sy_Y_gen hb hY2 (fun a i hh => u a i (by omega) (by omega)) (w _ _ (by omega)) (fun a i hh => w _ _ (by omega)) (fun i h1 h2 => ?_) (rs_v_of hY2.2.1 (fun i => w _ _ (by omega)) (fun i => w _ _ (by omega)) (fun i => w _ _ (by omega)) (w _ _ (by omega)) (fun i => w _ _ (by omega)) (fun i => w _ _ (by omega))) (fun i h1 h2 => ?_) (fun i h1 h2 h3 => ?_)
    · rw [w _ _ (by omega)]
      exact hY2.1.2.2.2.2 i h1 h2
    · have a := (hY2.2.2.2.2.2.1 i h1 h2).2.2.1
      rw [sy_S_id] at a
      have ge := js_sym_ge (hY2.2.2.2.2.2.1 i h1 h2).1
      rw [sid, w _ _ (by omega), ← a]
      exact u _ _ (by omega) (by omega)
    · have a := hY2.2.2.2.2.2.2 i h1 h2 (fun hh => hh.elim id h3)
      rw [m11] at h2
      have o := old i h1 (by omega)
      unfold sy_F at a ⊢
      have e19 : σ3 (19 + b) i = τ (19 + b) i := u _ _ (by omega) (by omega)
      have f : ∀ k : Int, σ3 (τ (19 + b) i) k = τ (τ (19 + b) i) k := fun k => u _ _ (by rw [o.2.1]; omega) (by rw [o.2.1]; omega)
      rw [e19]
      simp only [f, w 86 i (by omega), w 87 i (by omega), w 88 i (by omega), w 89 i (by omega), w 91 i (by omega), w 92 i (by omega), w 93 i (by omega), w 94 i (by omega), w 96 i (by omega)]
      exact a
  · rw [sid, hi, w _ _ (by omega), x99]
    decide
  · rw [e11] at h2
    have q : i < m := by omega
    have o : ∀ a : Int, 86 ≤ a → a ≤ 99 → a ≠ 98 → ρ3 a i = ρ1 a i := fun a c1 c2 c3 => by rw [w _ _ (by omega), hgr _ _ (by omega) (by omega) (by omega)]
    rw [o 86 (by decide) (by decide) (by decide)] at h4
    rw [o 87 (by decide) (by decide) (by decide), o 89 (by decide) (by decide) (by decide), o 91 (by decide) (by decide) (by decide)]
    exact hk1.2.2 i h1 (by omega) (fun hh => hh) h4
  · exact js_desc_mono xds (by rw [u _ _ (by omega) (by omega)]; exact Int.le_refl _) (fun _ => u _ _ (by omega) (by omega))
  · rw [u _ _ (by omega) (by omega)]
    exact x19
  · rw [u _ _ (by omega) (by omega)]; exact z0
  · rw [u _ _ (by omega) (by omega)]; exact z1
  · rw [u _ _ (by omega) (by omega)]; exact z2
  · rw [u _ _ (by omega) (by omega)]; exact z3
  · rw [u _ _ (by omega) (by omega)]; exact z4
  · rw [u _ _ (by omega) (by omega)]; exact z7
  · rw [u _ _ (by omega) (by omega)]; exact z8
  · rw [u _ _ (by omega) (by omega)]; exact z9
  · rw [u _ _ (by omega) (by omega)]; exact z10
  · rw [u _ _ (by omega) (by omega)]; exact z11
  · rw [u _ _ (by omega) (by omega)]; exact z12
  · rw [w _ _ (by omega)]; exact x86
  · rw [w _ _ (by omega)]; exact x88
  · rw [w _ _ (by omega)]; exact x89
  · rw [w _ _ (by omega)]; exact x92
  · rw [w _ _ (by omega), x93]; exact h26
  · rw [w _ _ (by omega)]; exact x94
  · rw [w _ _ (by omega)]; exact x96
  · rw [w _ _ (by omega)]; exact x99
  · have frx : fr_R b τ σ3 := fr_R_of hb (fun a i c1 c2 c3 c4 => by
      have a1 := c4 m (by omega) (by omega)
      rw [x19] at a1
      exact u a i (by omega) (by omega))
    exact fr_R_trans (fr_R_og hb f1) (fr_R_trans fr2 frx)
  · rw [u a i (by omega) (by omega), dm2.1 a i h1 h2 h3 h4 h6, f1 a i (by omega) (by omega)]
  · have o := old i h1 h2
    exact ⟨by rw [u _ _ (by omega) (by omega)]; exact o.2.1, fun k => by rw [u _ _ (by omega) (by omega)]; exact o.2.2.2.2 k⟩
  · rw [w a i (by omega), hgr a i (by omega) (by omega) (by omega), g1 a i (by omega)]
  · rw [u _ _ (by omega) (by omega), t8]
    exact h9
/-- the head of fun m was read: n parameters; g: does it give something -/
def pb_I (E : js_E) (b m s n g : Int) (σ0 ρ0 σ ρ : js_S) : Prop := (sy_Y E.1 σ ρ b (m + 1) (m + 1 + n) (fun i => i = m) ∧ kx_R ρ (m + 1) (m + 1 + n) (fun i => i = m)) ∧ ((0 ≤ m ∧ 0 ≤ n ∧ n ≤ 8 ∧ ρ 83 11 = m + 1 + n ∧ m + n < 400) ∧ ρ 83 26 = m ∧ ρ 83 44 = 0) ∧ (js_desc E.1 σ s = some (0, 11, js_sym) ∧ σ (19 + b) m = s) ∧ (σ s 0 = m ∧ σ s 1 = 4 ∧ σ s 2 = ρ 87 m ∧ σ s 3 = ρ 88 m ∧ σ s 4 = ρ 89 m ∧ σ s 5 = σ0 (8 + b) 6 ∧ σ s 6 = n ∧ σ s 7 = -1 ∧ σ s 8 = 0 ∧ σ s 9 = 0 ∧ σ s 10 = 0 ∧ σ s 11 = -1 ∧ σ s 12 = 0) ∧ (ρ 86 m = 4 ∧ ρ 91 m = n ∧ ρ 92 m = 0 ∧ ρ 93 m = -1 ∧ ρ 94 m = 0 ∧ ρ 96 m = 0 ∧ ρ 99 m = 0) ∧ ((g = 0 ∧ ρ 87 m = 2 ∨ g = 1 ∧ ρ 87 m ≠ 2 ∧ ty_b (ρ 87 m) (ρ 88 m) (ρ 89 m)) ∧ 0 ≤ ρ 87 m ∧ ρ 87 m < 1000 ∧ -2000000000 ≤ ρ 88 m ∧ ρ 88 m ≤ ρ 89 m ∧ ρ 89 m ≤ 2000000000) ∧ fr_R b σ0 σ ∧ ((∀ a i : Int, 6 + b ≤ a → a ≤ 30 + b → a ≠ 19 + b → a ≠ 20 + b → a ≠ 21 + b → ¬ (a = 7 + b ∧ i = 1) → ¬ (a = 8 + b ∧ i = 9) → ¬ (a = 22 + b ∧ i = 0) → σ a i = σ0 a i) ∧ ∀ i : Int, 0 ≤ i → i < m → σ (19 + b) i = σ0 (19 + b) i ∧ ∀ k : Int, σ (σ0 (19 + b) i) k = σ0 (σ0 (19 + b) i) k) ∧ (∀ a i : Int, ¬ (a = 83 ∧ (5 ≤ i ∧ i ≤ 11 ∨ 26 ≤ i ∧ i ≤ 32 ∨ i = 44)) → ¬ (86 ≤ a ∧ a ≤ 99 ∧ a ≠ 98 ∧ m ≤ i) → ¬ (a = 98 ∧ 20 * m ≤ i) → ρ a i = ρ0 a i) ∧ (σ (22 + b) 0 = m ∧ σ (8 + b) 9 = n) ∧ ∀ i : Int, m < i → i < m + 1 + n → (ρ 86 i = 5 ∧ ρ 91 i = 1 ∧ ρ 92 i = 0 ∧ ρ 93 i = m ∧ ρ 99 i = 0) ∧ (-2000000000 ≤ ρ 88 i ∧ ρ 88 i ≤ ρ 89 i ∧ ρ 89 i ≤ 2000000000 ∧ ty_b (ρ 87 i) (ρ 88 i) (ρ 89 i)) ∧ σ (σ (19 + b) i) 5 = i - m - 1 ∧ σ (σ (19 + b) i) 11 = σ0 (8 + b) 8 ∧ σ (σ (19 + b) i) 9 = 0
theorem pb_rf {E : js_E} {b m s n g : Int} {σ0 ρ0 σ ρ : js_S} (h : pb_I E b m s n g σ0 ρ0 σ ρ) : rf_R ρ0 ρ := fun a i g1 g2 => h.2.2.2.2.2.2.2.2.1 a i (by omega) (by omega) (by omega)
/-- nothing is given -/
theorem pb_none {E : js_E} {b m s n : Int} {σ0 ρ0 σ ρ : js_S} (h : pa_I E b m s n σ0 ρ0 σ ρ) : pb_I E b m s n 0 σ0 ρ0 σ (js_up (js_up ρ 91 m n) 87 m 2) := by
  obtain ⟨⟨hY, hk⟩, ⟨⟨h0, n0, n8, h11, h400⟩, h26, h44⟩, ⟨hds, h19⟩, hs, hr, hfr, ⟨hc1, hc2⟩, hgf, ⟨h22, h9⟩, hp⟩ := h
  have w : ∀ a i : Int, ¬ ((a = 87 ∨ a = 91) ∧ i = m) → js_up (js_up ρ 91 m n) 87 m 2 a i = ρ a i := fun a i g => by rw [js_up_ne _ (by omega), js_up_ne _ (by omega)]
  have w87 : js_up (js_up ρ 91 m n) 87 m 2 87 m = 2 := js_up_same _ _ _ _
  have w91 : js_up (js_up ρ 91 m n) 87 m 2 91 m = n := by rw [js_up_na _ (by decide), js_up_same]
  generalize js_up (js_up ρ 91 m n) 87 m 2 = ρ' at w w87 w91 ⊢
  obtain ⟨a0, a1, a2, a3, a4, a5, a6, a7, a8, a9, a10, a11, a12⟩ := hs
  obtain ⟨r86, r88, r89, r92, r93, r94, r96, r99⟩ := hr
  have rv := hY.2.1 m h0 (by omega)
  refine ⟨⟨sy_Y_rx (n := m) hY rfl (w _ _ (by omega)) (fun a i g1 g2 g3 => w _ _ (by omega)) (by rw [w87, w _ _ (by omega)]; exact ⟨by decide, by decide, rv.2.2.2.2.1, rv.2.2.2.2.2.1⟩), kx_R_rx (n := m) hk rfl (w _ _ (by omega)) (fun a i g1 g2 g3 => w _ _ (by omega))⟩, ⟨⟨h0, n0, n8, by rw [w _ _ (by omega)]; exact h11, h400⟩, by rw [w _ _ (by omega)]; exact h26, by rw [w _ _ (by omega)]; exact h44⟩, ⟨hds, h19⟩, ⟨a0, a1, by rw [w87]; exact a2, by rw [w _ _ (by omega), r88]; exact a3, by rw [w _ _ (by omega), r89]; exact a4, a5, a6, a7, a8, a9, a10, a11, a12⟩, ⟨by rw [w _ _ (by omega)]; exact r86, w91, by rw [w _ _ (by omega)]; exact r92, by rw [w _ _ (by omega)]; exact r93, by rw [w _ _ (by omega)]; exact r94, by rw [w _ _ (by omega)]; exact r96, by rw [w _ _ (by omega)]; exact r99⟩, ⟨Or.inl ⟨rfl, w87⟩, ?_⟩, hfr, ⟨hc1, hc2⟩, fun a i g1 g2 g3 => ?_, ⟨h22, h9⟩, fun i g1 g2 => ?_⟩
  · rw [w87, w 88 m (by omega), w 89 m (by omega), r88, r89]
    decide
  · rw [w a i (by omega)]
    exact hgf a i g1 g2 g3
  · rw [w 86 i (by omega), w 91 i (by omega), w 92 i (by omega), w 93 i (by omega), w 99 i (by omega), w 88 i (by omega), w 89 i (by omega), w 87 i (by omega)]
    exact hp i g1 g2
/-- a TYPE is given: σ1, ρ1 behind the : -/
theorem pb_type {E : js_E} {b m s n : Int} {σ0 ρ0 σ ρ σ1 ρ1 σ2 ρ2 : js_S} (hb : b = 0 ∨ b = 25) (h : pb_I E b m s n 0 σ0 ρ0 σ ρ) (f1 : tk_fr σ σ1) (t1 : ∀ a i : Int, ¬ (a = 83 ∧ 5 ≤ i ∧ i ≤ 9) → ρ1 a i = ρ a i) (t2 : tf_R ρ1 ρ2) (ty : tyf_R b s σ1 σ2) (hY2 : sy_Y E.1 σ2 ρ2 b (m + 1) (m + 1 + n) (fun i => i = m)) (s2 : σ2 s 2 = ρ2 83 30) (s3 : σ2 s 3 = ρ2 83 31) (s4 : σ2 s 4 = ρ2 83 32) (hin : ty_in ρ2) : pb_I E b m s n 1 σ0 ρ0 σ2 (tp_S ρ2 m) := by
  obtain ⟨⟨hY, hk⟩, ⟨⟨h0, n0, n8, h11, h400⟩, h26, h44⟩, ⟨hds, h19⟩, hs, hr, _, hfr, ⟨hc1, hc2⟩, hgf, ⟨h22, h9⟩, hp⟩ := h
  have gs := js_sym_ge hds
  have c : ∀ a i : Int, ¬ (a = 1 ∧ (i = 1 ∨ i = 2 ∨ i = 3 ∨ i = 11)) → a ≠ 2 → ¬ (a = 21 + b ∧ 0 ≤ i ∧ i ≤ 2) → ¬ (a = s ∧ 2 ≤ i ∧ i ≤ 4) → σ2 a i = σ a i := fun a i g1 g2 g3 g4 => by rw [ty a i g1 g2 g3 g4, f1 a i (by omega) g2]
  have r : ∀ a i : Int, ¬ (a = 83 ∧ (5 ≤ i ∧ i ≤ 9 ∨ 27 ≤ i ∧ i ≤ 32)) → ρ2 a i = ρ a i := fun a i g => by rw [t2 a i g, t1 a i (by omega)]
  have w : ∀ a i : Int, ¬ (a = 83 ∧ (5 ≤ i ∧ i ≤ 9 ∨ 27 ≤ i ∧ i ≤ 32)) → ¬ (87 ≤ a ∧ a ≤ 89 ∧ i = m) → tp_S ρ2 m a i = ρ a i := fun a i g1 g2 => by rw [tp_o g2, r a i g1]
  obtain ⟨a0, a1, a2, a3, a4, a5, a6, a7, a8, a9, a10, a11, a12⟩ := hs
  obtain ⟨r86, r91, r92, r93, r94, r96, r99⟩ := hr
  have x : ∀ k : Int, ¬ (2 ≤ k ∧ k ≤ 4) → σ2 s k = σ s k := fun k g => c _ _ (by omega) (by omega) (by omega) (by omega)
  have rv := hY2.2.1 m h0 (by rw [r _ _ (by omega)]; omega)
  have ge : ∀ i : Int, 0 ≤ i → i < ρ 83 11 → 137 ≤ σ (19 + b) i := fun i g1 g2 => js_sym_ge (hY.2.2.2.2.2.1 i g1 g2).1
  have ne : ∀ i : Int, 0 ≤ i → i < ρ 83 11 → i ≠ m → σ (19 + b) i ≠ s := fun i g1 g2 g3 => by
    rw [← h19]
    exact sy_Y_ne hY g1 g2 h0 (by omega) g3
  have e19 : ∀ i : Int, σ2 (19 + b) i = σ (19 + b) i := fun i => c _ _ (by omega) (by omega) (by omega) (by omega)
  have hk2 : kx_R ρ2 (m + 1) (m + 1 + n) (fun i => i = m) := kx_R_of hk (r _ _ (by omega)) (fun a i _ _ => r _ _ (by omega))
  refine ⟨⟨sy_Y_rx (n := m) hY2 rfl (tp_o (by omega)) (fun a i g1 g2 g3 => tp_o (by omega)) (by rw [tp_87, tp_o (by omega)]; exact ⟨hin.1, hin.2.1, rv.2.2.2.2.1, rv.2.2.2.2.2.1⟩), kx_R_rx (n := m) hk2 rfl (tp_o (by omega)) (fun a i g1 g2 g3 => tp_o (by omega))⟩, ⟨⟨h0, n0, n8, by rw [w _ _ (by omega) (by omega)]; exact h11, h400⟩, by rw [w _ _ (by omega) (by omega)]; exact h26, by rw [w _ _ (by omega) (by omega)]; exact h44⟩, ⟨js_desc_mono hds (by rw [c _ _ (by omega) (by omega) (by omega) (by omega)]; exact Int.le_refl _) (fun _ => x 15 (by omega)), by rw [e19]; exact h19⟩, ⟨by rw [x 0 (by omega)]; exact a0, by rw [x 1 (by omega)]; exact a1, by rw [tp_87]; exact s2, by rw [tp_88]; exact s3, by rw [tp_89]; exact s4, by rw [x 5 (by omega)]; exact a5, by rw [x 6 (by omega)]; exact a6, by rw [x 7 (by omega)]; exact a7, by rw [x 8 (by omega)]; exact a8, by rw [x 9 (by omega)]; exact a9, by rw [x 10 (by omega)]; exact a10, by rw [x 11 (by omega)]; exact a11, by rw [x 12 (by omega)]; exact a12⟩, ⟨by rw [w _ _ (by omega) (by omega)]; exact r86, by rw [w _ _ (by omega) (by omega)]; exact r91, by rw [w _ _ (by omega) (by omega)]; exact r92, by rw [w _ _ (by omega) (by omega)]; exact r93, by rw [w _ _ (by omega) (by omega)]; exact r94, by rw [w _ _ (by omega) (by omega)]; exact r96, by rw [w _ _ (by omega) (by omega)]; exact r99⟩, ⟨Or.inr ⟨rfl, ?_, ?_⟩, ?_⟩, fr_R_trans hfr (fr_R_of hb (fun a i g1 g2 g3 g4 => ?_)), ⟨fun a i g1 g2 g3 g4 g5 g6 g7 g8 => ?_, fun i g1 g2 => ?_⟩, fun a i g1 g2 g3 => ?_, ⟨?_, ?_⟩, fun i g1 g2 => ?_⟩
  · rw [tp_87]
    exact hin.2.2.2.2.2.1
  · rw [tp_87, tp_88, tp_89]
    exact hin.2.2.2.2.2
  · rw [tp_87, tp_88, tp_89]
    exact ⟨hin.1, hin.2.1, hin.2.2.1, hin.2.2.2.1, hin.2.2.2.2.1⟩
  · have a1 := g4 m (by omega) (by omega)
    rw [h19] at a1
    exact c a i (by omega) g2 (by omega) (by omega)
  · rw [c a i (by omega) (by omega) (by omega) (by omega)]
    exact hc1 a i g1 g2 g3 g4 g5 g6 g7 g8
  · obtain ⟨b1, b2⟩ := hc2 i g1 g2
    have y1 := ge i g1 (by omega)
    have y2 := ne i g1 (by omega) (by omega)
    rw [b1] at y1 y2
    exact ⟨by rw [e19]; exact b1, fun k => by rw [c _ _ (by omega) (by omega) (by omega) (by omega)]; exact b2 k⟩
  · rw [w a i (by omega) (by omega)]
    exact hgf a i g1 g2 g3
  · rw [c _ _ (by omega) (by omega) (by omega) (by omega)]
    exact h22
  · rw [c _ _ (by omega) (by omega) (by omega) (by omega)]
    exact h9
  · have y1 := ge i (by omega) (by omega)
    have y2 := ne i (by omega) (by omega) (by omega)
    rw [e19, c _ 5 (by omega) (by omega) (by omega) (by omega), c _ 11 (by omega) (by omega) (by omega) (by omega), c _ 9 (by omega) (by omega) (by omega) (by omega), w 86 i (by omega) (by omega), w 91 i (by omega) (by omega), w 92 i (by omega) (by omega), w 93 i (by omega) (by omega), w 99 i (by omega) (by omega), w 88 i (by omega) (by omega), w 89 i (by omega) (by omega), w 87 i (by omega) (by omega)]
    exact hp i g1 g2
