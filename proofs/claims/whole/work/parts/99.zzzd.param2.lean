/-! part 99.zzzd: parameters in step -/
/-- n parameters of fun m were told (s its symbol); 0: ahead of the fun -/
def pa_I (E : js_E) (b m s n : Int) (σ0 ρ0 σ ρ : js_S) : Prop := (sy_Y E.1 σ ρ b (m + 1) (m + 1 + n) (fun i => i = m) ∧ kx_R ρ (m + 1) (m + 1 + n) (fun i => i = m)) ∧ ((0 ≤ m ∧ 0 ≤ n ∧ n ≤ 8 ∧ ρ 83 11 = m + 1 + n ∧ m + n < 400) ∧ ρ 83 26 = m ∧ ρ 83 44 = 0) ∧ (js_desc E.1 σ s = some (0, 11, js_sym) ∧ σ (19 + b) m = s) ∧ (σ s 0 = m ∧ σ s 1 = 4 ∧ σ s 2 = 2 ∧ σ s 3 = 0 ∧ σ s 4 = 0 ∧ σ s 5 = σ0 (8 + b) 6 ∧ σ s 6 = n ∧ σ s 7 = -1 ∧ σ s 8 = 0 ∧ σ s 9 = 0 ∧ σ s 10 = 0 ∧ σ s 11 = -1 ∧ σ s 12 = 0) ∧ (ρ 86 m = 4 ∧ ρ 88 m = 0 ∧ ρ 89 m = 0 ∧ ρ 92 m = 0 ∧ ρ 93 m = -1 ∧ ρ 94 m = 0 ∧ ρ 96 m = 0 ∧ ρ 99 m = 0) ∧ fr_R b σ0 σ ∧ ((∀ a i : Int, 6 + b ≤ a → a ≤ 30 + b → a ≠ 19 + b → a ≠ 20 + b → a ≠ 21 + b → ¬ (a = 7 + b ∧ i = 1) → ¬ (a = 8 + b ∧ i = 9) → ¬ (a = 22 + b ∧ i = 0) → σ a i = σ0 a i) ∧ ∀ i : Int, 0 ≤ i → i < m → σ (19 + b) i = σ0 (19 + b) i ∧ ∀ k : Int, σ (σ0 (19 + b) i) k = σ0 (σ0 (19 + b) i) k) ∧ (∀ a i : Int, ¬ (a = 83 ∧ (5 ≤ i ∧ i ≤ 11 ∨ 26 ≤ i ∧ i ≤ 32 ∨ i = 44)) → ¬ (86 ≤ a ∧ a ≤ 99 ∧ a ≠ 98 ∧ m ≤ i) → ¬ (a = 98 ∧ 20 * m ≤ i) → ρ a i = ρ0 a i) ∧ (σ (22 + b) 0 = m ∧ σ (8 + b) 9 = n) ∧ ∀ i : Int, m < i → i < m + 1 + n → (ρ 86 i = 5 ∧ ρ 91 i = 1 ∧ ρ 92 i = 0 ∧ ρ 93 i = m ∧ ρ 99 i = 0) ∧ (-2000000000 ≤ ρ 88 i ∧ ρ 88 i ≤ ρ 89 i ∧ ρ 89 i ≤ 2000000000 ∧ ty_b (ρ 87 i) (ρ 88 i) (ρ 89 i)) ∧ σ (σ (19 + b) i) 5 = i - m - 1 ∧ σ (σ (19 + b) i) 11 = σ0 (8 + b) 8 ∧ σ (σ (19 + b) i) 9 = 0
theorem pa_rf {E : js_E} {b m s n : Int} {σ0 ρ0 σ ρ : js_S} (h : pa_I E b m s n σ0 ρ0 σ ρ) : rf_R ρ0 ρ := fun a i g1 g2 => h.2.2.2.2.2.2.2.1 a i (by omega) (by omega) (by omega)
theorem rx_tm_in (ρ : js_S) (p : Int) : rx_tm ρ p = 1 ∨ rx_tm ρ p = 2 ∨ rx_tm ρ p = 10 := by
  unfold rx_tm
  split
  · exact Or.inl rfl
  · split
    · exact Or.inr (Or.inl rfl)
    · exact Or.inr (Or.inr rfl)
/-- tokens alone -/
theorem pa_tk {E : js_E} {b m s n : Int} {σ0 ρ0 σ ρ σ' ρ' : js_S} (hb : b = 0 ∨ b = 25) (h : pa_I E b m s n σ0 ρ0 σ ρ) (o : of_R σ σ') (g : og_R ρ ρ') : pa_I E b m s n σ0 ρ0 σ' ρ' := by
  obtain ⟨⟨hY, hk⟩, ⟨⟨h0, n0, n8, h11, h400⟩, h26, h44⟩, ⟨hds, h19⟩, hs, hr, hfr, ⟨hc1, hc2⟩, hg, ⟨h22, h9⟩, hp⟩ := h
  have ge := js_sym_ge hds
  have e11 : ρ' 83 11 = ρ 83 11 := g _ _ (by omega)
  have x : ∀ k : Int, σ' s k = σ s k := fun k => o _ _ (by omega) (by omega)
  have r : ∀ a i : Int, 86 ≤ a → ρ' a i = ρ a i := fun a i g1 => g _ _ (by omega)
  have ge2 : ∀ i : Int, 0 ≤ i → i < ρ 83 11 → 137 ≤ σ (19 + b) i := fun i g1 g2 => js_sym_ge (hY.2.2.2.2.2.1 i g1 g2).1
  refine ⟨⟨sy_Y_of hY (fun a i hh => o a i (by omega) (by omega)) e11 (fun a i g1 g2 => r a i g1), kx_R_og hk g⟩, ⟨⟨h0, n0, n8, by omega, h400⟩, by rw [g _ _ (by omega)]; exact h26, by rw [g _ _ (by omega)]; exact h44⟩, ⟨js_desc_mono hds (by rw [o _ _ (by omega) (by omega)]; exact Int.le_refl _) (fun _ => x _), by rw [o _ _ (by omega) (by omega)]; exact h19⟩, ?_, ?_, fr_R_trans hfr (fr_R_og hb o), ⟨fun a i g1 g2 g3 g4 g5 g6 g7 g8 => ?_, fun i g1 g2 => ?_⟩, fun a i g1 g2 g3 => ?_, ⟨?_, ?_⟩, fun i g1 g2 => ?_⟩
  · simp only [x]
    exact hs
  · simp only [r 86 m (by decide), r 88 m (by decide), r 89 m (by decide), r 92 m (by decide), r 93 m (by decide), r 94 m (by decide), r 96 m (by decide), r 99 m (by decide)]
    exact hr
  · rw [o _ _ (by omega) (by omega)]
    exact hc1 a i g1 g2 g3 g4 g5 g6 g7 g8
  · obtain ⟨b1, b2⟩ := hc2 i g1 g2
    have := ge2 i g1 (by omega)
    exact ⟨by rw [o _ _ (by omega) (by omega)]; exact b1, fun k => by rw [← b1, o _ _ (by omega) (by omega), b1]; exact b2 k⟩
  · rw [g a i (by omega)]
    exact hg a i g1 g2 g3
  · rw [o _ _ (by omega) (by omega)]
    exact h22
  · rw [o _ _ (by omega) (by omega)]
    exact h9
  · have := ge2 i (by omega) (by omega)
    rw [o (19 + b) i (by omega) (by omega), o _ 5 (by omega) (by omega), o _ 11 (by omega) (by omega), o _ 9 (by omega) (by omega), r 86 i (by decide), r 91 i (by decide), r 92 i (by decide), r 93 i (by decide), r 99 i (by decide), r 88 i (by decide), r 89 i (by decide), r 87 i (by decide)]
    exact hp i g1 g2
/-- one more parameter, in the class: q its number, x its symbol -/
def pj_R (b m q x s : Int) (σ τ σ4 σ6 : js_S) : Prop := (∀ i k : Int, 0 ≤ i → i < q → i ≠ m → σ6 (σ (19 + b) i) k = σ (σ (19 + b) i) k) ∧ (∀ k : Int, k ≠ 6 → σ6 s k = σ s k) ∧ (∀ i : Int, 0 ≤ i → i < q → σ6 (19 + b) i = σ (19 + b) i) ∧ σ6 (19 + b) q = x ∧ (∀ k : Int, ¬ (2 ≤ k ∧ k ≤ 4) → k ≠ 5 → k ≠ 7 → k ≠ 11 → k ≠ 13 → σ6 x k = τ x k) ∧ (∀ k : Int, 2 ≤ k → k ≤ 4 → σ6 x k = σ4 x k) ∧ (∀ i : Int, 0 ≤ i → i < q → σ (19 + b) i ≠ x ∧ 137 ≤ σ (19 + b) i) ∧ (∀ i : Int, 0 ≤ i → i < q → i ≠ m → σ (19 + b) i ≠ s)
theorem pj_of {M b m q x s : Int} {σ ρ τ σ4 σ6 : js_S} {X : Int → Prop} {u v : Int} (hb : b = 0 ∨ b = 25) (hY : sy_Y M σ ρ b u v X) (h11 : ρ 83 11 = q) (hm : 0 ≤ m ∧ m < q) (h19 : σ (19 + b) m = s) (gs : 137 ≤ s) (gx : 137 ≤ x) (sx : s ≠ x) (t2 : ∀ i : Int, 0 ≤ i → i < q → τ (19 + b) i = σ (19 + b) i ∧ ∀ k : Int, τ (σ (19 + b) i) k = σ (σ (19 + b) i) k) (x19 : τ (19 + b) q = x) (xne : ∀ i : Int, 0 ≤ i → i < q → σ (19 + b) i ≠ x) (ct : ∀ a i : Int, ¬ (a = 1 ∧ (i = 1 ∨ i = 2 ∨ i = 3 ∨ i = 11)) → a ≠ 2 → ¬ (a = 21 + b ∧ 0 ≤ i ∧ i ≤ 2) → ¬ (a = x ∧ 2 ≤ i ∧ i ≤ 4) → σ4 a i = τ a i) (c6 : ∀ a i : Int, ¬ (a = x ∧ (i = 5 ∨ i = 7 ∨ i = 11 ∨ i = 13)) → ¬ (a = 8 + b ∧ i = 9) → ¬ (a = s ∧ i = 6) → σ6 a i = σ4 a i) : pj_R b m q x s σ τ σ4 σ6 := by
  have c46 : ∀ a i : Int, ¬ (a = 1 ∧ (i = 1 ∨ i = 2 ∨ i = 3 ∨ i = 11)) → a ≠ 2 → ¬ (a = 21 + b ∧ 0 ≤ i ∧ i ≤ 2) → ¬ (a = x ∧ (2 ≤ i ∧ i ≤ 5 ∨ i = 7 ∨ i = 11 ∨ i = 13)) → ¬ (a = 8 + b ∧ i = 9) → ¬ (a = s ∧ i = 6) → σ6 a i = τ a i := fun a i g1 g2 g3 g4 g5 g6 => by rw [c6 a i (by omega) g5 g6, ct a i g1 g2 g3 (by omega)]
  have ys : ∀ i : Int, 0 ≤ i → i < q → σ (19 + b) i ≠ x ∧ 137 ≤ σ (19 + b) i := fun i g1 g2 => ⟨xne i g1 g2, js_sym_ge (hY.2.2.2.2.2.1 i g1 (by omega)).1⟩
  have ns : ∀ i : Int, 0 ≤ i → i < q → i ≠ m → σ (19 + b) i ≠ s := fun i g1 g2 g3 => by
    rw [← h19]
    exact sy_Y_ne hY g1 (by omega) hm.1 (by omega) g3
  clear xne
  refine ⟨fun i k g1 g2 g3 => ?_, fun k g => ?_, fun i g1 g2 => ?_, ?_, fun k g1 g2 g3 g4 g5 => ?_, fun k g1 g2 => ?_, ys, ns⟩
  · have a := ys i g1 g2
    have c := ns i g1 g2 g3
    rw [c46 _ _ (by omega) (by omega) (by omega) (by omega) (by omega) (by omega), (t2 i g1 g2).2 k]
  · have a := (t2 m hm.1 hm.2).2 k
    rw [h19] at a
    rw [c46 _ _ (by omega) (by omega) (by omega) (by omega) (by omega) (by omega), a]
  · rw [c46 _ _ (by omega) (by omega) (by omega) (by omega) (by omega) (by omega), (t2 i g1 g2).1]
  · rw [c46 _ _ (by omega) (by omega) (by omega) (by omega) (by omega) (by omega), x19]
  · exact c46 _ _ (by omega) (by omega) (by omega) (by omega) (by omega) (by omega)
  · exact c6 _ _ (by omega) (by omega) (by omega)
/-- and in the reference -/
def pt_R (q : Int) (ρ ρ2 ρ4 ρ6 : js_S) : Prop := (∀ a i : Int, ¬ (a = 83 ∧ (5 ≤ i ∧ i ≤ 9 ∨ i = 11 ∨ 27 ≤ i ∧ i ≤ 32)) → ¬ (86 ≤ a ∧ a ≤ 99 ∧ a ≠ 98 ∧ i = q) → ¬ (a = 98 ∧ 20 * q ≤ i) → ρ6 a i = ρ a i) ∧ (ρ6 83 11 = q + 1 ∧ ρ4 83 11 = q + 1) ∧ (∀ a : Int, 86 ≤ a → ¬ (87 ≤ a ∧ a ≤ 89) → ρ6 a q = ρ2 a q) ∧ (∀ a i : Int, 86 ≤ a → a ≤ 99 → a ≠ 98 → i ≠ q → ρ6 a i = ρ a i) ∧ (∀ a i : Int, ¬ (87 ≤ a ∧ a ≤ 89 ∧ i = q) → ρ6 a i = ρ4 a i) ∧ (ρ6 87 q = ρ4 83 30 ∧ ρ6 88 q = ρ4 83 31 ∧ ρ6 89 q = ρ4 83 32)
theorem pt_of {q : Int} {ρ ρ2 ρ4 : js_S} (m11 : ρ2 83 11 = q + 1) (hgr : ∀ a i : Int, ¬ (a = 83 ∧ (5 ≤ i ∧ i ≤ 8 ∨ i = 11)) → ¬ (86 ≤ a ∧ a ≤ 99 ∧ a ≠ 98 ∧ i = q) → ¬ (a = 98 ∧ 20 * q ≤ i) → ρ2 a i = ρ a i) (rt : tf_R ρ2 ρ4) : pt_R q ρ ρ2 ρ4 (tp_S ρ4 q) := by
  have tO : ∀ a i : Int, ¬ (87 ≤ a ∧ a ≤ 89 ∧ i = q) → tp_S ρ4 q a i = ρ4 a i := fun a i g => tp_o g
  have e11 : ρ4 83 11 = q + 1 := by rw [rt _ _ (by omega)]; exact m11
  refine ⟨fun a i g1 g2 g3 => ?_, ⟨?_, e11⟩, fun a g1 g2 => ?_, fun a i g1 g2 g3 g4 => ?_, tO, tp_87, tp_88, tp_89⟩
  · rw [tO a i (by omega), rt a i (by omega), hgr a i (by omega) g2 g3]
  · rw [tO _ _ (by omega), e11]
  · rw [tO _ _ (by omega), rt _ _ (by omega)]
  · rw [tO _ _ (by omega), rt _ _ (by omega), hgr a i (by omega) (by omega) (by omega)]
theorem pa_F {b m q x s : Int} {σ τ σ4 σ6 ρ ρ2 ρ4 ρ6 : js_S} {nl : Int} (hs : pj_R b m q x s σ τ σ4 σ6) (hr : pt_R q ρ ρ2 ρ4 ρ6) (xn : cx_new τ x q 5 nl) (xr : ρ2 86 q = 5 ∧ ρ2 87 q = 0 ∧ ρ2 88 q = 0 ∧ ρ2 89 q = 0 ∧ ρ2 91 q = 1 ∧ ρ2 92 q = 0 ∧ ρ2 93 q = m ∧ ρ2 94 q = 0 ∧ ρ2 96 q = 0 ∧ ρ2 99 q = 0) (s2 : σ4 x 2 = ρ4 83 30) (s3 : σ4 x 3 = ρ4 83 31) (s4 : σ4 x 4 = ρ4 83 32) (v7 : σ6 x 7 = m) : sy_F σ6 ρ6 b q := by
  obtain ⟨z0, z1, z2, z3, z4, z5, z6, z7, z8, z9, z10, z11, z12, z13, z14⟩ := xn
  obtain ⟨x86, x87, x88, x89, x91, x92, x93, x94, x96, x99⟩ := xr
  obtain ⟨_, _, _, px, xk, xt, _⟩ := hs
  obtain ⟨_, _, xr4, _, _, t87, t88, t89⟩ := hr
  unfold sy_F
  rw [px, xk 1 (by decide) (by decide) (by decide) (by decide) (by decide), z1, xt 2 (by decide) (by decide), s2, xt 3 (by decide) (by decide), s3, xt 4 (by decide) (by decide), s4, xk 6 (by decide) (by decide) (by decide) (by decide) (by decide), z6, v7, xk 8 (by decide) (by decide) (by decide) (by decide) (by decide), z8, xk 10 (by decide) (by decide) (by decide) (by decide) (by decide), z10, xk 12 (by decide) (by decide) (by decide) (by decide) (by decide), z12, t87, t88, t89, xr4 86 (by decide) (by decide), xr4 91 (by decide) (by decide), xr4 93 (by decide) (by decide), xr4 94 (by decide) (by decide), xr4 96 (by decide) (by decide), xr4 92 (by decide) (by decide), x86, x91, x93, x94, x96, x92]
  exact ⟨rfl, rfl, rfl, rfl, rfl, rfl, rfl, rfl, rfl⟩
theorem pa_Y {M b m q x s : Int} {σ τ σ4 σ6 ρ ρ2 ρ4 ρ6 : js_S} (hb : b = 0 ∨ b = 25) (hm : 0 ≤ m ∧ m < q) (hY : sy_Y M σ ρ b (m + 1) q (fun i => i = m)) (h11 : ρ 83 11 = q) (hY4 : sy_Y M σ4 ρ4 b (m + 1) q (fun i => i = m ∨ i = q)) (gs : 137 ≤ s) (gx : 137 ≤ x) (c6 : ∀ a i : Int, ¬ (a = x ∧ (i = 5 ∨ i = 7 ∨ i = 11 ∨ i = 13)) → ¬ (a = 8 + b ∧ i = 9) → ¬ (a = s ∧ i = 6) → σ6 a i = σ4 a i) (e419 : ∀ i : Int, σ4 (19 + b) i = τ (19 + b) i) (t19 : ∀ i : Int, 0 ≤ i → i < q → τ (19 + b) i = σ (19 + b) i) (x19 : τ (19 + b) q = x) (hin : ty_in ρ4) (v13 : σ6 x 13 = 1) (hs : pj_R b m q x s σ τ σ4 σ6) (hr : pt_R q ρ ρ2 ρ4 ρ6) (fX : sy_F σ6 ρ6 b q) : sy_Y M σ6 ρ6 b (m + 1) (q + 1) (fun i => i = m) := by
  obtain ⟨old, _, p19, _, _, _, ys, _⟩ := hs
  obtain ⟨_, ⟨w11, e11⟩, _, r4, tO, t87, _, _⟩ := hr
  refine sy_Y_gen2 hb hY4 (fun a i hh => c6 a i (by omega) (by omega) (by omega)) (by rw [w11, e11]) (fun a i hh => tO _ _ (by omega)) (fun i g1 g2 => ?_) (fun i g1 g2 => ?_) (fun i g1 g2 => ?_) (fun i g1 g2 g3 => ?_)
  · rw [tO _ _ (by omega)]
    exact hY4.1.2.2.2.2 i g1 g2
  · have a := hY4.2.1 i g1 g2
    rw [tO 86 _ (by omega), tO 94 _ (by omega)]
    by_cases q : i = q
    · rw [q, t87]
      rw [q] at a
      exact ⟨a.1, a.2.1, hin.1, hin.2.1, a.2.2.2.2.1, a.2.2.2.2.2.1, rs_z_of a.2.2.2.2.2.2 (by rw [w11, e11]) (tO _ _ (by omega)) (tO _ _ (by omega))⟩
    · rw [tO 87 _ (by omega)]
      exact rs_6 a (rs_z_of a.2.2.2.2.2.2 (by rw [w11, e11]) (tO _ _ (by omega)) (tO _ _ (by omega)))
  · rw [e11] at g2
    by_cases q' : i = q
    · rw [q', e419, x19, v13]
      exact (if_pos (by omega)).symm
    · have a := (hY4.2.2.2.2.2.1 i g1 (by omega)).2.2.1
      have e1 : sy_S ρ6 (m + 1) (q + 1) 99 i = sy_S ρ4 (m + 1) q 99 i := by
        unfold sy_S
        by_cases q2 : m + 1 ≤ i
        · rw [if_pos ⟨rfl, q2, by omega⟩, if_pos ⟨rfl, q2, by omega⟩]
        · rw [if_neg (by omega), if_neg (by omega), tO _ _ (by omega)]
      have y := ys i g1 (by omega)
      rw [e1, ← a, e419, t19 i g1 (by omega)]
      exact c6 _ _ (by omega) (by omega) (by omega)
  · rw [e11] at g2
    by_cases q' : i = q
    · rw [q']
      exact fX
    · have a := hY.2.2.2.2.2.2 i g1 (by omega) g3
      unfold sy_F at a ⊢
      rw [p19 i g1 (by omega)]
      simp only [old i _ g1 (by omega : i < q) g3, r4 86 i (by decide) (by decide) (by decide) q', r4 87 i (by decide) (by decide) (by decide) q', r4 88 i (by decide) (by decide) (by decide) q', r4 89 i (by decide) (by decide) (by decide) q', r4 91 i (by decide) (by decide) (by decide) q', r4 92 i (by decide) (by decide) (by decide) q', r4 93 i (by decide) (by decide) (by decide) q', r4 94 i (by decide) (by decide) (by decide) q', r4 96 i (by decide) (by decide) (by decide) q']
      exact a
theorem pa_K {m q : Int} {ρ ρ2 ρ4 ρ6 : js_S} (hm : 0 ≤ m ∧ m < q) (hk : kx_R ρ (m + 1) q (fun i => i = m)) (h11 : ρ 83 11 = q) (hp : ∀ i : Int, m < i → i < q → ρ 86 i = 5) (h99 : ρ 99 m = 0) (x86 : ρ2 86 q = 5) (hr : pt_R q ρ ρ2 ρ4 ρ6) : kx_R ρ6 (m + 1) (q + 1) (fun i => i = m) := by
  obtain ⟨_, ⟨w11, _⟩, xr4, r4, _, _⟩ := hr
  refine ⟨Or.inr (fun i g1 g2 => ?_), fun i hi => ?_, fun i g1 g2 g3 g4 => ?_⟩
  · rw [w11] at g2
    by_cases q' : i = q
    · rw [q', xr4 86 (by decide) (by decide), x86]
    · rw [r4 86 i (by decide) (by decide) (by decide) q']
      exact hp i (by omega) (by omega)
  · have ei : i = m := hi
    rw [ei]
    unfold sy_S
    rw [if_neg (by omega), r4 99 m (by decide) (by decide) (by decide) (by omega), h99]
    decide
  · rw [w11] at g2
    by_cases q' : i = q
    · rw [q', xr4 86 (by decide) (by decide), x86] at g4
      omega
    · rw [r4 86 i (by decide) (by decide) (by decide) q'] at g4
      rw [r4 87 i (by decide) (by decide) (by decide) q', r4 89 i (by decide) (by decide) (by decide) q', r4 91 i (by decide) (by decide) (by decide) q']
      exact hk.2.2 i g1 (by omega) g3 g4
theorem pa_c16 {b q x s : Int} {σ τ σ4 σ6 : js_S} (hb : b = 0 ∨ b = 25) (gs : 137 ≤ s) (gx : 137 ≤ x) (dm2 : dm_R b q σ τ) (ct : ∀ a i : Int, ¬ (a = 1 ∧ (i = 1 ∨ i = 2 ∨ i = 3 ∨ i = 11)) → a ≠ 2 → ¬ (a = 21 + b ∧ 0 ≤ i ∧ i ≤ 2) → ¬ (a = x ∧ 2 ≤ i ∧ i ≤ 4) → σ4 a i = τ a i) (c6 : ∀ a i : Int, ¬ (a = x ∧ (i = 5 ∨ i = 7 ∨ i = 11 ∨ i = 13)) → ¬ (a = 8 + b ∧ i = 9) → ¬ (a = s ∧ i = 6) → σ6 a i = σ4 a i) : ∀ a i : Int, 6 + b ≤ a → a ≤ 30 + b → a ≠ 19 + b → a ≠ 20 + b → a ≠ 21 + b → ¬ (a = 7 + b ∧ i = 1) → ¬ (a = 8 + b ∧ i = 9) → σ6 a i = σ a i := by
  intro a i g1 g2 g3 g4 g5 g6 g7
  have k1 : a ≠ x := by omega
  have k2 : a ≠ s := by omega
  have k3 : a ≠ 1 := by omega
  have k4 : a ≠ 2 := by omega
  rw [c6 a i (fun h => k1 h.1) g7 (fun h => k2 h.1), ct a i (fun h => k3 h.1) k4 (fun h => g5 h.1) (fun h => k1 h.1), dm2.1 a i g1 g2 g3 g4 g6]
theorem pa_fr {b m q x s : Int} {τ σ4 σ6 : js_S} (hb : b = 0 ∨ b = 25) (hm : 0 ≤ m ∧ m < q) (hq : q < 400) (gs : 137 ≤ s) (gx : 137 ≤ x) (x19 : τ (19 + b) q = x) (m19 : τ (19 + b) m = s) (ct : ∀ a i : Int, ¬ (a = 1 ∧ (i = 1 ∨ i = 2 ∨ i = 3 ∨ i = 11)) → a ≠ 2 → ¬ (a = 21 + b ∧ 0 ≤ i ∧ i ≤ 2) → ¬ (a = x ∧ 2 ≤ i ∧ i ≤ 4) → σ4 a i = τ a i) (c6 : ∀ a i : Int, ¬ (a = x ∧ (i = 5 ∨ i = 7 ∨ i = 11 ∨ i = 13)) → ¬ (a = 8 + b ∧ i = 9) → ¬ (a = s ∧ i = 6) → σ6 a i = σ4 a i) : fr_R b τ σ6 := fr_R_of hb (fun a i g1 g2 g3 g4 => by
    have a1 := g4 q (by omega) hq
    rw [x19] at a1
    have a2 := g4 m hm.1 (by omega)
    rw [m19] at a2
    have k1 : a ≠ x := by omega
    have k2 : a ≠ s := by omega
    rw [c6 a i (fun h => k1 h.1) (by omega) (fun h => k2 h.1), ct a i (by omega) g2 (by omega) (fun h => k1 h.1)])
/-- one more parameter: x its symbol; σ4, ρ4 behind its TYPE -/
theorem pa_step {E : js_E} {b m s n x : Int} {σ0 ρ0 σ ρ τ ρ2 σ4 ρ4 σ6 : js_S} (hb : b = 0 ∨ b = 25) (hI : pa_I E b m s n σ0 ρ0 σ ρ) (hn8 : n < 8) (hg : gt_R E.1 b (m + 1) (m + 1 + n) (m + 1 + n) 5 x (fun i => i = m) σ ρ τ ρ2) (hY4 : sy_Y E.1 σ4 ρ4 b (m + 1) (m + 1 + n) (fun i => i = m ∨ i = m + 1 + n)) (ct : ∀ a i : Int, ¬ (a = 1 ∧ (i = 1 ∨ i = 2 ∨ i = 3 ∨ i = 11)) → a ≠ 2 → ¬ (a = 21 + b ∧ 0 ≤ i ∧ i ≤ 2) → ¬ (a = x ∧ 2 ≤ i ∧ i ≤ 4) → σ4 a i = τ a i) (rt : tf_R ρ2 ρ4) (s2 : σ4 x 2 = ρ4 83 30) (s3 : σ4 x 3 = ρ4 83 31) (s4 : σ4 x 4 = ρ4 83 32) (hin : ty_in ρ4) (c6 : ∀ a i : Int, ¬ (a = x ∧ (i = 5 ∨ i = 7 ∨ i = 11 ∨ i = 13)) → ¬ (a = 8 + b ∧ i = 9) → ¬ (a = s ∧ i = 6) → σ6 a i = σ4 a i) (v5 : σ6 x 5 = n) (v7 : σ6 x 7 = m) (v11 : σ6 x 11 = σ0 (8 + b) 8) (v13 : σ6 x 13 = 1) (v9 : σ6 (8 + b) 9 = n + 1) (v6 : σ6 s 6 = n + 1) : pa_I E b m s (n + 1) σ0 ρ0 σ6 (tp_S ρ4 (m + 1 + n)) := by
  obtain ⟨⟨hY, hk⟩, ⟨⟨h0, n0, n8, h11, h400⟩, h26, h44⟩, ⟨hds, h19⟩, hs, hr, hfr, ⟨hc1, hc2⟩, hgf, ⟨h22, h9⟩, hp⟩ := hI
  obtain ⟨hY2, fr2, dm2, xds, x19, ⟨nl, xn⟩, xne, ⟨_, hm4⟩, m11, xr, hgr, t71⟩ := hg
  have gs := js_sym_ge hds
  have gx := js_sym_ge xds
  rw [h26] at xr
  replace hs := hi_i hs
  replace hr := hi_i hr
  replace xr := hi_i xr
  replace xn := hi_i xn
  have sx : s ≠ x := fun hh => xne m (by omega) (by omega) (by rw [h19]; exact hh)
  have hps : pj_R b m (m + 1 + n) x s σ τ σ4 σ6 := pj_of hb hY h11 ⟨h0, by omega⟩ h19 gs gx sx dm2.2 x19 xne ct c6
  have hpt : pt_R (m + 1 + n) ρ ρ2 ρ4 (tp_S ρ4 (m + 1 + n)) := pt_of m11 hgr rt
  have fX := pa_F hps hpt (hi_e xn) (hi_e xr) s2 s3 s4 v7
  have e419 : ∀ i : Int, σ4 (19 + b) i = τ (19 + b) i := fun i => ct _ _ (by omega) (by omega) (by omega) (by omega)
  have hY6 := pa_Y hb ⟨h0, by omega⟩ hY h11 hY4 gs gx c6 e419 (fun i g1 g2 => (dm2.2 i g1 g2).1) x19 hin v13 hps hpt fX
  have hk6 := pa_K ⟨h0, by omega⟩ hk h11 (fun i g1 g2 => (hp i g1 g2).1.1) (hi_e hr).2.2.2.2.2.2.2 (hi_e xr).1 hpt
  have en : m + 1 + (n + 1) = m + 1 + n + 1 := by omega
  obtain ⟨old, oldm, p19, px, xk, xt, ys, ns⟩ := hps
  generalize tp_S ρ4 (m + 1 + n) = ρ6 at hpt fX hY6 hk6 ⊢
  obtain ⟨f6, ⟨w11, _⟩, xr4, r4, _, t87, t88, t89⟩ := hpt
  have frx : fr_R b τ σ6 := pa_fr hb ⟨h0, by omega⟩ hm4 gs gx x19 ((dm2.2 m h0 (by omega)).1.trans h19) ct c6
  have hm1 : m ≠ m + 1 + n := by omega
  have c16 := pa_c16 hb gs gx dm2 ct c6
  clear ct c6
  unfold pa_I
  rw [en]
  refine ⟨⟨hY6, hk6⟩, ⟨⟨h0, by omega, by omega, w11, by omega⟩, ?_, ?_⟩, ⟨?_, ?_⟩, ?_, ?_, fr_R_trans hfr (fr_R_trans fr2 frx), ⟨fun a i g1 g2 g3 g4 g5 g6 g7 g8 => ?_, fun i g1 g2 => ?_⟩, fun a i g1 g2 g3 => ?_, ⟨?_, v9⟩, fun i g1 g2 => ?_⟩
  · rw [f6 _ _ (by omega) (by omega) (by omega)]
    exact h26
  · rw [f6 _ _ (by omega) (by omega) (by omega)]
    exact h44
  · have a0 : σ (-1) 0 ≤ τ (-1) 0 := fr2.2.2.2.2.1
    have a2 : τ (-1) 0 ≤ σ6 (-1) 0 := frx.2.2.2.2.1
    exact js_desc_mono hds (Int.le_trans a0 a2) (fun _ => oldm 15 (by decide))
  · rw [p19 m h0 (by omega)]
    exact h19
  · obtain ⟨a0, a1, a2, a3, a4, a5, a6, a7, a8, a9, a10, a11, a12⟩ := hi_e hs
    simp only [oldm 0 (by decide), oldm 1 (by decide), oldm 2 (by decide), oldm 3 (by decide), oldm 4 (by decide), oldm 5 (by decide), oldm 7 (by decide), oldm 8 (by decide), oldm 9 (by decide), oldm 10 (by decide), oldm 11 (by decide), oldm 12 (by decide)]
    exact ⟨a0, a1, a2, a3, a4, a5, v6, a7, a8, a9, a10, a11, a12⟩
  · simp only [r4 86 m (by decide) (by decide) (by decide) hm1, r4 88 m (by decide) (by decide) (by decide) hm1, r4 89 m (by decide) (by decide) (by decide) hm1, r4 92 m (by decide) (by decide) (by decide) hm1, r4 93 m (by decide) (by decide) (by decide) hm1, r4 94 m (by decide) (by decide) (by decide) hm1, r4 96 m (by decide) (by decide) (by decide) hm1, r4 99 m (by decide) (by decide) (by decide) hm1]
    exact hi_e hr
  · rw [c16 a i g1 g2 g3 g4 g5 g6 g7]
    exact hc1 a i g1 g2 g3 g4 g5 g6 g7 g8
  · obtain ⟨b1, b2⟩ := hc2 i g1 g2
    refine ⟨by rw [p19 i g1 (by omega)]; exact b1, fun k => ?_⟩
    rw [← b1, old i k g1 (by omega) (by omega), b1]
    exact b2 k
  · rw [f6 a i (by omega) (by omega) (by omega)]
    exact hgf a i g1 g2 g3
  · rw [c16 _ _ (by omega) (by omega) (by omega) (by omega) (by omega) (by omega) (by omega)]
    exact h22
  · by_cases q : i = m + 1 + n
    · rw [q, px, v5, v11, xr4 86 (by decide) (by decide), xr4 91 (by decide) (by decide), xr4 92 (by decide) (by decide), xr4 93 (by decide) (by decide), xr4 99 (by decide) (by decide), (hi_e xr).1, (hi_e xr).2.2.2.2.1, (hi_e xr).2.2.2.2.2.1, (hi_e xr).2.2.2.2.2.2.1, (hi_e xr).2.2.2.2.2.2.2.2.2, t87, t88, t89]
      exact ⟨⟨rfl, rfl, rfl, rfl, rfl⟩, ⟨hin.2.2.1, hin.2.2.2.1, hin.2.2.2.2.1, hin.2.2.2.2.2⟩, by omega, rfl, (xk 9 (by decide) (by decide) (by decide) (by decide) (by decide)).trans (hi_e xn).2.2.2.2.2.2.2.2.2.1⟩
    · have a := hp i g1 (by omega)
      have h5 : 0 ≤ i := by omega
      have h6 : i < m + 1 + n := by omega
      have h7 : i ≠ m := by omega
      rw [p19 i h5 h6, old i 5 h5 h6 h7, old i 11 h5 h6 h7, old i 9 h5 h6 h7, r4 86 i (by decide) (by decide) (by decide) q, r4 91 i (by decide) (by decide) (by decide) q, r4 92 i (by decide) (by decide) (by decide) q, r4 93 i (by decide) (by decide) (by decide) q, r4 99 i (by decide) (by decide) (by decide) q, r4 88 i (by decide) (by decide) (by decide) q, r4 89 i (by decide) (by decide) (by decide) q, r4 87 i (by decide) (by decide) (by decide) q]
      exact a
