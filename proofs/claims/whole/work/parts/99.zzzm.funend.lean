/-! part 99.zzzm: a fun is at its end: what is known then -/
section FH
variable {E : js_E} {d : Nat} {b : Int} {σ : js_S}
/-- a unit ends -/
theorem c_endUnit (hb : b = 0 ∨ b = 25) (hd : 2 ≤ d) (hu : 0 ≤ σ (8 + b) 8 ∧ σ (8 + b) 8 < 401) : ∃ σ' : js_S, js_J E d 111 0 [(2, 8 + b)] [] σ = js_r0 E σ' ∧ (σ' (15 + b) (σ (8 + b) 8) = σ (8 + b) 9 ∧ σ' (16 + b) (σ (8 + b) 8) = σ (8 + b) 11) ∧ (σ' (8 + b) 8 = σ (8 + b) 8 + 1 ∧ σ' (8 + b) 7 = 0 ∧ σ' (8 + b) 9 = 0 ∧ σ' (8 + b) 10 = 0 ∧ σ' (8 + b) 11 = 0 ∧ σ' (8 + b) 12 = 0) ∧ ∀ a i : Int, ¬ (a = 8 + b ∧ 7 ≤ i ∧ i ≤ 12) → ¬ (15 + b ≤ a ∧ a ≤ 16 + b ∧ i = σ (8 + b) 8) → σ' a i = σ a i := by
  have w : js_w (σ (8 + b) 8) = σ (8 + b) 8 := js_w_of (by omega) (by omega)
  have w1 : js_up (js_up σ (15 + b) (σ (8 + b) 8) (σ (8 + b) 9)) (16 + b) (σ (8 + b) 8) (σ (8 + b) 11) (8 + b) 8 = σ (8 + b) 8 := by rw [js_up_na _ (by omega), js_up_na _ (by omega)]
  refine ⟨_, by rw [b_111_0 hb, w, if_pos hu.2, if_pos hu, b_111_36 hb, w1, k_111_47 hb (by omega) (b_19_0 hb), b_111_50], ⟨?_, ?_⟩, ⟨?_, ?_, ?_, ?_, ?_, ?_⟩, fun a i g1 g2 => ?_⟩
  · rw [js_up_na _ (by omega), js_up_na _ (by omega), js_up_na _ (by omega), js_up_na _ (by omega), js_up_na _ (by omega), js_up_na _ (by omega), js_up_na _ (by omega), js_up_same]
  · rw [js_up_na _ (by omega), js_up_na _ (by omega), js_up_na _ (by omega), js_up_na _ (by omega), js_up_na _ (by omega), js_up_na _ (by omega), js_up_same]
  · rw [js_up_ni _ (by decide), js_up_ni _ (by decide), js_up_ni _ (by decide), js_up_ni _ (by decide), js_up_ni _ (by decide), js_up_same]
  · rw [js_up_ni _ (by decide), js_up_ni _ (by decide), js_up_ni _ (by decide), js_up_ni _ (by decide), js_up_same]
  · rw [js_up_ni _ (by decide), js_up_ni _ (by decide), js_up_ni _ (by decide), js_up_same]
  · rw [js_up_ni _ (by decide), js_up_ni _ (by decide), js_up_same]
  · rw [js_up_ni _ (by decide), js_up_same]
  · exact js_up_same _ _ _ _
  · rw [js_up_ne _ (by omega), js_up_ne _ (by omega), js_up_ne _ (by omega), js_up_ne _ (by omega), js_up_ne _ (by omega), js_up_ne _ (by omega), js_up_ne _ (by omega), js_up_ne _ (by omega)]
end FH
/-- tokens alone -/
theorem pb_tk {E : js_E} {b m s n g : Int} {σ0 ρ0 σ ρ σ' ρ' : js_S} (hb : b = 0 ∨ b = 25) (h : pb_I E b m s n g σ0 ρ0 σ ρ) (o : of_R σ σ') (gg : og_R ρ ρ') : pb_I E b m s n g σ0 ρ0 σ' ρ' := by
  obtain ⟨⟨hY, hk⟩, ⟨⟨h0, n0, n8, h11, h400⟩, h26, h44⟩, ⟨hds, h19⟩, hs, hr, hty, hfr, ⟨hc1, hc2⟩, hg, ⟨h22, h9⟩, hp⟩ := h
  have ge := js_sym_ge hds
  have e11 : ρ' 83 11 = ρ 83 11 := gg _ _ (by omega)
  have x : ∀ k : Int, σ' s k = σ s k := fun k => o _ _ (by omega) (by omega)
  have r : ∀ a i : Int, 86 ≤ a → ρ' a i = ρ a i := fun a i g1 => gg _ _ (by omega)
  have ge2 : ∀ i : Int, 0 ≤ i → i < ρ 83 11 → 137 ≤ σ (19 + b) i := fun i g1 g2 => js_sym_ge (hY.2.2.2.2.2.1 i g1 g2).1
  refine ⟨⟨sy_Y_of hY (fun a i hh => o a i (by omega) (by omega)) e11 (fun a i g1 g2 => r a i g1), kx_R_og hk gg⟩, ⟨⟨h0, n0, n8, by omega, h400⟩, by rw [gg _ _ (by omega)]; exact h26, by rw [gg _ _ (by omega)]; exact h44⟩, ⟨js_desc_mono hds (by rw [o _ _ (by omega) (by omega)]; exact Int.le_refl _) (fun _ => x _), by rw [o _ _ (by omega) (by omega)]; exact h19⟩, ?_, ?_, ?_, fr_R_trans hfr (fr_R_og hb o), ⟨fun a i g1 g2 g3 g4 g5 g6 g7 g8 => ?_, fun i g1 g2 => ?_⟩, fun a i g1 g2 g3 => ?_, ⟨?_, ?_⟩, fun i g1 g2 => ?_⟩
  · simp only [x, r 87 m (by decide), r 88 m (by decide), r 89 m (by decide)]
    exact hs
  · simp only [r 86 m (by decide), r 91 m (by decide), r 92 m (by decide), r 93 m (by decide), r 94 m (by decide), r 96 m (by decide), r 99 m (by decide)]
    exact hr
  · simp only [r 87 m (by decide), r 88 m (by decide), r 89 m (by decide)]
    exact hty
  · rw [o _ _ (by omega) (by omega)]
    exact hc1 a i g1 g2 g3 g4 g5 g6 g7 g8
  · obtain ⟨b1, b2⟩ := hc2 i g1 g2
    have := ge2 i g1 (by omega)
    exact ⟨by rw [o _ _ (by omega) (by omega)]; exact b1, fun k => by rw [← b1, o _ _ (by omega) (by omega), b1]; exact b2 k⟩
  · rw [gg a i (by omega)]
    exact hg a i g1 g2 g3
  · rw [o _ _ (by omega) (by omega)]
    exact h22
  · rw [o _ _ (by omega) (by omega)]
    exact h9
  · have := ge2 i (by omega) (by omega)
    rw [o (19 + b) i (by omega) (by omega), o _ 5 (by omega) (by omega), o _ 11 (by omega) (by omega), o _ 9 (by omega) (by omega), r 86 i (by decide), r 91 i (by decide), r 92 i (by decide), r 93 i (by decide), r 99 i (by decide), r 88 i (by decide), r 89 i (by decide), r 87 i (by decide)]
    exact hp i g1 g2
theorem fn_p_new {ρ : js_S} {fb fr : Int → tr_T} {m : Nat} (h4 : ρ 86 m = 4) : fn_p ρ fb fr (m + 1) = fn_p ρ fb fr m + (st_ln (fb m) + xt_ln (fr m) + 1) := by
  show fn_p ρ fb fr m + _ = _
  rw [if_pos h4]
theorem fn_u_new {ρ : js_S} {m : Nat} (h4 : ρ 86 m = 4) : fn_u ρ (m + 1) = fn_u ρ m + 1 := by
  show fn_u ρ m + _ = _
  rw [if_pos h4]
/-- calls of a fun, once its level is known -/
theorem sk_end {ρ ρ' : js_S} {m s k : Int} (h : sk_P ρ m s k) (m0 : 0 ≤ m) (r : ∀ a i : Int, 86 ≤ a → a ≤ 97 → ¬ (a = 96 ∧ i = m) → ρ' a i = ρ a i) (r96 : ρ' 96 m = 1 + ρ 83 44) : sk_F ρ' m s k := by
  obtain ⟨a1, a2, a3, a4, a5, a6, a7⟩ := h
  have q : s < m := by omega
  refine ⟨a1, q, ?_⟩
  rw [r 86 s (by decide) (by decide) (by omega), r 91 s (by decide) (by decide) (by omega), r 96 s (by decide) (by decide) (by omega), r96]
  exact ⟨a3, a4, by omega⟩
