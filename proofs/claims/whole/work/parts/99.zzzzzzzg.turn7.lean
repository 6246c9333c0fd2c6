/-! part 99.zzzzzzzg: one FLIP in the copy that a probe runs (99.zzzzzo's c_turn for Run 65) -/
section YF7
variable {E : js_E} {d e : Nat} {N : Int} {σ0 ρ0 σ ρ : js_S} {n : Nat}
theorem c_turn7 {x0 o c x1 x2 : Int} (hx : c = 0 ∧ x0 = 66 ∧ o = 1 ∨ c = 1 ∧ x0 = 69 ∧ o = 58659) (hN : 0 ≤ N ∧ N ≤ E.1 ∧ N ≤ 4096 ∧ E.1 < 2147483648) (hw : -2 ≤ x1 ∧ x1 < N) (hd : 2 ≤ d) (h1 : cq_R N 66 0 σ ρ) (h2 : cq_R N 69 1 σ ρ) {y : Int} : ∃ σ' ρ' : js_S, js_J E d 164 0 [(2, x0), (0, x1), (0, x2), (9, 0), (9, 0)] [] σ = js_r0 E σ' ∧ (x1 = -1 ∧ ρ' = js_up (js_up ρ 83 83 y) 121 c (js_lxor (ρ 121 c) (js_lshl 1 x2)) ∨ x1 = -2 ∧ ρ' = js_up (js_up ρ 83 83 y) 122 c (js_lxor (ρ 122 c) (js_lshl 1 x2)) ∨ 0 ≤ x1 ∧ ρ' = js_up (js_up ρ 83 83 y) 120 (4096 * c + x1) (js_lxor (ρ 120 (4096 * c + x1)) (js_lshl 1 x2))) ∧ (∀ a i : Int, ¬ ((a = 66 ∨ a = 69) ∧ (i = 0 ∨ i = 1)) → a ≠ 68 → a ≠ 71 → σ' a i = σ a i) ∧ fq_M ρ ρ' ∧ ρ' 83 83 = y ∧ cq_R N 66 0 σ' ρ' ∧ cq_R N 69 1 σ' ρ' := by
  have wx : js_w x1 = x1 := js_w_of (by omega) (by omega)
  have hC : js_isC E.1 x0 o := by
    rcases hx with ⟨_, c2, c3⟩ | ⟨_, c2, c3⟩
    · rw [c2, c3]
      exact js_c1 (r := 7) (Or.inr (Or.inl rfl))
    · rw [c2, c3]
      exact js_c2 (r := 7) (Or.inr (Or.inl rfl))
  have z0 : ∀ a i : Int, ¬ (a = 83 ∧ i = 83) → js_up ρ 83 83 y a i = ρ a i := fun a i g => js_up_ne _ g
  have z1 : js_up ρ 83 83 y 83 83 = y := js_up_same _ _ _ _
  generalize js_up ρ 83 83 y = ρy at z0 z1 ⊢
  have g1 : cq_R N 66 0 σ ρy := ⟨by rw [z0 _ _ (by omega)]; exact h1.1, by rw [z0 _ _ (by omega)]; exact h1.2.1, fun k k1 k2 => by rw [z0 _ _ (by omega)]; exact h1.2.2 k k1 k2⟩
  have g2 : cq_R N 69 1 σ ρy := ⟨by rw [z0 _ _ (by omega)]; exact h2.1, by rw [z0 _ _ (by omega)]; exact h2.2.1, fun k k1 k2 => by rw [z0 _ _ (by omega)]; exact h2.2.2 k k1 k2⟩
  have fin : ∀ (A I B J v v' : Int) (σ' ρ' : js_S), σ' = js_up σ A I v → ρ' = js_up ρy B J v' → js_l v = js_l v' → (c = 0 ∧ (A = 66 ∧ I = 0 ∧ B = 121 ∧ J = 0 ∨ A = 66 ∧ I = 1 ∧ B = 122 ∧ J = 0 ∨ A = 68 ∧ 0 ≤ I ∧ I < N ∧ B = 120 ∧ J = I) ∨ c = 1 ∧ (A = 69 ∧ I = 0 ∧ B = 121 ∧ J = 1 ∨ A = 69 ∧ I = 1 ∧ B = 122 ∧ J = 1 ∨ A = 71 ∧ 0 ≤ I ∧ I < N ∧ B = 120 ∧ J = 4096 + I)) → (∀ a i : Int, ¬ ((a = 66 ∨ a = 69) ∧ (i = 0 ∨ i = 1)) → a ≠ 68 → a ≠ 71 → σ' a i = σ a i) ∧ fq_M ρ ρ' ∧ ρ' 83 83 = y ∧ cq_R N 66 0 σ' ρ' ∧ cq_R N 69 1 σ' ρ' := fun A I B J v v' σ' ρ' hσ hρ hv hh => by
    have at1 : ∀ a i a' i' : Int, (a = A ∧ i = I ↔ a' = B ∧ i' = J) → js_l (σ a i) = js_l (ρy a' i') → js_l (σ' a i) = js_l (ρ' a' i') := fun a i a' i' hi hl => by
      rw [hσ, hρ]
      by_cases q : a = A ∧ i = I
      · have q2 := hi.mp q
        rw [q.1, q.2, q2.1, q2.2, js_up_same, js_up_same]
        exact hv
      · rw [js_up_ne _ q, js_up_ne _ (fun q2 => q (hi.mpr q2))]
        exact hl
    refine ⟨fun a i k1 k2 k3 => ?_, fun a i k1 k2 => ?_, ?_, ⟨at1 _ _ _ _ (by omega) g1.1, at1 _ _ _ _ (by omega) g1.2.1, fun k k1 k2 => at1 _ _ _ _ (by omega) (g1.2.2 k k1 k2)⟩, ⟨at1 _ _ _ _ (by omega) g2.1, at1 _ _ _ _ (by omega) g2.2.1, fun k k1 k2 => at1 _ _ _ _ (by omega) (g2.2.2 k k1 k2)⟩⟩
    · rw [hσ, js_up_ne _ (by omega)]
    · rw [hρ, js_up_ne _ (by omega), z0 a i k1]
    · rw [hρ, js_up_ne _ (by omega)]
      exact z1
  have qA : js_l (σ x0 0) = js_l (ρ 121 c) ∧ js_l (σ x0 1) = js_l (ρ 122 c) ∧ ∀ k : Int, 0 ≤ k → k < N → js_l (σ (x0 + 2) k) = js_l (ρ 120 (4096 * c + k)) := by
    rcases hx with ⟨c1, c2, _⟩ | ⟨c1, c2, _⟩
    · rw [c1, c2]
      exact h1
    · rw [c1, c2]
      exact h2
  by_cases t1 : x1 = -1
  · refine ⟨js_up σ x0 0 (js_lxor (σ x0 0) (js_lshl 1 x2)), js_up ρy 121 c (js_lxor (ρ 121 c) (js_lshl 1 x2)), by rw [b_164_0 hC, wx, if_pos t1, b_164_53], Or.inl ⟨t1, rfl⟩, fin _ _ _ _ _ _ _ _ rfl rfl (by rw [lq_xor qA.1]) ?_⟩
    rcases hx with ⟨c1, c2, _⟩ | ⟨c1, c2, _⟩ <;> omega
  · by_cases t2 : x1 = -2
    · refine ⟨js_up σ x0 1 (js_lxor (σ x0 1) (js_lshl 1 x2)), js_up ρy 122 c (js_lxor (ρ 122 c) (js_lshl 1 x2)), by rw [b_164_0 hC, wx, if_neg t1, if_pos t2, b_164_53], Or.inr (Or.inl ⟨t2, rfl⟩), fin _ _ _ _ _ _ _ _ rfl rfl (by rw [lq_xor qA.2.1]) ?_⟩
      rcases hx with ⟨c1, c2, _⟩ | ⟨c1, c2, _⟩ <;> omega
    · refine ⟨js_up σ (x0 + 2) x1 (js_lxor (σ (x0 + 2) x1) (js_lshl 1 x2)), js_up ρy 120 (4096 * c + x1) (js_lxor (ρ 120 (4096 * c + x1)) (js_lshl 1 x2)), by rw [b_164_0 hC, wx, if_neg t1, if_neg t2, k_164_45 hC (by omega) (c_read hC ⟨by omega, by omega⟩ ⟨by omega, by omega⟩ wx), b_164_48, k_164_50 hC (by omega) (c_write hC ⟨by omega, by omega⟩ ⟨by omega, by omega⟩ wx), b_164_53], Or.inr (Or.inr ⟨by omega, rfl⟩), fin _ _ _ _ _ _ _ _ rfl rfl (by rw [lq_xor (qA.2.2 x1 (by omega) (by omega))]) ?_⟩
      rcases hx with ⟨c1, c2, _⟩ | ⟨c1, c2, _⟩ <;> omega
end YF7
