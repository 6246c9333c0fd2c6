/-! part 99.zzzzzzzp: the class's probe up to its fork -/
section C9
variable {E : js_E} {d : Nat} {b x1 x2 x3 x4 : Int}
theorem c9_step {σ σ1 : js_S} {k : Int} (hb : b = 0 ∨ b = 25) (hd : 1 ≤ d) (h56 : σ 56 1 = 7 + b) (h65 : σ 65 0 = 1 ∨ σ 65 0 = 2) (hk : 0 ≤ k ∧ k < x3 ∧ k < 1000000) (hx : x3 < 2147483648) (h : js_J E (d - 1) 145 0 [(2, 65), (2, 7 + b), (9, 0)] [] σ = js_r0 E σ1) : js_J E d 139 29 [(2, 56), (0, x1), (0, x2), (0, x3), (0, x4), (0, k), (9, 0), (9, 0)] [] σ = js_J E d 139 29 [(2, 56), (0, x1), (0, x2), (0, x3), (0, x4), (0, k + 1), (9, 0), (9, 0)] [] σ1 := by
  have wk : js_w k = k := js_w_of (by omega) (by omega)
  have w3 : js_w x3 = x3 := js_w_of (by omega) (by omega)
  have nz : ¬ js_w (σ 65 0) = 0 := by
    rcases h65 with q | q <;> rw [q] <;> decide
  rw [b_139_29 hb h56, wk, if_pos hk.2.2, w3, if_pos hk.2.1, if_neg nz, k_139_60 hd h, b_139_63]
/-- it goes on for n STEPS -/
theorem c9_it (hb : b = 0 ∨ b = 25) (hd : 1 ≤ d) (hx : x3 < 2147483648) : ∀ (n : Nat) (k : Int) (σ τ : js_S), 0 ≤ k → k + n ≤ x3 → k + n < 1000000 → σ 56 1 = 7 + b → (σ 65 0 = 1 ∨ σ 65 0 = 2) → c_it E (d - 1) b n σ τ → js_J E d 139 29 [(2, 56), (0, x1), (0, x2), (0, x3), (0, x4), (0, k), (9, 0), (9, 0)] [] σ = js_J E d 139 29 [(2, 56), (0, x1), (0, x2), (0, x3), (0, x4), (0, k + n), (9, 0), (9, 0)] [] τ
  | 0, k, σ, τ, k0, k1, k2, h56, h65, h => by
    have e : τ = σ := h
    rw [e, show k + ((0 : Nat) : Int) = k by omega]
  | n + 1, k, σ, τ, k0, k1, k2, h56, h65, h => by
    obtain ⟨σ1, h1, h2, h3, h4⟩ := h
    have i := c9_it hb hd hx n (k + 1) σ1 τ (by omega) (by push_cast at k1; omega) (by push_cast at k2; omega) (by rw [h3 _ _ (by omega)]; exact h56) h2 h4
    rw [c9_step hb hd h56 h65 (by push_cast at k1 k2; omega) hx h1, i, show k + 1 + (n : Int) = k + ((n + 1 : Nat) : Int) by push_cast; omega]
/-- it is over with STEP n + 1 -/
theorem c9_en (hb : b = 0 ∨ b = 25) (hd : 1 ≤ d) (hx : x3 < 2147483648) : ∀ (n : Nat) (k : Int) (σ τ : js_S), 0 ≤ k → k + n < x3 → k + n < 1000000 → σ 56 1 = 7 + b → (σ 65 0 = 1 ∨ σ 65 0 = 2) → c_en E (d - 1) b n σ τ → js_J E d 139 29 [(2, 56), (0, x1), (0, x2), (0, x3), (0, x4), (0, k), (9, 0), (9, 0)] [] σ = js_J E d 139 29 [(2, 56), (0, x1), (0, x2), (0, x3), (0, x4), (0, k + n + 1), (9, 0), (9, 0)] [] τ
  | 0, k, σ, τ, k0, k1, k2, h56, h65, h => by
    obtain ⟨h1, _, _⟩ := h
    rw [c9_step hb hd h56 h65 (by push_cast at k1 k2; omega) hx h1, show k + ((0 : Nat) : Int) = k by omega]
  | n + 1, k, σ, τ, k0, k1, k2, h56, h65, h => by
    obtain ⟨σ1, h1, h2, h3, h4⟩ := h
    have i := c9_en hb hd hx n (k + 1) σ1 τ (by omega) (by push_cast at k1; omega) (by push_cast at k2; omega) (by rw [h3 _ _ (by omega)]; exact h56) h2 h4
    rw [c9_step hb hd h56 h65 (by push_cast at k1 k2; omega) hx h1, i, show k + 1 + (n : Int) + 1 = k + ((n + 1 : Nat) : Int) + 1 by push_cast; omega]
/-- where the loop ends -/
theorem c9_out {σ : js_S} {k : Int} (hb : b = 0 ∨ b = 25) (h56 : σ 56 1 = 7 + b) (hk : 0 ≤ k ∧ k < 1000000) (hx : x3 < 2147483648) (h : x3 ≤ k ∨ σ 65 0 = 0) (hx0 : 0 ≤ x3) : js_J E d 139 29 [(2, 56), (0, x1), (0, x2), (0, x3), (0, x4), (0, k), (9, 0), (9, 0)] [] σ = js_J E d 139 69 [(2, 56), (0, x1), (0, x2), (0, x3), (0, x4), (0, k), (9, 0), (9, 0)] [] σ := by
  have wk : js_w k = k := js_w_of (by omega) (by omega)
  have w3 : js_w x3 = x3 := js_w_of (by omega) (by omega)
  rw [b_139_29 hb h56, wk, if_pos hk.2, w3]
  by_cases q : k < x3
  · have z : σ 65 0 = 0 := by
      rcases h with h | h
      · omega
      · exact h
    rw [if_pos q, z, if_pos (by decide)]
  · rw [if_neg q]
end C9
