/-! part 99.zzzzzzzs: what one of the 64 FLIPS needs -/
section PG
variable {E : js_E} {d e : Nat} {Fu : Int → Int → Int → Prop} {ac zc b N x7 W : Int} {T : Nat} {σ ρ σ' ρ' ρ0 : js_S}
theorem psR_g (hb : b = 0 ∨ b = 25) (h : psR E Fu ac zc b N T σ ρ) (h1 : ∀ a i : Int, a < 56 ∨ 137 ≤ a → σ' a i = σ a i) (h2 : σ' 56 1 = σ 56 1) (x : ∀ i : Int, ¬ (i = 0 ∨ 77 ≤ i) → ρ' 83 i = ρ 83 i) (y : ∀ a i : Int, 84 ≤ a → a ≤ 119 → ρ' a i = ρ a i) : psR E Fu ac zc b N T σ' ρ' := by
  obtain ⟨⟨a1, a2⟩, ⟨a3, a4⟩, a5⟩ := h
  have oo : ou_o ρ' T = ou_o ρ T := ou_o_eq y T
  exact ⟨⟨by rw [h2]; exact a1, pr_gen hb a2 h1 x y⟩, ⟨wc_of a3 (fun a i q1 q2 => y _ _ (by omega) (by omega)) (x _ (by omega)), by rw [x _ (by omega)]; exact a4⟩, by rw [oo]; exact a5⟩
theorem gv_g (h : gv_R T σ ρ) (h1 : ∀ i : Int, σ' 79 i = σ 79 i) (y : ∀ a i : Int, 84 ≤ a ∧ a ≤ 119 ∨ a = 125 → ρ' a i = ρ a i) : gv_R T σ' ρ' := by
  have oo : ∀ k : Nat, in_o ρ' k = in_o ρ k := in_o_eq (fun a i q1 q2 => y _ _ (Or.inl ⟨q1, q2⟩))
  refine ⟨by rw [oo]; exact h.1, fun s s0 s1 s2 i i0 i1 => ?_⟩
  rw [y 86 _ (by omega)] at s2
  rw [y 91 _ (by omega)] at i1
  rw [h1, y 90 _ (by omega), y 88 _ (by omega), y 89 _ (by omega), oo, y 125 _ (by omega)]
  exact h.2 s s0 s1 s2 i i0 i1
/-- the reference is as ahead of the probe, but for what is free -/
def pi_R (x7 W : Int) (ρ0 ρ : js_S) : Prop := ((ρ 83 77 = 0 ∧ ρ 83 79 = 0 ∧ ρ 83 80 = 0 ∧ ρ 83 81 = 0 ∧ ρ 83 85 = 0) ∧ ρ 83 82 = ρ0 83 82 ∧ ρ 83 83 = ρ0 83 83) ∧ ((∀ i : Int, 0 ≤ i → i < 8192 → ρ 120 i = ρ0 120 i) ∧ (ρ 121 0 = ρ0 121 0 ∧ ρ 121 1 = ρ0 121 1) ∧ ρ 122 0 = ρ0 122 0 ∧ ρ 122 1 = ρ0 122 1) ∧ (∀ a i : Int, ¬ (a = 83 ∧ (i = 0 ∨ 77 ≤ i ∧ i ≤ 85)) → ¬ (120 ≤ a ∧ a ≤ 124) → ¬ (126 ≤ a ∧ a ≤ 133) → ρ a i = ρ0 a i) ∧ (∀ i : Int, ¬ (x7 ≤ i ∧ i < x7 + W) → ρ 126 i = ρ0 126 i) ∧ sv_R ρ0 ρ ∧ ∀ j : Int, 0 ≤ j → j < W → ρ 133 j = ρ0 126 (x7 + j)
theorem cq_g {x0 c : Int} (hc : c = 0 ∨ c = 1) (hN : N ≤ 4096) (h : cq_R N x0 c σ ρ0) (p : pi_R x7 W ρ0 ρ) : cq_R N x0 c σ ρ := by
  obtain ⟨_, ⟨p1, ⟨p2, p3⟩, p4, p5⟩, _⟩ := p
  obtain ⟨h1, h2, h3⟩ := h
  have e3 : ∀ k : Int, 0 ≤ k → k < N → js_l (σ (x0 + 2) k) = js_l (ρ 120 (4096 * c + k)) := fun k k0 k1 => by
    rw [p1 _ (by omega) (by omega)]
    exact h3 k k0 k1
  rcases hc with q | q
  · rw [q] at h1 h2 e3 ⊢
    exact ⟨by rw [p2]; exact h1, by rw [p4]; exact h2, e3⟩
  · rw [q] at h1 h2 e3 ⊢
    exact ⟨by rw [p3]; exact h1, by rw [p5]; exact h2, e3⟩
/-- a FLIP is planned -/
theorem r_285 {x1 x2 i x3 : Int} (h64 : ρ 83 64 = 1) (h48 : ρ 83 48 = N) (hN : 0 ≤ N ∧ N ≤ 4096) (h77 : ρ 83 77 = 0) (h81 : ρ 83 81 = 0) (h85 : ρ 83 85 = 0) (h1 : x1 = 0 ∨ x1 = 1) (h2 : -2 ≤ x2 ∧ x2 < N) (hi : 0 ≤ i ∧ i < 64) (h3 : 0 ≤ x3 ∧ x3 < 2147483648) (he : 1 ≤ e) : ∃ ρ' : js_S, js_J E e 285 0 [(2, 83), (0, x1), (0, x2), (0, i), (0, x3)] [] ρ = js_r E (0, 1) ρ' ∧ (ρ' 127 0 = x1 ∧ ρ' 128 0 = x2 ∧ ρ' 129 0 = i ∧ ρ' 130 0 = x3 ∧ ρ' 83 85 = 1) ∧ ∀ a j : Int, ¬ (a = 83 ∧ (j = 0 ∨ j = 85)) → ¬ (127 ≤ a ∧ a ≤ 130) → ρ' a j = ρ a j := by
  have w1 : js_w x1 = x1 := js_w_of (by omega) (by omega)
  have w2 : js_w x2 = x2 := js_w_of (by omega) (by omega)
  have wi : js_w i = i := js_w_of (by omega) (by omega)
  have w3 : js_w x3 = x3 := js_w_of (by omega) (by omega)
  have wN : js_w N = N := js_w_of (by omega) (by omega)
  have u : ∀ j : Int, j ≠ 0 → js_up ρ 83 0 0 83 j = ρ 83 j := fun j q => js_up_ni _ q
  have e86 : js_J E (e - 1) 286 0 [(2, 83), (0, x1), (0, x2)] [] (js_up ρ 83 0 0) = js_r E (0, 1) (js_up ρ 83 0 0) := by
    rw [b_286_0, u 64 (by decide), h64, if_neg (by decide), w1, if_neg (by omega), if_pos (by omega), w2, if_neg (by omega), u 48 (by decide), h48, wN, if_pos h2.2]
  have z : js_w 0 = 0 := rfl
  refine ⟨_, by rw [b_285_0, k_285_8 he e86, b_285_11, if_neg (show ¬ js_w 1 = 0 by decide), wi, if_neg (by omega), if_neg (by omega), u 81 (by decide), h81, z, if_neg (by decide), u 85 (by decide), h85, z, if_neg (by decide), u 77 (by decide), h77, z, if_neg (by decide), b_285_57, w3, z, if_neg (by omega), u 85 (by decide), h85, z, if_pos (by decide)], ⟨?_, ?_, ?_, ?_, ?_⟩, fun a j g1 g2 => ?_⟩
  · rw [js_up_na _ (by decide), js_up_na _ (by decide), js_up_na _ (by decide), js_up_na _ (by decide), js_up_same]
  · rw [js_up_na _ (by decide), js_up_na _ (by decide), js_up_na _ (by decide), js_up_same]
  · rw [js_up_na _ (by decide), js_up_na _ (by decide), js_up_same]
  · rw [js_up_na _ (by decide), js_up_same]
  · rw [js_up_same]
    rfl
  · rw [js_up_ne _ (by omega), js_up_ne _ (by omega), js_up_ne _ (by omega), js_up_ne _ (by omega), js_up_ne _ (by omega), js_up_ne _ (by omega)]
/-- what a Run that is over has left alone -/
theorem pe_fr {ρ3 : js_S} (h : peR T N σ ρ ρ3) : ∀ a i : Int, ¬ (a = 83 ∧ 77 ≤ i ∧ i ≤ 85) → ¬ (120 ≤ a ∧ a ≤ 124) → ¬ (a = 126 ∧ pe_B ρ ≤ i ∧ i < pe_B ρ + ou_o ρ T) → ρ3 a i = ρ a i := by
  intro a i g1 g2 g3
  obtain ⟨ρ', K, f, _, _, c⟩ := h
  have pb : pe_B ρ' = pe_B ρ := by
    unfold pe_B
    rw [f 83 82 (by omega) (by omega)]
  have oo : ou_o ρ' T = ou_o ρ T := ou_o_e2 T (fun i _ _ => ⟨f _ _ (by omega) (by omega), f _ _ (by omega) (by omega)⟩)
  rcases c with ⟨_, _, e⟩ | ⟨_, _, ρ4, m, _, e⟩
  · rw [e, th_o (by omega) (by omega), js_up_ne _ (by omega), f _ _ (by omega) (by omega)]
  · rw [e, th_o (by omega) (by omega), js_up_ne _ (by omega), m _ _ (by rw [pb, oo]; exact g3), f _ _ (by omega) (by omega)]
end PG
