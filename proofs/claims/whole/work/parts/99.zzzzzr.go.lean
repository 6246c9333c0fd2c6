/-! part 99.zzzzzr: a STEP of the machine, with its FLIPS and its end, by both -/
/-- the outs of the latest CYCLES are the same -/
def ko_R (T : Nat) (σ ρ : js_S) : Prop := ∀ m : Int, 1 ≤ m → m ≤ ρ 83 82 → ρ 83 82 < m + 16 → ∀ j : Int, 0 ≤ j → j < ou_o ρ T → js_w (σ 81 (m % 16 * ou_o ρ T + j)) = js_w (ρ 126 (4096 * ((m - 1) % 16) + j))
/-- the CELLs of ports follow one another -/
def pd_P (T : Nat) (ρ : js_S) : Prop := ∀ s t : Int, 0 ≤ s → s < t → t < T → 1 ≤ ρ 86 s ∧ ρ 86 s ≤ 3 → 1 ≤ ρ 86 t ∧ ρ 86 t ≤ 3 → ρ 90 s + ρ 91 s ≤ ρ 90 t
/-- the machines are the same, but for the CYCLE that runs -/
def mh_A (E : js_E) (Fu : Int → Int → Int → Prop) (ac zc b N : Int) (T : Nat) (σ ρ : js_S) : Prop := (σ 56 1 = 7 + b ∧ pr_R E b T N σ ρ ∧ wc_P Fu ac zc N ρ ∧ (ac ≤ ρ 83 50 ∧ ρ 83 50 < zc) ∧ gv_R T σ ρ) ∧ (ou_o ρ T = ρ 83 47 ∧ 0 ≤ ou_o ρ T ∧ ou_o ρ T ≤ N ∧ 16 * E.1 < 2147483648 ∧ pd_P T ρ) ∧ ((σ 56 3 = ρ 83 81 ∧ 0 ≤ ρ 83 81 ∧ ρ 83 81 ≤ 3) ∧ (σ 56 4 = ρ 83 82 ∧ 0 ≤ ρ 83 82) ∧ σ 56 9 = ρ 83 83 ∧ ∃ n : Nat, fq_R n N σ ρ) ∧ ko_R T σ ρ
/-- no CYCLE runs -/
def mh_0 (N : Int) (σ ρ : js_S) : Prop := (σ 58 0 = 0 ∧ ρ 83 77 = 0 ∧ σ 58 1 = 0 ∧ ρ 83 79 = 0) ∧ cq_R N 59 0 σ ρ ∧ cq_R N 62 1 σ ρ
def mg_C (σ σ' : js_S) : Prop := ∀ a i : Int, ¬ (56 ≤ a ∧ a ≤ 64) ∨ a = 56 ∧ i = 2 → a ≠ 81 → σ' a i = σ a i
def mg_M (ρ ρ' : js_S) : Prop := ∀ a i : Int, ¬ (a = 83 ∧ 77 ≤ i ∧ i ≤ 85) → ¬ (120 ≤ a ∧ a ≤ 124) → a ≠ 126 → ρ' a i = ρ a i
theorem in_o_eq {ρ ρ' : js_S} (h : ∀ a i : Int, 84 ≤ a → a ≤ 119 → ρ' a i = ρ a i) : ∀ k : Nat, in_o ρ' k = in_o ρ k
  | 0 => rfl
  | k + 1 => by
    show in_o ρ' k + (if ρ' 86 k = 1 then ρ' 91 k else 0) = in_o ρ k + (if ρ 86 k = 1 then ρ 91 k else 0)
    rw [in_o_eq h k, h 86 _ (by decide) (by decide), h 91 _ (by decide) (by decide)]
theorem ou_o_eq {ρ ρ' : js_S} (h : ∀ a i : Int, 84 ≤ a → a ≤ 119 → ρ' a i = ρ a i) : ∀ k : Nat, ou_o ρ' k = ou_o ρ k
  | 0 => rfl
  | k + 1 => by
    show ou_o ρ' k + (if ρ' 86 k = 2 then ρ' 91 k else 0) = ou_o ρ k + (if ρ 86 k = 2 then ρ 91 k else 0)
    rw [ou_o_eq h k, h 86 _ (by decide) (by decide), h 91 _ (by decide) (by decide)]
/-- two rows of W places -/
theorem row_ne {a b W j : Int} (h : a ≠ b) (hj : 0 ≤ j ∧ j < W) : ¬ (b * W ≤ a * W + j ∧ a * W + j < b * W + W) := by
  rcases Int.lt_or_gt_of_ne h with q | q
  · have m := Int.mul_le_mul_of_nonneg_right (show a + 1 ≤ b by omega) (show 0 ≤ W by omega)
    rw [Int.add_mul, Int.one_mul] at m
    omega
  · have m := Int.mul_le_mul_of_nonneg_right (show b + 1 ≤ a by omega) (show 0 ≤ W by omega)
    rw [Int.add_mul, Int.one_mul] at m
    omega
section YR
variable {E : js_E} {d e : Nat} {Fu : Int → Int → Int → Prop} {ac zc b N : Int} {T : Nat} {σ ρ σ' ρ' : js_S}
theorem pr_gen (hb : b = 0 ∨ b = 25) (hp : pr_R E b T N σ ρ) (h1 : ∀ a i : Int, a < 56 ∨ 137 ≤ a → σ' a i = σ a i) (x : ∀ i : Int, ¬ (i = 0 ∨ 77 ≤ i) → ρ' 83 i = ρ 83 i) (y : ∀ a i : Int, 84 ≤ a → a ≤ 119 → ρ' a i = ρ a i) : pr_R E b T N σ' ρ' := by
  obtain ⟨⟨⟨a1, a2, a3⟩, a4, a5, a6⟩, ⟨⟨b1, b2, b3⟩, b4, ⟨b5, b6, b7⟩, b8, b9⟩, c1, c2, c3, c4⟩ := hp
  have s : ∀ a i : Int, a < 56 → σ' a i = σ a i := fun a i g => h1 a i (by omega)
  have u : ∀ a i : Int, 137 ≤ a → σ' a i = σ a i := fun a i g => h1 a i (by omega)
  refine ⟨⟨⟨a1, by rw [x _ (by decide)]; exact a2, by rw [s _ _ (by omega)]; exact a3⟩, a4, by rw [x _ (by decide)]; exact a5, by rw [s _ _ (by omega)]; exact a6⟩, ⟨⟨by rw [x _ (by decide)]; exact b1, by rw [x _ (by decide)]; exact b2, by rw [x _ (by decide), s _ _ (by omega)]; exact b3⟩, by rw [x _ (by decide), s _ _ (by omega)]; exact b4, ⟨by rw [x _ (by decide)]; exact b5, by rw [x _ (by decide)]; exact b6, by rw [x _ (by decide), s _ _ (by omega)]; exact b7⟩, by rw [x _ (by decide), s _ _ (by omega)]; exact b8, by rw [x _ (by decide), s _ _ (by omega)]; exact b9⟩, fun i i1 i2 => ?_, fun p p1 p2 => ?_, fun i i1 i2 => ?_, fun i i1 i2 => ?_⟩
  · obtain ⟨⟨d1, d2⟩, d3, d4, d5, d6⟩ := c1 i i1 i2
    have g := js_sym_ge d1
    have k := s (19 + b) i (by omega)
    unfold sp_P
    rw [k, u _ _ g, u _ _ g, u _ _ g, u _ _ g, u _ _ g, u _ _ g, u _ _ g, u _ _ g, u _ _ g, u _ _ g, u _ _ g, y 86 _ (by decide) (by decide), y 87 _ (by decide) (by decide), y 88 _ (by decide) (by decide), y 89 _ (by decide) (by decide), y 90 _ (by decide) (by decide), y 91 _ (by decide) (by decide), y 92 _ (by decide) (by decide), y 93 _ (by decide) (by decide), y 94 _ (by decide) (by decide), y 95 _ (by decide) (by decide), y 97 _ (by decide) (by decide)]
    refine ⟨⟨js_desc_mono d1 (by rw [s _ _ (by omega)]; exact Int.le_refl _) (fun _ => u _ _ g), d2⟩, d3, d4, d5, fun k k1 k2 => ?_⟩
    rw [s _ _ (by omega), y 98 _ (by decide) (by decide)]
    exact d6 k k1 k2
  · rw [x _ (by decide)] at p2
    have a := c2 p p1 p2
    unfold ce_P at a ⊢
    rw [s _ _ (by omega), s _ _ (by omega), s _ _ (by omega), s _ _ (by omega), s _ _ (by omega), y 111 _ (by decide) (by decide), y 112 _ (by decide) (by decide), y 113 _ (by decide) (by decide), y 114 _ (by decide) (by decide), y 115 _ (by decide) (by decide)]
    exact a
  · rw [y 86 _ (by decide) (by decide)]
    exact c3 i i1 i2
  · rw [y 86 _ (by decide) (by decide), y 88 _ (by decide) (by decide), y 89 _ (by decide) (by decide), y 90 _ (by decide) (by decide), y 91 _ (by decide) (by decide), y 94 _ (by decide) (by decide)]
    exact c4 i i1 i2
theorem pd_eq (h : pd_P T ρ) (y : ∀ a i : Int, 84 ≤ a → a ≤ 119 → ρ' a i = ρ a i) : pd_P T ρ' := by
  intro s t t1 t2 t3 t4 t5
  rw [y 86 _ (by decide) (by decide)] at t4 t5
  rw [y 90 _ (by decide) (by decide), y 91 _ (by decide) (by decide), y 90 _ (by decide) (by decide)]
  exact h s t t1 t2 t3 t4 t5
theorem mh_mk (hb : b = 0 ∨ b = 25) (h : mh_A E Fu ac zc b N T σ ρ) (s : ∀ a i : Int, a < 56 ∨ 137 ≤ a ∨ a = 79 → σ' a i = σ a i) (s1 : σ' 56 1 = σ 56 1) (x : ∀ i : Int, ¬ (i = 0 ∨ 77 ≤ i) → ρ' 83 i = ρ 83 i) (y : ∀ a i : Int, 84 ≤ a ∧ a ≤ 119 ∨ a = 125 → ρ' a i = ρ a i) (c1 : σ' 56 3 = ρ' 83 81 ∧ 0 ≤ ρ' 83 81 ∧ ρ' 83 81 ≤ 3) (c2 : σ' 56 4 = ρ' 83 82 ∧ 0 ≤ ρ' 83 82) (c3 : σ' 56 9 = ρ' 83 83) (c4 : ∃ n : Nat, fq_R n N σ' ρ') (c5 : ko_R T σ' ρ') : mh_A E Fu ac zc b N T σ' ρ' := by
  obtain ⟨⟨a1, a2, a3, a4, a5, a6⟩, ⟨b1, b2, b3, b4, b5⟩, _, _⟩ := h
  have y' : ∀ a i : Int, 84 ≤ a → a ≤ 119 → ρ' a i = ρ a i := fun a i g1 g2 => y a i (by omega)
  refine ⟨⟨by rw [s1]; exact a1, pr_gen hb a2 (fun a i g => s a i (by omega)) x y', wc_of a3 (fun a i g1 g2 => y a i (by omega)) (x _ (by decide)), by rw [x _ (by decide)]; exact a4, ?_, fun t t1 t2 t3 i i1 i2 => ?_⟩, ⟨?_, ?_⟩, ⟨c1, c2, c3, c4⟩, c5⟩
  · rw [in_o_eq y']
    exact a5
  · rw [y' 86 _ (by decide) (by decide)] at t3
    rw [y' 91 _ (by decide) (by decide)] at i2
    rw [in_o_eq y', s _ _ (by omega), y' 90 _ (by decide) (by decide), y 125 _ (by omega), y' 88 _ (by decide) (by decide), y' 89 _ (by decide) (by decide)]
    exact a6 t t1 t2 t3 i i1 i2
  · rw [ou_o_eq y', x _ (by decide)]
    exact b1
  · rw [ou_o_eq y']
    exact ⟨b2, b3, b4, pd_eq b5 y'⟩
theorem ko_eq (h : ko_R T σ ρ) (h1 : ∀ i : Int, σ' 81 i = σ 81 i) (h2 : ∀ i : Int, ρ' 126 i = ρ 126 i) (h3 : ρ' 83 82 = ρ 83 82) (y : ∀ a i : Int, 84 ≤ a → a ≤ 119 → ρ' a i = ρ a i) : ko_R T σ' ρ' := by
  intro m m1 m2 m3 j j1 j2
  rw [h3] at m2 m3
  rw [ou_o_eq y] at j2 ⊢
  rw [h1, h2]
  exact h m m1 m2 m3 j j1 j2
/-- the class's end of a CYCLE that has LATCHED -/
theorem c_latch (hb : b = 0 ∨ b = 25) (h56 : σ 56 1 = 7 + b) {k : Int} (hk : 1 ≤ k ∧ k ≤ 3) (h2 : σ 58 2 = k) : js_J E d 176 0 [(2, 56)] [] σ = js_r0 E (js_up (js_up σ 56 8 0) 56 3 k) := by
  have wk : js_w k = k := js_w_of (by omega) (by omega)
  rw [b_176_0 hb h56, h2, wk, if_neg (show ¬ k = 4 by omega)]
theorem fq_0 {n : Nat} (h1 : σ 56 8 = 0) (h2 : ρ 83 85 = 0) (hn : n = 0) : fq_R n N σ ρ := by
  subst hn
  exact ⟨⟨by decide, h1, h2⟩, fun k k1 k2 => by omega⟩
/-- a CYCLE that has LATCHED is over in both -/
theorem y_latch {k : Int} (hb : b = 0 ∨ b = 25) (hA : mh_A E Fu ac zc b N T σ ρ) (hk : 1 ≤ k ∧ k ≤ 3) (h0 : σ' 58 0 = 0 ∧ σ' 58 1 = 0 ∧ cq_R N 59 0 σ' ρ' ∧ cq_R N 62 1 σ' ρ') (h2 : σ' 58 2 = k) (hC : ∀ a i : Int, ¬ (56 ≤ a ∧ a ≤ 64) ∨ a = 56 ∧ i = 2 → σ' a i = σ a i) (hM : ∀ a i : Int, ¬ (a = 83 ∧ 77 ≤ i ∧ i ≤ 85) → ¬ (120 ≤ a ∧ a ≤ 124) → ρ' a i = ρ a i) (h82 : ρ' 83 82 = ρ 83 82) (h83 : σ' 56 9 = ρ' 83 83) (h56 : σ' 56 1 = σ 56 1) (h564 : σ' 56 4 = σ 56 4) : ∃ σ3 : js_S, js_J E d 176 0 [(2, 56)] [] σ' = js_r0 E σ3 ∧ mg_C σ σ3 ∧ mg_M ρ (th_S (js_up ρ' 83 81 k)) ∧ mh_A E Fu ac zc b N T σ3 (th_S (js_up ρ' 83 81 k)) ∧ mh_0 N σ3 (th_S (js_up ρ' 83 81 k)) ∧ th_S (js_up ρ' 83 81 k) 83 82 = ρ 83 82 := by
  have t : ∀ a i : Int, ¬ (a = 83 ∧ (i = 77 ∨ i = 79 ∨ i = 80 ∨ i = 81 ∨ i = 85)) → a ≠ 124 → th_S (js_up ρ' 83 81 k) a i = ρ' a i := fun a i g1 g2 => by rw [th_o (by omega) (by omega), js_up_ne _ (by omega)]
  have t81 : th_S (js_up ρ' 83 81 k) 83 81 = k := by rw [th_o (by omega) (by omega), js_up_same]
  have t77 : th_S (js_up ρ' 83 81 k) 83 77 = 0 := by unfold th_S; rw [js_up_na _ (by decide), js_up_na _ (by decide), js_up_ni _ (by decide), js_up_ni _ (by decide), js_up_ni _ (by decide), js_up_same]
  have t79 : th_S (js_up ρ' 83 81 k) 83 79 = 0 := by unfold th_S; rw [js_up_na _ (by decide), js_up_na _ (by decide), js_up_ni _ (by decide), js_up_ni _ (by decide), js_up_same]
  have t85 : th_S (js_up ρ' 83 81 k) 83 85 = 0 := by unfold th_S; rw [js_up_na _ (by decide), js_up_na _ (by decide), js_up_same]
  generalize th_S (js_up ρ' 83 81 k) = ρ3 at t t81 t77 t79 t85 ⊢
  have hv := hA.2.2.1
  have g : ∀ a i : Int, ¬ (a = 56 ∧ (i = 3 ∨ i = 8)) → js_up (js_up σ' 56 8 0) 56 3 k a i = σ' a i := fun a i q => by rw [js_up_ne _ (by omega), js_up_ne _ (by omega)]
  have g3 : js_up (js_up σ' 56 8 0) 56 3 k 56 3 = k := js_up_same _ _ _ _
  have g8 : js_up (js_up σ' 56 8 0) 56 3 k 56 8 = 0 := by rw [js_up_ni _ (by decide), js_up_same]
  refine ⟨js_up (js_up σ' 56 8 0) 56 3 k, c_latch hb (by rw [h56]; exact hA.1.1) hk h2, ?_⟩
  generalize js_up (js_up σ' 56 8 0) 56 3 k = σ3 at g g3 g8 ⊢
  have y : ∀ a i : Int, 84 ≤ a ∧ a ≤ 119 ∨ a = 125 → ρ3 a i = ρ a i := fun a i q => by rw [t a i (by omega) (by omega), hM a i (by omega) (by omega)]
  refine ⟨fun a i q1 q2 => by rw [g a i (by omega), hC a i q1], fun a i q1 q2 q3 => by rw [t a i (by omega) (by omega), hM a i q1 q2], mh_mk hb hA (fun a i q => by rw [g a i (by omega), hC a i (by omega)]) (by rw [g _ _ (by omega), h56]) (fun i q => by rw [t _ _ (by omega) (by omega), hM _ _ (by omega) (by omega)]) y ⟨by rw [g3, t81], by rw [t81]; omega, by rw [t81]; omega⟩ ⟨by rw [g _ _ (by omega), h564, t _ _ (by omega) (by omega), h82]; exact hv.2.1.1, by rw [t _ _ (by omega) (by omega), h82]; exact hv.2.1.2⟩ (by rw [g _ _ (by omega), t _ _ (by omega) (by omega)]; exact h83) ⟨0, fq_0 g8 t85 rfl⟩ (ko_eq hA.2.2.2 (fun i => by rw [g _ _ (by omega), hC _ _ (by omega)]) (fun i => by rw [t _ _ (by omega) (by omega), hM _ _ (by omega) (by omega)]) (by rw [t _ _ (by omega) (by omega), h82]) (fun a i q1 q2 => y a i (by omega))), ⟨⟨by rw [g _ _ (by omega)]; exact h0.1, t77, by rw [g _ _ (by omega)]; exact h0.2.1, t79⟩, ?_, ?_⟩, by rw [t _ _ (by omega) (by omega), h82]⟩
  · have c := h0.2.2.1
    exact ⟨by rw [g _ _ (by omega), t _ _ (by omega) (by decide)]; exact c.1, by rw [g _ _ (by omega), t _ _ (by omega) (by decide)]; exact c.2.1, fun k k1 k2 => by rw [g _ _ (by omega), t _ _ (by omega) (by decide)]; exact c.2.2 k k1 k2⟩
  · have c := h0.2.2.2
    exact ⟨by rw [g _ _ (by omega), t _ _ (by omega) (by decide)]; exact c.1, by rw [g _ _ (by omega), t _ _ (by omega) (by decide)]; exact c.2.1, fun k k1 k2 => by rw [g _ _ (by omega), t _ _ (by omega) (by decide)]; exact c.2.2 k k1 k2⟩
end YR
