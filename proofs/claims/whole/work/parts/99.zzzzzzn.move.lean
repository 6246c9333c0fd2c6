/-! part 99.zzzzzzn: what the relation of both machines hangs on -/
section MV
variable {E : js_E} {Fu : Int → Int → Int → Prop} {ac zc b N : Int} {T : Nat} {σ ρ σ' ρ' : js_S}
theorem pr_gen2 (hb : b = 0 ∨ b = 25) (hp : pr_R E b T N σ ρ) (h1 : ∀ a i : Int, 7 + b ≤ a → a ≤ 20 + b → σ' a i = σ a i) (h2 : ∀ k i : Int, 0 ≤ k → k < T → σ' (σ (19 + b) k) i = σ (σ (19 + b) k) i) (h0 : σ (-1) 0 ≤ σ' (-1) 0) (x : ∀ i : Int, ¬ (i = 0 ∨ 77 ≤ i) → ρ' 83 i = ρ 83 i) (y : ∀ a i : Int, 84 ≤ a → a ≤ 119 → ρ' a i = ρ a i) : pr_R E b T N σ' ρ' := by
  obtain ⟨⟨⟨a1, a2, a3⟩, a4, a5, a6⟩, ⟨⟨b1, b2, b3⟩, b4, ⟨b5, b6, b7⟩, b8, b9⟩, c1, c2, c3, c4⟩ := hp
  have s : ∀ a i : Int, 7 + b ≤ a → a ≤ 20 + b → σ' a i = σ a i := h1
  refine ⟨⟨⟨a1, by rw [x _ (by decide)]; exact a2, by rw [s _ _ (by omega) (by omega)]; exact a3⟩, a4, by rw [x _ (by decide)]; exact a5, by rw [s _ _ (by omega) (by omega)]; exact a6⟩, ⟨⟨by rw [x _ (by decide)]; exact b1, by rw [x _ (by decide)]; exact b2, by rw [x _ (by decide), s _ _ (by omega) (by omega)]; exact b3⟩, by rw [x _ (by decide), s _ _ (by omega) (by omega)]; exact b4, ⟨by rw [x _ (by decide)]; exact b5, by rw [x _ (by decide)]; exact b6, by rw [x _ (by decide), s _ _ (by omega) (by omega)]; exact b7⟩, by rw [x _ (by decide), s _ _ (by omega) (by omega)]; exact b8, by rw [x _ (by decide), s _ _ (by omega) (by omega)]; exact b9⟩, fun i i1 i2 => ?_, fun p p1 p2 => ?_, fun i i1 i2 => ?_, fun i i1 i2 => ?_⟩
  · obtain ⟨⟨d1, d2⟩, d3, d4, d5, d6⟩ := c1 i i1 i2
    have g := js_sym_ge d1
    have u : ∀ k : Int, σ' (σ (19 + b) i) k = σ (σ (19 + b) i) k := fun k => h2 i k i1 i2
    have k := s (19 + b) i (by omega) (by omega)
    unfold sp_P
    rw [k, u, u, u, u, u, u, u, u, u, u, u, y 86 _ (by decide) (by decide), y 87 _ (by decide) (by decide), y 88 _ (by decide) (by decide), y 89 _ (by decide) (by decide), y 90 _ (by decide) (by decide), y 91 _ (by decide) (by decide), y 92 _ (by decide) (by decide), y 93 _ (by decide) (by decide), y 94 _ (by decide) (by decide), y 95 _ (by decide) (by decide), y 97 _ (by decide) (by decide)]
    refine ⟨⟨js_desc_mono d1 h0 (fun _ => u _), d2⟩, d3, d4, d5, fun k k1 k2 => ?_⟩
    rw [s _ _ (by omega) (by omega), y 98 _ (by decide) (by decide)]
    exact d6 k k1 k2
  · rw [x _ (by decide)] at p2
    have a := c2 p p1 p2
    unfold ce_P at a ⊢
    rw [s _ _ (by omega) (by omega), s _ _ (by omega) (by omega), s _ _ (by omega) (by omega), s _ _ (by omega) (by omega), s _ _ (by omega) (by omega), y 111 _ (by decide) (by decide), y 112 _ (by decide) (by decide), y 113 _ (by decide) (by decide), y 114 _ (by decide) (by decide), y 115 _ (by decide) (by decide)]
    exact a
  · rw [y 86 _ (by decide) (by decide)]
    exact c3 i i1 i2
  · rw [y 86 _ (by decide) (by decide), y 88 _ (by decide) (by decide), y 89 _ (by decide) (by decide), y 90 _ (by decide) (by decide), y 91 _ (by decide) (by decide), y 94 _ (by decide) (by decide)]
    exact c4 i i1 i2
theorem cq_mv {x0 c : Int} (hx : x0 = 59 ∨ x0 = 62) (g : cq_R N x0 c σ ρ) (s : ∀ a i : Int, 56 ≤ a → a ≤ 82 → ¬ (a = 82) → σ' a i = σ a i) (y : ∀ a i : Int, 84 ≤ a → a ≤ 130 → ρ' a i = ρ a i) : cq_R N x0 c σ' ρ' :=
  ⟨by rw [s _ _ (by omega) (by omega) (by omega), y _ _ (by decide) (by decide)]; exact g.1, by rw [s _ _ (by omega) (by omega) (by omega), y _ _ (by decide) (by decide)]; exact g.2.1, fun k k1 k2 => by rw [s _ _ (by omega) (by omega) (by omega), y _ _ (by decide) (by decide)]; exact g.2.2 k k1 k2⟩
theorem rn_mv (h : rn_R Fu ac zc N 0 σ ρ) (s : ∀ a i : Int, 56 ≤ a → a ≤ 82 → ¬ (a = 82) → σ' a i = σ a i) (q : ∀ i : Int, ¬ (i = 0 ∨ 86 ≤ i) → ρ' 83 i = ρ 83 i) (y : ∀ a i : Int, 84 ≤ a → a ≤ 130 → ρ' a i = ρ a i) : rn_R Fu ac zc N 0 σ' ρ' := by
  obtain ⟨⟨b1, b2⟩, ⟨c1, c2, c3, c4, c5⟩, ⟨d1, d2⟩, m1, m2, m3, n, l, m4, m5⟩ := h
  refine ⟨⟨by rw [s _ _ (by decide) (by decide) (by decide), q _ (by decide)]; exact b1, by rw [q _ (by decide)]; exact b2⟩, ⟨by rw [s _ _ (by decide) (by decide) (by decide), q _ (by decide)]; exact c1, by rw [s _ _ (by decide) (by decide) (by decide), q 79 (by decide), q 80 (by decide)]; exact c2, by rw [s _ _ (by decide) (by decide) (by decide)]; exact c3, by rw [q 80 (by decide), q 51 (by decide)]; exact c4, by rw [s _ _ (by decide) (by decide) (by decide), q 77 (by decide)]; exact c5⟩, ⟨cq_mv (Or.inl (by decide)) d1 s y, cq_mv (Or.inr (by decide)) d2 s y⟩, ?_⟩
  rw [q 77 (by decide), q 78 (by decide)]
  have e7 : 59 ≤ 56 + 0 + 3 * ρ 83 77 ∧ 56 + 0 + 3 * ρ 83 77 ≤ 62 := by omega
  exact ⟨by rw [s _ _ (by omega) (by omega) (by omega)]; exact m1, by rw [s _ _ (by omega) (by omega) (by omega), y _ _ (by decide) (by decide)]; exact m2, fun k k1 k2 => by
    rw [y 124 _ (by decide) (by decide)] at k2
    rw [s _ _ (by omega) (by omega) (by omega), y 123 _ (by decide) (by decide)]
    exact m3 k k1 k2, n, l, by rw [y _ _ (by decide) (by decide)]; exact m4, ms_bk n _ _ (fun k _ _ => y _ _ (by decide) (by decide)) m5⟩
/-- the machines are the same wherever their own cells are -/
theorem mh_mv (hb : b = 0 ∨ b = 25) (h : mh_R E Fu ac zc b N T σ ρ) (h1 : ∀ a i : Int, 7 + b ≤ a → a ≤ 20 + b → σ' a i = σ a i) (h2 : ∀ k i : Int, 0 ≤ k → k < T → σ' (σ (19 + b) k) i = σ (σ (19 + b) k) i) (sm : ∀ a i : Int, 56 ≤ a → a ≤ 82 → ¬ (a = 82) → σ' a i = σ a i) (h0 : σ (-1) 0 ≤ σ' (-1) 0) (q : ∀ i : Int, ¬ (i = 0 ∨ 86 ≤ i) → ρ' 83 i = ρ 83 i) (y : ∀ a i : Int, 84 ≤ a → a ≤ 130 → ρ' a i = ρ a i) : mh_R E Fu ac zc b N T σ' ρ' := by
  obtain ⟨hA, hh⟩ := h
  obtain ⟨⟨a1, a2, a3, a4, a5, a6⟩, ⟨b1, b2, b3, b4, b5⟩, hv, hk⟩ := hA
  obtain ⟨n, hfq⟩ := hv.2.2.2
  have y' : ∀ a i : Int, 84 ≤ a → a ≤ 119 → ρ' a i = ρ a i := fun a i g1 g2 => y a i g1 (by omega)
  have x : ∀ i : Int, ¬ (i = 0 ∨ 77 ≤ i) → ρ' 83 i = ρ 83 i := fun i g => q i (by omega)
  refine ⟨⟨⟨by rw [sm _ _ (by decide) (by decide) (by decide)]; exact a1, ?_, wc_of a3 (fun a i g1 g2 => y a i (by omega) (by omega)) (x _ (by decide)), by rw [x _ (by decide)]; exact a4, by rw [in_o_eq y']; exact a5, fun t t1 t2 t3 i i1 i2 => ?_⟩, ⟨by rw [ou_o_eq y', x _ (by decide)]; exact b1, by rw [ou_o_eq y']; exact b2, by rw [ou_o_eq y']; exact b3, b4, pd_eq b5 y'⟩, ⟨by rw [sm _ _ (by decide) (by decide) (by decide), q _ (by decide)]; exact hv.1, by rw [sm _ _ (by decide) (by decide) (by decide), q _ (by decide)]; exact hv.2.1, by rw [sm _ _ (by decide) (by decide) (by decide), q _ (by decide)]; exact hv.2.2.1, n, ⟨hfq.1.1, by rw [sm _ _ (by decide) (by decide) (by decide)]; exact hfq.1.2.1, by rw [q _ (by decide)]; exact hfq.1.2.2⟩, fun k k1 k2 => ?_⟩, ?_⟩, ?_⟩
  · exact pr_gen2 hb a2 h1 h2 h0 x y'
  · rw [y' 86 _ (by decide) (by decide)] at t3
    rw [y' 91 _ (by decide) (by decide)] at i2
    rw [in_o_eq y', sm _ _ (by decide) (by decide) (by decide), y' 90 _ (by decide) (by decide), y 125 _ (by decide) (by decide), y' 88 _ (by decide) (by decide), y' 89 _ (by decide) (by decide)]
    exact a6 t t1 t2 t3 i i1 i2
  · rw [sm _ _ (by decide) (by decide) (by decide), sm _ _ (by decide) (by decide) (by decide), sm _ _ (by decide) (by decide) (by decide), sm _ _ (by decide) (by decide) (by decide), y 127 _ (by decide) (by decide), y 128 _ (by decide) (by decide), y 129 _ (by decide) (by decide), y 130 _ (by decide) (by decide)]
    exact hfq.2 k k1 k2
  · exact ko_eq hk (fun i => sm _ _ (by decide) (by decide) (by decide)) (fun i => y _ _ (by decide) (by decide)) (q _ (by decide)) y'
  · rcases hh with ⟨a, c1, c2⟩ | ⟨a, c⟩
    · exact Or.inl ⟨⟨by rw [sm _ _ (by decide) (by decide) (by decide)]; exact a.1, by rw [q _ (by decide)]; exact a.2.1, by rw [sm _ _ (by decide) (by decide) (by decide)]; exact a.2.2.1, by rw [q _ (by decide)]; exact a.2.2.2⟩, cq_mv (Or.inl rfl) c1 sm y, cq_mv (Or.inr rfl) c2 sm y⟩
    · exact Or.inr ⟨by rw [q _ (by decide)]; exact a, rn_mv c sm q y⟩
end MV
