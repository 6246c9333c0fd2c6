/-! part 99.zzzzzzn: what the relation of both machines hangs on -/
theorem in_o_e2 {ρ ρ' : js_S} : ∀ k : Nat, (∀ i : Int, 0 ≤ i → i < k → ρ' 86 i = ρ 86 i ∧ ρ' 91 i = ρ 91 i) → in_o ρ' k = in_o ρ k
  | 0, _ => rfl
  | k + 1, h => by
    have e := h k (by omega) (by push_cast; omega)
    show in_o ρ' k + (if ρ' 86 k = 1 then ρ' 91 k else 0) = in_o ρ k + (if ρ 86 k = 1 then ρ 91 k else 0)
    rw [in_o_e2 k (fun i i1 i2 => h i i1 (by push_cast; omega)), e.1, e.2]
theorem ou_o_e2 {ρ ρ' : js_S} : ∀ k : Nat, (∀ i : Int, 0 ≤ i → i < k → ρ' 86 i = ρ 86 i ∧ ρ' 91 i = ρ 91 i) → ou_o ρ' k = ou_o ρ k
  | 0, _ => rfl
  | k + 1, h => by
    have e := h k (by omega) (by push_cast; omega)
    show ou_o ρ' k + (if ρ' 86 k = 2 then ρ' 91 k else 0) = ou_o ρ k + (if ρ 86 k = 2 then ρ 91 k else 0)
    rw [ou_o_e2 k (fun i i1 i2 => h i i1 (by push_cast; omega)), e.1, e.2]
/-- the reference's cells that its machine hangs on are the same -/
def mm_R (T : Nat) (ρ ρ' : js_S) : Prop := (∀ i : Int, i = 11 ∨ 46 ≤ i ∧ i ≤ 51 ∨ 77 ≤ i ∧ i ≤ 85 → ρ' 83 i = ρ 83 i) ∧ (∀ a i : Int, 86 ≤ a ∧ a ≤ 95 ∨ a = 97 → 0 ≤ i → i < T → ρ' a i = ρ a i) ∧ (∀ i k : Int, 0 ≤ i → i < T → 0 ≤ k → k < ρ 97 i → ρ' 98 (20 * i + k) = ρ 98 (20 * i + k)) ∧ (∀ a p : Int, 111 ≤ a → a ≤ 115 → 0 ≤ p → p < ρ 83 49 → ρ' a p = ρ a p) ∧ ∀ a i : Int, 120 ≤ a → a ≤ 130 → ρ' a i = ρ a i
section MV
variable {E : js_E} {Fu : Int → Int → Int → Prop} {ac zc b N : Int} {T : Nat} {σ ρ σ' ρ' : js_S}
theorem mm_of (q : ∀ i : Int, ¬ (i = 0 ∨ i = 2 ∨ 86 ≤ i) → ρ' 83 i = ρ 83 i) (y : ∀ a i : Int, 85 ≤ a → a ≤ 130 → ρ' a i = ρ a i) : mm_R T ρ ρ' :=
  ⟨fun i g => q i (by omega), fun a i g _ _ => y a i (by omega) (by omega), fun i k _ _ _ _ => y _ _ (by decide) (by decide), fun a p g1 g2 _ _ => y _ _ (by omega) (by omega), fun a i g1 g2 => y a i (by omega) g2⟩
theorem pr_gen2 (hb : b = 0 ∨ b = 25) (hp : pr_R E b T N σ ρ) (h1 : ∀ a i : Int, 7 + b ≤ a → a ≤ 20 + b → σ' a i = σ a i) (h2 : ∀ k i : Int, 0 ≤ k → k < T → σ' (σ (19 + b) k) i = σ (σ (19 + b) k) i) (h0 : σ (-1) 0 ≤ σ' (-1) 0) (m : mm_R T ρ ρ') : pr_R E b T N σ' ρ' := by
  obtain ⟨⟨⟨a1, a2, a3⟩, a4, a5, a6⟩, ⟨⟨b1, b2, b3⟩, b4, ⟨b5, b6, b7⟩, b8, b9⟩, c1, c2, c3, c4⟩ := hp
  obtain ⟨x, yS, yN, yC, _⟩ := m
  have s : ∀ a i : Int, 7 + b ≤ a → a ≤ 20 + b → σ' a i = σ a i := h1
  refine ⟨⟨⟨a1, by rw [x _ (by decide)]; exact a2, by rw [s _ _ (by omega) (by omega)]; exact a3⟩, a4, by rw [x _ (by decide)]; exact a5, by rw [s _ _ (by omega) (by omega)]; exact a6⟩, ⟨⟨by rw [x _ (by decide)]; exact b1, by rw [x _ (by decide)]; exact b2, by rw [x _ (by decide), s _ _ (by omega) (by omega)]; exact b3⟩, by rw [x _ (by decide), s _ _ (by omega) (by omega)]; exact b4, ⟨by rw [x _ (by decide)]; exact b5, by rw [x _ (by decide)]; exact b6, by rw [x _ (by decide), s _ _ (by omega) (by omega)]; exact b7⟩, by rw [x _ (by decide), s _ _ (by omega) (by omega)]; exact b8, by rw [x _ (by decide), s _ _ (by omega) (by omega)]; exact b9⟩, fun i i1 i2 => ?_, fun p p1 p2 => ?_, fun i i1 i2 => ?_, fun i i1 i2 => ?_⟩
  · obtain ⟨⟨d1, d2⟩, d3, d4, d5, d6⟩ := c1 i i1 i2
    have u : ∀ k : Int, σ' (σ (19 + b) i) k = σ (σ (19 + b) i) k := fun k => h2 i k i1 i2
    have k := s (19 + b) i (by omega) (by omega)
    unfold sp_P
    rw [k, u, u, u, u, u, u, u, u, u, u, u, yS 86 _ (by decide) i1 i2, yS 87 _ (by decide) i1 i2, yS 88 _ (by decide) i1 i2, yS 89 _ (by decide) i1 i2, yS 90 _ (by decide) i1 i2, yS 91 _ (by decide) i1 i2, yS 92 _ (by decide) i1 i2, yS 93 _ (by decide) i1 i2, yS 94 _ (by decide) i1 i2, yS 95 _ (by decide) i1 i2, yS 97 _ (by decide) i1 i2]
    refine ⟨⟨js_desc_mono d1 h0 (fun _ => u _), d2⟩, d3, d4, d5, fun k k1 k2 => ?_⟩
    rw [s _ _ (by omega) (by omega), yN i k i1 i2 k1 k2]
    exact d6 k k1 k2
  · rw [x _ (by decide)] at p2
    have a := c2 p p1 p2
    unfold ce_P at a ⊢
    rw [s _ _ (by omega) (by omega), s _ _ (by omega) (by omega), s _ _ (by omega) (by omega), s _ _ (by omega) (by omega), s _ _ (by omega) (by omega), yC 111 _ (by decide) (by decide) p1 p2, yC 112 _ (by decide) (by decide) p1 p2, yC 113 _ (by decide) (by decide) p1 p2, yC 114 _ (by decide) (by decide) p1 p2, yC 115 _ (by decide) (by decide) p1 p2]
    exact a
  · rw [yS 86 _ (by decide) i1 i2]
    exact c3 i i1 i2
  · rw [yS 86 _ (by decide) i1 i2, yS 88 _ (by decide) i1 i2, yS 89 _ (by decide) i1 i2, yS 90 _ (by decide) i1 i2, yS 91 _ (by decide) i1 i2, yS 94 _ (by decide) i1 i2]
    exact c4 i i1 i2
theorem cq_mv {x0 c : Int} (hx : x0 = 59 ∨ x0 = 62) (g : cq_R N x0 c σ ρ) (s : ∀ a i : Int, 56 ≤ a → a ≤ 82 → ¬ (a = 82) → σ' a i = σ a i) (y : ∀ a i : Int, 120 ≤ a → a ≤ 130 → ρ' a i = ρ a i) : cq_R N x0 c σ' ρ' :=
  ⟨by rw [s _ _ (by omega) (by omega) (by omega), y _ _ (by decide) (by decide)]; exact g.1, by rw [s _ _ (by omega) (by omega) (by omega), y _ _ (by decide) (by decide)]; exact g.2.1, fun k k1 k2 => by rw [s _ _ (by omega) (by omega) (by omega), y _ _ (by decide) (by decide)]; exact g.2.2 k k1 k2⟩
theorem rn_mv (h : rn_R Fu ac zc N 0 σ ρ) (s : ∀ a i : Int, 56 ≤ a → a ≤ 82 → ¬ (a = 82) → σ' a i = σ a i) (m : mm_R T ρ ρ') : rn_R Fu ac zc N 0 σ' ρ' := by
  obtain ⟨⟨b1, b2⟩, ⟨c1, c2, c3, c4, c5⟩, ⟨d1, d2⟩, m1, m2, m3, n, l, m4, m5⟩ := h
  obtain ⟨q, _, _, _, y⟩ := m
  refine ⟨⟨by rw [s _ _ (by decide) (by decide) (by decide), q _ (by decide)]; exact b1, by rw [q _ (by decide)]; exact b2⟩, ⟨by rw [s _ _ (by decide) (by decide) (by decide), q _ (by decide)]; exact c1, by rw [s _ _ (by decide) (by decide) (by decide), q 79 (by decide), q 80 (by decide)]; exact c2, by rw [s _ _ (by decide) (by decide) (by decide)]; exact c3, by rw [q 80 (by decide), q 51 (by decide)]; exact c4, by rw [s _ _ (by decide) (by decide) (by decide), q 77 (by decide)]; exact c5⟩, ⟨cq_mv (Or.inl (by decide)) d1 s y, cq_mv (Or.inr (by decide)) d2 s y⟩, ?_⟩
  rw [q 77 (by decide), q 78 (by decide)]
  have e7 : 59 ≤ 56 + 0 + 3 * ρ 83 77 ∧ 56 + 0 + 3 * ρ 83 77 ≤ 62 := by omega
  exact ⟨by rw [s _ _ (by omega) (by omega) (by omega)]; exact m1, by rw [s _ _ (by omega) (by omega) (by omega), y _ _ (by decide) (by decide)]; exact m2, fun k k1 k2 => by
    rw [y 124 _ (by decide) (by decide)] at k2
    rw [s _ _ (by omega) (by omega) (by omega), y 123 _ (by decide) (by decide)]
    exact m3 k k1 k2, n, l, by rw [y _ _ (by decide) (by decide)]; exact m4, ms_bk n _ _ (fun k _ _ => y _ _ (by decide) (by decide)) m5⟩
theorem wc_mv (h : wc_P Fu ac zc N ρ) (m : mm_R T ρ ρ') : wc_P Fu ac zc N ρ' := by
  obtain ⟨q, _, _, yC, _⟩ := m
  have e : ∀ a z l p : Int, 0 ≤ p ∧ p < ρ 83 49 → wm_P Fu N ρ a z l p → wm_P Fu N ρ' a z l p := fun a z l p g0 g => by
    unfold wm_P at g ⊢
    rw [yC 111 p (by decide) (by decide) g0.1 g0.2, yC 112 p (by decide) (by decide) g0.1 g0.2, yC 113 p (by decide) (by decide) g0.1 g0.2]
    exact g
  refine ⟨fun a z l hf p p1 p2 => ?_, fun p p1 p2 => ?_⟩
  · have g := h.1 a z l hf p p1 p2
    rw [q _ (by decide)]
    exact ⟨g.1, e _ _ _ _ g.1 g.2⟩
  · have g := h.2 p p1 p2
    rw [q _ (by decide)]
    exact ⟨g.1, e _ _ _ _ g.1 g.2⟩
/-- the machines are the same wherever their own cells are -/
theorem mh_mx (hb : b = 0 ∨ b = 25) (h : mh_R E Fu ac zc b N T σ ρ) (h1 : ∀ a i : Int, 7 + b ≤ a → a ≤ 20 + b → σ' a i = σ a i) (h2 : ∀ k i : Int, 0 ≤ k → k < T → σ' (σ (19 + b) k) i = σ (σ (19 + b) k) i) (sm : ∀ a i : Int, 56 ≤ a → a ≤ 82 → ¬ (a = 82) → σ' a i = σ a i) (h0 : σ (-1) 0 ≤ σ' (-1) 0) (m : mm_R T ρ ρ') : mh_R E Fu ac zc b N T σ' ρ' := by
  obtain ⟨hA, hh⟩ := h
  obtain ⟨⟨a1, a2, a3, a4, a5, a6⟩, ⟨b1, b2, b3, b4, b5⟩, hv, hk⟩ := hA
  obtain ⟨n, hfq⟩ := hv.2.2.2
  have m' := m
  obtain ⟨q, yS, yN, yC, y⟩ := m'
  have io : ∀ k : Nat, k ≤ T → in_o ρ' k = in_o ρ k := fun k hk => in_o_e2 k (fun i i1 i2 => ⟨yS _ _ (by decide) i1 (by omega), yS _ _ (by decide) i1 (by omega)⟩)
  have oo : ou_o ρ' T = ou_o ρ T := ou_o_e2 T (fun i i1 i2 => ⟨yS _ _ (by decide) i1 (by omega), yS _ _ (by decide) i1 (by omega)⟩)
  refine ⟨⟨⟨by rw [sm _ _ (by decide) (by decide) (by decide)]; exact a1, pr_gen2 hb a2 h1 h2 h0 m, wc_mv a3 m, by rw [q _ (by decide)]; exact a4, by rw [io T (Nat.le_refl _)]; exact a5, fun t t1 t2 t3 i i1 i2 => ?_⟩, ⟨by rw [oo, q _ (by decide)]; exact b1, by rw [oo]; exact b2, by rw [oo]; exact b3, b4, fun s t t1 t2 t3 t4 t5 => ?_⟩, ⟨by rw [sm _ _ (by decide) (by decide) (by decide), q _ (by decide)]; exact hv.1, by rw [sm _ _ (by decide) (by decide) (by decide), q _ (by decide)]; exact hv.2.1, by rw [sm _ _ (by decide) (by decide) (by decide), q _ (by decide)]; exact hv.2.2.1, n, ⟨hfq.1.1, by rw [sm _ _ (by decide) (by decide) (by decide)]; exact hfq.1.2.1, by rw [q _ (by decide)]; exact hfq.1.2.2⟩, fun k k1 k2 => ?_⟩, fun m m1 m2 m3 j j1 j2 => ?_⟩, ?_⟩
  · rw [yS 86 _ (by decide) t1 t2] at t3
    rw [yS 91 _ (by decide) t1 t2] at i2
    rw [io _ (by omega), sm _ _ (by decide) (by decide) (by decide), yS 90 _ (by decide) t1 t2, y 125 _ (by decide) (by decide), yS 88 _ (by decide) t1 t2, yS 89 _ (by decide) t1 t2]
    exact a6 t t1 t2 t3 i i1 i2
  · rw [yS 86 s (by decide) (by omega) (by omega)] at t4
    rw [yS 86 t (by decide) (by omega) (by omega)] at t5
    rw [yS 90 s (by decide) (by omega) (by omega), yS 91 s (by decide) (by omega) (by omega), yS 90 t (by decide) (by omega) (by omega)]
    exact b5 s t t1 t2 t3 t4 t5
  · rw [sm _ _ (by decide) (by decide) (by decide), sm _ _ (by decide) (by decide) (by decide), sm _ _ (by decide) (by decide) (by decide), sm _ _ (by decide) (by decide) (by decide), y 127 _ (by decide) (by decide), y 128 _ (by decide) (by decide), y 129 _ (by decide) (by decide), y 130 _ (by decide) (by decide)]
    exact hfq.2 k k1 k2
  · rw [q _ (by decide)] at m2 m3
    rw [oo] at j2 ⊢
    rw [sm _ _ (by decide) (by decide) (by decide), y _ _ (by decide) (by decide)]
    exact hk m m1 m2 m3 j j1 j2
  · rcases hh with ⟨a, c1, c2⟩ | ⟨a, c⟩
    · exact Or.inl ⟨⟨by rw [sm _ _ (by decide) (by decide) (by decide)]; exact a.1, by rw [q _ (by decide)]; exact a.2.1, by rw [sm _ _ (by decide) (by decide) (by decide)]; exact a.2.2.1, by rw [q _ (by decide)]; exact a.2.2.2⟩, cq_mv (Or.inl rfl) c1 sm y, cq_mv (Or.inr rfl) c2 sm y⟩
    · exact Or.inr ⟨by rw [q _ (by decide)]; exact a, rn_mv c sm m⟩
theorem mh_mv (hb : b = 0 ∨ b = 25) (h : mh_R E Fu ac zc b N T σ ρ) (h1 : ∀ a i : Int, 7 + b ≤ a → a ≤ 20 + b → σ' a i = σ a i) (h2 : ∀ k i : Int, 0 ≤ k → k < T → σ' (σ (19 + b) k) i = σ (σ (19 + b) k) i) (sm : ∀ a i : Int, 56 ≤ a → a ≤ 82 → ¬ (a = 82) → σ' a i = σ a i) (h0 : σ (-1) 0 ≤ σ' (-1) 0) (q : ∀ i : Int, ¬ (i = 0 ∨ i = 2 ∨ 86 ≤ i) → ρ' 83 i = ρ 83 i) (y : ∀ a i : Int, 85 ≤ a → a ≤ 130 → ρ' a i = ρ a i) : mh_R E Fu ac zc b N T σ' ρ' :=
  mh_mx hb h h1 h2 sm h0 (mm_of q y)
end MV
