/-! part 99.zzzzzzb: input, by both -/
section YI2
variable {E : js_E} {d e : Nat} {Fu : Int → Int → Int → Prop} {ac zc b N : Int} {T : Nat} {σ ρ ρ' : js_S}
/-- the reference's error and its offset of a port tell nothing of the machine -/
theorem mh_err (hb : b = 0 ∨ b = 25) (h : mh_R E Fu ac zc b N T σ ρ) (o : ∀ a i : Int, ¬ (a = 83 ∧ (i = 0 ∨ i = 90)) → ρ' a i = ρ a i) : mh_R E Fu ac zc b N T σ ρ' := by
  obtain ⟨hA, hh⟩ := h
  have hv := hA.2.2.1
  obtain ⟨n, hfq⟩ := hv.2.2.2
  have q : ∀ i : Int, i ≠ 0 → i ≠ 90 → ρ' 83 i = ρ 83 i := fun i g1 g2 => o _ _ (by omega)
  have y : ∀ a i : Int, a ≠ 83 → ρ' a i = ρ a i := fun a i g => o _ _ (by omega)
  refine ⟨mh_mk hb hA (fun _ _ _ => rfl) rfl (fun i g => q i (by omega) (by omega)) (fun a i g => y a i (by omega)) (by rw [q _ (by decide) (by decide)]; exact hv.1) (by rw [q _ (by decide) (by decide)]; exact hv.2.1) (by rw [q _ (by decide) (by decide)]; exact hv.2.2.1) ⟨n, ⟨hfq.1.1, hfq.1.2.1, by rw [q _ (by decide) (by decide)]; exact hfq.1.2.2⟩, fun k k1 k2 => ?_⟩ (ko_eq hA.2.2.2 (fun _ => rfl) (fun i => y _ _ (by decide)) (q _ (by decide) (by decide)) (fun a i _ _ => y a i (by omega))), ?_⟩
  · rw [y 127 _ (by decide), y 128 _ (by decide), y 129 _ (by decide), y 130 _ (by decide)]
    exact hfq.2 k k1 k2
  · have cq : ∀ x0 c : Int, cq_R N x0 c σ ρ → cq_R N x0 c σ ρ' := fun x0 c g => ⟨by rw [y _ _ (by decide)]; exact g.1, by rw [y _ _ (by decide)]; exact g.2.1, fun k k1 k2 => by rw [y _ _ (by decide)]; exact g.2.2 k k1 k2⟩
    rcases hh with ⟨a, a2, a3⟩ | ⟨a, a2⟩
    · exact Or.inl ⟨⟨a.1, by rw [q _ (by decide) (by decide)]; exact a.2.1, a.2.2.1, by rw [q _ (by decide) (by decide)]; exact a.2.2.2⟩, cq _ _ a2, cq _ _ a3⟩
    · obtain ⟨⟨b1, b2⟩, ⟨c1, c2, c3, c4, c5⟩, ⟨d1, d2⟩, m1, m2, m3, n, l, m4, m5⟩ := a2
      refine Or.inr ⟨by rw [q _ (by decide) (by decide)]; exact a, ⟨by rw [q _ (by decide) (by decide)]; exact b1, by rw [q _ (by decide) (by decide)]; exact b2⟩, ⟨by rw [q _ (by decide) (by decide)]; exact c1, by rw [q _ (by decide) (by decide), q 80 (by decide) (by decide)]; exact c2, c3, by rw [q _ (by decide) (by decide), q 51 (by decide) (by decide)]; exact c4, by rw [q _ (by decide) (by decide)]; exact c5⟩, ⟨cq _ _ d1, cq _ _ d2⟩, ?_⟩
      rw [q 77 (by decide) (by decide), q 78 (by decide) (by decide)]
      exact ⟨m1, by rw [y _ _ (by decide)]; exact m2, fun k k1 k2 => by
        rw [y _ _ (by decide)] at k2 ⊢
        exact m3 k k1 k2, n, l, by rw [y _ _ (by decide)]; exact m4, ms_bk n _ _ (fun k _ _ => y _ _ (by decide)) m5⟩
/-- a value is given to an in -/
theorem mh_giv (h : mh_R E Fu ac zc b N T σ ρ) {s : Nat} {j v : Int} (hs : s < T) (h1 : ρ 86 s = 1) (hj : 0 ≤ j ∧ j < ρ 91 s) (hv : ρ 88 s ≤ v ∧ v ≤ ρ 89 s) (h0 : mh_0 N σ ρ) (hb : b = 0 ∨ b = 25) : mh_R E Fu ac zc b N T (js_up σ 79 (ρ 90 s + j) v) (js_up ρ 125 (in_o ρ s + j) v) := by
  obtain ⟨⟨⟨a1, a2, a3, a4, a5, a6⟩, ⟨b1, b2, b3, b4, b5⟩, ⟨c1, c2, c3, n, c4⟩, c5⟩, _⟩ := h
  have u : ∀ a i : Int, a ≠ 79 → js_up σ 79 (ρ 90 s + j) v a i = σ a i := fun a i g => js_up_na _ g
  have w : ∀ a i : Int, a ≠ 125 → js_up ρ 125 (in_o ρ s + j) v a i = ρ a i := fun a i g => js_up_na _ g
  have yw : ∀ a i : Int, 84 ≤ a → a ≤ 119 → js_up ρ 125 (in_o ρ s + j) v a i = ρ a i := fun a i _ _ => w a i (by omega)
  have hlen : ∀ i : Int, 0 ≤ i → i < T → ρ 86 i = 1 → 0 ≤ ρ 91 i := fun i i1 i2 i3 => (a2.2.2.2.2.2 i i1 i2 (by omega)).1.1
  have mono := in_o_up (ρ := ρ) (M := T) hlen
  have en : ∀ t : Nat, ρ 86 t = 1 → in_o ρ (t + 1) = in_o ρ t + ρ 91 t := fun t q => by
    show in_o ρ t + (if ρ 86 t = 1 then ρ 91 t else 0) = _
    rw [if_pos q]
  have cq : ∀ x0 c : Int, x0 = 59 ∨ x0 = 62 → cq_R N x0 c σ ρ → cq_R N x0 c (js_up σ 79 (ρ 90 s + j) v) (js_up ρ 125 (in_o ρ s + j) v) := fun x0 c hx g => ⟨by rw [u _ _ (by omega), w _ _ (by decide)]; exact g.1, by rw [u _ _ (by omega), w _ _ (by decide)]; exact g.2.1, fun k k1 k2 => by rw [u _ _ (by omega), w _ _ (by decide)]; exact g.2.2 k k1 k2⟩
  refine ⟨⟨⟨by rw [u _ _ (by decide)]; exact a1, pr_gen hb a2 (fun a i g => u a i (by omega)) (fun i _ => w _ _ (by decide)) yw, wc_of a3 (fun a i g1 g2 => w a i (by omega)) (w _ _ (by decide)), by rw [w _ _ (by decide)]; exact a4, by rw [in_o_eq yw]; exact a5, fun t t1 t2 t3 i i1 i2 => ?_⟩, ⟨by rw [ou_o_eq yw, w _ _ (by decide)]; exact b1, by rw [ou_o_eq yw]; exact b2, by rw [ou_o_eq yw]; exact b3, b4, pd_eq b5 yw⟩, ⟨by rw [u _ _ (by decide), w _ _ (by decide)]; exact c1, by rw [u _ _ (by decide), w _ _ (by decide)]; exact c2, by rw [u _ _ (by decide), w _ _ (by decide)]; exact c3, n, ⟨c4.1.1, by rw [u _ _ (by decide)]; exact c4.1.2.1, by rw [w _ _ (by decide)]; exact c4.1.2.2⟩, fun k k1 k2 => ?_⟩, ko_eq c5 (fun i => u _ _ (by decide)) (fun i => w _ _ (by decide)) (w _ _ (by decide)) yw⟩, Or.inl ⟨⟨by rw [u _ _ (by decide)]; exact h0.1.1, by rw [w _ _ (by decide)]; exact h0.1.2.1, by rw [u _ _ (by decide)]; exact h0.1.2.2.1, by rw [w _ _ (by decide)]; exact h0.1.2.2.2⟩, cq _ _ (Or.inl rfl) h0.2.1, cq _ _ (Or.inr rfl) h0.2.2⟩⟩
  · rw [yw 86 _ (by decide) (by decide)] at t3
    rw [yw 91 _ (by decide) (by decide)] at i2
    rw [in_o_eq yw, yw 90 _ (by decide) (by decide), yw 88 _ (by decide) (by decide), yw 89 _ (by decide) (by decide)]
    have tt : ((t.toNat : Nat) : Int) = t := by omega
    have pt := a2.2.2.2.2.2 t t1 t2 (by omega)
    have psx := a2.2.2.2.2.2 s (by omega) (by omega) (by omega)
    by_cases q : t = s
    · subst q
      rw [show ((s : Int)).toNat = s by omega]
      by_cases q2 : i = j
      · rw [q2, js_up_same, js_up_same]
        exact ⟨rfl, hv⟩
      · rw [js_up_ni _ (by omega), js_up_ni _ (by omega)]
        have a := a6 s t1 t2 t3 i i1 i2
        rw [show ((s : Int)).toNat = s by omega] at a
        exact a
    · have e1 := en t.toNat (by rw [tt]; exact t3)
      rw [tt] at e1
      have e2 := en s h1
      have ne : ρ 90 t + i ≠ ρ 90 s + j ∧ in_o ρ t.toNat + i ≠ in_o ρ s + j := by
        by_cases lt : t < s
        · have d1 := b5 t s t1 lt (by omega) (by omega) (by omega)
          have d2 := mono (s - (t.toNat + 1)) (t.toNat + 1) (by omega)
          rw [show s - (t.toNat + 1) + (t.toNat + 1) = s by omega] at d2
          exact ⟨by omega, by omega⟩
        · have d1 := b5 s t (by omega) (by omega) t2 (by omega) (by omega)
          have d2 := mono (t.toNat - (s + 1)) (s + 1) (by omega)
          rw [show t.toNat - (s + 1) + (s + 1) = t.toNat by omega] at d2
          exact ⟨by omega, by omega⟩
      rw [js_up_ni _ ne.1, js_up_ni _ ne.2]
      exact a6 t t1 t2 t3 i i1 i2
  · rw [u _ _ (by decide), u _ _ (by decide), u _ _ (by decide), u _ _ (by decide), w _ _ (by decide), w _ _ (by decide), w _ _ (by decide), w _ _ (by decide)]
    exact c4.2 k k1 k2
end YI2
