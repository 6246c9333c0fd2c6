/-! part 99.zzzzzzq: calls that change the machine: input, flip, power -/
section OB
variable {E : js_E} {n b x1 x2 x3 x4 : Int} {d e : Nat} {T : Nat} {N ac zc : Int} {Fu : Int → Int → Int → Prop} {σ ρ σ' ρ' : js_S}
/-- the machines have changed, nothing else -/
theorem lq_set (h : LQ E n σ ρ) (hP : lq_P E b σ ρ) (l1 : σ 56 2 = 1) (l2 : ρ 83 64 = 1) (hN : lq_N T ρ) (hG : lq_G ρ) (hm : mh_R E Fu ac zc b N T σ' ρ') (s : ∀ a i : Int, a < 56 ∨ 137 ≤ a → σ' a i = σ a i) (s2 : σ' 56 2 = σ 56 2) (q : ∀ i : Int, ¬ (i = 0 ∨ 77 ≤ i) → ρ' 83 i = ρ 83 i) (y : ∀ a i : Int, 84 ≤ a → a ≤ 119 → ρ' a i = ρ a i) (h82 : ρ' 83 82 ≤ n + 1) : LQ E (n + 1) σ' ρ' := by
  obtain ⟨⟨⟨t1, t2, t3⟩, t4, t5⟩, ⟨⟨g1, g2⟩, ⟨g3, g4⟩, g5, g6, g7⟩, _⟩ := h
  obtain ⟨p1, ⟨p2, p3, p4⟩, p5, p6⟩ := hP
  have c19 := sy_ce (f := σ' 19) (g := σ 19) 400 (fun i _ _ => s _ _ (by omega))
  have c44 := sy_ce (f := σ' 44) (g := σ 44) 400 (fun i _ _ => s _ _ (by omega))
  have e0 := s (-1) 0 (by omega)
  have e1 := s (-1) 1 (by omega)
  refine ⟨⟨⟨by rw [s _ _ (by omega), q _ (by decide)]; exact t1, by rw [q _ (by decide)]; exact t2, by rw [q _ (by decide)]; omega⟩, fun i i1 i2 => ?_, fun i i1 i2 => by rw [y _ _ (by decide) (by decide)]; exact t5 i i1 i2⟩, ⟨⟨by omega, by omega⟩, ⟨sy_H_mv (Or.inl rfl) g3 (fun i => s _ _ (by omega)) (fun a i q1 _ => s _ _ (by omega)) (by omega), sy_H_mv (Or.inr rfl) g4 (fun i => s _ _ (by omega)) (fun a i q1 _ => s _ _ (by omega)) (by omega)⟩, fun i k i1 i2 k1 k2 => ?_, by rw [c19, c44]; omega, by rw [c19, c44]; omega⟩, b, ⟨p1, ⟨by rw [s _ _ (by omega)]; exact p2, by rw [s _ _ (by omega)]; exact p3, hm.1.1.1⟩, by rw [q _ (by decide)]; exact p5, p6⟩, Or.inr ⟨⟨by rw [s2]; exact l1, by rw [q _ (by decide)]; exact l2, h82⟩, Fu, ac, zc, N, T, hm, fun i i1 i2 => ?_, fun p q1 q2 => ?_⟩⟩
  · rw [q _ (by decide)] at i2
    rw [s _ _ (by omega), y _ _ (by decide) (by decide)]
    exact t4 i i1 i2
  · rw [s _ _ (by omega), s _ _ (by omega)]
    exact g5 i k i1 i2 k1 k2
  · obtain ⟨n1, n2, n3⟩ := hN i i1 i2
    refine ⟨by rw [y _ _ (by decide) (by decide)]; exact n1, by rw [y _ _ (by decide) (by decide)]; exact n2, fun k k1 k2 => ?_⟩
    rw [y _ _ (by decide) (by decide)] at k2
    rw [y _ _ (by decide) (by decide)]
    exact n3 k k1 k2
  · rw [q _ (by decide)] at q2
    rw [y _ _ (by decide) (by decide), y _ _ (by decide) (by decide), y _ _ (by decide) (by decide)]
    exact hG p q1 q2
theorem lo_input (h : LQ E n σ ρ) (h1 : -2147483648 ≤ x1 ∧ x1 < 2147483648) (h2 : -2147483648 ≤ x2 ∧ x2 < 2147483648) (hd : 8 ≤ d) (he : 4 ≤ e) : LO E n d 132 [(2, 0), (0, x1), (0, x2)] e 279 [(2, 83), (0, x1), (0, x2), (9, 0)] σ ρ := by
  have h' := h
  obtain ⟨_, _, b, hP, hl⟩ := h'
  have hP' := hP
  obtain ⟨hb, ⟨h4, _, h56⟩, _⟩ := hP'
  rcases hl with h0 | ⟨⟨l1, l2, l3⟩, Fu, ac, zc, N, T, hm, hN, hG⟩
  · obtain ⟨⟨_, a2⟩, ⟨a3, _⟩, _⟩ := h0
    refine lo_mk (v := 0) (w := 0) (z := 0) h ?_ ?_ rfl
    · have w0 : js_w 0 = 0 := rfl
      have cp : ∀ (d : Nat) (K : Int), js_J E d 135 0 [(2, 7 + b), (0, K), (0, x1), (9, 0), (9, 0), (9, 0)] [] σ = js_r E (0, -1) σ := fun d K => by
        rw [b_135_0, b_135_5 hb, a3, if_neg (show ¬ js_w 0 < js_w 0 by decide)]
      have cq : ∀ d : Nat, 1 ≤ d → js_J E d 134 0 [(2, 7 + b), (0, 1), (0, x1), (9, 0), (9, 0), (9, 0)] [] σ = js_r E (2, -1) σ := fun d hd => by
        rw [b_134_0, k_134_3 hb hd (cp _ _), b_134_6, b_134_10 hb, a3, if_neg (show ¬ js_w 0 < js_w 0 by decide)]
      rw [b_132_0, k_132_6 (by omega) (by rw [b_133_0 hb h56, k_133_6 hb (by omega) (cq _ (by omega)), b_133_9 hb h56, k_133_16 hb (by omega) (cp _ _), b_133_19, if_pos (show (-1 : Int) < 0 by decide)]), b_132_9, if_pos (Or.inl w0)]
    · rw [b_279_0, a2, if_pos (show js_w 0 = 0 from rfl), b_279_32, b_279_33, if_pos (show js_w (-1) < 0 by decide)]
  · obtain ⟨σ', ρ', z, e1, e2, m', fc, fr, _⟩ := y_input (E := E) (d := d) (e := e) hb hm l2 h1 h2 hd he
    refine ⟨σ', ρ', z, z, e1, e2, rfl, lq_set h hP l1 l2 hN hG m' (fun a i g => fc a i (by omega)) (fc _ _ (by decide)) (fun i g => fr _ _ (by omega) (by decide)) (fun a i g1 g2 => fr _ _ (by omega) (by omega)) (by rw [fr _ _ (by omega) (by decide)]; omega), fun a i g1 g2 => fc a i (by omega), fun a i g => fr a i (by omega) (by omega)⟩
theorem lo_flip (h : LQ E n σ ρ) (h1 : -2147483648 ≤ x1 ∧ x1 < 2147483648) (h2 : -2147483648 ≤ x2 ∧ x2 < 2147483648) (h3 : -2147483648 ≤ x3 ∧ x3 < 2147483648) (h4 : -2147483648 ≤ x4 ∧ x4 < 2147483648) (hd : 3 ≤ d) (he : 3 ≤ e) : LO E n d 166 [(2, 0), (0, x1), (0, x2), (0, x3), (0, x4)] e 285 [(2, 83), (0, x1), (0, x2), (0, x3), (0, x4)] σ ρ := by
  have h' := h
  obtain ⟨_, _, b, hP, hl⟩ := h'
  have hP' := hP
  obtain ⟨hb, ⟨_, _, h56⟩, _⟩ := hP'
  rcases hl with h0 | ⟨⟨l1, l2, l3⟩, Fu, ac, zc, N, T, hm, hN, hG⟩
  · obtain ⟨⟨a1, a2⟩, _⟩ := h0
    refine lo_mk (v := 0) (w := 0) (z := 0) h ?_ ?_ rfl
    · rw [b_166_0, k_166_6 (by omega) (by rw [b_137_0 hb h56, a1, if_pos (show js_w 0 = 0 from rfl)]), b_166_9, if_pos (show js_w 0 = 0 from rfl)]
    · have e64 : js_up ρ 83 0 0 83 64 = 0 := by rw [js_up_ni _ (by decide)]; exact a2
      rw [b_285_0, k_285_8 (by omega) (by rw [b_286_0, e64, if_pos (show js_w 0 = 0 from rfl)]), b_285_11, if_pos (show js_w 0 = 0 from rfl)]
  · obtain ⟨σ', ρ', z, e1, e2, m', fc, fr, _⟩ := y_flip (E := E) (d := d) (e := e) hb hm l2 l1 h1 h2 h3 h4 hd he
    refine ⟨σ', ρ', z, z, e1, e2, rfl, lq_set h hP l1 l2 hN hG m' (fun a i g => fc a i (by omega) (by omega)) (fc _ _ (by decide) (by decide)) (fun i g => fr _ _ (by omega) (by decide)) (fun a i g1 g2 => fr _ _ (by omega) (by omega)) (by rw [fr _ _ (by omega) (by decide)]; omega), fun a i g1 g2 => fc a i (by omega) (by omega), fun a i g => fr a i (by omega) (by omega)⟩
theorem lo_power (h : LQ E n σ ρ) (hn : 0 ≤ n) (hd : 12 ≤ d) (he : 2 ≤ e) : LO E n d 168 [(2, 0)] e 287 [(2, 83)] σ ρ := by
  have h' := h
  obtain ⟨_, _, b, hP, hl⟩ := h'
  have hP' := hP
  obtain ⟨hb, ⟨_, _, h56⟩, _⟩ := hP'
  rcases hl with h0 | ⟨⟨l1, l2, l3⟩, Fu, ac, zc, N, T, hm, hN, hG⟩
  · obtain ⟨⟨a1, a2⟩, _⟩ := h0
    refine lo_mk (v := 0) (w := 0) (z := 0) h ?_ ?_ rfl
    · rw [b_168_0, a1, if_pos (show js_w 0 = 0 from rfl)]
    · have e64 : js_up ρ 83 0 0 83 64 = 0 := by rw [js_up_ni _ (by decide)]; exact a2
      rw [b_287_0, a2, if_pos (show js_w 0 = 0 from rfl), b_287_16, e64, if_pos (Or.inl (show js_w 0 = 0 from rfl))]
  · obtain ⟨σ', ρ', e1, e2, m', fc, fr, _, f82⟩ := y_power (E := E) (d := d) (e := e) hb hm l2 l1 hd he
    refine ⟨σ', ρ', 1, 1, e1, e2, rfl, lq_set h hP l1 l2 hN hG m' (fun a i g => fc a i (by omega) (by omega)) (fc _ _ (by decide) (by decide)) (fun i g => fr _ _ (by omega) (by decide)) (fun a i g1 g2 => fr _ _ (by omega) (by omega)) (by rw [f82]; omega), fun a i g1 g2 => fc a i (by omega) (by omega), fun a i g => fr a i (by omega) (by omega)⟩
end OB
