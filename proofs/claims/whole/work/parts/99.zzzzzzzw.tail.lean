/-! part 99.zzzzzzzw: the reference's probe ahead of its first Run, and behind it -/
section PW
variable {E : js_E} {d e : Nat} {Fu : Int → Int → Int → Prop} {ac zc b N x1 x2 x3 x4 x5 x6 x7 x8 : Int} {T W : Nat} {σ ρ ρ0 ρs ρ3 : js_S}
theorem r_front (hW : ρ0 83 47 = W) (hW4 : W ≤ 4096) (h7 : 0 ≤ x7 ∧ x7 + W ≤ 65536) (he : 1 ≤ e) : ∃ ρs : js_S, js_J E e 288 78 [(2, 83), (0, x1), (0, x2), (0, x3), (0, x4), (0, x5), (0, x6), (0, x7), (9, 0), (9, 0), (9, 0), (9, 0), (9, 0), (9, 0)] [(2, 83)] ρ0 = js_J E e 288 117 [(2, 83), (0, x1), (0, x2), (0, x3), (0, x4), (0, x5), (0, x6), (0, x7), (0, (W : Int)), (9, 0), (9, 0), (9, 0), (9, 0), (9, 0)] [(2, 83)] ρs ∧ (∀ a i : Int, a ≠ 131 → a ≠ 133 → ρs a i = ρ0 a i) ∧ sv_R ρ0 ρs ∧ ∀ j : Int, 0 ≤ j → j < W → ρs 133 j = ρ0 126 (x7 + j) := by
  obtain ⟨ρ1, e1, g1, s1⟩ := r_save (E := E) (e := e - 1) (ρ0 := ρ0)
  obtain ⟨ρ2, e2, g2, s2⟩ := r_o133 (E := E) (e := e) (x1 := x1) (x2 := x2) (x3 := x3) (x4 := x4) (x5 := x5) (x6 := x6) (x7 := x7) (ρ0 := ρ1) (W := W) (by rw [g1 _ _ (by decide)]; exact hW) hW4 h7 W 0 ρ1 rfl (fun _ _ _ => rfl) (fun j j0 j1 => by push_cast at j1; omega)
  have o : ∀ a i : Int, a ≠ 133 → ρ2 a i = ρ1 a i := fun a i q => g2 a i (by omega)
  refine ⟨ρ2, ?_, fun a i q1 q2 => by rw [o _ _ q2, g1 _ _ q1], ?_, fun j j0 j1 => by rw [s2 j j0 j1, g1 _ _ (by decide)]⟩
  · rw [k_288_78 he e1, b_288_81]
    exact e2
  · obtain ⟨a1, ⟨a2, a3⟩, a4, a5⟩ := s1
    exact ⟨fun i i0 i1 => by rw [o _ _ (by decide)]; exact a1 i i0 i1, ⟨by rw [o _ _ (by decide)]; exact a2, by rw [o _ _ (by decide)]; exact a3⟩, by rw [o _ _ (by decide)]; exact a4, by rw [o _ _ (by decide)]; exact a5⟩
theorem r_tail (hs : ∀ a i : Int, a ≠ 131 → a ≠ 133 → ρs a i = ρ0 a i) (sv : sv_R ρ0 ρs) (h133 : ∀ j : Int, 0 ≤ j → j < W → ρs 133 j = ρ0 126 (x7 + j)) (hpe : peR T N σ ρs ρ3) (hW : ρ0 83 47 = W) (hO : ou_o ρ0 T = W) (hW4 : W ≤ 4096) (h7 : 0 ≤ x7 ∧ x7 + W ≤ 65536) (hx : x7 = pe_B ρ0) (h81 : ρ0 83 81 = 0) (he : 2 ≤ e) : ∃ ρr : js_S, js_J E e 288 120 [(2, 83), (0, x1), (0, x2), (0, x3), (0, x4), (0, ρ0 83 82), (0, ρ0 83 83), (0, x7), (0, x8), (9, 0), (9, 0), (9, 0), (9, 0), (9, 0)] [] ρ3 = js_J E e 288 183 [(2, 83), (0, x1), (0, x2), (0, x3), (0, x4), (0, ρ0 83 82), (0, ρ0 83 83), (0, x7), (0, if σ 65 2 = 4 then 1 else 0), (0, 0), (0, 0), (9, 0), (9, 0), (9, 0)] [] ρr ∧ pi_R x7 W ρ0 ρr ∧ ∀ j : Int, 0 ≤ j → j < W → ρr 132 j = ρ3 126 (x7 + j) := by
  have fr := pe_fr hpe
  have pb : pe_B ρs = x7 := by
    rw [hx]
    unfold pe_B
    rw [hs 83 82 (by decide) (by decide)]
  have oo : ou_o ρs T = W := by rw [ou_o_eq (fun a i q1 q2 => hs a i (by omega) (by omega)) T, hO]
  rw [pb, oo] at fr
  have st : js_J E e 288 120 [(2, 83), (0, x1), (0, x2), (0, x3), (0, x4), (0, ρ0 83 82), (0, ρ0 83 83), (0, x7), (0, x8), (9, 0), (9, 0), (9, 0), (9, 0), (9, 0)] [] ρ3 = js_J E e 288 137 [(2, 83), (0, x1), (0, x2), (0, x3), (0, x4), (0, ρ0 83 82), (0, ρ0 83 83), (0, x7), (0, if σ 65 2 = 4 then 1 else 0), (0, 0), (9, 0), (9, 0), (9, 0), (9, 0)] [] ρ3 := by
    obtain ⟨ρ', K, f, ⟨_, kK⟩, _, c⟩ := hpe
    rcases c with ⟨K1, K3, e4⟩ | ⟨K4, _, ρ4, m1, _, e4⟩
    · have q : ρ3 83 81 = K := by rw [e4, th_o (by omega) (by omega), js_up_same]
      have wK : js_w K = K := js_w_of (by omega) (by omega)
      rw [b_288_120, q, wK, if_neg (show ¬ K = 0 by omega), b_288_132, kK, if_neg (show ¬ K = 4 by omega)]
    · have q : ρ3 83 81 = 0 := by rw [e4, th_o (by omega) (by omega), js_up_ni _ (by decide), m1 _ _ (by omega), f _ _ (by omega) (by omega), hs _ _ (by decide) (by decide), h81]
      rw [b_288_120, q, if_pos (show js_w 0 = 0 from rfl), b_288_132, kK, if_pos K4]
  obtain ⟨ρt, e1, g1, s1⟩ := r_o132 (E := E) (e := e) (x1 := x1) (x2 := x2) (x3 := x3) (x4 := x4) (x5 := ρ0 83 82) (x6 := ρ0 83 83) (x7 := x7) (x8 := if σ 65 2 = 4 then 1 else 0) (ρ0 := ρ3) (W := W) (by rw [fr _ _ (by omega) (by omega) (by omega), hs _ _ (by decide) (by decide)]; exact hW) hW4 h7 W 0 ρ3 rfl (fun _ _ _ => rfl) (fun j j0 j1 => by push_cast at j1; omega)
  obtain ⟨ρr, e2, q1, ⟨⟨q2, q3⟩, q4, q5⟩, ⟨⟨v1, v2, v3, v4⟩, v5, v6, v7, _⟩, qf⟩ := r_rest (E := E) (e := e - 1) (z1 := ρ0 83 82) (z2 := ρ0 83 83) (ρ0 := ρt) (by omega)
  have ot : ∀ a i : Int, a ≠ 132 → ρt a i = ρ3 a i := fun a i q => g1 a i (by omega)
  have o5 : ∀ a j : Int, ¬ (a = 83 ∧ 77 ≤ j ∧ j ≤ 85) → ¬ (120 ≤ a ∧ a ≤ 124) → ¬ (a = 126 ∧ x7 ≤ j ∧ j < x7 + W) → a ≠ 132 → ρr a j = ρs a j := fun a j y1 y2 y3 y4 => by rw [qf _ _ (by omega) (by omega) (by omega), ot _ _ y4, fr _ _ y1 y2 y3]
  have q131 : ∀ j : Int, ρt 131 j = ρs 131 j := fun j => by rw [ot _ _ (by decide), fr _ _ (by omega) (by omega) (by omega)]
  obtain ⟨sv1, ⟨sv2, sv3⟩, sv4, sv5⟩ := sv
  refine ⟨ρr, ?_, ⟨⟨⟨v1, v2, v3, v5, v4⟩, v6, v7⟩, ⟨fun j j0 j1 => by rw [q1 j j0 j1, q131, sv1 j j0 j1], ⟨by rw [q2, q131, sv2], by rw [q3, q131, sv3]⟩, by rw [q4, q131, sv4], by rw [q5, q131, sv5]⟩, fun a j y1 y2 y3 => ?_, fun j y => ?_, ⟨fun j j0 j1 => ?_, ⟨?_, ?_⟩, ?_, ?_⟩, fun j j0 j1 => ?_⟩, fun j j0 j1 => ?_⟩
  · rw [st]
    exact e1.trans (by rw [k_288_174 (by omega) e2, b_288_177])
  · rw [o5 _ _ (by omega) y2 (by omega) (by omega), hs _ _ (by omega) (by omega)]
  · rw [o5 _ _ (by omega) (by omega) (by omega) (by omega), hs _ _ (by omega) (by omega)]
  · rw [o5 _ _ (by omega) (by omega) (by omega) (by omega), sv1 j j0 j1]
  · rw [o5 _ _ (by omega) (by omega) (by omega) (by omega), sv2]
  · rw [o5 _ _ (by omega) (by omega) (by omega) (by omega), sv3]
  · rw [o5 _ _ (by omega) (by omega) (by omega) (by omega), sv4]
  · rw [o5 _ _ (by omega) (by omega) (by omega) (by omega), sv5]
  · rw [o5 _ _ (by omega) (by omega) (by omega) (by omega), h133 j j0 j1]
  · rw [qf _ _ (by omega) (by omega) (by omega), s1 j j0 j1]
end PW
