/-! part 99.zzzzzzd: flip and power, by both -/
section YX
variable {E : js_E} {d e : Nat} {Fu : Int → Int → Int → Prop} {ac zc b N : Int} {T : Nat} {σ ρ σ' ρ' : js_S}
theorem mh_hh (h : mh_0 N σ ρ ∨ ρ 83 81 = 0 ∧ rn_R Fu ac zc N 0 σ ρ) (s : ∀ a i : Int, 58 ≤ a → a ≤ 64 → σ' a i = σ a i) (q : ∀ i : Int, i = 51 ∨ 77 ≤ i ∧ i ≤ 81 → ρ' 83 i = ρ 83 i) (y : ∀ a i : Int, 120 ≤ a → a ≤ 124 → ρ' a i = ρ a i) : mh_0 N σ' ρ' ∨ ρ' 83 81 = 0 ∧ rn_R Fu ac zc N 0 σ' ρ' := by
  have cq : ∀ x0 c : Int, x0 = 59 ∨ x0 = 62 → cq_R N x0 c σ ρ → cq_R N x0 c σ' ρ' := fun x0 c hx g => ⟨by rw [s _ _ (by omega) (by omega), y _ _ (by decide) (by decide)]; exact g.1, by rw [s _ _ (by omega) (by omega), y _ _ (by decide) (by decide)]; exact g.2.1, fun k k1 k2 => by rw [s _ _ (by omega) (by omega), y _ _ (by decide) (by decide)]; exact g.2.2 k k1 k2⟩
  rcases h with ⟨a, a2, a3⟩ | ⟨a, a2⟩
  · exact Or.inl ⟨⟨by rw [s _ _ (by decide) (by decide)]; exact a.1, by rw [q _ (by decide)]; exact a.2.1, by rw [s _ _ (by decide) (by decide)]; exact a.2.2.1, by rw [q _ (by decide)]; exact a.2.2.2⟩, cq _ _ (Or.inl rfl) a2, cq _ _ (Or.inr rfl) a3⟩
  · obtain ⟨⟨b1, b2⟩, ⟨c1, c2, c3, c4, c5⟩, ⟨d1, d2⟩, m1, m2, m3, n, l, m4, m5⟩ := a2
    have t : ∀ i : Int, σ' (58 + 0) i = σ (58 + 0) i := fun i => s _ _ (by omega) (by omega)
    refine Or.inr ⟨by rw [q _ (by decide)]; exact a, ⟨by rw [t, q _ (by decide)]; exact b1, by rw [q _ (by decide)]; exact b2⟩, ⟨by rw [t, q _ (by decide)]; exact c1, by rw [t, q 79 (by decide), q 80 (by decide)]; exact c2, by rw [t]; exact c3, by rw [q 80 (by decide), q 51 (by decide)]; exact c4, by rw [t, q _ (by decide)]; exact c5⟩, ⟨cq _ _ (Or.inl rfl) d1, cq _ _ (Or.inr rfl) d2⟩, ?_⟩
    rw [q 77 (by decide), q 78 (by decide)]
    refine ⟨by rw [s _ _ (by omega) (by omega)]; exact m1, by rw [s _ _ (by omega) (by omega), y _ _ (by decide) (by decide)]; exact m2, fun k k1 k2 => ?_, n, l, by rw [y _ _ (by decide) (by decide)]; exact m4, ms_bk n _ _ (fun k _ _ => y _ _ (by decide) (by decide)) m5⟩
    rw [y _ _ (by decide) (by decide)] at k2
    rw [s _ _ (by omega) (by omega), y _ _ (by decide) (by decide)]
    exact m3 k k1 k2
theorem y_flip {x1 x2 x3 x4 : Int} (hb : b = 0 ∨ b = 25) (h : mh_R E Fu ac zc b N T σ ρ) (hl : ρ 83 64 = 1) (hl2 : σ 56 2 = 1) (h1 : -2147483648 ≤ x1 ∧ x1 < 2147483648) (h2 : -2147483648 ≤ x2 ∧ x2 < 2147483648) (h3 : -2147483648 ≤ x3 ∧ x3 < 2147483648) (h4 : -2147483648 ≤ x4 ∧ x4 < 2147483648) (hd : 3 ≤ d) (he : 3 ≤ e) : ∃ (σ' ρ' : js_S) (z : Int), js_J E d 166 0 [(2, 0), (0, x1), (0, x2), (0, x3), (0, x4)] [] σ = js_r E (0, z) σ' ∧ js_J E e 285 0 [(2, 83), (0, x1), (0, x2), (0, x3), (0, x4)] [] ρ = js_r E (0, z) ρ' ∧ mh_R E Fu ac zc b N T σ' ρ' ∧ (∀ a i : Int, a ≠ 57 → ¬ (a = 56 ∧ i = 8) → σ' a i = σ a i) ∧ (∀ a i : Int, ¬ (a = 83 ∧ (i = 0 ∨ i = 85)) → ¬ (127 ≤ a ∧ a ≤ 130) → ρ' a i = ρ a i) ∧ ρ' 83 0 = 0 := by
  have hA := h.1
  have hp := hA.1.2.1
  have h56 := hA.1.1
  have hN := hp.1.2.1
  have hv := hA.2.2.1
  obtain ⟨n, hfq⟩ := hv.2.2.2
  have w1 : js_w x1 = x1 := js_w_of h1.1 h1.2
  have w2 : js_w x2 = x2 := js_w_of h2.1 h2.2
  have w3 : js_w x3 = x3 := js_w_of h3.1 h3.2
  have w4 : js_w x4 = x4 := js_w_of h4.1 h4.2
  have z0 : ∀ a i : Int, ¬ (a = 83 ∧ i = 0) → js_up ρ 83 0 0 a i = ρ a i := fun a i g => js_up_ne _ g
  have z1 : js_up ρ 83 0 0 83 0 = 0 := js_up_same _ _ _ _
  have r0 : js_J E e 285 0 [(2, 83), (0, x1), (0, x2), (0, x3), (0, x4)] [] ρ = js_J E e 285 8 [(2, 83), (0, x1), (0, x2), (0, x3), (0, x4)] [(0, x2), (0, x1), (2, 83)] (js_up ρ 83 0 0) := b_285_0
  generalize js_up ρ 83 0 0 = ρa at z0 z1 r0
  have ha : mh_R E Fu ac zc b N T σ ρa := mh_err hb h (fun a i g => z0 a i (by omega))
  have la : ρa 83 64 = 1 := by rw [z0 _ _ (by omega)]; exact hl
  have n48 : ρa 83 48 = N := by rw [z0 _ _ (by omega)]; exact hp.1.2.2.1
  have wN : js_w N = N := js_w_of (by omega) (by omega)
  have fin : ∀ z : Int, js_J E d 166 0 [(2, 0), (0, x1), (0, x2), (0, x3), (0, x4)] [] σ = js_r E (0, z) σ → js_J E e 285 0 [(2, 83), (0, x1), (0, x2), (0, x3), (0, x4)] [] ρ = js_r E (0, z) ρa → ∃ (σ' ρ' : js_S) (z : Int), js_J E d 166 0 [(2, 0), (0, x1), (0, x2), (0, x3), (0, x4)] [] σ = js_r E (0, z) σ' ∧ js_J E e 285 0 [(2, 83), (0, x1), (0, x2), (0, x3), (0, x4)] [] ρ = js_r E (0, z) ρ' ∧ mh_R E Fu ac zc b N T σ' ρ' ∧ (∀ a i : Int, a ≠ 57 → ¬ (a = 56 ∧ i = 8) → σ' a i = σ a i) ∧ (∀ a i : Int, ¬ (a = 83 ∧ (i = 0 ∨ i = 85)) → ¬ (127 ≤ a ∧ a ≤ 130) → ρ' a i = ρ a i) ∧ ρ' 83 0 = 0 := fun z g1 g2 => ⟨σ, ρa, z, g1, g2, ha, fun _ _ _ _ => rfl, fun a i q _ => z0 a i (by omega), z1⟩
  by_cases t : 0 ≤ x1 ∧ x1 ≤ 1 ∧ -2 ≤ x2 ∧ x2 < N
  · have c137 : js_J E (d - 1) 137 0 [(2, 56), (0, x1), (0, x2)] [] σ = js_r E (0, 1) σ := by
      rw [b_137_0 hb h56, hl2, if_neg (show ¬ js_w 1 = 0 by decide), w1, if_neg (show ¬ x1 < 0 by omega), if_neg (show ¬ 1 < x1 by omega), w2, if_neg (show ¬ x2 < -2 by omega), hp.1.2.2.2, wN, if_pos t.2.2.2]
    have r286 : js_J E (e - 1) 286 0 [(2, 83), (0, x1), (0, x2)] [] ρa = js_r E (0, 1) ρa := by
      rw [b_286_0, la, if_neg (show ¬ js_w 1 = 0 by decide), w1, if_neg (show ¬ x1 < 0 by omega), if_pos (show x1 < 2 by omega), w2, if_neg (show ¬ x2 < -2 by omega), n48, wN, if_pos t.2.2.2]
    have n8 := hfq.1.1
    have c0 : ∀ (z : Int) (σ' : js_S), (z = 0 ∨ z = 1) → js_J E (d - 1) 167 0 [(2, 56), (0, x1), (0, x2), (0, x3), (0, x4)] [] σ = js_r E (0, z) σ' → js_J E d 166 0 [(2, 0), (0, x1), (0, x2), (0, x3), (0, x4)] [] σ = js_r E (0, z) σ' := fun z σ' hz g => by
      rw [b_166_0, k_166_6 (by omega) c137, b_166_9, if_neg (show ¬ js_w 1 = 0 by decide), k_166_21 (by omega) g, b_166_24]
      rcases hz with q | q
      · rw [q, if_pos (show js_w 0 = 0 from rfl)]
      · rw [q, if_neg (show ¬ js_w 1 = 0 by decide)]
    have d1 : σ 58 1 = ρ 83 79 ∧ 0 ≤ ρ 83 79 ∧ ρ 83 79 ≤ 200000 ∧ (js_w (ρ 83 77) = 0 → ρ 83 79 = 0) := by
      have hbd := hp.2.1.2.2.1
      rcases h.2 with ⟨q, _⟩ | ⟨_, q⟩
      · exact ⟨by rw [q.2.2.1, q.2.2.2], by omega, by omega, fun _ => q.2.2.2⟩
      · have g9 := q.2.1.2.1
        have g3 := q.2.1.2.2.1
        have g8 := q.2.1.2.2.2.1
        have nw := rn_w q
        exact ⟨q.2.1.1, by omega, by omega, fun g => by omega⟩
    have wd : js_w (ρ 83 79) = ρ 83 79 := js_w_of (by omega) (by omega)
    have w81 : js_w (ρ 83 81) = ρ 83 81 := js_w_of (by omega) (by omega)
    have wn : js_w (n : Int) = n := js_w_of (by omega) (by omega)
    have cc : js_J E (d - 1) 167 0 [(2, 56), (0, x1), (0, x2), (0, x3), (0, x4)] [] σ = (if x3 < 0 then js_r E (0, 0) σ else (if x3 < 64 then (if x4 < ρ 83 79 then js_r E (0, 0) σ else (if ρ 83 81 = 0 then (if (n : Int) < 8 then js_r E (0, 1) (js_up (js_up (js_up (js_up (js_up σ 57 (4 * n) x1) 57 (4 * n + 1) x2) 57 (4 * n + 2) x3) 57 (4 * n + 3) x4) 56 8 (n + 1)) else js_r E (0, 0) σ) else js_r E (0, 0) σ)) else js_r E (0, 0) σ)) := by
      rw [b_167_0, w3, w4, d1.1, wd, hv.1.1, w81, hfq.1.2.1, wn]
      by_cases q : (n : Int) < 8
      · rw [js_w_of (x := 4 * (n : Int)) (by omega) (by omega), js_w_of (x := 4 * (n : Int) + 1) (by omega) (by omega), js_w_of (x := 4 * (n : Int) + 2) (by omega) (by omega), js_w_of (x := 4 * (n : Int) + 3) (by omega) (by omega), if_pos (show 0 ≤ 4 * (n : Int) ∧ 4 * (n : Int) < 32 by omega), if_pos (show 0 ≤ 4 * (n : Int) + 1 ∧ 4 * (n : Int) + 1 < 32 by omega), if_pos (show 0 ≤ 4 * (n : Int) + 2 ∧ 4 * (n : Int) + 2 < 32 by omega), if_pos (show 0 ≤ 4 * (n : Int) + 3 ∧ 4 * (n : Int) + 3 < 32 by omega)]
      · rw [if_neg q, if_neg q]
    have e81 : ρa 83 81 = ρ 83 81 := z0 _ _ (by omega)
    have e85 : ρa 83 85 = n := by rw [z0 _ _ (by omega)]; exact hfq.1.2.2
    have e79 : (if 0 < js_w (ρa 83 77) then js_J E e 285 57 [(2, 83), (0, x1), (0, x2), (0, x3), (0, x4)] [(0, ρa 83 79), (0, x4)] ρa else js_J E e 285 57 [(2, 83), (0, x1), (0, x2), (0, x3), (0, x4)] [(0, 0), (0, x4)] ρa) = js_J E e 285 57 [(2, 83), (0, x1), (0, x2), (0, x3), (0, x4)] [(0, ρ 83 79), (0, x4)] ρa := by
      rw [z0 83 77 (by omega), z0 83 79 (by omega)]
      by_cases q : 0 < js_w (ρ 83 77)
      · rw [if_pos q]
      · have q0 : js_w (ρ 83 77) = 0 := by
          rcases h.2 with ⟨g, _⟩ | ⟨_, g⟩
          · rw [g.2.1]
            rfl
          · exact absurd (rn_w g) q
        rw [if_neg q, d1.2.2.2 q0]
    have rr : js_J E e 285 0 [(2, 83), (0, x1), (0, x2), (0, x3), (0, x4)] [] ρ = (if x3 < 0 then js_r E (0, 0) ρa else (if 63 < x3 then js_r E (0, 0) ρa else (if 0 < ρ 83 81 then js_r E (0, 0) ρa else (if (n : Int) = 8 then js_r E (0, 0) ρa else (if x4 < ρ 83 79 then js_r E (0, 0) ρa else (if 0 ≤ (n : Int) ∧ (n : Int) < 8 then js_r E (0, 1) (js_up (js_up (js_up (js_up (js_up ρa 127 n x1) 128 n x2) 129 n x3) 130 n x4) 83 85 (n + 1)) else none)))))) := by
      rw [r0, k_285_8 (by omega) r286, b_285_11, if_neg (show ¬ js_w 1 = 0 by decide), w3, e81, w81, e79, e85, wn, b_285_57, w4, wd, e85, wn]
    by_cases q1 : x3 < 0
    · exact fin 0 (c0 0 σ (Or.inl rfl) (by rw [cc, if_pos q1])) (by rw [rr, if_pos q1])
    by_cases q2 : x3 < 64
    · by_cases q3 : ρ 83 81 = 0
      · by_cases q4 : (n : Int) < 8
        · by_cases q5 : x4 < ρ 83 79
          · exact fin 0 (c0 0 σ (Or.inl rfl) (by rw [cc, if_neg q1, if_pos q2, if_pos q5])) (by rw [rr, if_neg q1, if_neg (show ¬ 63 < x3 by omega), if_neg (show ¬ 0 < ρ 83 81 by omega), if_neg (show ¬ (n : Int) = 8 by omega), if_pos q5])
          · have ec := c0 1 _ (Or.inr rfl) (show js_J E (d - 1) 167 0 [(2, 56), (0, x1), (0, x2), (0, x3), (0, x4)] [] σ = js_r E (0, 1) (js_up (js_up (js_up (js_up (js_up σ 57 (4 * n) x1) 57 (4 * n + 1) x2) 57 (4 * n + 2) x3) 57 (4 * n + 3) x4) 56 8 (n + 1)) by rw [cc, if_neg q1, if_pos q2, if_neg q5, if_pos q3, if_pos q4])
            have er : js_J E e 285 0 [(2, 83), (0, x1), (0, x2), (0, x3), (0, x4)] [] ρ = js_r E (0, 1) (js_up (js_up (js_up (js_up (js_up ρa 127 n x1) 128 n x2) 129 n x3) 130 n x4) 83 85 (n + 1)) := by
              rw [rr, if_neg q1, if_neg (show ¬ 63 < x3 by omega), if_neg (show ¬ 0 < ρ 83 81 by omega), if_neg (show ¬ (n : Int) = 8 by omega), if_neg q5, if_pos (show 0 ≤ (n : Int) ∧ (n : Int) < 8 by omega)]
            have u : ∀ a i : Int, ¬ (a = 57 ∧ 4 * n ≤ i ∧ i ≤ 4 * n + 3) → ¬ (a = 56 ∧ i = 8) → js_up (js_up (js_up (js_up (js_up σ 57 (4 * n) x1) 57 (4 * n + 1) x2) 57 (4 * n + 2) x3) 57 (4 * n + 3) x4) 56 8 (n + 1) a i = σ a i := fun a i g1 g2 => by rw [js_up_ne _ (by omega), js_up_ne _ (by omega), js_up_ne _ (by omega), js_up_ne _ (by omega), js_up_ne _ (by omega)]
            have u8 : js_up (js_up (js_up (js_up (js_up σ 57 (4 * n) x1) 57 (4 * n + 1) x2) 57 (4 * n + 2) x3) 57 (4 * n + 3) x4) 56 8 (n + 1) 56 8 = n + 1 := js_up_same _ _ _ _
            have v0 : js_up (js_up (js_up (js_up (js_up σ 57 (4 * n) x1) 57 (4 * n + 1) x2) 57 (4 * n + 2) x3) 57 (4 * n + 3) x4) 56 8 (n + 1) 57 (4 * n) = x1 := by rw [js_up_na _ (by decide), js_up_ni _ (by omega), js_up_ni _ (by omega), js_up_ni _ (by omega), js_up_same]
            have v1 : js_up (js_up (js_up (js_up (js_up σ 57 (4 * n) x1) 57 (4 * n + 1) x2) 57 (4 * n + 2) x3) 57 (4 * n + 3) x4) 56 8 (n + 1) 57 (4 * n + 1) = x2 := by rw [js_up_na _ (by decide), js_up_ni _ (by omega), js_up_ni _ (by omega), js_up_same]
            have v2 : js_up (js_up (js_up (js_up (js_up σ 57 (4 * n) x1) 57 (4 * n + 1) x2) 57 (4 * n + 2) x3) 57 (4 * n + 3) x4) 56 8 (n + 1) 57 (4 * n + 2) = x3 := by rw [js_up_na _ (by decide), js_up_ni _ (by omega), js_up_same]
            have v3 : js_up (js_up (js_up (js_up (js_up σ 57 (4 * n) x1) 57 (4 * n + 1) x2) 57 (4 * n + 2) x3) 57 (4 * n + 3) x4) 56 8 (n + 1) 57 (4 * n + 3) = x4 := by rw [js_up_na _ (by decide), js_up_same]
            generalize js_up (js_up (js_up (js_up (js_up σ 57 (4 * n) x1) 57 (4 * n + 1) x2) 57 (4 * n + 2) x3) 57 (4 * n + 3) x4) 56 8 (n + 1) = σ2 at ec u u8 v0 v1 v2 v3
            have p : ∀ a i : Int, ¬ (127 ≤ a ∧ a ≤ 130 ∧ i = n) → ¬ (a = 83 ∧ i = 85) → js_up (js_up (js_up (js_up (js_up ρa 127 n x1) 128 n x2) 129 n x3) 130 n x4) 83 85 (n + 1) a i = ρa a i := fun a i g1 g2 => by rw [js_up_ne _ (by omega), js_up_ne _ (by omega), js_up_ne _ (by omega), js_up_ne _ (by omega), js_up_ne _ (by omega)]
            have p85 : js_up (js_up (js_up (js_up (js_up ρa 127 n x1) 128 n x2) 129 n x3) 130 n x4) 83 85 (n + 1) 83 85 = n + 1 := js_up_same _ _ _ _
            have p0 : js_up (js_up (js_up (js_up (js_up ρa 127 n x1) 128 n x2) 129 n x3) 130 n x4) 83 85 (n + 1) 127 n = x1 := by rw [js_up_na _ (by decide), js_up_na _ (by decide), js_up_na _ (by decide), js_up_na _ (by decide), js_up_same]
            have p1 : js_up (js_up (js_up (js_up (js_up ρa 127 n x1) 128 n x2) 129 n x3) 130 n x4) 83 85 (n + 1) 128 n = x2 := by rw [js_up_na _ (by decide), js_up_na _ (by decide), js_up_na _ (by decide), js_up_same]
            have p2 : js_up (js_up (js_up (js_up (js_up ρa 127 n x1) 128 n x2) 129 n x3) 130 n x4) 83 85 (n + 1) 129 n = x3 := by rw [js_up_na _ (by decide), js_up_na _ (by decide), js_up_same]
            have p3 : js_up (js_up (js_up (js_up (js_up ρa 127 n x1) 128 n x2) 129 n x3) 130 n x4) 83 85 (n + 1) 130 n = x4 := by rw [js_up_na _ (by decide), js_up_same]
            generalize js_up (js_up (js_up (js_up (js_up ρa 127 n x1) 128 n x2) 129 n x3) 130 n x4) 83 85 (n + 1) = ρ2 at er p p85 p0 p1 p2 p3
            have y2 : ∀ a i : Int, ¬ (127 ≤ a ∧ a ≤ 130) → ¬ (a = 83 ∧ (i = 0 ∨ i = 85)) → ρ2 a i = ρ a i := fun a i g1 g2 => by rw [p a i (by omega) (by omega), z0 a i (by omega)]
            refine ⟨σ2, ρ2, 1, ec, er, ⟨mh_mk hb hA (fun a i g => u a i (by omega) (by omega)) (u _ _ (by omega) (by omega)) (fun i g => y2 _ _ (by omega) (by omega)) (fun a i g => y2 a i (by omega) (by omega)) (by rw [u _ _ (by omega) (by omega), y2 _ _ (by omega) (by omega)]; exact hv.1) (by rw [u _ _ (by omega) (by omega), y2 _ _ (by omega) (by omega)]; exact hv.2.1) (by rw [u _ _ (by omega) (by omega), y2 _ _ (by omega) (by omega)]; exact hv.2.2.1) ⟨n + 1, ⟨by omega, by rw [u8]; push_cast; rfl, by rw [p85]; push_cast; rfl⟩, fun k k1 k2 => ?_⟩ (ko_eq hA.2.2.2 (fun i => u _ _ (by omega) (by omega)) (fun i => y2 _ _ (by omega) (by omega)) (y2 _ _ (by omega) (by omega)) (fun a i g1 g2 => y2 a i (by omega) (by omega))), mh_hh h.2 (fun a i g1 g2 => u a i (by omega) (by omega)) (fun i g => y2 _ _ (by omega) (by omega)) (fun a i g1 g2 => y2 a i (by omega) (by omega))⟩, fun a i g1 g2 => u a i (by omega) g2, fun a i g1 g2 => y2 a i g2 g1, by rw [p _ _ (by omega) (by omega)]; exact z1⟩
            by_cases qk : k = n
            · rw [qk, v0, v1, v2, v3, p0, p1, p2, p3]
              exact ⟨⟨rfl, rfl, rfl, rfl⟩, by omega, by omega, by omega⟩
            · push_cast at k2
              have f := hfq.2 k k1 (by omega)
              rw [u _ _ (by omega) (by omega), u _ _ (by omega) (by omega), u _ _ (by omega) (by omega), u _ _ (by omega) (by omega), p 127 k (by omega) (by omega), p 128 k (by omega) (by omega), p 129 k (by omega) (by omega), p 130 k (by omega) (by omega), z0 127 k (by omega), z0 128 k (by omega), z0 129 k (by omega), z0 130 k (by omega)]
              exact f
        · refine fin 0 (c0 0 σ (Or.inl rfl) ?_) ?_
          · rw [cc, if_neg q1, if_pos q2, if_pos q3, if_neg q4]
            split <;> rfl
          · rw [rr, if_neg q1, if_neg (show ¬ 63 < x3 by omega), if_neg (show ¬ 0 < ρ 83 81 by omega), if_pos (show (n : Int) = 8 by omega)]
      · refine fin 0 (c0 0 σ (Or.inl rfl) ?_) ?_
        · rw [cc, if_neg q1, if_pos q2, if_neg q3]
          split <;> rfl
        · rw [rr, if_neg q1, if_neg (show ¬ 63 < x3 by omega), if_pos (show 0 < ρ 83 81 by omega)]
    · exact fin 0 (c0 0 σ (Or.inl rfl) (by rw [cc, if_neg q1, if_neg q2])) (by rw [rr, if_neg q1, if_pos (show 63 < x3 by omega)])
  · refine fin 0 ?_ ?_
    · have c137 : js_J E (d - 1) 137 0 [(2, 56), (0, x1), (0, x2)] [] σ = js_r E (0, 0) σ := by
        rw [b_137_0 hb h56, hl2, if_neg (show ¬ js_w 1 = 0 by decide), w1, w2, hp.1.2.2.2, wN]
        by_cases q1 : x1 < 0
        · rw [if_pos q1]
        by_cases q2 : 1 < x1
        · rw [if_neg q1, if_pos q2]
        by_cases q3 : x2 < -2
        · rw [if_neg q1, if_neg q2, if_pos q3]
        · rw [if_neg q1, if_neg q2, if_neg q3, if_neg (show ¬ x2 < N by omega)]
      rw [b_166_0, k_166_6 (by omega) c137, b_166_9, if_pos (show js_w 0 = 0 from rfl)]
    · have r286 : js_J E (e - 1) 286 0 [(2, 83), (0, x1), (0, x2)] [] ρa = js_r E (0, 0) ρa := by
        rw [b_286_0, la, if_neg (show ¬ js_w 1 = 0 by decide), w1, w2, n48, wN]
        by_cases q1 : x1 < 0
        · rw [if_pos q1]
        by_cases q2 : x1 < 2
        · by_cases q3 : x2 < -2
          · rw [if_neg q1, if_pos q2, if_pos q3]
          · rw [if_neg q1, if_pos q2, if_neg q3, if_neg (show ¬ x2 < N by omega)]
        · rw [if_neg q1, if_neg q2]
      rw [r0, k_285_8 (by omega) r286, b_285_11, if_pos (show js_w 0 = 0 from rfl)]
end YX
