/-! part 99.zzzn: a fun is told to its end -/
theorem lo_c_eq3 {ρ ρ' : js_S} {f : Int} : ∀ n : Nat, (∀ i : Int, 0 ≤ i → i < n → ρ' 86 i = ρ 86 i ∧ ρ' 91 i = ρ 91 i ∧ ρ' 93 i = ρ 93 i) → lo_c ρ' f n = lo_c ρ f n
  | 0, _ => rfl
  | n + 1, h => by
    have a := h n (by omega) (by push_cast; omega)
    show lo_c ρ' f n + _ = lo_c ρ f n + _
    rw [lo_c_eq3 n (fun i g1 g2 => h i g1 (by push_cast; omega)), a.1, a.2.1, a.2.2]
theorem fu_m1 {a c : Int} (h1 : 0 ≤ a) (h2 : 0 ≤ c) : min 400000 (min 400000 (0 + a + c) + 1) = min 400000 (a + c + 1) := by omega
/-- all that is said of the stores before and behind a fun -/
def fz_R (E : js_E) (b m s n g : Int) (B U : Int → Int) (σ ρ σ4 ρ4 σ5 σ8 ρ8 : js_S) : Prop := (∀ a i : Int, ¬ (a = s ∧ (i = 9 ∨ i = 10 ∨ i = 13)) → ¬ (a = 8 + b ∧ 6 ≤ i ∧ i ≤ 12) → ¬ (9 + b ≤ a ∧ a ≤ 14 + b ∧ i = σ4 (8 + b) 6) → ¬ (15 + b ≤ a ∧ a ≤ 16 + b ∧ i = σ (8 + b) 8) → ¬ (a = 22 + b ∧ i = 0) → σ8 a i = σ4 a i) ∧ (∀ i : Int, σ8 (19 + b) i = σ4 (19 + b) i) ∧ (∀ i k : Int, 0 ≤ i → i < ρ4 83 11 → i ≠ m → σ8 (σ4 (19 + b) i) k = σ4 (σ4 (19 + b) i) k) ∧ (σ4 (19 + b) m = s ∧ 137 ≤ s ∧ ∀ k : Int, k ≠ 9 → k ≠ 10 → k ≠ 13 → σ8 s k = σ4 s k) ∧ (∀ a i : Int, ¬ (a = 99 ∧ i = m) → ¬ (a = 96 ∧ i = m) → ¬ (a = 83 ∧ i = 26) → ρ8 a i = ρ4 a i) ∧ (∀ a i : Int, 86 ≤ a → a ≤ 97 → i < m → ρ8 a i = ρ a i) ∧ (∀ i : Int, 0 ≤ i → i < m → σ8 (19 + b) i = σ (19 + b) i ∧ ∀ k : Int, k ≠ 13 → σ8 (σ (19 + b) i) k = σ (σ (19 + b) i) k) ∧ (∀ i : Int, m < i → i < ρ4 83 11 → 5 ≤ ρ4 86 i ∧ ρ4 86 i ≤ 7 ∧ ρ4 93 i = m) ∧ ρ8 86 m = 4
section FI
variable {E : js_E} {b m s n g : Int} {B U : Int → Int} {σ ρ σ4 ρ4 σ5 σ8 ρ8 : js_S}
theorem dc_fun (hb : b = 0 ∨ b = 25) (m0 : 0 ≤ m) (hm : m < ρ4 83 11) (H : fz_R E b m s n g B U σ ρ σ4 ρ4 σ5 σ8 ρ8) (hx : ux_R E b m B U (fun i => i = m) σ4 ρ4) (w99 : ρ8 99 m = 1) (w26 : ρ8 83 26 = -1) (c13 : σ8 s 13 = 1) (hF : sy_F σ8 ρ8 b m) : dc_R E.1 σ8 ρ8 b := by
  obtain ⟨cz, z19, zf, ⟨s19, gs, zs⟩, w, r08, old, loc, k86⟩ := H
  obtain ⟨⟨hY4, hk4, hg4, hu4, hB4, h264, hst4⟩, _, _⟩ := hx
  have z86 : ∀ a i : Int, 86 ≤ a → a ≤ 98 → ¬ (a = 96 ∧ i = m) → ρ8 a i = ρ4 a i := fun a i g1 g2 g3 => w a i (by omega) g3 (by omega)
  have z11 : ρ8 83 11 = ρ4 83 11 := w _ _ (by omega) (by omega) (by omega)
  refine ⟨?_, ⟨Or.inl rfl, fun i hi => hi.elim, fun i g1 g2 _ g4 => ?_⟩, w26⟩
  · refine sy_Y_gen hb hY4 (fun a i hh => cz a i (by omega) (by omega) (by omega) (by omega) (by omega)) z11 (fun a i hh => z86 a i (by omega) (by omega) (by omega)) (fun i g1 g2 => ?_) (rs_v_of hY4.2.1 (fun i => z86 _ _ (by decide) (by decide) (by omega)) (fun i => z86 _ _ (by decide) (by decide) (by omega)) (fun i => z86 _ _ (by decide) (by decide) (by omega)) z11 (fun i => z86 _ _ (by decide) (by decide) (by omega)) (fun i => z86 _ _ (by decide) (by decide) (by omega))) (fun i g1 g2 => ?_) (fun i g1 g2 _ => ?_)
    · by_cases q : i = m
      · rw [q]
        exact Or.inr w99
      · rw [w _ _ (by omega) (by omega) (by omega)]
        exact hY4.1.2.2.2.2 i g1 g2
    · rw [sy_S_id]
      by_cases q : i = m
      · rw [q, s19, c13, w99]
      · have a := (hY4.2.2.2.2.2.1 i g1 g2).2.2.1
        rw [sy_S_id] at a
        rw [zf i 13 g1 g2 q, a, w _ _ (by omega) (by omega) (by omega)]
    · by_cases q : i = m
      · rw [q]
        exact hF
      · have a := hY4.2.2.2.2.2.2 i g1 g2 q
        unfold sy_F at a ⊢
        rw [z19]
        simp only [zf i _ g1 g2 q, z86 86 i (by decide) (by decide) (by omega), z86 87 i (by decide) (by decide) (by omega), z86 88 i (by decide) (by decide) (by omega), z86 89 i (by decide) (by decide) (by omega), z86 91 i (by decide) (by decide) (by omega), z86 92 i (by decide) (by decide) (by omega), z86 93 i (by decide) (by decide) (by omega), z86 94 i (by decide) (by decide) (by omega), z86 96 i (by decide) (by decide) (by omega)]
        exact a
  · rw [z11] at g2
    rw [z86 86 i (by decide) (by decide) (by omega)] at g4
    rw [z86 87 i (by decide) (by decide) (by omega), z86 89 i (by decide) (by decide) (by omega), z86 91 i (by decide) (by decide) (by omega)]
    have q : i ≠ m := fun hh => by
      rw [← z86 86 i (by decide) (by decide) (by omega), hh, k86] at g4
      omega
    exact hk4.2.2 i g1 g2 q g4
theorem gs_fun (m0 : 0 ≤ m) (hm : m < ρ4 83 11) (H : fz_R E b m s n g B U σ ρ σ4 ρ4 σ5 σ8 ρ8) (hx : ux_R E b m B U (fun i => i = m) σ4 ρ4) (hlo : ∀ i : Int, 0 ≤ i → i < m → 5 ≤ ρ 86 i ∧ ρ 86 i ≤ 7 → ρ 93 i < i) (hid : ∀ i : Int, m < i → i < ρ4 83 11 → ρ4 99 i = 0) (w26 : ρ8 83 26 = -1) (hG : gs_P ρ8 (fun _ => False) m) : gs_R ρ8 (fun _ => False) := by
  obtain ⟨cz, z19, zf, ⟨s19, gs, zs⟩, w, r08, old, loc, k86⟩ := H
  obtain ⟨⟨hY4, hk4, hg4, hu4, hB4, h264, hst4⟩, _, _⟩ := hx
  have z11 : ρ8 83 11 = ρ4 83 11 := w _ _ (by omega) (by omega) (by omega)
  have zr : ∀ i : Int, ρ8 86 i = ρ4 86 i := fun i => w _ _ (by omega) (by omega) (by omega)
  intro i g1 g2 _
  by_cases q : i = m
  · rw [q]
    exact hG
  · rw [z11] at g2
    obtain ⟨a1, a2, a3, a4, a5, a6⟩ := hg4 i g1 g2 q
    have o : ∀ a : Int, 86 ≤ a → a ≤ 99 → ρ8 a i = ρ4 a i := fun a h1 h2 => w _ _ (by omega) (by omega) (by omega)
    unfold gs_P
    rw [o 86 (by decide) (by decide), o 87 (by decide) (by decide), o 88 (by decide) (by decide), o 89 (by decide) (by decide), o 91 (by decide) (by decide), o 92 (by decide) (by decide), o 93 (by decide) (by decide), o 96 (by decide) (by decide), o 99 (by decide) (by decide), w26, z11]
    refine ⟨a1, fun hh => ?_, a3, fun hh h1 => ?_, fun hh => ?_, a6⟩
    · obtain ⟨b1, b2⟩ := a2 hh
      refine ⟨b1, ?_⟩
      rcases b2 with c | c | ⟨c1, c2, c3, c4⟩
      · exact Or.inl c
      · exact Or.inr (Or.inl c)
      · exact Or.inr (Or.inr ⟨c1, c2, by rw [zr]; exact c3, fun h => h⟩)
    · exfalso
      by_cases q2 : i < m
      · have x := a4 hh h1
        rw [h264] at x
        have y := r08 86 i (by decide) (by decide) q2
        have y3 := r08 93 i (by decide) (by decide) q2
        rw [o 86 (by decide) (by decide)] at y
        rw [o 93 (by decide) (by decide)] at y3
        have := hlo i g1 q2 (by omega)
        omega
      · have := hid i (by omega) g2
        omega
    · obtain ⟨b1, b2, b3, b4, b5, b6, b7, b8, b9, b10, b11, b12⟩ := a5 hh
      refine ⟨b1, b2, b3, b4, fun x x1 x2 => ?_, b6, b7, b8, b9, b10, b11, Or.inl (by decide)⟩
      obtain ⟨c1, c2⟩ := b5 x x1 x2
      exact ⟨by rw [zr]; exact c1, fun h => h⟩
end FI
