/-! part 99.zzzzzzzm: rows of outs in the reference's probe; its FLIPS -/
section RW8
variable {E : js_E} {e : Nat} {ρ0 : js_S} {x1 x2 x3 x4 x5 x6 x7 x8 x9 x10 x11 : Int} {u11 u12 u13 : js_v} {W : Nat}
theorem r_o133 (hW : ρ0 83 47 = W) (hW4 : W ≤ 4096) (h7 : 0 ≤ x7 ∧ x7 + W ≤ 65536) : ∀ (g k : Nat) (ρ : js_S), g + k = W → (∀ a i : Int, ¬ (a = 133 ∧ 0 ≤ i ∧ i < k) → ρ a i = ρ0 a i) → (∀ j : Int, 0 ≤ j → j < k → ρ 133 j = ρ0 126 (x7 + j)) → ∃ ρ' : js_S, js_J E e 288 84 [(2, 83), (0, x1), (0, x2), (0, x3), (0, x4), (0, x5), (0, x6), (0, x7), (0, (k : Int)), (9, 0), (9, 0), (9, 0), (9, 0), (9, 0)] [] ρ = js_J E e 288 117 [(2, 83), (0, x1), (0, x2), (0, x3), (0, x4), (0, x5), (0, x6), (0, x7), (0, (W : Int)), (9, 0), (9, 0), (9, 0), (9, 0), (9, 0)] [(2, 83)] ρ' ∧ (∀ a i : Int, ¬ (a = 133 ∧ 0 ≤ i ∧ i < W) → ρ' a i = ρ0 a i) ∧ ∀ j : Int, 0 ≤ j → j < W → ρ' 133 j = ρ0 126 (x7 + j) := by
  have wW : js_w (W : Int) = W := js_w_of (by omega) (by omega)
  intro g
  induction g with
  | zero =>
    intro k ρ hk hf hv
    have hk : k = W := by omega
    subst hk
    refine ⟨ρ, ?_, hf, hv⟩
    rw [b_288_84, hf 83 _ (by omega), hW, if_neg (by omega)]
  | succ g ih =>
    intro k ρ hk hf hv
    have wk : js_w (k : Int) = k := js_w_of (by omega) (by omega)
    have w7 : js_w (x7 + k) = x7 + k := js_w_of (by omega) (by omega)
    obtain ⟨ρ', e1, h1⟩ := ih (k + 1) (js_up ρ 133 k (ρ0 126 (x7 + k))) (by omega) (fun a i q => by rw [js_up_ne _ (by push_cast at q; omega), hf a i (by push_cast at q; omega)]) (fun i i1 i2 => by
      by_cases q : i = k
      · rw [q, js_up_same]
      · rw [js_up_ni _ q]
        exact hv i i1 (by push_cast at i2; omega))
    refine ⟨ρ', ?_, h1⟩
    rw [b_288_84, hf 83 _ (by omega), hW, wk, wW, if_pos (by omega), w7, if_pos (by omega), if_pos (by omega), hf 126 _ (by omega), show (k : Int) + 1 = ((k + 1 : Nat) : Int) by push_cast; rfl, e1]
theorem r_o132 (hW : ρ0 83 47 = W) (hW4 : W ≤ 4096) (h7 : 0 ≤ x7 ∧ x7 + W ≤ 65536) : ∀ (g k : Nat) (ρ : js_S), g + k = W → (∀ a i : Int, ¬ (a = 132 ∧ 0 ≤ i ∧ i < k) → ρ a i = ρ0 a i) → (∀ j : Int, 0 ≤ j → j < k → ρ 132 j = ρ0 126 (x7 + j)) → ∃ ρ' : js_S, js_J E e 288 137 [(2, 83), (0, x1), (0, x2), (0, x3), (0, x4), (0, x5), (0, x6), (0, x7), (0, x8), (0, (k : Int)), (9, 0), (9, 0), (9, 0), (9, 0)] [] ρ = js_J E e 288 174 [(2, 83), (0, x1), (0, x2), (0, x3), (0, x4), (0, x5), (0, x6), (0, x7), (0, x8), (0, (W : Int)), (9, 0), (9, 0), (9, 0), (9, 0)] [(0, x6), (0, x5), (2, 83)] ρ' ∧ (∀ a i : Int, ¬ (a = 132 ∧ 0 ≤ i ∧ i < W) → ρ' a i = ρ0 a i) ∧ ∀ j : Int, 0 ≤ j → j < W → ρ' 132 j = ρ0 126 (x7 + j) := by
  have wW : js_w (W : Int) = W := js_w_of (by omega) (by omega)
  intro g
  induction g with
  | zero =>
    intro k ρ hk hf hv
    have hk : k = W := by omega
    subst hk
    refine ⟨ρ, ?_, hf, hv⟩
    rw [b_288_137, hf 83 _ (by omega), hW, if_neg (by omega)]
  | succ g ih =>
    intro k ρ hk hf hv
    have wk : js_w (k : Int) = k := js_w_of (by omega) (by omega)
    have w7 : js_w (x7 + k) = x7 + k := js_w_of (by omega) (by omega)
    obtain ⟨ρ', e1, h1⟩ := ih (k + 1) (js_up ρ 132 k (ρ0 126 (x7 + k))) (by omega) (fun a i q => by rw [js_up_ne _ (by push_cast at q; omega), hf a i (by push_cast at q; omega)]) (fun i i1 i2 => by
      by_cases q : i = k
      · rw [q, js_up_same]
      · rw [js_up_ni _ q]
        exact hv i i1 (by push_cast at i2; omega))
    refine ⟨ρ', ?_, h1⟩
    rw [b_288_137, hf 83 _ (by omega), hW, wk, wW, if_pos (by omega), w7, if_pos (by omega), if_pos (by omega), hf 126 _ (by omega), show (k : Int) + 1 = ((k + 1 : Nat) : Int) by push_cast; rfl, e1]
theorem r_o126 (hW : ρ0 83 47 = W) (hW4 : W ≤ 4096) (h7 : 0 ≤ x7 ∧ x7 + W ≤ 65536) : ∀ (g k : Nat) (ρ : js_S), g + k = W → (∀ a i : Int, ¬ (a = 126 ∧ x7 ≤ i ∧ i < x7 + k) → ρ a i = ρ0 a i) → (∀ j : Int, 0 ≤ j → j < k → ρ 126 (x7 + j) = ρ0 133 j) → ∃ ρ' : js_S, js_J E e 288 315 [(2, 83), (0, x1), (0, x2), (0, x3), (0, x4), (0, x5), (0, x6), (0, x7), (0, x8), (0, x9), (0, (k : Int)), u11, u12, u13] [] ρ = (if js_w x8 = 0 then js_r E (0, -1) ρ' else js_r E (0, x9) ρ') ∧ (∀ a i : Int, ¬ (a = 126 ∧ x7 ≤ i ∧ i < x7 + W) → ρ' a i = ρ0 a i) ∧ ∀ j : Int, 0 ≤ j → j < W → ρ' 126 (x7 + j) = ρ0 133 j := by
  have wW : js_w (W : Int) = W := js_w_of (by omega) (by omega)
  intro g
  induction g with
  | zero =>
    intro k ρ hk hf hv
    have hk : k = W := by omega
    subst hk
    refine ⟨ρ, ?_, hf, hv⟩
    rw [b_288_315, hf 83 _ (by omega), hW, if_neg (by omega)]
  | succ g ih =>
    intro k ρ hk hf hv
    have wk : js_w (k : Int) = k := js_w_of (by omega) (by omega)
    have w7 : js_w (x7 + k) = x7 + k := js_w_of (by omega) (by omega)
    obtain ⟨ρ', e1, h1⟩ := ih (k + 1) (js_up ρ 126 (x7 + k) (ρ0 133 k)) (by omega) (fun a i q => by rw [js_up_ne _ (by push_cast at q; omega), hf a i (by push_cast at q; omega)]) (fun i i1 i2 => by
      by_cases q : i = k
      · rw [q, js_up_same]
      · rw [js_up_ni _ (by omega)]
        exact hv i i1 (by push_cast at i2; omega))
    refine ⟨ρ', ?_, h1⟩
    rw [b_288_315, hf 83 _ (by omega), hW, wk, wW, if_pos (by omega), if_pos (by omega), w7, if_pos (by omega), hf 133 _ (by omega), show (k : Int) + 1 = ((k + 1 : Nat) : Int) by push_cast; rfl, e1]
/-- are the outs the same as kept? -/
theorem r_oeq {ρ : js_S} (hW : ρ 83 47 = W) (hW4 : W ≤ 4096) (h7 : 0 ≤ x7 ∧ x7 + W ≤ 65536) : ∀ (g k : Nat) (x12 : Int), g + k = W → (x12 = 0 ∨ x12 = 1) → ∃ f : Int, (f = 0 ∨ f = 1) ∧ (f = 1 ↔ x12 = 1 ∧ ∀ j : Int, (k : Int) ≤ j → j < W → js_w (ρ 126 (x7 + j)) = js_w (ρ 132 j)) ∧ js_J E e 288 221 [(2, 83), (0, x1), (0, x2), (0, x3), (0, x4), (0, x5), (0, x6), (0, x7), (0, x8), (0, x9), (0, x10), (0, x11), (0, x12), (0, (k : Int))] [] ρ = js_J E e 288 221 [(2, 83), (0, x1), (0, x2), (0, x3), (0, x4), (0, x5), (0, x6), (0, x7), (0, x8), (0, x9), (0, x10), (0, x11), (0, f), (0, (W : Int))] [] ρ := by
  have wW : js_w (W : Int) = W := js_w_of (by omega) (by omega)
  intro g
  induction g with
  | zero =>
    intro k x12 hk h12
    have hk : k = W := by omega
    subst hk
    exact ⟨x12, h12, ⟨fun q => ⟨q, fun j j1 j2 => by omega⟩, fun q => q.1⟩, rfl⟩
  | succ g ih =>
    intro k x12 hk h12
    have wk : js_w (k : Int) = k := js_w_of (by omega) (by omega)
    have w7 : js_w (x7 + k) = x7 + k := js_w_of (by omega) (by omega)
    have ck : (k : Int) + 1 = ((k + 1 : Nat) : Int) := by push_cast; rfl
    have st : ∃ z : Int, (z = 0 ∨ z = 1) ∧ (z = 1 ↔ x12 = 1 ∧ js_w (ρ 126 (x7 + k)) = js_w (ρ 132 k)) ∧ js_J E e 288 221 [(2, 83), (0, x1), (0, x2), (0, x3), (0, x4), (0, x5), (0, x6), (0, x7), (0, x8), (0, x9), (0, x10), (0, x11), (0, x12), (0, (k : Int))] [] ρ = js_J E e 288 221 [(2, 83), (0, x1), (0, x2), (0, x3), (0, x4), (0, x5), (0, x6), (0, x7), (0, x8), (0, x9), (0, x10), (0, x11), (0, z), (0, ((k + 1 : Nat) : Int))] [] ρ := by
      rw [b_288_221, hW, wk, wW, if_pos (by omega)]
      rcases h12 with q | q
      · refine ⟨0, Or.inl rfl, ⟨fun h => absurd h (by decide), fun h => absurd (q.symm.trans h.1) (by decide)⟩, ?_⟩
        rw [q, if_pos (by decide), b_288_259, b_288_260, ck]
      · rw [q, if_neg (by decide), w7, if_pos (by omega), if_pos (by omega)]
        by_cases t : js_w (ρ 126 (x7 + k)) = js_w (ρ 132 k)
        · refine ⟨1, Or.inr rfl, ⟨fun _ => ⟨rfl, t⟩, fun _ => rfl⟩, ?_⟩
          rw [if_pos t, b_288_260, ck]
        · refine ⟨0, Or.inl rfl, ⟨fun h => absurd h (by decide), fun h => absurd h.2 t⟩, ?_⟩
          rw [if_neg t, b_288_259, b_288_260, ck]
    obtain ⟨z, hz, hz1, e1⟩ := st
    obtain ⟨f, hf, hf1, e2⟩ := ih (k + 1) z (by omega) hz
    refine ⟨f, hf, ?_, by rw [e1, e2]⟩
    rw [hf1, hz1]
    constructor
    · rintro ⟨⟨a, b⟩, c⟩
      refine ⟨a, fun j j1 j2 => ?_⟩
      by_cases t : j = k
      · rw [t]
        exact b
      · exact c j (by push_cast; omega) j2
    · rintro ⟨a, b⟩
      exact ⟨⟨a, b k (by omega) (by omega)⟩, fun j j1 j2 => b j (by push_cast at j1; omega) j2⟩
/-- no FLIP is due -/
theorem r_nf {ρ : js_S} (h : ρ 83 85 = 0 ∨ ρ 83 85 = 1 ∧ js_w (ρ 130 0) ≠ js_w (ρ 83 79)) : js_J E e 269 0 [(2, 83), (9, 0), (9, 0), (9, 0)] [] ρ = js_r0 E ρ := by
  have z0 : js_w 0 = 0 := rfl
  rcases h with h | ⟨h, h2⟩
  · rw [b_269_0, b_269_2, h, if_neg (by decide)]
  · rw [b_269_0, b_269_2, h, if_pos (by decide), if_pos (by decide), z0, if_neg h2, b_269_128, b_269_2, h, if_neg (by decide)]
/-- the FLIP that is due -/
theorem r_f1 {ρ ρ' : js_S} {c x N : Int} (h : ρ 83 85 = 1) (h2 : js_w (ρ 130 0) = js_w (ρ 83 79)) (hc : c = 0 ∨ c = 1) (h127 : ρ 127 0 = c) (h128 : ρ 128 0 = x) (hx : -2 ≤ x ∧ x < N) (hN : N ≤ 4096) (hρ : x = -1 ∧ ρ' = js_up (js_up ρ 83 83 (ρ 83 83 + 1)) 121 c (js_lxor (ρ 121 c) (js_lshl 1 (ρ 129 0))) ∨ x = -2 ∧ ρ' = js_up (js_up ρ 83 83 (ρ 83 83 + 1)) 122 c (js_lxor (ρ 122 c) (js_lshl 1 (ρ 129 0))) ∨ 0 ≤ x ∧ ρ' = js_up (js_up ρ 83 83 (ρ 83 83 + 1)) 120 (4096 * c + x) (js_lxor (ρ 120 (4096 * c + x)) (js_lshl 1 (ρ 129 0)))) : js_J E e 269 0 [(2, 83), (9, 0), (9, 0), (9, 0)] [] ρ = js_r0 E ρ' := by
  have z0 : js_w 0 = 0 := rfl
  have wc : js_w c = c := js_w_of (by omega) (by omega)
  have wx : js_w x = x := js_w_of (by omega) (by omega)
  have k85 : ρ' 83 85 = 1 := by
    rcases hρ with ⟨_, q⟩ | ⟨_, q⟩ | ⟨_, q⟩
    · rw [q, js_up_na _ (by decide), js_up_ni _ (by decide)]; exact h
    · rw [q, js_up_na _ (by decide), js_up_ni _ (by decide)]; exact h
    · rw [q, js_up_na _ (by decide), js_up_ni _ (by decide)]; exact h
  have fin : ∀ u : js_v, js_J E e 269 128 [(2, 83), (0, 0), u, (9, 0)] [] ρ' = js_r0 E ρ' := fun u => by
    rw [b_269_128, b_269_2, k85, if_neg (by decide)]
  rw [b_269_0, b_269_2, h, if_pos (by decide), if_pos (by decide), z0, if_pos h2, h127, h128, wc, wx]
  rcases hρ with ⟨t, q⟩ | ⟨t, q⟩ | ⟨t, q⟩
  · rw [if_pos t, if_pos (by omega), ← q]
    exact fin _
  · rw [if_neg (by omega), if_pos t, if_pos (by omega), ← q]
    exact fin _
  · have wi : js_w (4096 * c + x) = 4096 * c + x := js_w_of (by omega) (by omega)
    rw [if_neg (by omega), if_neg (by omega), wi, if_pos (by omega), ← q]
    exact fin _
end RW8
