/-! part 99.zzzzzzzl: the reference keeps its CELLs and outs ahead of a probe, and brings them back -/
section SV
variable {E : js_E} {e : Nat} {ρ0 : js_S}
theorem r_sv1 : ∀ (g k : Nat) (ρ : js_S), g + k = 8192 → (∀ a i : Int, ¬ (a = 131 ∧ 0 ≤ i ∧ i < k) → ρ a i = ρ0 a i) → (∀ i : Int, 0 ≤ i → i < k → ρ 131 i = ρ0 120 i) → ∃ ρ' : js_S, js_J E e 289 2 [(2, 83), (0, (k : Int))] [] ρ = js_J E e 289 29 [(2, 83), (0, 0)] [] ρ' ∧ (∀ a i : Int, ¬ (a = 131 ∧ 0 ≤ i ∧ i < 8192) → ρ' a i = ρ0 a i) ∧ ∀ i : Int, 0 ≤ i → i < 8192 → ρ' 131 i = ρ0 120 i := by
  intro g
  induction g with
  | zero =>
    intro k ρ hk hf hv
    have hk : k = 8192 := by omega
    subst hk
    refine ⟨ρ, ?_, hf, hv⟩
    rw [b_289_2, if_neg (show ¬ js_w ((8192 : Nat) : Int) < 8192 by decide)]
  | succ g ih =>
    intro k ρ hk hf hv
    have wk : js_w (k : Int) = k := js_w_of (by omega) (by omega)
    have e0 : ρ 120 k = ρ0 120 k := hf _ _ (by omega)
    obtain ⟨ρ', e1, h1⟩ := ih (k + 1) (js_up ρ 131 k (ρ0 120 k)) (by omega) (fun a i q => by rw [js_up_ne _ (by push_cast at q; omega), hf a i (by push_cast at q; omega)]) (fun i i1 i2 => by
      by_cases q : i = k
      · rw [q, js_up_same]
      · rw [js_up_ni _ q]
        exact hv i i1 (by push_cast at i2; omega))
    refine ⟨ρ', ?_, h1⟩
    rw [b_289_2, wk, if_pos (by omega), if_pos (by omega), if_pos (by omega), e0, show (k : Int) + 1 = ((k + 1 : Nat) : Int) by push_cast; rfl, e1]
/-- the CELLs and registers kept -/
def sv_R (ρ ρ' : js_S) : Prop := (∀ i : Int, 0 ≤ i → i < 8192 → ρ' 131 i = ρ 120 i) ∧ (ρ' 131 8192 = ρ 121 0 ∧ ρ' 131 8193 = ρ 121 1) ∧ ρ' 131 8194 = ρ 122 0 ∧ ρ' 131 8195 = ρ 122 1
theorem r_save : ∃ ρ' : js_S, js_J E e 289 0 [(2, 83), (9, 0)] [] ρ0 = js_r0 E ρ' ∧ (∀ a i : Int, a ≠ 131 → ρ' a i = ρ0 a i) ∧ sv_R ρ0 ρ' := by
  obtain ⟨ρ1, e1, f1, v1⟩ := r_sv1 (E := E) (e := e) (ρ0 := ρ0) 8192 0 ρ0 rfl (fun _ _ _ => rfl) (fun i i1 i2 => by omega)
  have e1' : js_J E e 289 2 [(2, 83), (0, 0)] [] ρ0 = js_J E e 289 29 [(2, 83), (0, 0)] [] ρ1 := e1
  have a0 : ρ1 121 0 = ρ0 121 0 := f1 _ _ (by omega)
  have b0 : ρ1 122 0 = ρ0 122 0 := f1 _ _ (by omega)
  have a1 : ρ1 121 1 = ρ0 121 1 := f1 _ _ (by omega)
  have b1 : ρ1 122 1 = ρ0 122 1 := f1 _ _ (by omega)
  have s1 : js_J E e 289 29 [(2, 83), (0, 0)] [] ρ1 = js_J E e 289 29 [(2, 83), (0, 1)] [] (js_up (js_up ρ1 131 8192 (ρ0 121 0)) 131 8194 (ρ0 122 0)) := by
    have x := b_289_29 (E := E) (d := e) (σ := ρ1) (x1 := 0)
    rw [if_pos (by decide), if_pos (by decide), if_pos (by decide), if_pos (by decide)] at x
    rw [x, ← a0, ← b0]
    rfl
  have c1 : js_up (js_up ρ1 131 8192 (ρ0 121 0)) 131 8194 (ρ0 122 0) 121 1 = ρ0 121 1 := by rw [js_up_na _ (by decide), js_up_na _ (by decide), a1]
  have c2 : js_up (js_up ρ1 131 8192 (ρ0 121 0)) 131 8194 (ρ0 122 0) 122 1 = ρ0 122 1 := by rw [js_up_na _ (by decide), js_up_na _ (by decide), b1]
  have s2 : js_J E e 289 29 [(2, 83), (0, 1)] [] (js_up (js_up ρ1 131 8192 (ρ0 121 0)) 131 8194 (ρ0 122 0)) = js_r0 E (js_up (js_up (js_up (js_up ρ1 131 8192 (ρ0 121 0)) 131 8194 (ρ0 122 0)) 131 8193 (ρ0 121 1)) 131 8195 (ρ0 122 1)) := by
    have x := b_289_29 (E := E) (d := e) (σ := js_up (js_up ρ1 131 8192 (ρ0 121 0)) 131 8194 (ρ0 122 0)) (x1 := 1)
    rw [if_pos (by decide), if_pos (by decide), if_pos (by decide), if_pos (by decide)] at x
    have y := b_289_29 (E := E) (d := e) (σ := js_up (js_up (js_up (js_up ρ1 131 8192 (ρ0 121 0)) 131 8194 (ρ0 122 0)) 131 8193 (ρ0 121 1)) 131 8195 (ρ0 122 1)) (x1 := 2)
    rw [if_neg (by decide)] at y
    rw [x, ← y, ← c1, ← c2]
    rfl
  refine ⟨_, by rw [b_289_0, e1', s1, s2], fun a i g => by rw [js_up_na _ g, js_up_na _ g, js_up_na _ g, js_up_na _ g, f1 a i (by omega)], fun i i1 i2 => by rw [js_up_ni _ (by omega), js_up_ni _ (by omega), js_up_ni _ (by omega), js_up_ni _ (by omega)]; exact v1 i i1 i2, ⟨?_, ?_⟩, ?_, ?_⟩
  · rw [js_up_ni _ (by decide), js_up_ni _ (by decide), js_up_ni _ (by decide), js_up_same]
  · rw [js_up_ni _ (by decide), js_up_same]
  · rw [js_up_ni _ (by decide), js_up_ni _ (by decide), js_up_same]
  · rw [js_up_same]
variable {z1 z2 : Int}
theorem r_bk1 : ∀ (g k : Nat) (ρ : js_S), g + k = 8192 → (∀ a i : Int, ¬ (a = 120 ∧ 0 ≤ i ∧ i < k) → ρ a i = ρ0 a i) → (∀ i : Int, 0 ≤ i → i < k → ρ 120 i = ρ0 131 i) → ∃ ρ' : js_S, js_J E e 290 2 [(2, 83), (0, z1), (0, z2), (0, (k : Int))] [] ρ = js_J E e 290 29 [(2, 83), (0, z1), (0, z2), (0, 0)] [] ρ' ∧ (∀ a i : Int, ¬ (a = 120 ∧ 0 ≤ i ∧ i < 8192) → ρ' a i = ρ0 a i) ∧ ∀ i : Int, 0 ≤ i → i < 8192 → ρ' 120 i = ρ0 131 i := by
  intro g
  induction g with
  | zero =>
    intro k ρ hk hf hv
    have hk : k = 8192 := by omega
    subst hk
    refine ⟨ρ, ?_, hf, hv⟩
    rw [b_290_2, if_neg (show ¬ js_w ((8192 : Nat) : Int) < 8192 by decide)]
  | succ g ih =>
    intro k ρ hk hf hv
    have wk : js_w (k : Int) = k := js_w_of (by omega) (by omega)
    have e0 : ρ 131 k = ρ0 131 k := hf _ _ (by omega)
    obtain ⟨ρ', e1, h1⟩ := ih (k + 1) (js_up ρ 120 k (ρ0 131 k)) (by omega) (fun a i q => by rw [js_up_ne _ (by push_cast at q; omega), hf a i (by push_cast at q; omega)]) (fun i i1 i2 => by
      by_cases q : i = k
      · rw [q, js_up_same]
      · rw [js_up_ni _ q]
        exact hv i i1 (by push_cast at i2; omega))
    refine ⟨ρ', ?_, h1⟩
    rw [b_290_2, wk, if_pos (by omega), if_pos (by omega), if_pos (by omega), e0, show (k : Int) + 1 = ((k + 1 : Nat) : Int) by push_cast; rfl, e1]
/-- brought back: CELLs, registers; no CYCLE, no FLIPS -/
def rs_R (z1 z2 : Int) (ρ ρ' : js_S) : Prop := (∀ i : Int, 0 ≤ i → i < 8192 → ρ' 120 i = ρ 131 i) ∧ ((ρ' 121 0 = ρ 131 8192 ∧ ρ' 121 1 = ρ 131 8193) ∧ ρ' 122 0 = ρ 131 8194 ∧ ρ' 122 1 = ρ 131 8195) ∧ ((ρ' 83 77 = 0 ∧ ρ' 83 79 = 0 ∧ ρ' 83 80 = 0 ∧ ρ' 83 85 = 0) ∧ ρ' 83 81 = 0 ∧ ρ' 83 82 = z1 ∧ ρ' 83 83 = z2 ∧ ρ' 124 0 = 0 ∧ ρ' 124 1 = 0) ∧ ∀ a i : Int, ¬ (120 ≤ a ∧ a ≤ 122) → a ≠ 124 → ¬ (a = 83 ∧ (i = 77 ∨ 79 ≤ i ∧ i ≤ 83 ∨ i = 85)) → ρ' a i = ρ a i
theorem r_rest (he : 1 ≤ e) : ∃ ρ' : js_S, js_J E e 290 0 [(2, 83), (0, z1), (0, z2), (9, 0)] [] ρ0 = js_r0 E ρ' ∧ rs_R z1 z2 ρ0 ρ' := by
  obtain ⟨ρ1, e1, f1, v1⟩ := r_bk1 (E := E) (e := e) (ρ0 := ρ0) (z1 := z1) (z2 := z2) 8192 0 ρ0 rfl (fun _ _ _ => rfl) (fun i i1 i2 => by omega)
  have e1' : js_J E e 290 2 [(2, 83), (0, z1), (0, z2), (0, 0)] [] ρ0 = js_J E e 290 29 [(2, 83), (0, z1), (0, z2), (0, 0)] [] ρ1 := e1
  have k : ∀ i : Int, ρ1 131 i = ρ0 131 i := fun i => f1 _ _ (by omega)
  have s1 : js_J E e 290 29 [(2, 83), (0, z1), (0, z2), (0, 0)] [] ρ1 = js_J E e 290 29 [(2, 83), (0, z1), (0, z2), (0, 1)] [] (js_up (js_up ρ1 121 0 (ρ0 131 8192)) 122 0 (ρ0 131 8194)) := by
    have x := b_290_29 (E := E) (d := e) (σ := ρ1) (x1 := z1) (x2 := z2) (x3 := 0)
    rw [if_pos (by decide), if_pos (by decide), if_pos (by decide), if_pos (by decide)] at x
    rw [x, ← k 8192, ← k 8194]
    rfl
  have c : ∀ i : Int, js_up (js_up ρ1 121 0 (ρ0 131 8192)) 122 0 (ρ0 131 8194) 131 i = ρ0 131 i := fun i => by rw [js_up_na _ (by decide), js_up_na _ (by decide), k]
  have s2 : js_J E e 290 29 [(2, 83), (0, z1), (0, z2), (0, 1)] [] (js_up (js_up ρ1 121 0 (ρ0 131 8192)) 122 0 (ρ0 131 8194)) = js_J E e 290 73 [(2, 83), (0, z1), (0, z2), (0, 2)] [(2, 83)] (js_up (js_up (js_up (js_up ρ1 121 0 (ρ0 131 8192)) 122 0 (ρ0 131 8194)) 121 1 (ρ0 131 8193)) 122 1 (ρ0 131 8195)) := by
    have x := b_290_29 (E := E) (d := e) (σ := js_up (js_up ρ1 121 0 (ρ0 131 8192)) 122 0 (ρ0 131 8194)) (x1 := z1) (x2 := z2) (x3 := 1)
    rw [if_pos (by decide), if_pos (by decide), if_pos (by decide), if_pos (by decide)] at x
    have y := b_290_29 (E := E) (d := e) (σ := js_up (js_up (js_up (js_up ρ1 121 0 (ρ0 131 8192)) 122 0 (ρ0 131 8194)) 121 1 (ρ0 131 8193)) 122 1 (ρ0 131 8195)) (x1 := z1) (x2 := z2) (x3 := 2)
    rw [if_neg (by decide)] at y
    rw [x, ← y, ← c 8193, ← c 8195]
    rfl
  have w : ∀ a i : Int, ¬ (121 ≤ a ∧ a ≤ 122 ∧ (i = 0 ∨ i = 1)) → js_up (js_up (js_up (js_up ρ1 121 0 (ρ0 131 8192)) 122 0 (ρ0 131 8194)) 121 1 (ρ0 131 8193)) 122 1 (ρ0 131 8195) a i = ρ1 a i := fun a i g => by rw [js_up_ne _ (by omega), js_up_ne _ (by omega), js_up_ne _ (by omega), js_up_ne _ (by omega)]
  have w1 : js_up (js_up (js_up (js_up ρ1 121 0 (ρ0 131 8192)) 122 0 (ρ0 131 8194)) 121 1 (ρ0 131 8193)) 122 1 (ρ0 131 8195) 121 0 = ρ0 131 8192 := by rw [js_up_na _ (by decide), js_up_ni _ (by decide), js_up_na _ (by decide), js_up_same]
  have w2 : js_up (js_up (js_up (js_up ρ1 121 0 (ρ0 131 8192)) 122 0 (ρ0 131 8194)) 121 1 (ρ0 131 8193)) 122 1 (ρ0 131 8195) 121 1 = ρ0 131 8193 := by rw [js_up_na _ (by decide), js_up_same]
  have w3 : js_up (js_up (js_up (js_up ρ1 121 0 (ρ0 131 8192)) 122 0 (ρ0 131 8194)) 121 1 (ρ0 131 8193)) 122 1 (ρ0 131 8195) 122 0 = ρ0 131 8194 := by rw [js_up_ni _ (by decide), js_up_na _ (by decide), js_up_same]
  have w4 : js_up (js_up (js_up (js_up ρ1 121 0 (ρ0 131 8192)) 122 0 (ρ0 131 8194)) 121 1 (ρ0 131 8193)) 122 1 (ρ0 131 8195) 122 1 = ρ0 131 8195 := by rw [js_up_same]
  have e3 : js_J E e 290 0 [(2, 83), (0, z1), (0, z2), (9, 0)] [] ρ0 = js_J E e 290 73 [(2, 83), (0, z1), (0, z2), (0, 2)] [(2, 83)] (js_up (js_up (js_up (js_up ρ1 121 0 (ρ0 131 8192)) 122 0 (ρ0 131 8194)) 121 1 (ρ0 131 8193)) 122 1 (ρ0 131 8195)) := by rw [b_290_0, e1', s1, s2]
  generalize js_up (js_up (js_up (js_up ρ1 121 0 (ρ0 131 8192)) 122 0 (ρ0 131 8194)) 121 1 (ρ0 131 8193)) 122 1 (ρ0 131 8195) = ρ2 at w w1 w2 w3 w4 e3
  have t : ∀ a i : Int, ¬ (a = 83 ∧ (i = 77 ∨ i = 79 ∨ i = 80 ∨ i = 85)) → ¬ (a = 124 ∧ (i = 0 ∨ i = 1)) → th_S ρ2 a i = ρ2 a i := fun a i g1 g2 => th_o g1 g2
  have t7 : th_S ρ2 83 77 = 0 ∧ th_S ρ2 83 79 = 0 ∧ th_S ρ2 83 80 = 0 ∧ th_S ρ2 83 85 = 0 ∧ th_S ρ2 124 0 = 0 ∧ th_S ρ2 124 1 = 0 := by
    unfold th_S
    refine ⟨?_, ?_, ?_, ?_, ?_, ?_⟩
    · rw [js_up_na _ (by decide), js_up_na _ (by decide), js_up_ni _ (by decide), js_up_ni _ (by decide), js_up_ni _ (by decide), js_up_same]
    · rw [js_up_na _ (by decide), js_up_na _ (by decide), js_up_ni _ (by decide), js_up_ni _ (by decide), js_up_same]
    · rw [js_up_na _ (by decide), js_up_na _ (by decide), js_up_ni _ (by decide), js_up_same]
    · rw [js_up_na _ (by decide), js_up_na _ (by decide), js_up_same]
    · rw [js_up_ni _ (by decide), js_up_same]
    · rw [js_up_same]
  have e4 : js_J E (e - 1) 274 0 [(2, 83)] [] ρ2 = js_r0 E (th_S ρ2) := b_274_0
  have u : ∀ a i : Int, ¬ (a = 83 ∧ 81 ≤ i ∧ i ≤ 83) → js_up (js_up (js_up (th_S ρ2) 83 81 0) 83 82 z1) 83 83 z2 a i = th_S ρ2 a i := fun a i g => by rw [js_up_ne _ (by omega), js_up_ne _ (by omega), js_up_ne _ (by omega)]
  refine ⟨js_up (js_up (js_up (th_S ρ2) 83 81 0) 83 82 z1) 83 83 z2, by rw [e3, k_290_73 he e4, b_290_76], fun i i1 i2 => ?_, ⟨⟨?_, ?_⟩, ?_, ?_⟩, ⟨⟨?_, ?_, ?_, ?_⟩, ?_, ?_, ?_, ?_, ?_⟩, fun a i g1 g2 g3 => ?_⟩
  · rw [u _ _ (by omega), t _ _ (by omega) (by omega), w _ _ (by omega)]
    exact v1 i i1 i2
  · rw [u _ _ (by omega), t _ _ (by omega) (by omega), w1]
  · rw [u _ _ (by omega), t _ _ (by omega) (by omega), w2]
  · rw [u _ _ (by omega), t _ _ (by omega) (by omega), w3]
  · rw [u _ _ (by omega), t _ _ (by omega) (by omega), w4]
  · rw [u _ _ (by omega)]; exact t7.1
  · rw [u _ _ (by omega)]; exact t7.2.1
  · rw [u _ _ (by omega)]; exact t7.2.2.1
  · rw [u _ _ (by omega)]; exact t7.2.2.2.1
  · rw [js_up_ni _ (by decide), js_up_ni _ (by decide), js_up_same]
  · rw [js_up_ni _ (by decide), js_up_same]
  · rw [js_up_same]
  · rw [u _ _ (by omega)]; exact t7.2.2.2.2.1
  · rw [u _ _ (by omega)]; exact t7.2.2.2.2.2
  · rw [u a i (by omega), t a i (by omega) (by omega), w a i (by omega), f1 a i (by omega)]
end SV
