/-! part 99.zzzzzzl: class and reference side by side in one world -/
/-- one store out of two: the reference's cells of the second, all others of the first -/
def jn (σ ρ : js_S) : js_S := fun a i => if 83 ≤ a ∧ a ≤ 135 then ρ a i else σ a i
theorem jn_r {σ ρ : js_S} {a i : Int} (h : 83 ≤ a ∧ a ≤ 135) : jn σ ρ a i = ρ a i := if_pos h
theorem jn_c {σ ρ : js_S} {a i : Int} (h : ¬ (83 ≤ a ∧ a ≤ 135)) : jn σ ρ a i = σ a i := if_neg h
theorem jn_eq {σ ρ τ : js_S} (hc : ∀ a i : Int, ¬ (83 ≤ a ∧ a ≤ 135) → τ a i = σ a i) (hr : ∀ a i : Int, 83 ≤ a → a ≤ 135 → τ a i = ρ a i) : τ = jn σ ρ := by
  funext a i
  by_cases h : 83 ≤ a ∧ a ≤ 135
  · rw [jn_r h, hr a i h.1 h.2]
  · rw [jn_c h, hc a i h]
theorem js_cell_of {M : Int} {σ τ : js_S} {q : Nat} (h0 : τ (-1) 0 = σ (-1) 0) (hq : ∀ i : Int, τ q i = σ q i) : js_cell M τ q = js_cell M σ q := by
  have e : τ (q : Int) = σ (q : Int) := funext hq
  have ed : js_desc M τ q = js_desc M σ q := by
    unfold js_desc
    rw [h0, e]
  unfold js_cell
  rw [ed, e]
theorem js_cell_fix {M : Int} {σ τ : js_S} {q : Nat} (hq7 : q < 137) (hq : ∀ i : Int, τ q i = σ q i) : js_cell M τ q = js_cell M σ q := by
  have e : τ (q : Int) = σ (q : Int) := funext hq
  have ed : js_desc M τ q = js_desc M σ q := by
    unfold js_desc
    rw [if_pos (show (0 : Int) ≤ q by omega), if_pos (show (q : Int) < 137 by omega), if_pos (show (0 : Int) ≤ q by omega), if_pos (show (q : Int) < 137 by omega)]
  unfold js_cell
  rw [ed, e]
/-- another store of the same world may stand for the class's part -/
theorem jn_wd {M : Int} {σ σ' ρ : js_S} (h : js_wd M σ = js_wd M σ') : js_wd M (jn σ ρ) = js_wd M (jn σ' ρ) := by
  unfold js_wd at h
  obtain ⟨h1, h23⟩ := Prod.mk.inj h
  obtain ⟨h2, h3⟩ := Prod.mk.inj h23
  have e : ∀ τ : js_S, ∀ i : Int, jn τ ρ (-1) i = τ (-1) i := fun τ i => jn_c (by omega)
  unfold js_wd
  rw [e, e, e, e, h1, h2]
  have h4 : js_cell M (jn σ ρ) = js_cell M (jn σ' ρ) := by
    funext q
    by_cases g : 83 ≤ (q : Int) ∧ (q : Int) ≤ 135
    · rw [js_cell_fix (σ := ρ) (τ := jn σ ρ) (by omega) (fun i => jn_r g), js_cell_fix (σ := ρ) (τ := jn σ' ρ) (by omega) (fun i => jn_r g)]
    · rw [js_cell_of (σ := σ) (τ := jn σ ρ) (e _ _) (fun i => jn_c g), js_cell_of (σ := σ') (τ := jn σ' ρ) (e _ _) (fun i => jn_c g)]
      exact congrFun h3 q
  rw [h4]
theorem js_J_wd {E : js_E} {d y pc : Nat} {ls st : List js_v} {σ τ : js_S} (h : js_wd E.1 σ = js_wd E.1 τ) : js_J E d y pc ls st σ = js_J E d y pc ls st τ := by
  unfold js_J
  rw [h]
theorem js_r_inj {E : js_E} {v w : js_v} {σ τ : js_S} (h : js_r E v σ = js_r E w τ) : js_V v = js_V w ∧ js_wd E.1 σ = js_wd E.1 τ := by
  unfold js_r at h
  simp only [Option.some.injEq, Prod.mk.injEq, Outcome.returned.injEq] at h
  exact h
theorem js_w_eq {k j : Int} (h : js_V (0, k) = js_V (0, j)) : js_w k = js_w j := by
  have e : Value.int (Int32.ofInt k) = Value.int (Int32.ofInt j) := h
  simp only [Value.int.injEq] at e
  unfold js_w
  rw [e]
/-- what one call does in both, each over a store of its own, it does over one store, one behind the other -/
theorem law_two {E : js_E} {yc yr dc dr : Nat} {lc lr : List js_v} {R : js_S → js_S → Prop} (hloc : ∀ σ ρ σ' ρ' : js_S, R σ ρ → (∀ a i : Int, ¬ (83 ≤ a ∧ a ≤ 135) → σ' a i = σ a i) → (∀ a i : Int, 83 ≤ a → a ≤ 135 → ρ' a i = ρ a i) → R σ' ρ') {R2 : js_S → js_S → Prop}
    (Y : ∀ σ ρ : js_S, R σ ρ → ∃ (σ' ρ' : js_S) (v w : Int), js_J E dc yc 0 lc [] σ = js_r E (0, v) σ' ∧ js_J E dr yr 0 lr [] ρ = js_r E (0, w) ρ' ∧ js_w v = js_w w ∧ R2 σ' ρ' ∧ (∀ a i : Int, 83 ≤ a → a ≤ 135 → σ' a i = σ a i) ∧ (∀ a i : Int, ¬ (83 ≤ a ∧ a ≤ 135) → ρ' a i = ρ a i)) {τ : js_S} (h : R τ τ) :
    ∃ (τ1 τ2 σ2 ρ2 : js_S) (v w : Int), js_J E dc yc 0 lc [] τ = js_r E (0, v) τ1 ∧ js_J E dr yr 0 lr [] τ1 = js_r E (0, w) τ2 ∧ js_w v = js_w w ∧ R2 σ2 ρ2 ∧ js_wd E.1 τ2 = js_wd E.1 (jn σ2 ρ2) := by
  obtain ⟨σ1, ρ1, v1, w1, c1, m1, _, _, fc, _⟩ := Y τ τ h
  obtain ⟨σ2, ρ2, v2, w2, c2, m2, vw, r2, _, fm⟩ := Y τ σ1 (hloc τ τ τ σ1 h (fun _ _ _ => rfl) (fun a i g1 g2 => fc a i g1 g2))
  obtain ⟨ev, ew⟩ := js_r_inj (c1.symm.trans c2)
  have e : ρ2 = jn σ1 ρ2 := jn_eq (fun a i g => fm a i g) (fun _ _ _ _ => rfl)
  refine ⟨σ1, ρ2, σ2, ρ2, v1, w2, c1, m2, (js_w_eq ev).trans vw, r2, ?_⟩
  rw [← jn_wd ew, ← e]
/-- the law's own row of one long -/
theorem js_136 {M : Int} {σ τ : js_S} (h : js_wd M σ = js_wd M τ) : js_l (σ 136 0) = js_l (τ 136 0) := by
  have h3 : js_cell M σ 136 = js_cell M τ 136 := congrFun (congrArg (fun w => w.2.2) h) 136
  have e : ∀ ν : js_S, js_cell M ν 136 = some (.inl (2, 1, .inr (.inl (fun i : Nat => Int64.ofInt (ν 136 (i : Int)))))) := fun ν => rfl
  rw [e, e] at h3
  simp only [Option.some.injEq, Sum.inl.injEq, Sum.inr.injEq, Prod.mk.injEq, true_and] at h3
  have h4 := congrFun h3 0
  unfold js_l
  exact congrArg Int64.toInt h4
/-- the same for a call that may throw: the class's by the law's helper (k: what was thrown), the answer in the row -/
theorem law_two2 {E : js_E} {yc yr dc dr t : Nat} {lc lr : List js_v} {L : Int → Int} {R : js_S → js_S → Prop} (hloc : ∀ σ ρ σ' ρ' : js_S, R σ ρ → (∀ a i : Int, ¬ (83 ≤ a ∧ a ≤ 135) → σ' a i = σ a i) → (∀ a i : Int, 83 ≤ a → a ≤ 135 → ρ' a i = ρ a i) → R σ' ρ') {R2 : js_S → js_S → Prop}
    (Y : ∀ σ ρ : js_S, R σ ρ → ∃ (σ' ρ' : js_S) (k w : Int), js_J E dc yc 0 lc [] σ = js_r E (0, k) σ' ∧ js_J E dr yr 0 lr [] ρ = js_r E (t, w) ρ' ∧ (ρ' 83 0 = k ∧ (js_w k = 0 → js_l (σ' 136 0) = L w)) ∧ R2 σ' ρ' ∧ (∀ a i : Int, 83 ≤ a → a ≤ 135 → σ' a i = σ a i) ∧ (∀ a i : Int, ¬ (83 ≤ a ∧ a ≤ 135) → ρ' a i = ρ a i)) {τ : js_S} (h : R τ τ) :
    ∃ (τ1 τ2 σ2 ρ2 : js_S) (k w : Int), js_J E dc yc 0 lc [] τ = js_r E (0, k) τ1 ∧ js_J E dr yr 0 lr [] τ1 = js_r E (t, w) τ2 ∧ js_w (τ2 83 0) = js_w k ∧ (js_w k = 0 → js_l (τ2 136 0) = L w) ∧ R2 σ2 ρ2 ∧ js_wd E.1 τ2 = js_wd E.1 (jn σ2 ρ2) := by
  obtain ⟨σ1, ρ1, k1, w1, c1, m1, _, _, fc, _⟩ := Y τ τ h
  obtain ⟨σ2, ρ2, k2, w2, c2, m2, ⟨q1, q2⟩, r2, _, fm⟩ := Y τ σ1 (hloc τ τ τ σ1 h (fun _ _ _ => rfl) (fun a i g1 g2 => fc a i g1 g2))
  obtain ⟨ev, ew⟩ := js_r_inj (c1.symm.trans c2)
  have ek := js_w_eq ev
  have e : ρ2 = jn σ1 ρ2 := jn_eq (fun a i g => fm a i g) (fun _ _ _ _ => rfl)
  refine ⟨σ1, ρ2, σ2, ρ2, k1, w2, c1, m2, by rw [q1, ek], fun g => ?_, r2, ?_⟩
  · rw [fm 136 0 (by omega), js_136 ew]
    exact q2 (by rw [← ek]; exact g)
  · rw [← jn_wd ew, ← e]
