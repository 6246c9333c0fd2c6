/-! part 99.zzzx: the class places its variables -/
def pl_f (σ : js_S) (b i : Int) : Int := if 0 ≤ σ (σ (19 + b) i) 11 ∧ σ (σ (19 + b) i) 11 < 401 then σ (σ (19 + b) i) 5 + σ (15 + b) (σ (σ (19 + b) i) 11) else σ (σ (19 + b) i) 5
/-- no symbol of these -/
def pm_O (b : Int) (T : Nat) (σ : js_S) (a : Int) : Prop := ∀ k : Int, 0 ≤ k → k < T → σ (19 + b) k ≠ a
/-- k of T symbols were placed -/
def pm_R (b : Int) (T k : Nat) (σ σ' : js_S) : Prop := (∀ i : Int, 0 ≤ i → i < k → σ' (σ (19 + b) i) 5 = pl_f σ b i) ∧ (∀ i : Int, k ≤ i → i < T → σ' (σ (19 + b) i) 5 = σ (σ (19 + b) i) 5) ∧ ∀ a i : Int, i ≠ 5 ∨ a < 137 ∨ pm_O b T σ a → σ' a i = σ a i
section PL
variable {E : js_E} {d : Nat} {b : Int} {σ0 : js_S}
theorem c_plc1 {T : Nat} (hb : b = 0 ∨ b = 25) (hT : T ≤ 400) (h1 : σ0 (7 + b) 1 = T) (hd : 1 ≤ d) (hY : ∀ i : Int, 0 ≤ i → i < T → js_desc E.1 σ0 (σ0 (19 + b) i) = some (0, 11, js_sym) ∧ -1 ≤ σ0 (σ0 (19 + b) i) 11 ∧ σ0 (σ0 (19 + b) i) 11 < 1000) (hne : ∀ i k : Int, 0 ≤ i → i < T → 0 ≤ k → k < T → i ≠ k → σ0 (19 + b) i ≠ σ0 (19 + b) k) : ∀ (g k : Nat) (σ : js_S) (ux2 : js_v), g + k = T → pm_R b T k σ0 σ → ∃ σ' : js_S, js_J E d 113 17 [(2, 7 + b), (0, k), ux2] [] σ = js_r0 E σ' ∧ pm_R b T T σ0 σ' := by
  intro g
  induction g with
  | zero =>
    intro k σ ux2 hk h
    have ek : k = T := by omega
    subst ek
    have e1 : σ (7 + b) 1 = k := by rw [h.2.2 _ _ (by omega)]; exact h1
    refine ⟨σ, ?_, h⟩
    rw [b_113_17 hb, e1, if_neg (Int.lt_irrefl _)]
  | succ g ih =>
    intro k σ ux2 hk h
    have e1 : σ (7 + b) 1 = T := by rw [h.2.2 _ _ (by omega)]; exact h1
    have wk : js_w (k : Int) = k := js_w_of (by omega) (by omega)
    have wT : js_w (T : Int) = T := js_w_of (by omega) (by omega)
    have ek : (k : Int) + 1 = ((k + 1 : Nat) : Int) := by push_cast; rfl
    have e19 : σ (19 + b) k = σ0 (19 + b) k := h.2.2 _ _ (by omega)
    obtain ⟨ds0, u0, u1⟩ := hY k (by omega) (by omega)
    have ge := js_sym_ge ds0
    have ds : js_desc E.1 σ (σ0 (19 + b) k) = some (0, 11, js_sym) := js_desc_mono ds0 (by rw [h.2.2 _ _ (by omega)]; exact Int.le_refl _) (fun _ => h.2.2 _ _ (by omega))
    have e11 : σ (σ0 (19 + b) k) 11 = σ0 (σ0 (19 + b) k) 11 := h.2.2 _ _ (by omega)
    have e5 : σ (σ0 (19 + b) k) 5 = σ0 (σ0 (19 + b) k) 5 := h.2.1 k (by omega) (by omega)
    have w11 : js_w (σ0 (σ0 (19 + b) k) 11) = σ0 (σ0 (19 + b) k) 11 := js_w_of (by omega) (by omega)
    have r67 : js_J E (d - 1) 67 0 [(2, 7 + b), (0, (k : Int))] [] σ = js_r E (2, σ0 (19 + b) k) σ := by
      rw [b_67_0 hb, e1, wk, wT, if_neg (by omega), if_pos (by omega), if_pos (by omega), if_pos ⟨by omega, by omega⟩, e19]
    have step : ∀ σ1 : js_S, σ1 (σ0 (19 + b) k) 5 = pl_f σ0 b k → (∀ a i : Int, ¬ (a = σ0 (19 + b) k ∧ i = 5) → σ1 a i = σ a i) → pm_R b T (k + 1) σ0 σ1 := fun σ1 k1 k2 => by
      refine ⟨fun i g1 g2 => ?_, fun i g1 g2 => ?_, fun a i hh => ?_⟩
      · push_cast at g2
        by_cases q : i = k
        · rw [q]
          exact k1
        · have ne := hne i k g1 (by omega) (by omega) (by omega) q
          rw [k2 _ _ (fun hh => ne hh.1)]
          exact h.1 i g1 (by omega)
      · push_cast at g1
        have ne := hne i k (by omega) g2 (by omega) (by omega) (by omega)
        rw [k2 _ _ (fun hh => ne hh.1)]
        exact h.2.1 i (by omega) g2
      · have ne : ¬ (a = σ0 (19 + b) k ∧ i = 5) := fun hq => by
          rcases hh with q | q | q
          · exact q hq.2
          · omega
          · exact q k (by omega) (by omega) hq.1.symm
        rw [k2 a i ne]
        exact h.2.2 a i hh
    rw [b_113_17 hb, e1, wk, wT, if_pos (by omega), k_113_27 hb hd r67, b_113_30, if_neg (by omega), b_113_35 ds hb, e11, w11]
    by_cases q : σ0 (σ0 (19 + b) k) 11 < 0
    · obtain ⟨σ', e2, h2⟩ := ih (k + 1) σ (2, σ0 (19 + b) k) (by omega) (step σ (by unfold pl_f; rw [if_neg (by omega)]; exact e5) (fun _ _ _ => rfl))
      exact ⟨σ', by rw [if_pos q, b_113_73, ek, e2], h2⟩
    · rw [if_neg q]
      by_cases q2 : σ0 (σ0 (19 + b) k) 11 < 401
      · have q3 : 0 ≤ σ0 (σ0 (19 + b) k) 11 ∧ σ0 (σ0 (19 + b) k) 11 < 401 := ⟨by omega, q2⟩
        have e15 : σ (15 + b) (σ0 (σ0 (19 + b) k) 11) = σ0 (15 + b) (σ0 (σ0 (19 + b) k) 11) := h.2.2 _ _ (by omega)
        obtain ⟨σ', e2, h2⟩ := ih (k + 1) (js_up σ (σ0 (19 + b) k) 5 (σ (σ0 (19 + b) k) 5 + σ (15 + b) (σ0 (σ0 (19 + b) k) 11))) (2, σ0 (19 + b) k) (by omega) (step _ (by unfold pl_f; rw [js_up_same, if_pos q3, e5, e15]) (fun a i hh => js_up_ne _ hh))
        exact ⟨σ', by rw [if_pos q2, if_pos q3, b_113_73, ek, e2], h2⟩
      · obtain ⟨σ', e2, h2⟩ := ih (k + 1) σ (2, σ0 (19 + b) k) (by omega) (step σ (by unfold pl_f; rw [if_neg (by omega)]; exact e5) (fun _ _ _ => rfl))
        exact ⟨σ', by rw [if_neg q2, b_113_73, ek, e2], h2⟩
/-- placeLocals: T symbols, N units, M instructions -/
theorem c_place {T N M : Nat} (hb : b = 0 ∨ b = 25) (hT : T ≤ 400) (h1 : σ0 (7 + b) 1 = T) (hd : 2 ≤ d) (hY : ∀ i : Int, 0 ≤ i → i < T → js_desc E.1 σ0 (σ0 (19 + b) i) = some (0, 11, js_sym) ∧ -1 ≤ σ0 (σ0 (19 + b) i) 11 ∧ σ0 (σ0 (19 + b) i) 11 < 1000) (hne : ∀ i k : Int, 0 ≤ i → i < T → 0 ≤ k → k < T → i ≠ k → σ0 (19 + b) i ≠ σ0 (19 + b) k) (hn : N ≤ 401) (h8 : σ0 (8 + b) 8 = N) (hM : M ≤ 8192) (h6 : M ≤ σ0 (8 + b) 6 ∧ σ0 (8 + b) 6 < 2147483648) (hst : ¬ (M : Int) < σ0 (8 + b) 6 ∨ M = 8192) : ∃ σ1 σ2 σ3 σ' : js_S, js_J E d 113 0 [(2, 7 + b), (9, 0), (9, 0)] [] σ0 = js_r0 E σ' ∧ us_R b (σ0 (7 + b) 2) N σ0 σ1 ∧ ul_R b M σ1 σ2 ∧ σ3 = js_up σ2 (7 + b) 2 (un_b σ0 b (σ0 (7 + b) 2) N) ∧ pm_R b T T σ3 σ' := by
  obtain ⟨σ1, σ2, e1, hu, hl⟩ := c_settle (E := E) (d := d - 1) (x1 := σ0 (7 + b) 2) hb hn h8 hM h6 hst
  have f2 : ∀ a i : Int, a ≠ 10 + b → a ≠ 15 + b → a ≠ 16 + b → σ2 a i = σ0 a i := fun a i g1 g2 g3 => by rw [hl.2 a i (by omega), hu.2 a i (by omega)]
  have f3 : ∀ a i : Int, a ≠ 10 + b → a ≠ 15 + b → a ≠ 16 + b → ¬ (a = 7 + b ∧ i = 2) → js_up σ2 (7 + b) 2 (un_b σ0 b (σ0 (7 + b) 2) N) a i = σ0 a i := fun a i g1 g2 g3 g4 => by rw [js_up_ne _ g4, f2 a i g1 g2 g3]
  have e19 : ∀ i : Int, js_up σ2 (7 + b) 2 (un_b σ0 b (σ0 (7 + b) 2) N) (19 + b) i = σ0 (19 + b) i := fun i => f3 _ _ (by omega) (by omega) (by omega) (by omega)
  obtain ⟨σ', e2, h2⟩ := c_plc1 (E := E) (d := d) (σ0 := js_up σ2 (7 + b) 2 (un_b σ0 b (σ0 (7 + b) 2) N)) (T := T) hb hT (by rw [f3 _ _ (by omega) (by omega) (by omega) (by omega)]; exact h1) (by omega) (fun i g1 g2 => by
    obtain ⟨a1, a2, a3⟩ := hY i g1 g2
    have ge := js_sym_ge a1
    rw [e19, f3 _ _ (by omega) (by omega) (by omega) (by omega)]
    exact ⟨js_desc_mono a1 (by rw [f3 _ _ (by omega) (by omega) (by omega) (by omega)]; exact Int.le_refl _) (fun _ => f3 _ _ (by omega) (by omega) (by omega) (by omega)), a2, a3⟩) (fun i k g1 g2 g3 g4 g5 => by
    rw [e19, e19]
    exact hne i k g1 g2 g3 g4 g5) T 0 (js_up σ2 (7 + b) 2 (un_b σ0 b (σ0 (7 + b) 2) N)) (9, 0) (by omega) ⟨fun i g1 g2 => absurd g2 (by omega), fun _ _ _ => rfl, fun _ _ _ => rfl⟩
  refine ⟨σ1, σ2, _, σ', ?_, hu, hl, rfl, h2⟩
  rw [b_113_0 hb, k_113_9 hb (by omega) e1, b_113_12 hb]
  exact e2
end PL
