/-! part 99.zr: CALL in the class -/
section PB
variable {E : js_E} {d : Nat} {b : Int} {σ : js_S}
/-- CALL, the deepest level, the bound -/
theorem c_call (hb : b = 0 ∨ b = 25) (hz : cz_R σ b) (hd : 6 ≤ d) {x : Int} (hx : js_desc E.1 σ x = some (0, 11, js_sym)) (hge : 137 ≤ x) (h9 : 0 ≤ σ x 9 ∧ σ x 9 ≤ 400000) (h10 : 0 ≤ σ x 10 ∧ σ x 10 ≤ 17) (h12 : 0 ≤ σ (8 + b) 12 ∧ σ (8 + b) 12 ≤ 17) : ∃ (σ1 σ' : js_S), js_J E d 73 0 [(2, 8 + b), (2, x)] [] σ = js_r0 E σ' ∧ em_R b σ σ1 27 (σ x 5) 0 1 0 0 ∧ σ' (8 + b) 12 = max (σ (8 + b) 12) (σ x 10) ∧ σ' (8 + b) 7 = min 400000 (σ1 (8 + b) 7 + σ x 9) ∧ (∀ a k : Int, ¬ (a = 8 + b ∧ (k = 7 ∨ k = 12)) → σ' a k = σ1 a k) := by
  obtain ⟨σ1, e1, h3⟩ := c_put (E := E) (d := d - 1) hb hz (by omega) (x1 := 27) (x2 := σ x 5) (x3 := 0) (x4 := 1) (x5 := 0) (x6 := 0)
  have kO := h3.2.2.2
  have s1 : ∀ k : Int, σ1 x k = σ x k := fun k => kO _ _ (by omega) (by omega)
  have hx1 : js_desc E.1 σ1 x = some (0, 11, js_sym) := js_desc_mono hx (by rw [kO _ _ (by omega) (by omega)]; exact Int.le_refl _) (fun _ => s1 _)
  have a12 : σ1 (8 + b) 12 = σ (8 + b) 12 := kO _ _ (by omega) (by omega)
  have z7 : 0 ≤ σ1 (8 + b) 7 ∧ σ1 (8 + b) 7 ≤ 400000 := by
    have h7 := h3.2.1
    unfold cz_R at hz
    omega
  have m12 : js_up σ1 (8 + b) 12 (max (σ (8 + b) 12) (σ x 10)) (8 + b) 12 = max (σ (8 + b) 12) (σ x 10) := js_up_same _ _ _ _
  have mO : ∀ a k : Int, ¬ (a = 8 + b ∧ k = 12) → js_up σ1 (8 + b) 12 (max (σ (8 + b) 12) (σ x 10)) a k = σ1 a k := fun a k h => js_up_ne _ h
  have q7 : (if js_l (js_w (σ1 (8 + b) 7) + σ x 9) < js_l 400000 then js_w (σ1 (8 + b) 7) + σ x 9 else 400000) = min 400000 (σ1 (8 + b) 7 + σ x 9) := by
    rw [js_w_of (x := σ1 (8 + b) 7) (by omega) (by omega), js_l_of (x := σ1 (8 + b) 7 + σ x 9) (by omega) (by omega), js_l_of (x := 400000) (by decide) (by decide)]
    split <;> omega
  refine ⟨σ1, js_up (js_up σ1 (8 + b) 12 (max (σ (8 + b) 12) (σ x 10))) (8 + b) 7 (min 400000 (σ1 (8 + b) 7 + σ x 9)), ?_, h3, ?_, js_up_same _ _ _ _, fun a k h => ?_⟩
  · rw [b_73_0 hx, k_73_11 hb (by omega) e1, b_73_14 (by omega) hb hx1, s1, s1, a12, w_max (x := σ (8 + b) 12) (y := σ x 10) (by omega) (by omega) (by omega) (by omega), js_w_of (x := σ x 9) (by omega) (by omega), k_73_35 hb (by omega) (b_74_0 (by omega) hb), b_73_38, mO _ _ (by omega), q7]
  · rw [js_up_ni _ (by decide), m12]
  · rw [js_up_ne _ (by omega), mO _ _ (by omega)]
end PB
