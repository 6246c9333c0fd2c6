/-! part 99.zzzzzs: a CYCLE that is EMITTED is over in both; one STEP of the machine -/
section YU
variable {E : js_E} {d e : Nat} {Fu : Int → Int → Int → Prop} {ac zc b N : Int} {T : Nat} {σ ρ σ' ρ' : js_S}
/-- a CYCLE that is EMITTED is over in both -/
theorem y_emit (hb : b = 0 ∨ b = 25) (hA : mh_A E Fu ac zc b N T σ ρ) (h0 : σ' 58 0 = 0 ∧ σ' 58 1 = 0 ∧ cq_R N 59 0 σ' ρ' ∧ cq_R N 62 1 σ' ρ') (h2 : σ' 58 2 = 4) (hC : ∀ a i : Int, ¬ (56 ≤ a ∧ a ≤ 64) ∨ a = 56 ∧ i = 2 → σ' a i = σ a i) (hM : ∀ a i : Int, ¬ (a = 83 ∧ 77 ≤ i ∧ i ≤ 85) → ¬ (120 ≤ a ∧ a ≤ 124) → ρ' a i = ρ a i) (h81 : ρ' 83 81 = ρ 83 81) (h82 : ρ' 83 82 = ρ 83 82) (h83 : σ' 56 9 = ρ' 83 83) (h56 : σ' 56 1 = σ 56 1) (h563 : σ' 56 3 = σ 56 3) (h564 : σ' 56 4 = σ 56 4) (hem : ρ 83 82 < 2000000000) (hd : 12 ≤ d) (he : 2 ≤ e) : ∃ σ3 ρ3 : js_S, js_J E d 176 0 [(2, 56)] [] σ' = js_r0 E σ3 ∧ js_J E e 275 27 [(2, 83), (0, 4096 * ((js_w (ρ' 83 82)).tmod 16)), (0, 0), (9, 0)] [] ρ' = js_r0 E ρ3 ∧ mg_C σ σ3 ∧ mg_M ρ ρ3 ∧ mh_A E Fu ac zc b N T σ3 ρ3 ∧ mh_0 N σ3 ρ3 ∧ ρ3 83 82 = ρ 83 82 + 1 ∧ ρ3 83 81 = ρ 83 81 := by
  have hv := hA.2.2.1
  have hou := hA.2.1
  have hp0 := hA.1.2.1
  have hN := hp0.1.2.1
  have yM : ∀ a i : Int, 84 ≤ a → a ≤ 119 → ρ' a i = ρ a i := fun a i g1 g2 => hM a i (by omega) (by omega)
  have hp' : pr_R E b T N σ' ρ' := pr_gen hb hp0 (fun a i g => hC a i (by omega)) (fun i g => hM 83 i (by omega) (by omega)) yM
  -- the class's state ahead of the copy
  have g : ∀ a i : Int, ¬ (a = 56 ∧ (i = 4 ∨ i = 8)) → js_up (js_up σ' 56 8 0) 56 4 (σ' 56 4 + 1) a i = σ' a i := fun a i q => by rw [js_up_ne _ (by omega), js_up_ne _ (by omega)]
  have g4 : js_up (js_up σ' 56 8 0) 56 4 (σ' 56 4 + 1) 56 4 = σ' 56 4 + 1 := js_up_same _ _ _ _
  have g8 : js_up (js_up σ' 56 8 0) 56 4 (σ' 56 4 + 1) 56 8 = 0 := by rw [js_up_ni _ (by decide), js_up_same]
  have e56 : σ' 56 1 = 7 + b := by rw [h56]; exact hA.1.1
  have c0 : js_J E d 176 0 [(2, 56)] [] σ' = js_J E d 176 62 [(2, 56)] [(0, ((js_w (σ' 56 4 + 1)).tmod 16) * (σ' (7 + b) 6)), (2, 81), (2, 58), (2, 56)] (js_up (js_up σ' 56 8 0) 56 4 (σ' 56 4 + 1)) := by
    rw [b_176_0 hb e56, h2, if_pos (show js_w 4 = 4 by decide)]
  generalize js_up (js_up σ' 56 8 0) 56 4 (σ' 56 4 + 1) = σ4 at g g4 g8 c0
  have n4 : σ' 56 4 = ρ 83 82 := by rw [h564]; exact hv.2.1.1
  have n0 := hv.2.1.2
  have k6 : σ' (7 + b) 6 = ou_o ρ' T := by
    rw [hp'.2.1.2.2.2.2, hM 83 47 (by omega) (by omega), ou_o_eq yM]
    exact hou.1.symm
  have wS : (js_w (σ' 56 4 + 1)).tmod 16 = (ρ 83 82 + 1) % 16 := by
    rw [n4, js_w_of (x := ρ 83 82 + 1) (by omega) (by omega)]
    exact Int.tmod_eq_emod_of_nonneg (by omega)
  have wR : (js_w (ρ' 83 82)).tmod 16 = ρ 83 82 % 16 := by
    rw [h82, js_w_of (x := ρ 83 82) (by omega) (by omega)]
    exact Int.tmod_eq_emod_of_nonneg n0
  rw [wS, k6] at c0
  rw [wR]
  have hW : 0 ≤ ou_o ρ' T ∧ ou_o ρ' T ≤ N := by rw [ou_o_eq yM]; exact ⟨hou.2.1, hou.2.2.1⟩
  have hp4 : pr_R E b T N σ4 ρ' := pr_gen hb hp' (fun a i q => g a i (by omega)) (fun i _ => rfl) (fun _ _ _ _ => rfl)
  have q1 : cq_R N (59 + 0) 0 σ4 ρ' := cq_cl h0.2.2.1 (fun i q => g _ _ (by omega)) (fun i => g _ _ (by omega))
  have hA81 : ∀ τ : js_S, js_desc E.1 τ 81 = some (1, 16 * E.1, []) := fun τ => rfl
  have m1 : 0 ≤ (ρ 83 82 + 1) % 16 ∧ (ρ 83 82 + 1) % 16 ≤ 15 := by omega
  have mS : 0 ≤ (ρ 83 82 + 1) % 16 * ou_o ρ' T ∧ (ρ 83 82 + 1) % 16 * ou_o ρ' T ≤ 15 * ou_o ρ' T := ⟨Int.mul_nonneg m1.1 hW.1, Int.mul_le_mul_of_nonneg_right m1.2 hW.1⟩
  have hI : yo_I 81 ((ρ 83 82 + 1) % 16 * ou_o ρ' T) (4096 * (ρ 83 82 % 16)) (ou_o ρ' 0) σ4 ρ' σ4 ρ' := ⟨fun _ _ _ => rfl, fun _ _ _ => rfl, fun j j1 j2 => by
    have : ou_o ρ' 0 = 0 := rfl
    omega⟩
  obtain ⟨σ5, ρ5, w4, f1, f2, f3⟩ := yo_out (E := E) (d := d - 1) (e := e) (r := 0) hb (Or.inl rfl) hp4 (by rw [g _ _ (by omega)]; exact e56) q1 (Or.inr rfl) hA81 (by omega) (by omega) (S := (ρ 83 82 + 1) % 16 * ou_o ρ' T) (R := 4096 * (ρ 83 82 % 16)) ⟨mS.1, by omega⟩ ⟨by omega, by omega⟩ T 0 σ4 ρ' (9, 0) (9, 0) (9, 0) (by omega) hI
  have f1' : js_J E (d - 1) 163 6 [(2, 56), (2, 58), (2, 81), (0, (ρ 83 82 + 1) % 16 * ou_o ρ' T), (0, (ρ 83 82 + 1) % 16 * ou_o ρ' T), (0, 0), (9, 0), (9, 0)] [] σ4 = js_r0 E σ5 := by
    have z : ou_o ρ' 0 = 0 := rfl
    simp only [z, Int.add_zero] at f1
    exact f1
  have f2' : js_J E e 275 27 [(2, 83), (0, 4096 * (ρ 83 82 % 16)), (0, 0), (9, 0)] [] ρ' = js_J E e 275 106 [(2, 83), (0, 4096 * (ρ 83 82 % 16) + ou_o ρ' T), (0, (T : Int)), w4] [(2, 83)] (js_up ρ5 83 82 (ρ5 83 82 + 1)) := by
    have z : ou_o ρ' 0 = 0 := rfl
    rw [z, Int.add_zero] at f2
    exact f2
  have b163 := b_163_0 (E := E) (d := d - 1) (σ := σ4) (x2 := 81) (x3 := (ρ 83 82 + 1) % 16 * ou_o ρ' T) (q := 0)
  simp only [Int.add_zero] at b163
  have ec : js_J E d 176 0 [(2, 56)] [] σ' = js_r0 E σ5 := by
    rw [c0, k_176_62 (by omega) (by rw [b163, f1']), b_176_65]
  have er : js_J E e 275 27 [(2, 83), (0, 4096 * (ρ 83 82 % 16)), (0, 0), (9, 0)] [] ρ' = js_r0 E (th_S (js_up ρ5 83 82 (ρ5 83 82 + 1))) := by
    rw [f2', k_275_106 (by omega) b_274_0, b_275_109]
    rfl
  have v82 : ρ5 83 82 = ρ 83 82 := by rw [f3.2.1 _ _ (by omega)]; exact h82
  have t : ∀ a i : Int, ¬ (a = 83 ∧ (i = 77 ∨ i = 79 ∨ i = 80 ∨ i = 82 ∨ i = 85)) → a ≠ 124 → th_S (js_up ρ5 83 82 (ρ5 83 82 + 1)) a i = ρ5 a i := fun a i q1 q2 => by rw [th_o (by omega) (by omega), js_up_ne _ (by omega)]
  have t82 : th_S (js_up ρ5 83 82 (ρ5 83 82 + 1)) 83 82 = ρ 83 82 + 1 := by rw [th_o (by omega) (by omega), js_up_same, v82]
  have t77 : th_S (js_up ρ5 83 82 (ρ5 83 82 + 1)) 83 77 = 0 := by unfold th_S; rw [js_up_na _ (by decide), js_up_na _ (by decide), js_up_ni _ (by decide), js_up_ni _ (by decide), js_up_ni _ (by decide), js_up_same]
  have t79 : th_S (js_up ρ5 83 82 (ρ5 83 82 + 1)) 83 79 = 0 := by unfold th_S; rw [js_up_na _ (by decide), js_up_na _ (by decide), js_up_ni _ (by decide), js_up_ni _ (by decide), js_up_same]
  have t85 : th_S (js_up ρ5 83 82 (ρ5 83 82 + 1)) 83 85 = 0 := by unfold th_S; rw [js_up_na _ (by decide), js_up_na _ (by decide), js_up_same]
  generalize th_S (js_up ρ5 83 82 (ρ5 83 82 + 1)) = ρ6 at er t t82 t77 t79 t85
  have s5 : ∀ a i : Int, a ≠ 81 → σ5 a i = σ4 a i := fun a i q => f3.1 a i (by omega)
  have r5 : ∀ a i : Int, a ≠ 126 → ρ5 a i = ρ' a i := fun a i q => f3.2.1 a i (by omega)
  have y6 : ∀ a i : Int, 84 ≤ a ∧ a ≤ 119 ∨ a = 125 → ρ6 a i = ρ a i := fun a i q => by rw [t a i (by omega) (by omega), r5 a i (by omega), hM a i (by omega) (by omega)]
  have y6' : ∀ a i : Int, 84 ≤ a → a ≤ 119 → ρ6 a i = ρ a i := fun a i q1 q2 => y6 a i (by omega)
  have u81 : ρ6 83 81 = ρ 83 81 := by rw [t _ _ (by omega) (by omega), r5 _ _ (by decide), h81]
  refine ⟨σ5, ρ6, ec, er, fun a i q1 q2 => by rw [s5 a i q2, g a i (by omega), hC a i q1], fun a i q1 q2 q3 => by rw [t a i (by omega) (by omega), r5 a i q3, hM a i q1 q2], mh_mk hb hA (fun a i q => by rw [s5 a i (by omega), g a i (by omega), hC a i (by omega)]) (by rw [s5 _ _ (by decide), g _ _ (by omega), h56]) (fun i q => by rw [t _ _ (by omega) (by omega), r5 _ _ (by decide), hM _ _ (by omega) (by omega)]) y6 ⟨?_, ?_, ?_⟩ ⟨?_, ?_⟩ ?_ ⟨0, fq_0 (by rw [s5 _ _ (by decide)]; exact g8) t85 rfl⟩ ?_, ⟨⟨?_, t77, ?_, t79⟩, ?_, ?_⟩, t82, u81⟩
  · rw [s5 _ _ (by decide), g _ _ (by omega), h563, u81]
    exact hv.1.1
  · rw [u81]
    exact hv.1.2.1
  · rw [u81]
    exact hv.1.2.2
  · rw [s5 _ _ (by decide), g4, t82, n4]
  · rw [t82]
    omega
  · rw [s5 _ _ (by decide), g _ _ (by omega), t _ _ (by omega) (by omega), r5 _ _ (by decide)]
    exact h83
  · intro m k1 k2 k3 j j1 j2
    rw [t82] at k2 k3
    rw [ou_o_eq y6'] at j2 ⊢
    rw [t _ _ (by omega) (by omega)]
    have eo : ou_o ρ' T = ou_o ρ T := ou_o_eq yM T
    rw [eo] at f3
    by_cases q : m = ρ 83 82 + 1
    · rw [q, show ρ 83 82 + 1 - 1 = ρ 83 82 by omega]
      exact f3.2.2 j j1 j2
    · have rn := row_ne (a := m % 16) (b := (ρ 83 82 + 1) % 16) (W := ou_o ρ T) (j := j) (by omega) ⟨j1, j2⟩
      rw [f3.1 _ _ (fun hh => rn hh.2), f3.2.1 _ _ (by omega), g _ _ (by omega), hC _ _ (by omega), hM _ _ (by omega) (by omega)]
      exact hA.2.2.2 m k1 (by omega) (by omega) j j1 j2
  · rw [s5 _ _ (by decide), g _ _ (by omega)]
    exact h0.1
  · rw [s5 _ _ (by decide), g _ _ (by omega)]
    exact h0.2.1
  · have c := h0.2.2.1
    exact ⟨by rw [s5 _ _ (by decide), g _ _ (by omega), t _ _ (by omega) (by decide), r5 _ _ (by decide)]; exact c.1, by rw [s5 _ _ (by decide), g _ _ (by omega), t _ _ (by omega) (by decide), r5 _ _ (by decide)]; exact c.2.1, fun k k1 k2 => by rw [s5 _ _ (by decide), g _ _ (by omega), t _ _ (by omega) (by decide), r5 _ _ (by decide)]; exact c.2.2 k k1 k2⟩
  · have c := h0.2.2.2
    exact ⟨by rw [s5 _ _ (by decide), g _ _ (by omega), t _ _ (by omega) (by decide), r5 _ _ (by decide)]; exact c.1, by rw [s5 _ _ (by decide), g _ _ (by omega), t _ _ (by omega) (by decide), r5 _ _ (by decide)]; exact c.2.1, fun k k1 k2 => by rw [s5 _ _ (by decide), g _ _ (by omega), t _ _ (by omega) (by decide), r5 _ _ (by decide)]; exact c.2.2 k k1 k2⟩
end YU
