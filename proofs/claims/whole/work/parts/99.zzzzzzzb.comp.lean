/-! part 99.zzzzzzzb: compile, by both, as far as the program or the fault -/
/-- what the class leaves alone while compiler c works -/
def cs_F (c : Int) (σ σ' : js_S) : Prop := (∀ a i : Int, 0 ≤ a → a ≠ 1 → a ≠ 2 → a ≠ 4 → a ≠ 5 → ¬ (6 + c ≤ a ∧ a ≤ 30 + c) → a < σ (-1) 0 → (∀ k : Int, 0 ≤ k → k < 400 → σ (19 + c) k ≠ a) → σ' a i = σ a i) ∧ (∀ k : Int, 0 ≤ k → k < 400 → 0 ≤ σ (19 + c) k → σ' (19 + c) k = σ (19 + c) k) ∧ (∀ k : Int, 0 ≤ k → k < 400 → σ (19 + c) k < 0 → σ' (19 + c) k < 0 ∨ σ (-1) 0 ≤ σ' (19 + c) k) ∧ σ (-1) 0 ≤ σ' (-1) 0 ∧ σ (-1) 1 ≤ σ' (-1) 1 ∧ σ' (-1) 0 - sy_c (σ' (19 + c)) 400 ≤ σ (-1) 0 - sy_c (σ (19 + c)) 400 ∧ σ' (-1) 1 - 15 * sy_c (σ' (19 + c)) 400 ≤ σ (-1) 1 - 15 * sy_c (σ (19 + c)) 400
/-- what the reference leaves alone while it compiles -/
def cm_G (ρ ρ' : js_S) : Prop := ∀ a i : Int, ¬ (a = 83 ∧ (i = 2 ∨ 4 ≤ i ∧ i ≤ 11 ∨ 26 ≤ i ∧ i ≤ 33 ∨ 42 ≤ i ∧ i ≤ 54)) → ¬ (86 ≤ a ∧ a ≤ 115) → ρ' a i = ρ a i
def cl_8 (c : Int) (σ : js_S) : js_S := js_up (js_up (js_up (js_up (js_up (js_up (js_up σ (8 + c) 6 0) (8 + c) 8 0) (8 + c) 7 0) (8 + c) 9 0) (8 + c) 10 0) (8 + c) 11 0) (8 + c) 12 0
def cl_7 (c : Int) (σ : js_S) : js_S := js_up (js_up (js_up (js_up (js_up (js_up σ (7 + c) 1 0) (7 + c) 2 0) (7 + c) 3 (-1)) (7 + c) 4 0) (7 + c) 5 0) (7 + c) 6 0
def cl_2 (c : Int) (σ : js_S) : js_S := js_up (js_up σ (22 + c) 0 (-1)) (23 + c) 15 0
section CP
variable {E : js_E} {c n : Int} {d e : Nat} {σ ρ : js_S}
theorem cl_8_o {a i : Int} (h : a ≠ 8 + c) : cl_8 c σ a i = σ a i := by
  unfold cl_8
  rw [js_up_na _ h, js_up_na _ h, js_up_na _ h, js_up_na _ h, js_up_na _ h, js_up_na _ h, js_up_na _ h]
theorem cl_8_i : (cl_8 c σ (8 + c) 6 = 0 ∧ cl_8 c σ (8 + c) 7 = 0 ∧ cl_8 c σ (8 + c) 8 = 0) ∧ cl_8 c σ (8 + c) 9 = 0 ∧ cl_8 c σ (8 + c) 10 = 0 ∧ cl_8 c σ (8 + c) 11 = 0 ∧ cl_8 c σ (8 + c) 12 = 0 := by
  unfold cl_8
  refine ⟨⟨?_, ?_, ?_⟩, ?_, ?_, ?_, ?_⟩
  · rw [js_up_ni _ (by decide), js_up_ni _ (by decide), js_up_ni _ (by decide), js_up_ni _ (by decide), js_up_ni _ (by decide), js_up_ni _ (by decide), js_up_same]
  · rw [js_up_ni _ (by decide), js_up_ni _ (by decide), js_up_ni _ (by decide), js_up_ni _ (by decide), js_up_same]
  · rw [js_up_ni _ (by decide), js_up_ni _ (by decide), js_up_ni _ (by decide), js_up_ni _ (by decide), js_up_ni _ (by decide), js_up_same]
  · rw [js_up_ni _ (by decide), js_up_ni _ (by decide), js_up_ni _ (by decide), js_up_same]
  · rw [js_up_ni _ (by decide), js_up_ni _ (by decide), js_up_same]
  · rw [js_up_ni _ (by decide), js_up_same]
  · rw [js_up_same]
theorem cl_7_o {a i : Int} (h : a ≠ 7 + c) : cl_7 c σ a i = σ a i := by
  unfold cl_7
  rw [js_up_na _ h, js_up_na _ h, js_up_na _ h, js_up_na _ h, js_up_na _ h, js_up_na _ h]
theorem cl_7_i : cl_7 c σ (7 + c) 1 = 0 ∧ cl_7 c σ (7 + c) 2 = 0 ∧ cl_7 c σ (7 + c) 3 = -1 ∧ cl_7 c σ (7 + c) 4 = 0 ∧ cl_7 c σ (7 + c) 5 = 0 ∧ cl_7 c σ (7 + c) 6 = 0 := by
  unfold cl_7
  refine ⟨?_, ?_, ?_, ?_, ?_, ?_⟩
  · rw [js_up_ni _ (by decide), js_up_ni _ (by decide), js_up_ni _ (by decide), js_up_ni _ (by decide), js_up_ni _ (by decide), js_up_same]
  · rw [js_up_ni _ (by decide), js_up_ni _ (by decide), js_up_ni _ (by decide), js_up_ni _ (by decide), js_up_same]
  · rw [js_up_ni _ (by decide), js_up_ni _ (by decide), js_up_ni _ (by decide), js_up_same]
  · rw [js_up_ni _ (by decide), js_up_ni _ (by decide), js_up_same]
  · rw [js_up_ni _ (by decide), js_up_same]
  · rw [js_up_same]
theorem cl_2_o {a i : Int} (h : a ≠ 22 + c) (h2 : a ≠ 23 + c) : cl_2 c σ a i = σ a i := by
  unfold cl_2
  rw [js_up_na _ h2, js_up_na _ h]
theorem cl_2_i : cl_2 c σ (22 + c) 0 = -1 ∧ cl_2 c σ (23 + c) 15 = 0 := by
  unfold cl_2
  exact ⟨by rw [js_up_na _ (by omega), js_up_same], js_up_same _ _ _ _⟩
/-- compiler c is cleared, and the row of tokens made -/
theorem c_pre (hc : c = 0 ∨ c = 25) (h : tq_R σ ρ) (hby : rx_by ρ) (h7 : ρ 83 7 = 0) (hd : 10 ≤ d) : ∃ σ' : js_S, js_J E d 16 0 [(2, 6 + c), (9, 0)] [] σ = js_J E d 16 23 [(2, 6 + c), (0, 0)] [] σ' ∧ tk_T σ' (rx_next ρ) ∧ tk_A σ' (rx_next ρ) 0 ∧ (σ' 1 5 = 0 ∧ σ' 1 6 = 0) ∧ ((σ' (7 + c) 1 = 0 ∧ σ' (7 + c) 2 = 0 ∧ σ' (7 + c) 3 = -1 ∧ σ' (7 + c) 4 = 0 ∧ σ' (7 + c) 5 = 0 ∧ σ' (7 + c) 6 = 0) ∧ ((σ' (8 + c) 6 = 0 ∧ σ' (8 + c) 7 = 0 ∧ σ' (8 + c) 8 = 0) ∧ σ' (8 + c) 9 = 0 ∧ σ' (8 + c) 10 = 0 ∧ σ' (8 + c) 11 = 0 ∧ σ' (8 + c) 12 = 0) ∧ σ' (22 + c) 0 = -1 ∧ σ' (23 + c) 15 = 0) ∧ ∀ a i : Int, a ≠ 1 → a ≠ 2 → a ≠ 4 → a ≠ 5 → ¬ (a = 7 + c ∨ a = 8 + c ∨ a = 22 + c ∨ a = 23 + c) → σ' a i = σ a i := by
  have k19 : js_J E (d - 1 - 1 - 1) 19 0 [(2, 8 + c)] [] (js_up (js_up σ (8 + c) 6 0) (8 + c) 8 0) = js_r0 E (cl_8 c σ) := b_19_0 hc
  have k18 : js_J E (d - 1 - 1) 18 0 [(2, 8 + c)] [] σ = js_r0 E (cl_8 c σ) := by rw [b_18_0 hc, k_18_11 hc (by omega) k19, b_18_14]
  have k17 : js_J E (d - 1) 17 0 [(2, 7 + c)] [] σ = js_r0 E (cl_7 c (cl_8 c σ)) := by
    rw [b_17_0 hc, k_17_4 hc (by omega) k18, b_17_7 hc]
    rfl
  have k21 : js_J E (d - 1 - 1) 21 0 [(2, 23 + c)] [] (js_up (cl_7 c (cl_8 c σ)) (22 + c) 0 (-1)) = js_r0 E (cl_2 c (cl_7 c (cl_8 c σ))) := b_21_0 hc
  have k20 : js_J E (d - 1) 20 0 [(2, 22 + c)] [] (cl_7 c (cl_8 c σ)) = js_r0 E (cl_2 c (cl_7 c (cl_8 c σ))) := by rw [b_20_0 hc, k_20_9 hc (by omega) k21, b_20_12]
  have o : ∀ a i : Int, ¬ (a = 7 + c ∨ a = 8 + c ∨ a = 22 + c ∨ a = 23 + c) → cl_2 c (cl_7 c (cl_8 c σ)) a i = σ a i := fun a i g => by rw [cl_2_o (by omega) (by omega), cl_7_o (by omega), cl_8_o (by omega)]
  have v7 := cl_7_i (c := c) (σ := cl_8 c σ)
  have v8 := cl_8_i (c := c) (σ := σ)
  have v2 := cl_2_i (c := c) (σ := cl_7 c (cl_8 c σ))
  have e7 : ∀ i : Int, cl_2 c (cl_7 c (cl_8 c σ)) (7 + c) i = cl_7 c (cl_8 c σ) (7 + c) i := fun i => cl_2_o (by omega) (by omega)
  have e8 : ∀ i : Int, cl_2 c (cl_7 c (cl_8 c σ)) (8 + c) i = cl_8 c σ (8 + c) i := fun i => by rw [cl_2_o (by omega) (by omega), cl_7_o (by omega)]
  have st : js_J E d 16 0 [(2, 6 + c), (9, 0)] [] σ = js_J E d 16 18 [(2, 6 + c), (9, 0)] [(2, 1)] (cl_2 c (cl_7 c (cl_8 c σ))) := by rw [b_16_0 hc, k_16_4 hc (by omega) k17, b_16_7 hc, k_16_11 hc (by omega) k20, b_16_14 hc]
  generalize cl_2 c (cl_7 c (cl_8 c σ)) = σ2 at o v2 e7 e8 st
  have tq : tq_R σ2 ρ := ⟨by rw [o _ _ (by omega)]; exact h.1, fun i i1 i2 => by rw [o _ _ (by omega)]; exact h.2.1 i i1 i2, h.2.2⟩
  obtain ⟨σ', e2, t1, t2, t3, f⟩ := y_begins (E := E) (d := d - 1) tq hby h7 (by omega)
  have g : ∀ a i : Int, a ≠ 1 → a ≠ 2 → a ≠ 4 → a ≠ 5 → σ' a i = σ2 a i := fun a i g1 g2 g3 g4 => f a i (by omega) (by omega)
  refine ⟨σ', by rw [st, k_16_18 (by omega) e2, b_16_21], t1, t2, t3, ⟨?_, ?_, ?_⟩, fun a i g1 g2 g3 g4 g5 => by rw [g a i g1 g2 g3 g4, o a i g5]⟩
  · rw [g _ _ (by omega) (by omega) (by omega) (by omega), g _ _ (by omega) (by omega) (by omega) (by omega), g _ _ (by omega) (by omega) (by omega) (by omega), g _ _ (by omega) (by omega) (by omega) (by omega), g _ _ (by omega) (by omega) (by omega) (by omega), g _ _ (by omega) (by omega) (by omega) (by omega), e7, e7, e7, e7, e7, e7]
    exact v7
  · rw [g _ _ (by omega) (by omega) (by omega) (by omega), g _ _ (by omega) (by omega) (by omega) (by omega), g _ _ (by omega) (by omega) (by omega) (by omega), g _ _ (by omega) (by omega) (by omega) (by omega), g _ _ (by omega) (by omega) (by omega) (by omega), g _ _ (by omega) (by omega) (by omega) (by omega), g _ _ (by omega) (by omega) (by omega) (by omega), e8, e8, e8, e8, e8, e8, e8]
    exact v8
  · rw [g _ _ (by omega) (by omega) (by omega) (by omega), g _ _ (by omega) (by omega) (by omega) (by omega)]
    exact v2
theorem cs_of {σ3 σ' : js_S} (hc : c = 0 ∨ c = 25) (f3 : ∀ a i : Int, a ≠ 1 → a ≠ 2 → a ≠ 4 → a ≠ 5 → ¬ (a = 7 + c ∨ a = 8 + c ∨ a = 22 + c ∨ a = 23 + c) → σ3 a i = σ a i) (hf : fr_R c σ3 σ') : cs_F c σ σ' := by
  obtain ⟨g1, _, g3, g4, g5, g6, g7, g8⟩ := hf
  have e19 : ∀ k : Int, σ3 (19 + c) k = σ (19 + c) k := fun k => f3 _ _ (by omega) (by omega) (by omega) (by omega) (by omega)
  have e0 : ∀ k : Int, σ3 (-1) k = σ (-1) k := fun k => f3 _ _ (by omega) (by omega) (by omega) (by omega) (by omega)
  have ec := sy_ce (f := σ3 (19 + c)) (g := σ (19 + c)) 400 (fun i _ _ => e19 i)
  rw [e0] at g5 g6 g7 g8
  rw [ec] at g7 g8
  refine ⟨fun a i q1 q2 q3 q4 q5 q6 q7 q8 => ?_, fun k k1 k2 k3 => ?_, fun k k1 k2 k3 => ?_, g5, g6, g7, g8⟩
  · rw [g1 a i q1 q2 q3 q6 (by rw [e0]; exact q7) (fun k k1 k2 => by rw [e19]; exact q8 k k1 k2)]
    exact f3 a i q2 q3 q4 q5 (by omega)
  · rw [g3 k k1 k2 (by rw [e19]; exact k3), e19]
  · have a := g4 k k1 k2 (by rw [e19]; exact k3)
    rw [e0] at a
    exact a
/-- both compile: a program, or a fault -/
theorem y_comp (hc : c = 0 ∨ c = 25) (hT : lq_T n σ ρ) (hn : n ≤ 512) (hcx : cx_n σ) (hH : sy_H E.1 σ c) (h11 : 0 ≤ ρ 83 11 ∧ ρ 83 11 ≤ 400) (h49 : 0 ≤ ρ 83 49 ∧ ρ 83 49 ≤ 8192) (h92 : ∀ s : Int, 0 ≤ s → s < ρ 83 11 → ρ 92 s = 0 ∨ ρ 92 s = 1) (hE : ρ 83 55 = E.1) (hE2 : 16 ≤ E.1 ∧ E.1 ≤ 4096) (hd : 314 ≤ d) (he : 1240 ≤ e) : ∃ ρk : js_S, kq_R (js_up ρ 83 0 0) ρk ∧ ∃ σ' ρ' : js_S, js_J E e 189 0 [(2, 83), (9, 0), (9, 0), (9, 0), (9, 0), (9, 0), (9, 0)] [] ρ = js_J E e 189 198 [(2, 83), (0, ρk 83 48), (0, ρk 83 46), (0, ρk 83 47), (0, ρk 83 50), (0, ρk 83 51), (9, 0)] [] ρ' ∧ cs_F c σ σ' ∧ cm_G ρk ρ' ∧ ρ' 83 2 = 0 ∧ sy_H E.1 σ' c ∧ cx_n σ' ∧ ((js_J E d 16 0 [(2, 6 + c), (9, 0)] [] σ = js_r0 E σ' ∧ ρ' 83 9 = 0 ∧ ∃ (Fu : Int → Int → Int → Prop) (ac zc N : Int) (T : Nat), ml_P E Fu ac zc c N T σ' ρ' ∧ lq_N T ρ' ∧ lq_G ρ') ∨ (rx_F ρ' ∧ js_J E d 16 0 [(2, 6 + c), (9, 0)] [] σ = th_P E σ' (ρ' 83 9))) := by
  obtain ⟨⟨t1, t2, t3⟩, t4, t5⟩ := hT
  have z : ∀ a i : Int, ¬ (a = 83 ∧ i = 0) → js_up ρ 83 0 0 a i = ρ a i := fun a i g => js_up_ne _ g
  obtain ⟨ρk, ek, hk⟩ := r_keep (E := E) (d := e - 1) (ρ := js_up ρ 83 0 0) (by rw [z _ _ (by omega)]; exact h11) (by rw [z _ _ (by omega)]; exact h49) (fun s s1 s2 => by
    rw [z _ _ (by omega)] at s2
    rw [z _ _ (by omega)]
    exact h92 s s1 s2)
  refine ⟨ρk, hk, ?_⟩
  have kf : ∀ a i : Int, ¬ (116 ≤ a ∧ a ≤ 119) → ¬ (a = 83 ∧ (i = 0 ∨ i = 65 ∨ i = 66)) → ρk a i = ρ a i := fun a i g1 g2 => by rw [hk.1 a i g1 (by omega), z a i (by omega)]
  have w : ∀ a i : Int, ¬ (a = 83 ∧ (i = 2 ∨ i = 4 ∨ i = 7 ∨ i = 9 ∨ i = 10 ∨ i = 11 ∨ i = 26 ∨ i = 33)) → js_up (js_up (js_up (js_up (js_up (js_up (js_up (js_up ρk 83 4 (ρk 83 2)) 83 2 0) 83 11 0) 83 33 0) 83 10 0) 83 9 0) 83 26 (-1)) 83 7 0 a i = ρk a i := fun a i g => by rw [js_up_ne _ (by omega), js_up_ne _ (by omega), js_up_ne _ (by omega), js_up_ne _ (by omega), js_up_ne _ (by omega), js_up_ne _ (by omega), js_up_ne _ (by omega), js_up_ne _ (by omega)]
  have w4 : js_up (js_up (js_up (js_up (js_up (js_up (js_up (js_up ρk 83 4 (ρk 83 2)) 83 2 0) 83 11 0) 83 33 0) 83 10 0) 83 9 0) 83 26 (-1)) 83 7 0 83 4 = ρk 83 2 := by rw [js_up_ni _ (by decide), js_up_ni _ (by decide), js_up_ni _ (by decide), js_up_ni _ (by decide), js_up_ni _ (by decide), js_up_ni _ (by decide), js_up_ni _ (by decide), js_up_same]
  have w2 : js_up (js_up (js_up (js_up (js_up (js_up (js_up (js_up ρk 83 4 (ρk 83 2)) 83 2 0) 83 11 0) 83 33 0) 83 10 0) 83 9 0) 83 26 (-1)) 83 7 0 83 2 = 0 := by rw [js_up_ni _ (by decide), js_up_ni _ (by decide), js_up_ni _ (by decide), js_up_ni _ (by decide), js_up_ni _ (by decide), js_up_ni _ (by decide), js_up_same]
  have w11 : js_up (js_up (js_up (js_up (js_up (js_up (js_up (js_up ρk 83 4 (ρk 83 2)) 83 2 0) 83 11 0) 83 33 0) 83 10 0) 83 9 0) 83 26 (-1)) 83 7 0 83 11 = 0 := by rw [js_up_ni _ (by decide), js_up_ni _ (by decide), js_up_ni _ (by decide), js_up_ni _ (by decide), js_up_ni _ (by decide), js_up_same]
  have w33 : js_up (js_up (js_up (js_up (js_up (js_up (js_up (js_up ρk 83 4 (ρk 83 2)) 83 2 0) 83 11 0) 83 33 0) 83 10 0) 83 9 0) 83 26 (-1)) 83 7 0 83 33 = 0 := by rw [js_up_ni _ (by decide), js_up_ni _ (by decide), js_up_ni _ (by decide), js_up_ni _ (by decide), js_up_same]
  have w10 : js_up (js_up (js_up (js_up (js_up (js_up (js_up (js_up ρk 83 4 (ρk 83 2)) 83 2 0) 83 11 0) 83 33 0) 83 10 0) 83 9 0) 83 26 (-1)) 83 7 0 83 10 = 0 := by rw [js_up_ni _ (by decide), js_up_ni _ (by decide), js_up_ni _ (by decide), js_up_same]
  have w9 : js_up (js_up (js_up (js_up (js_up (js_up (js_up (js_up ρk 83 4 (ρk 83 2)) 83 2 0) 83 11 0) 83 33 0) 83 10 0) 83 9 0) 83 26 (-1)) 83 7 0 83 9 = 0 := by rw [js_up_ni _ (by decide), js_up_ni _ (by decide), js_up_same]
  have w26 : js_up (js_up (js_up (js_up (js_up (js_up (js_up (js_up ρk 83 4 (ρk 83 2)) 83 2 0) 83 11 0) 83 33 0) 83 10 0) 83 9 0) 83 26 (-1)) 83 7 0 83 26 = -1 := by rw [js_up_ni _ (by decide), js_up_same]
  have w7 : js_up (js_up (js_up (js_up (js_up (js_up (js_up (js_up ρk 83 4 (ρk 83 2)) 83 2 0) 83 11 0) 83 33 0) 83 10 0) 83 9 0) 83 26 (-1)) 83 7 0 83 7 = 0 := js_up_same _ _ _ _
  have e9 : js_J E e 189 9 [(2, 83), (9, 0), (9, 0), (9, 0), (9, 0), (9, 0), (9, 0)] [] ρk = js_J E e 189 80 [(2, 83), (0, ρk 83 48), (0, ρk 83 46), (0, ρk 83 47), (0, ρk 83 50), (0, ρk 83 51), (9, 0)] [(2, 83)] (js_up (js_up (js_up (js_up (js_up (js_up (js_up (js_up ρk 83 4 (ρk 83 2)) 83 2 0) 83 11 0) 83 33 0) 83 10 0) 83 9 0) 83 26 (-1)) 83 7 0) := b_189_9
  generalize js_up (js_up (js_up (js_up (js_up (js_up (js_up (js_up ρk 83 4 (ρk 83 2)) 83 2 0) 83 11 0) 83 33 0) 83 10 0) 83 9 0) 83 26 (-1)) 83 7 0 = ρ2 at w w4 w2 w11 w33 w10 w9 w26 w7 e9
  have k2 : ρk 83 2 = ρ 83 2 := kf _ _ (by omega) (by omega)
  rw [k2] at w4
  have r84 : ∀ i : Int, ρ2 84 i = ρ 84 i := fun i => by rw [w _ _ (by omega), kf _ _ (by omega) (by omega)]
  have tp : rx_tp ρ2 := ⟨by rw [w4]; exact t2, by rw [w4]; omega, fun i i1 i2 => by
    rw [w4] at i2
    rw [r84]
    exact (t4 i i1 i2).2⟩
  have tq : tq_R σ ρ2 := ⟨by rw [w4]; exact t1, fun i i1 i2 => by
    rw [w4] at i2
    rw [r84]
    exact (t4 i i1 i2).1, tp, by rw [w4]; omega⟩
  have by2 : rx_by ρ2 := fun i i1 i2 => by
    rw [r84]
    exact t5 i i1 i2
  obtain ⟨σ3, e3, g1, g2, ⟨s5, s6⟩, ⟨⟨c1, c2, c3, c4, c5, c6⟩, ⟨⟨d6, d7, d8⟩, d9, d10, d11, d12⟩, c22, c23⟩, f3⟩ := c_pre (E := E) (d := d) hc tq by2 w7 (by omega)
  have le4 : ρ2 83 7 ≤ ρ2 83 4 := by rw [w7]; exact tp.1
  have ok3 := rx_next_ok1 tp by2 w9 (by rw [w7]; decide) le4
  have n3 : ∀ a i : Int, ¬ (a = 83 ∧ 5 ≤ i ∧ i ≤ 8) → rx_next ρ2 a i = ρ2 a i := fun a i g => rx_next_o _ g
  have r3 : js_J E (e - 1) 191 0 [(2, 83), (9, 0), (9, 0), (9, 0), (9, 0), (9, 0)] [] ρ2 = js_r0 E (rx_next ρ2) := r_next tp by2 (by omega) w9 (by rw [w7]; decide) le4
  have er : js_J E e 189 0 [(2, 83), (9, 0), (9, 0), (9, 0), (9, 0), (9, 0), (9, 0)] [] ρ = js_J E e 189 83 [(2, 83), (0, ρk 83 48), (0, ρk 83 46), (0, ρk 83 47), (0, ρk 83 50), (0, ρk 83 51), (9, 0)] [] (rx_next ρ2) := by rw [b_189_0, k_189_6 (by omega) ek, e9, k_189_80 (by omega) r3]
  generalize rx_next ρ2 = ρ3 at g1 g2 ok3 n3 r3 er
  have a11 : ρ3 83 11 = 0 := by rw [n3 _ _ (by omega)]; exact w11
  have a33 : ρ3 83 33 = 0 := by rw [n3 _ _ (by omega)]; exact w33
  have a10 : ρ3 83 10 = 0 := by rw [n3 _ _ (by omega)]; exact w10
  have a26 : ρ3 83 26 = -1 := by rw [n3 _ _ (by omega)]; exact w26
  have a2 : ρ3 83 2 = 0 := by rw [n3 _ _ (by omega)]; exact w2
  have q3 : cm_G ρk ρ3 := fun a i h1 h2 => by rw [n3 a i (by omega), w a i (by omega)]
  have a55 : ρ3 83 55 = E.1 := by rw [q3 _ _ (by omega) (by omega), kf _ _ (by omega) (by omega)]; exact hE
  have e0 : ∀ k : Int, σ3 (-1) k = σ (-1) k := fun k => f3 _ _ (by omega) (by omega) (by omega) (by omega) (by omega)
  have cx3 : cx_n σ3 := ⟨by rw [e0]; exact hcx.1, by rw [e0]; exact hcx.2⟩
  have H3 : sy_H E.1 σ3 c := by
    intro i i1 i2
    rw [f3 _ _ (by omega) (by omega) (by omega) (by omega) (by omega)]
    rcases hH i i1 i2 with q | ⟨q1, q2⟩
    · exact Or.inl q
    · have ge := js_sym_ge q1
      exact Or.inr ⟨js_desc_mono q1 (by rw [e0]; exact Int.le_refl _) (fun _ => f3 _ _ (by omega) (by omega) (by omega) (by omega) (by omega)), by rw [f3 _ _ (by omega) (by omega) (by omega) (by omega) (by omega)]; exact q2⟩
  have rsk : rs_ok ρ3 := ⟨by omega, by omega, fun i i1 i2 => absurd i2 (by omega), fun i k i1 i2 _ _ => absurd i2 (by omega), fun i i1 i2 => absurd i2 (by omega)⟩
  have hD : dl_R E c (fun _ => 0) (fun _ _ => 0) (fun _ => 0) (fun _ => .leaf) (fun _ => .leaf) σ3 ρ3 0 := by
    refine ⟨⟨⟨⟨rsk, fun i i1 i2 => absurd i2 (by omega), cx3, H3, by rw [c1, a11], fun i i1 i2 => absurd i2 (by omega), fun i i1 i2 _ => absurd i2 (by omega)⟩, ⟨Or.inl rfl, fun i q => q.elim, fun i i1 i2 _ _ => absurd i2 (by omega)⟩, a26⟩, fun i i1 i2 _ => absurd i2 (by omega)⟩, ⟨fun i i1 i2 => absurd i2 (by omega), fun i i1 i2 _ => absurd i2 (by omega)⟩, ⟨c3, d7, d9, d10, d11, d12, c22, c23, a10⟩, ⟨⟨by omega, by omega⟩, by omega, by omega⟩, fun i i1 i2 _ => absurd i2 (by omega), ⟨by rw [a11]; exact d8, by rw [a11]; exact d6⟩, fun i i1 i2 _ => absurd i2 (by omega), ⟨fun i i1 i2 _ => absurd i2 (by omega), fun i i1 i2 _ => absurd i2 (by omega)⟩, by rw [a11]; exact c2, by rw [a11]; exact c5, by rw [a11]; exact c6⟩
  have hR : rd_R σ3 ρ3 0 := ⟨g1, g2, ok3, by rw [s5, a10], by omega, by omega⟩
  have dq := dh_all (E := E) (b := c) (d := d) (e := e) (x1 := ρk 83 48) (x2 := ρk 83 46) (x3 := ρk 83 47) (x4 := ρk 83 50) (x5 := ρk 83 51) hc (by omega) (by omega) 8200 σ3 ρ3 0 0 _ _ _ _ _ (by omega) (Int.le_refl _) (Int.le_refl _) hD hR
  have cmt : ∀ ρ' : js_S, rf_R ρ3 ρ' → cm_G ρk ρ' := fun ρ' hf a i h1 h2 => by rw [hf a i (by omega) (by omega), q3 a i h1 h2]
  rcases dq with ⟨σ4, ρ4, j4, c4', B, Bf, U, fb, fr, x1, x2, hR4, _, fr4, rf4, hD4, _⟩ | ⟨ρ', x2, rf', hF, _, _, σ', x1, fr', hs, hcx'⟩
  · have y := y_cycle (E := E) (b := c) (d := d - 1) (e := e) (x1 := ρk 83 48) (x2 := ρk 83 46) (x3 := ρk 83 47) (x4 := ρk 83 50) (x5 := ρk 83 51) hc hD4 hR4 (by omega) (by omega)
    rcases y with ⟨σ5, ρ5, j5, r, y1, y2, hR5, h51, fr5, rf5, hpg⟩ | ⟨ρ', y2, rf', hF, _, _, σ', y1, fr', hs, hcx'⟩
    · have rf35 := rf_R_trans rf4 rf5
      have b55 : ρ5 83 55 = E.1 := by rw [rf35 _ _ (by omega) (by omega)]; exact a55
      have m := y_make (E := E) (b := c) (d := d - 1) (e := e) (x1 := ρk 83 48) (x2 := ρk 83 46) (x3 := ρk 83 47) (x4 := ρk 83 50) (x5 := ρk 83 51) hc hpg hR5 h51 b55 (by omega) (by omega) (by omega)
      have cmm : ∀ ρ' : js_S, rm_F ρ5 ρ' → cm_G ρk ρ' := fun ρ' hf a i h1 h2 => by rw [hf a i (by omega) (by omega) (by omega) (by omega) (by omega), cmt ρ5 rf35 a i h1 h2]
      have two : ∀ ρ' : js_S, rm_F ρ5 ρ' → ρ' 83 2 = 0 := fun ρ' hf => by rw [hf _ _ (by omega) (by omega) (by omega) (by omega) (by omega), rf35 _ _ (by omega) (by omega)]; exact a2
      rcases m with ⟨σ6, ρ6, m1, m2, hrm, fr6, hY, ⟨_, hs, hcx'⟩, ρf, hmf, hρ⟩ | ⟨σ6, ρ6, m2, hF, hrm, m1, fr6, hs, hcx'⟩
      · have hj := rd_j hR5
        have hM : ρ5 83 11 = ((ρ5 83 11).toNat : Int) := by have := hY.1.2.1; omega
        have hml := y_made (E := E) (b := c) hpg hM (by omega) hY hmf hρ hE2.2
        obtain ⟨hp, hc'⟩ := pg_mp hpg hM (by omega)
        have h8 : ρf 83 49 ≤ 8192 := by
          have q := hY.2.1.1.2.1
          rw [hρ, js_up_ni _ (by decide)] at q
          exact q
        have hG := gi_make hp hc' hmf h8
        have rk := hpg.1.1.1
        have gs := hpg.1.2.2.1
        refine ⟨σ6, ρ6, by rw [er, x2, y2, m2], cs_of hc f3 (fr_R_trans (fr_R_trans fr4 fr5) fr6), cmm _ hrm, two _ hrm, hs, hcx', Or.inl ⟨?_, hY.1.1, _, _, _, _, _, hml, fun i i1 i2 => ?_, fun p p1 p2 => ?_⟩⟩
        · rw [e3, x1, b_16_158, k_16_159 hc (by omega) (by rw [y1, m1]), b_16_162]
        · have i3 : i < ρ5 83 11 := by omega
          have r97 : ρ6 97 i = ρ5 97 i := hrm _ _ (by omega) (by decide) (by decide) (by decide) (by decide)
          have r92 : ρ6 92 i = ρ5 92 i := hrm _ _ (by omega) (by decide) (by decide) (by decide) (by decide)
          refine ⟨by rw [r97]; exact rk.2.2.1 i i1 i3, by rw [r92]; exact (gs i i1 i3 (fun q => q)).1, fun k k1 k2 => ?_⟩
          rw [r97] at k2
          rw [hrm _ _ (by omega) (by decide) (by decide) (by decide) (by decide)]
          exact rk.2.2.2.1 i k i1 i3 k1 k2
        · rw [hρ, js_up_ni _ (by decide)] at p2
          rw [hρ, js_up_na _ (by decide), js_up_na _ (by decide), js_up_na _ (by decide)]
          exact hG p p1 p2
      · exact ⟨σ6, ρ6, by rw [er, x2, y2, m2], cs_of hc f3 (fr_R_trans (fr_R_trans fr4 fr5) fr6), cmm _ hrm, two _ hrm, hs, hcx', Or.inr ⟨hF, by rw [e3, x1, b_16_158, kt_16_159 hc (by omega) (by rw [y1, m1])]⟩⟩
    · have rf3 := rf_R_trans rf4 rf'
      exact ⟨σ', ρ', by rw [er, x2, y2], cs_of hc f3 (fr_R_trans fr4 fr'), cmt _ rf3, by rw [rf3 _ _ (by omega) (by omega)]; exact a2, hs, hcx', Or.inr ⟨hF, by rw [e3, x1, b_16_158, kt_16_159 hc (by omega) y1]⟩⟩
  · exact ⟨σ', ρ', by rw [er, x2], cs_of hc f3 fr', cmt _ rf', by rw [rf' _ _ (by omega) (by omega)]; exact a2, hs, hcx', Or.inr ⟨hF, by rw [e3, x1]⟩⟩
end CP
