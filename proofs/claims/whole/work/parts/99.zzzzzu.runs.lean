/-! part 99.zzzzzu: STEPS and CYCLES of the machine, by both -/
/-- the machines are the same -/
def mh_R (E : js_E) (Fu : Int → Int → Int → Prop) (ac zc b N : Int) (T : Nat) (σ ρ : js_S) : Prop := mh_A E Fu ac zc b N T σ ρ ∧ (mh_0 N σ ρ ∨ ρ 83 81 = 0 ∧ rn_R Fu ac zc N 0 σ ρ)
section YW
variable {E : js_E} {d e : Nat} {Fu : Int → Int → Int → Prop} {ac zc b N : Int} {T : Nat}
theorem mg_Ct {σ σ1 σ2 : js_S} (h1 : mg_C σ σ1) (h2 : mg_C σ1 σ2) : mg_C σ σ2 := fun a i g1 g2 => by rw [h2 a i g1 g2, h1 a i g1 g2]
theorem mg_Mt {ρ ρ1 ρ2 : js_S} (h1 : mg_M ρ ρ1) (h2 : mg_M ρ1 ρ2) : mg_M ρ ρ2 := fun a i g1 g2 g3 => by rw [h2 a i g1 g2 g3, h1 a i g1 g2 g3]
/-- no STEP more once the CYCLE is through -/
theorem c_over {σ σ' : js_S} {X k : Int} (h0 : σ 58 0 = 0) (h : js_J E (d - 1) 176 0 [(2, 56)] [] σ = js_r0 E σ') (hd : 1 ≤ d) : js_J E d 174 29 [(2, 56), (0, X), (0, k)] [] σ = js_r E (0, k) σ' := by
  have g : js_J E d 174 65 [(2, 56), (0, X), (0, k)] [] σ = js_r E (0, k) σ' := by
    rw [b_174_65, h0, if_pos (show js_w 0 = 0 from rfl), k_174_76 hd h, b_174_79]
  rw [b_174_29, h0, if_pos (show js_w 0 = 0 from rfl), g]
  split <;> rfl
theorem r_over {ρ : js_S} {X k : Int} (h0 : ρ 83 77 = 0) : js_J E e 265 61 [(2, 83), (0, X), (0, k)] [] ρ = js_r E (0, k) ρ := by
  rw [b_265_61, h0, if_neg (show ¬ 0 < js_w 0 by decide)]
  split <;> rfl
/-- one STEP in the class's loop -/
theorem c_one {σ σ1 σ2 : js_S} {X k : Int} (hb : b = 0 ∨ b = 25) (hX : k < X ∧ 0 ≤ k ∧ X ≤ 1000000) (h0 : σ 58 0 = 1 ∨ σ 58 0 = 2) (e1 : js_J E (d - 1) 175 0 [(2, 56), (9, 0)] [] σ = js_r0 E σ1) (h1 : σ1 56 1 = 7 + b) (e2 : js_J E (d - 1) 145 0 [(2, 58), (2, 7 + b), (9, 0)] [] σ1 = js_r0 E σ2) (hd : 1 ≤ d) : js_J E d 174 29 [(2, 56), (0, X), (0, k)] [] σ = js_J E d 174 29 [(2, 56), (0, X), (0, k + 1)] [] σ2 := by
  have wk : js_w k = k := js_w_of (by omega) (by omega)
  have wX : js_w X = X := js_w_of (by omega) (by omega)
  have n0 : ¬ js_w (σ 58 0) = 0 := by
    rcases h0 with q | q <;> rw [q] <;> decide
  rw [b_174_29, wk, wX, if_pos hX.1, if_neg n0, k_174_45 hd e1, b_174_48 hb h1, k_174_56 hd e2, b_174_59]
theorem rn_w {r : Int} {σ ρ : js_S} (h : rn_R Fu ac zc N r σ ρ) : 0 < js_w (ρ 83 77) := by
  rcases h.1.2 with q | q <;> rw [q] <;> decide
theorem y_loop (hb : b = 0 ∨ b = 25) (hd : 60 ≤ d) (he : 60 ≤ e) {X : Nat} (hX : X ≤ 1000000) : ∀ (g k : Nat) (σ ρ : js_S), g + k = X → mh_A E Fu ac zc b N T σ ρ → ρ 83 81 = 0 → rn_R Fu ac zc N 0 σ ρ → ρ 83 82 < 2000000000 → ∃ (σ' ρ' : js_S) (j : Int), js_J E d 174 29 [(2, 56), (0, X), (0, k)] [] σ = js_r E (0, j) σ' ∧ js_J E e 265 61 [(2, 83), (0, X), (0, k)] [] ρ = js_r E (0, j) ρ' ∧ mg_C σ σ' ∧ mg_M ρ ρ' ∧ mh_R E Fu ac zc b N T σ' ρ' ∧ (ρ' 83 82 = ρ 83 82 ∨ ρ' 83 82 = ρ 83 82 + 1) := by
  intro g
  induction g with
  | zero =>
    intro k σ ρ hg hA h81 hR hem
    have hk : k = X := by omega
    subst hk
    have n0 : ¬ js_w (σ 58 0) = 0 := by
      have a : σ 58 0 = ρ 83 77 := hR.1.1
      rcases hR.1.2 with q | q <;> rw [a, q] <;> decide
    refine ⟨σ, ρ, k, ?_, ?_, fun _ _ _ _ => rfl, fun _ _ _ _ _ => rfl, ⟨hA, Or.inr ⟨h81, hR⟩⟩, Or.inl rfl⟩
    · rw [b_174_29, if_neg (show ¬ js_w (k : Int) < js_w (k : Int) by omega), b_174_65, if_neg n0, b_174_79]
    · rw [b_265_61, if_neg (show ¬ js_w (k : Int) < js_w (k : Int) by omega)]
  | succ g ih =>
    intro k σ ρ hg hA h81 hR hem
    obtain ⟨σ1, σ2, ρ3, e1, h56, e2, e3, M, hh⟩ := y_mstp (E := E) (d := d - 1) (e := e - 1) hb hA h81 hR hem (by omega) (by omega)
    have s0 : σ 58 0 = 1 ∨ σ 58 0 = 2 := by
      have a : σ 58 0 = ρ 83 77 := hR.1.1
      rw [a]
      exact hR.1.2
    have ec := c_one (E := E) (d := d) (X := X) (k := k) hb ⟨by omega, by omega, by omega⟩ s0 e1 h56 e2 (by omega)
    have wk : js_w (k : Int) = k := js_w_of (by omega) (by omega)
    have wX : js_w (X : Int) = X := js_w_of (by omega) (by omega)
    have er : js_J E e 265 61 [(2, 83), (0, X), (0, k)] [] ρ = js_J E e 265 61 [(2, 83), (0, X), (0, (k : Int) + 1)] [] ρ3 := by
      rw [b_265_61, wk, wX, if_pos (show (k : Int) < X by omega), if_pos (rn_w hR), k_265_74 (by omega) e3, b_265_77]
    rcases hh with ⟨C, hA2, h812, hR2, _, h82⟩ | ⟨z0, σ3, f1, C, hA2, hI, h82⟩
    · obtain ⟨σ', ρ', j, f1, f2, f3, f4, f5, f6⟩ := ih (k + 1) σ2 ρ3 (by omega) hA2 h812 hR2 (by omega)
      rw [show ((k + 1 : Nat) : Int) = (k : Int) + 1 by push_cast; rfl] at f1 f2
      exact ⟨σ', ρ', j, by rw [ec, f1], by rw [er, f2], mg_Ct C f3, mg_Mt M f4, f5, by omega⟩
    · exact ⟨σ3, ρ3, (k : Int) + 1, by rw [ec, c_over z0 f1 (by omega)], by rw [er, r_over hI.1.2.1], C, M, ⟨hA2, Or.inl hI⟩, by omega⟩
/-- a whole CYCLE -/
theorem y_whole (hb : b = 0 ∨ b = 25) (hd : 60 ≤ d) (he : 60 ≤ e) : ∀ (g : Nat) (k : Int) (σ ρ : js_S), ρ 83 79 + g = 200000 → 0 ≤ k ∧ k + g ≤ 500000 → mh_A E Fu ac zc b N T σ ρ → ρ 83 81 = 0 → rn_R Fu ac zc N 0 σ ρ → ρ 83 82 < 2000000000 → ∃ (σ' ρ' : js_S) (j : Int), js_J E d 174 29 [(2, 56), (0, 1000000), (0, k)] [] σ = js_r E (0, j) σ' ∧ js_J E e 278 11 [(2, 83)] [] ρ = js_r0 E ρ' ∧ mg_C σ σ' ∧ mg_M ρ ρ' ∧ (mh_A E Fu ac zc b N T σ' ρ' ∧ mh_0 N σ' ρ') ∧ (ρ' 83 82 = ρ 83 82 ∨ ρ' 83 82 = ρ 83 82 + 1) := by
  intro g
  induction g with
  | zero =>
    intro k σ ρ hg hk hA h81 hR hem
    have hbd := hA.1.2.1.2.1.2.2.1
    obtain ⟨_, ⟨_, g9, g3, g8, _⟩, _⟩ := hR
    omega
  | succ g ih =>
    intro k σ ρ hg hk hA h81 hR hem
    obtain ⟨σ1, σ2, ρ3, e1, h56, e2, e3, M, hh⟩ := y_mstp (E := E) (d := d - 1) (e := e - 1) hb hA h81 hR hem (by omega) (by omega)
    have s0 : σ 58 0 = 1 ∨ σ 58 0 = 2 := by
      have a : σ 58 0 = ρ 83 77 := hR.1.1
      rw [a]
      exact hR.1.2
    have ec := c_one (E := E) (d := d) (X := 1000000) (k := k) hb ⟨by omega, by omega, by omega⟩ s0 e1 h56 e2 (by omega)
    have er : js_J E e 278 11 [(2, 83)] [] ρ = js_J E e 278 11 [(2, 83)] [] ρ3 := by
      rw [b_278_11, if_pos (rn_w hR), k_278_19 (by omega) e3, b_278_22]
    rcases hh with ⟨C, hA2, h812, hR2, h79, h82⟩ | ⟨z0, σ3, f1, C, hA2, hI, h82⟩
    · obtain ⟨σ', ρ', j, f1, f2, f3, f4, f5, f6⟩ := ih (k + 1) σ2 ρ3 (by push_cast at hg; omega) (by push_cast at hk; omega) hA2 h812 hR2 (by omega)
      exact ⟨σ', ρ', j, by rw [ec, f1], by rw [er, f2], mg_Ct C f3, mg_Mt M f4, f5, by omega⟩
    · exact ⟨σ3, ρ3, k + 1, by rw [ec, c_over z0 f1 (by omega)], by rw [er, b_278_11, hI.1.2.1, if_neg (show ¬ 0 < js_w 0 by decide)], C, M, ⟨hA2, hI⟩, by omega⟩
/-- a CYCLE begins, in the machine -/
theorem y_mbeg {σ ρ : js_S} (hb : b = 0 ∨ b = 25) (hA : mh_A E Fu ac zc b N T σ ρ) (h0 : mh_0 N σ ρ) (hd : 10 ≤ d) (he : 3 ≤ e) : ∃ σ' ρ' : js_S, js_J E d 142 0 [(2, 56), (2, 58), (9, 0), (9, 0), (9, 0)] [] σ = js_r0 E σ' ∧ js_J E e 266 0 [(2, 83), (9, 0), (9, 0), (9, 0)] [] ρ = js_r0 E ρ' ∧ mg_C σ σ' ∧ mg_M ρ ρ' ∧ mh_A E Fu ac zc b N T σ' ρ' ∧ ρ' 83 81 = ρ 83 81 ∧ ρ' 83 82 = ρ 83 82 ∧ rn_R Fu ac zc N 0 σ' ρ' := by
  have hv := hA.2.2.1
  obtain ⟨n, hfq⟩ := hv.2.2.2
  obtain ⟨σ', ρ', e1, e2, C, M, hR⟩ := y_begin (E := E) (d := d) (e := e) (Fu := Fu) (r := 0) hb (Or.inl rfl) hA.1.2.1 hA.1.1 hA.1.2.2.2.2 hA.1.2.2.2.1 h0.2.1 h0.2.2 hd he
  have e1' : js_J E d 142 0 [(2, 56), (2, 58), (9, 0), (9, 0), (9, 0)] [] σ = js_r0 E σ' := e1
  have hC : ∀ a i : Int, ¬ (58 ≤ a ∧ a ≤ 64) → σ' a i = σ a i := fun a i q => C a i (by omega)
  have z81 : ρ' 83 81 = ρ 83 81 := M _ _ (by omega) (by omega)
  have z82 : ρ' 83 82 = ρ 83 82 := M _ _ (by omega) (by omega)
  have yy : ∀ a i : Int, 84 ≤ a ∧ a ≤ 119 ∨ a = 125 → ρ' a i = ρ a i := fun a i q => M a i (by omega) (by omega)
  refine ⟨σ', ρ', e1', e2, fun a i q1 _ => hC a i (by omega), fun a i q1 q2 _ => M a i (by omega) q2, mh_mk hb hA (fun a i q => hC a i (by omega)) (hC _ _ (by omega)) (fun i q => M _ _ (by omega) (by omega)) yy ⟨by rw [hC _ _ (by omega), z81]; exact hv.1.1, by rw [z81]; exact hv.1.2.1, by rw [z81]; exact hv.1.2.2⟩ ⟨by rw [hC _ _ (by omega), z82]; exact hv.2.1.1, by rw [z82]; exact hv.2.1.2⟩ (by rw [hC _ _ (by omega), M _ _ (by omega) (by omega)]; exact hv.2.2.1) ⟨n, ?_⟩ (ko_eq hA.2.2.2 (fun i => hC _ _ (by omega)) (fun i => M _ _ (by omega) (by omega)) z82 (fun a i k1 k2 => yy a i (by omega))), z81, z82, hR⟩
  refine ⟨⟨hfq.1.1, by rw [hC _ _ (by omega)]; exact hfq.1.2.1, by rw [M _ _ (by omega) (by omega)]; exact hfq.1.2.2⟩, fun k k1 k2 => ?_⟩
  rw [hC _ _ (by omega), hC _ _ (by omega), hC _ _ (by omega), hC _ _ (by omega), M 127 _ (by omega) (by omega), M 128 _ (by omega) (by omega), M 129 _ (by omega) (by omega), M 130 _ (by omega) (by omega)]
  exact hfq.2 k k1 k2
/-- up to X STEPS: the class's go, the reference's steps from where it has asked -/
theorem y_go {σ ρ : js_S} (hb : b = 0 ∨ b = 25) (h : mh_R E Fu ac zc b N T σ ρ) (hem : ρ 83 82 < 2000000000) {X : Nat} (hX : 1 ≤ X ∧ X ≤ 200000) (hd : 70 ≤ d) (he : 70 ≤ e) : ∃ (σ' ρ' : js_S) (j : Int), js_J E d 174 0 [(2, 56), (0, X), (9, 0)] [] σ = js_r E (0, j) σ' ∧ (if 0 < js_w (ρ 83 81) then js_r E (0, 0) ρ else (if js_w (ρ 83 77) = 0 then js_J E e 265 56 [(2, 83), (0, X), (9, 0)] [(2, 83)] ρ else js_J E e 265 59 [(2, 83), (0, X), (9, 0)] [] ρ)) = js_r E (0, j) ρ' ∧ mg_C σ σ' ∧ mg_M ρ ρ' ∧ mh_R E Fu ac zc b N T σ' ρ' ∧ (ρ' 83 82 = ρ 83 82 ∨ ρ' 83 82 = ρ 83 82 + 1) := by
  obtain ⟨hA, hh⟩ := h
  have hv := hA.2.2.1.1
  have w81 : js_w (ρ 83 81) = ρ 83 81 := js_w_of (by omega) (by omega)
  by_cases q : ρ 83 81 = 0
  · have c0 : js_J E d 174 0 [(2, 56), (0, X), (9, 0)] [] σ = (if js_w (σ 58 0) = 0 then js_J E d 174 24 [(2, 56), (0, X), (9, 0)] [(2, 58), (2, 56)] σ else js_J E d 174 27 [(2, 56), (0, X), (9, 0)] [] σ) := by
      rw [b_174_0, hv.1, q, if_pos (show js_w 0 = 0 from rfl)]
    rw [w81, if_neg (show ¬ 0 < ρ 83 81 by omega)]
    rcases hh with hI | ⟨_, hR⟩
    · obtain ⟨σ1, ρ1, e1, e2, C, M, hA1, z81, z82, hR1⟩ := y_mbeg (E := E) (d := d - 1) (e := e - 1) hb hA hI (by omega) (by omega)
      obtain ⟨σ', ρ', j, f1, f2, f3, f4, f5, f6⟩ := y_loop (E := E) (d := d) (e := e) (X := X) hb (by omega) (by omega) (by omega) X 0 σ1 ρ1 (by omega) hA1 (by omega) hR1 (by omega)
      have f1' : js_J E d 174 29 [(2, 56), (0, (X : Int)), (0, 0)] [] σ1 = js_r E (0, j) σ' := f1
      have f2' : js_J E e 265 61 [(2, 83), (0, (X : Int)), (0, 0)] [] ρ1 = js_r E (0, j) ρ' := f2
      exact ⟨σ', ρ', j, by rw [c0, hI.1.1, if_pos (show js_w 0 = 0 from rfl), k_174_24 (by omega) e1, b_174_27, f1'], by rw [hI.1.2.1, if_pos (show js_w 0 = 0 from rfl), k_265_56 (by omega) e2, b_265_59, f2'], mg_Ct C f3, mg_Mt M f4, f5, by omega⟩
    · obtain ⟨σ', ρ', j, f1, f2, f3, f4, f5, f6⟩ := y_loop (E := E) (d := d) (e := e) (X := X) hb (by omega) (by omega) (by omega) X 0 σ ρ (by omega) hA q hR hem
      have f1' : js_J E d 174 29 [(2, 56), (0, (X : Int)), (0, 0)] [] σ = js_r E (0, j) σ' := f1
      have f2' : js_J E e 265 61 [(2, 83), (0, (X : Int)), (0, 0)] [] ρ = js_r E (0, j) ρ' := f2
      have nw := rn_w hR
      have ns : ¬ js_w (σ 58 0) = 0 := by
        have a : σ 58 0 = ρ 83 77 := hR.1.1
        rw [a]
        omega
      exact ⟨σ', ρ', j, by rw [c0, if_neg ns, b_174_27, f1'], by rw [if_neg (show ¬ js_w (ρ 83 77) = 0 by omega), b_265_59, f2'], f3, f4, f5, f6⟩
  · refine ⟨σ, ρ, 0, ?_, ?_, fun _ _ _ _ => rfl, fun _ _ _ _ _ => rfl, ⟨hA, hh⟩, Or.inl rfl⟩
    · rw [b_174_0, hv.1, w81, if_neg q]
    · rw [w81, if_pos (show 0 < ρ 83 81 by omega)]
/-- a CYCLE to its end -/
theorem y_cyc {σ ρ : js_S} (hb : b = 0 ∨ b = 25) (h : mh_R E Fu ac zc b N T σ ρ) (hem : ρ 83 82 < 2000000000) (hd : 70 ≤ d) (he : 70 ≤ e) : ∃ (σ' ρ' : js_S) (j : Int), js_J E d 174 0 [(2, 56), (0, 1000000), (9, 0)] [] σ = js_r E (0, j) σ' ∧ (if 0 < js_w (ρ 83 81) then js_r0 E ρ else js_J E e 278 0 [(2, 83)] [] ρ) = js_r0 E ρ' ∧ mg_C σ σ' ∧ mg_M ρ ρ' ∧ mh_R E Fu ac zc b N T σ' ρ' ∧ (ρ' 83 82 = ρ 83 82 ∨ ρ' 83 82 = ρ 83 82 + 1) := by
  obtain ⟨hA, hh⟩ := h
  have hv := hA.2.2.1.1
  have hbd := hA.1.2.1.2.1.2.2.1
  have w81 : js_w (ρ 83 81) = ρ 83 81 := js_w_of (by omega) (by omega)
  by_cases q : ρ 83 81 = 0
  · have c0 : js_J E d 174 0 [(2, 56), (0, 1000000), (9, 0)] [] σ = (if js_w (σ 58 0) = 0 then js_J E d 174 24 [(2, 56), (0, 1000000), (9, 0)] [(2, 58), (2, 56)] σ else js_J E d 174 27 [(2, 56), (0, 1000000), (9, 0)] [] σ) := by
      rw [b_174_0, hv.1, q, if_pos (show js_w 0 = 0 from rfl)]
    have run : ∀ σ1 ρ1 : js_S, mh_A E Fu ac zc b N T σ1 ρ1 → ρ1 83 81 = 0 → rn_R Fu ac zc N 0 σ1 ρ1 → ρ1 83 82 < 2000000000 → ∃ (σ' ρ' : js_S) (j : Int), js_J E d 174 29 [(2, 56), (0, 1000000), (0, 0)] [] σ1 = js_r E (0, j) σ' ∧ js_J E e 278 11 [(2, 83)] [] ρ1 = js_r0 E ρ' ∧ mg_C σ1 σ' ∧ mg_M ρ1 ρ' ∧ (mh_A E Fu ac zc b N T σ' ρ' ∧ mh_0 N σ' ρ') ∧ (ρ' 83 82 = ρ1 83 82 ∨ ρ' 83 82 = ρ1 83 82 + 1) := fun σ1 ρ1 a1 a2 a3 a4 => by
      have hbd1 := a1.1.2.1.2.1.2.2.1
      have g9 := a3.2.1.2.1
      have g3 := a3.2.1.2.2.1
      have g8 := a3.2.1.2.2.2.1
      exact y_whole (E := E) (d := d) (e := e) hb (by omega) (by omega) (200000 - ρ1 83 79).toNat 0 σ1 ρ1 (by omega) (by omega) a1 a2 a3 a4
    rw [w81, if_neg (show ¬ 0 < ρ 83 81 by omega)]
    rcases hh with hI | ⟨_, hR⟩
    · obtain ⟨σ1, ρ1, e1, e2, C, M, hA1, z81, z82, hR1⟩ := y_mbeg (E := E) (d := d - 1) (e := e - 1) hb hA hI (by omega) (by omega)
      obtain ⟨σ', ρ', j, f1, f2, f3, f4, f5, f6⟩ := run σ1 ρ1 hA1 (by omega) hR1 (by omega)
      exact ⟨σ', ρ', j, by rw [c0, hI.1.1, if_pos (show js_w 0 = 0 from rfl), k_174_24 (by omega) e1, b_174_27, f1], by rw [b_278_0, hI.1.2.1, if_pos (show js_w 0 = 0 from rfl), k_278_8 (by omega) e2, f2], mg_Ct C f3, mg_Mt M f4, ⟨f5.1, Or.inl f5.2⟩, by omega⟩
    · obtain ⟨σ', ρ', j, f1, f2, f3, f4, f5, f6⟩ := run σ ρ hA q hR hem
      have nw := rn_w hR
      have ns : ¬ js_w (σ 58 0) = 0 := by
        have a : σ 58 0 = ρ 83 77 := hR.1.1
        rw [a]
        omega
      exact ⟨σ', ρ', j, by rw [c0, if_neg ns, b_174_27, f1], by rw [b_278_0, if_neg (show ¬ js_w (ρ 83 77) = 0 by omega), f2], f3, f4, ⟨f5.1, Or.inl f5.2⟩, f6⟩
  · refine ⟨σ, ρ, 0, ?_, ?_, fun _ _ _ _ => rfl, fun _ _ _ _ _ => rfl, ⟨hA, hh⟩, Or.inl rfl⟩
    · rw [b_174_0, hv.1, w81, if_neg q]
    · rw [w81, if_pos (show 0 < ρ 83 81 by omega)]
end YW
