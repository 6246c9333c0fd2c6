/-! part 99.zzzzzzzn: STEPS of a probe's Run, by both -/
/-- what does not change while a probe runs -/
def psR (E : js_E) (Fu : Int → Int → Int → Prop) (ac zc b N : Int) (T : Nat) (σ ρ : js_S) : Prop := (σ 56 1 = 7 + b ∧ pr_R E b T N σ ρ) ∧ (wc_P Fu ac zc N ρ ∧ ac ≤ ρ 83 50 ∧ ρ 83 50 < zc) ∧ ou_o ρ T ≤ 4096
/-- where the outs of the CYCLE that runs go -/
def pe_B (ρ : js_S) : Int := 4096 * ((js_w (ρ 83 82)).tmod 16)
/-- the Run is over in both: σ' the class's, ρ3 the reference's; it began at ρ -/
def peR (T : Nat) (N : Int) (σ' ρ ρ3 : js_S) : Prop := ∃ (ρ' : js_S) (K : Int), sr_F ρ ρ' ∧ (σ' 65 0 = 0 ∧ σ' 65 2 = K) ∧ cq_R N 66 0 σ' ρ' ∧ (1 ≤ K ∧ K ≤ 3 ∧ ρ3 = th_S (js_up ρ' 83 81 K) ∨ K = 4 ∧ (∀ s : Int, 0 ≤ s → s < T → ρ' 86 s = 2 → ∀ j : Int, 0 ≤ j → j < ρ' 91 s → ρ' 88 s ≤ js_l (ρ' 120 (ρ' 90 s + j)) ∧ js_l (ρ' 120 (ρ' 90 s + j)) ≤ ρ' 89 s) ∧ ∃ ρ4 : js_S, em_F (pe_B ρ') (ou_o ρ' T) ρ' ρ4 ∧ (∀ s : Int, 0 ≤ s → s < T → ρ' 86 s = 2 → ∀ j : Int, 0 ≤ j → j < ρ' 91 s → ρ4 126 (pe_B ρ' + ou_o ρ' s.toNat + j) = ρ' 120 (ρ' 90 s + j)) ∧ ρ3 = th_S (js_up ρ4 83 82 (ρ4 83 82 + 1)))
theorem sr_Ft {ρ ρ1 ρ2 : js_S} (h1 : sr_F ρ ρ1) (h2 : sr_F ρ1 ρ2) : sr_F ρ ρ2 := fun a i g1 g2 => by rw [h2 a i g1 g2, h1 a i g1 g2]
theorem sc_Ft {r : Int} {σ σ1 σ2 : js_S} (h1 : sc_F r σ σ1) (h2 : sc_F r σ1 σ2) : sc_F r σ σ2 := fun a i g => by rw [h2 a i g, h1 a i g]
theorem pe_t {T : Nat} {N : Int} {σ' ρ ρ1 ρ3 : js_S} (h : sr_F ρ ρ1) (g : peR T N σ' ρ1 ρ3) : peR T N σ' ρ ρ3 := by
  obtain ⟨ρ', K, f, r⟩ := g
  exact ⟨ρ', K, sr_Ft h f, r⟩
section PS
variable {E : js_E} {d e : Nat} {Fu : Int → Int → Int → Prop} {ac zc b N : Int} {T : Nat} {σ ρ σ' ρ' : js_S}
theorem psR_fr (hb : b = 0 ∨ b = 25) (h : psR E Fu ac zc b N T σ ρ) (h1 : sc_F 7 σ σ') (h2 : sr_F ρ ρ') : psR E Fu ac zc b N T σ' ρ' := by
  obtain ⟨⟨a1, a2⟩, ⟨a3, a4⟩, a5⟩ := h
  have oo : ou_o ρ' T = ou_o ρ T := ou_o_e2 T (fun i _ _ => ⟨h2 _ _ (by omega) (by omega), h2 _ _ (by omega) (by omega)⟩)
  exact ⟨⟨by rw [h1 _ _ (by omega)]; exact a1, pr_fr (Or.inr (Or.inl rfl)) hb a2 h1 h2⟩, ⟨wc_of a3 (fun a i q1 q2 => h2 _ _ (by omega) (by omega)) (h2 _ _ (by omega) (by omega)), by rw [h2 _ _ (by omega) (by omega)]; exact a4⟩, by rw [oo]; exact a5⟩
theorem pe_B_in (ρ : js_S) : 0 ≤ pe_B ρ → pe_B ρ ≤ 61440 := fun h => by
  unfold pe_B at h ⊢
  have := Int.tmod_lt_of_pos (js_w (ρ 83 82)) (show (0 : Int) < 16 by decide)
  omega
/-- one STEP behind the FLIPS that are due (ρ00 ahead of them) -/
theorem y_pstf {ρ00 : js_S} (hb : b = 0 ∨ b = 25) (hp : psR E Fu ac zc b N T σ ρ) (hR : rn_R Fu ac zc N 7 σ ρ) (hfl : js_J E (e - 1) 269 0 [(2, 83), (9, 0), (9, 0), (9, 0)] [] ρ00 = js_r0 E ρ) (h77 : ρ00 83 77 = ρ 83 77) (hem : 0 ≤ ρ 83 82 ∧ ρ 83 82 < 2000000000) (hd : 50 ≤ d) (he : 50 ≤ e) : ∃ σ' : js_S, js_J E d 145 0 [(2, 65), (2, 7 + b), (9, 0)] [] σ = js_r0 E σ' ∧ sc_F 7 σ σ' ∧ ((∃ ρ' : js_S, js_J E e 268 0 [(2, 83), (9, 0), (9, 0)] [] ρ00 = js_r0 E ρ' ∧ sr_F ρ ρ' ∧ rn_R Fu ac zc N 7 σ' ρ' ∧ ρ' 83 79 = ρ 83 79 + 1) ∨ (∃ ρ3 : js_S, js_J E e 268 0 [(2, 83), (9, 0), (9, 0)] [] ρ00 = js_r0 E ρ3 ∧ peR T N σ' ρ ρ3 ∧ ρ3 83 77 = 0)) := by
  obtain ⟨⟨h56, hpr⟩, ⟨hw, hst⟩, hou⟩ := hp
  obtain ⟨σ2, ρ2, e3, S3, R3, ys⟩ := y_step (E := E) (d := d) (e := e) (r := 7) hb (Or.inr (Or.inl rfl)) hpr hw hst hR (by omega) (by omega)
  have e3' : js_J E d 145 0 [(2, 65), (2, 7 + b), (9, 0)] [] σ = js_r0 E σ2 := e3
  have er : js_J E e 268 0 [(2, 83), (9, 0), (9, 0)] [] ρ00 = js_J E e 268 11 [(2, 83), (0, ρ 83 77 - 1), (9, 0)] [] ρ := by
    rw [b_268_0, k_268_8 (by omega) hfl, h77]
  have t77 : ∀ τ : js_S, th_S τ 83 77 = 0 := fun τ => by
    unfold th_S
    rw [js_up_na _ (by decide), js_up_na _ (by decide), js_up_ni _ (by decide), js_up_ni _ (by decide), js_up_ni _ (by decide), js_up_same]
  refine ⟨σ2, e3', S3, ?_⟩
  rcases ys with ⟨y1, y2, y3⟩ | ⟨y0, ⟨k, hk, y1, y2⟩ | ⟨p, z, hz, y1, y2, y3⟩⟩
  · exact Or.inl ⟨ρ2, by rw [er, y1], R3, y3, y2⟩
  · exact Or.inr ⟨_, by rw [er, y2], ⟨ρ2, k, R3, ⟨y0.1, y1⟩, y0.2.2.1, Or.inl ⟨by omega, by omega, rfl⟩⟩, t77 _⟩
  · have ag : js_J E (e - 1 - 1) 276 0 [(2, 83), (9, 0), (9, 0), (9, 0), (9, 0)] [] ρ2 = js_r E (0, z) ρ2 := by
      rw [show e - 1 - 1 = e - 2 by omega]
      exact y2
    have eg : ∀ ρ3 : js_S, js_J E (e - 1) 275 4 [(2, 83), (9, 0), (9, 0), (9, 0)] [(0, z)] ρ2 = js_r0 E ρ3 → js_J E e 268 0 [(2, 83), (9, 0), (9, 0)] [] ρ00 = js_r0 E ρ3 := fun ρ3 h => by
      rw [er, y3, k_268_119 (by omega) (by rw [b_275_0, k_275_1 (by omega) ag]; exact h), b_268_122]
    rcases hz with hz | hz
    · rw [hz, if_pos rfl] at y1
      exact Or.inr ⟨_, eg _ (by rw [hz, b_275_4, if_pos (show js_w 0 = 0 from rfl), k_275_9 (by omega) (r_latch (by omega)), b_275_12]), ⟨ρ2, 3, R3, ⟨y0.1, y1⟩, y0.2.2.1, Or.inl ⟨by decide, by decide, rfl⟩⟩, t77 _⟩
    · rw [hz, if_neg (show ¬ (1 : Int) = 0 by decide)] at y1
      rw [hz] at ag
      have hpr2 : pr_R E b T N σ2 ρ2 := pr_fr (Or.inr (Or.inl rfl)) hb hpr S3 R3
      have op := ou_of hpr2
      have oo : ou_o ρ2 T = ou_o ρ T := ou_o_e2 T (fun i _ _ => ⟨R3 _ _ (by omega) (by omega), R3 _ _ (by omega) (by omega)⟩)
      have k82 : ρ2 83 82 = ρ 83 82 := R3 _ _ (by omega) (by omega)
      have w82 : js_w (ρ2 83 82) = ρ2 83 82 := js_w_of (by omega) (by omega)
      have tm : (ρ2 83 82).tmod 16 = ρ2 83 82 % 16 := Int.tmod_eq_emod_of_nonneg (by omega)
      have B0 : 0 ≤ pe_B ρ2 := by
        unfold pe_B
        rw [w82, tm]
        omega
      have B1 := pe_B_in ρ2 B0
      obtain ⟨ρ4, w4, m1, m2, m3⟩ := r_emS (E := E) (e := e - 1) (T := T) (ρ0 := ρ2) (R := pe_B ρ2) op (by omega) T 0 ρ2 (9, 0) rfl (fun _ _ _ => rfl) (fun s s1 s2 => by omega)
      have m1' : js_J E (e - 1) 275 27 [(2, 83), (0, pe_B ρ2), (0, 0), (9, 0)] [] ρ2 = js_J E (e - 1) 275 106 [(2, 83), (0, pe_B ρ2 + ou_o ρ2 T), (0, (T : Int)), w4] [(2, 83)] (js_up ρ4 83 82 (ρ4 83 82 + 1)) := by
        have x := m1
        have z0 : ou_o ρ2 0 = 0 := rfl
        rw [z0, Int.add_zero] at x
        exact x
      have e74 : js_J E (e - 1 - 1) 274 0 [(2, 83)] [] (js_up ρ4 83 82 (ρ4 83 82 + 1)) = js_r0 E (th_S (js_up ρ4 83 82 (ρ4 83 82 + 1))) := b_274_0
      refine Or.inr ⟨_, eg _ ?_, ⟨ρ2, 4, R3, ⟨y0.1, y1⟩, y0.2.2.1, Or.inr ⟨rfl, r_gate op ag, ρ4, m2, m3, rfl⟩⟩, t77 _⟩
      rw [hz, b_275_4, if_neg (show ¬ js_w 1 = 0 by decide)]
      exact m1'.trans (by rw [k_275_106 (by omega) e74, b_275_109])
/-- one STEP, no FLIP due -/
theorem y_pst (hb : b = 0 ∨ b = 25) (hp : psR E Fu ac zc b N T σ ρ) (hR : rn_R Fu ac zc N 7 σ ρ) (hnf : ρ 83 85 = 0 ∨ ρ 83 85 = 1 ∧ js_w (ρ 130 0) ≠ js_w (ρ 83 79)) (hem : 0 ≤ ρ 83 82 ∧ ρ 83 82 < 2000000000) (hd : 50 ≤ d) (he : 50 ≤ e) : ∃ σ' : js_S, js_J E d 145 0 [(2, 65), (2, 7 + b), (9, 0)] [] σ = js_r0 E σ' ∧ sc_F 7 σ σ' ∧ ((∃ ρ' : js_S, js_J E e 268 0 [(2, 83), (9, 0), (9, 0)] [] ρ = js_r0 E ρ' ∧ sr_F ρ ρ' ∧ rn_R Fu ac zc N 7 σ' ρ' ∧ ρ' 83 79 = ρ 83 79 + 1) ∨ (∃ ρ3 : js_S, js_J E e 268 0 [(2, 83), (9, 0), (9, 0)] [] ρ = js_r0 E ρ3 ∧ peR T N σ' ρ ρ3 ∧ ρ3 83 77 = 0)) := y_pstf (ρ00 := ρ) hb hp hR (r_nf hnf) rfl hem hd he
/-- n STEPS of the class's Run 65, it goes on; it is over with STEP n + 1 -/
def c_it (E : js_E) (d : Nat) (b : Int) : Nat → js_S → js_S → Prop
  | 0, σ, τ => τ = σ
  | n + 1, σ, τ => ∃ σ1 : js_S, js_J E d 145 0 [(2, 65), (2, 7 + b), (9, 0)] [] σ = js_r0 E σ1 ∧ (σ1 65 0 = 1 ∨ σ1 65 0 = 2) ∧ sc_F 7 σ σ1 ∧ c_it E d b n σ1 τ
def c_en (E : js_E) (d : Nat) (b : Int) : Nat → js_S → js_S → Prop
  | 0, σ, τ => js_J E d 145 0 [(2, 65), (2, 7 + b), (9, 0)] [] σ = js_r0 E τ ∧ τ 65 0 = 0 ∧ sc_F 7 σ τ
  | n + 1, σ, τ => ∃ σ1 : js_S, js_J E d 145 0 [(2, 65), (2, 7 + b), (9, 0)] [] σ = js_r0 E σ1 ∧ (σ1 65 0 = 1 ∨ σ1 65 0 = 2) ∧ sc_F 7 σ σ1 ∧ c_en E d b n σ1 τ
theorem js_r0_inj {σ τ : js_S} (h : js_r0 E σ = js_r0 E τ) : js_wd E.1 σ = js_wd E.1 τ := by
  unfold js_r0 at h
  simp only [Option.some.injEq, Prod.mk.injEq, true_and] at h
  exact h
theorem c_it_wd : ∀ (n : Nat) (σ σ' τ τ' : js_S), js_wd E.1 σ = js_wd E.1 σ' → c_it E d b n σ τ → c_it E d b n σ' τ' → js_wd E.1 τ = js_wd E.1 τ'
  | 0, σ, σ', τ, τ', h, h1, h2 => by
    have a : τ = σ := h1
    have b : τ' = σ' := h2
    rw [a, b]
    exact h
  | n + 1, σ, σ', τ, τ', h, h1, h2 => by
    obtain ⟨s1, a1, _, _, a3⟩ := h1
    obtain ⟨s2, b1, _, _, b3⟩ := h2
    have e : js_r0 E s1 = js_r0 E s2 := by rw [← a1, ← b1, js_J_wd h]
    exact c_it_wd n _ _ _ _ (js_r0_inj e) a3 b3
theorem wd_no {s1 s2 : js_S} (h : js_wd E.1 s1 = js_wd E.1 s2) (h1 : s1 65 0 = 1 ∨ s1 65 0 = 2) (h2 : s2 65 0 = 0) : False := by
  have a := (wd_65 h).1
  rw [h2] at a
  rcases h1 with q | q
  · rw [q] at a
    exact absurd a (by decide)
  · rw [q] at a
    exact absurd a (by decide)
theorem c_en_wd : ∀ (n m : Nat) (σ σ' τ τ' : js_S), js_wd E.1 σ = js_wd E.1 σ' → c_en E d b n σ τ → c_en E d b m σ' τ' → js_wd E.1 τ = js_wd E.1 τ'
  | 0, 0, σ, σ', τ, τ', h, h1, h2 => js_r0_inj (by rw [← h1.1, ← h2.1, js_J_wd h])
  | 0, m + 1, σ, σ', τ, τ', h, h1, h2 => by
    obtain ⟨s2, b1, b2, _⟩ := h2
    exact (wd_no (js_r0_inj (by rw [← b1, ← h1.1, js_J_wd h])) b2 h1.2.1).elim
  | n + 1, 0, σ, σ', τ, τ', h, h1, h2 => by
    obtain ⟨s1, a1, a2, _⟩ := h1
    exact (wd_no (js_r0_inj (by rw [← a1, ← h2.1, js_J_wd h])) a2 h2.2.1).elim
  | n + 1, m + 1, σ, σ', τ, τ', h, h1, h2 => by
    obtain ⟨s1, a1, _, _, a3⟩ := h1
    obtain ⟨s2, b1, _, _, b3⟩ := h2
    exact c_en_wd n m _ _ _ _ (js_r0_inj (by rw [← a1, ← b1, js_J_wd h])) a3 b3
/-- it can't go on for g STEPS and be over with one of them -/
theorem c_it_en : ∀ (g m : Nat) (σ σ' τ τ' : js_S), js_wd E.1 σ = js_wd E.1 σ' → c_it E d b g σ τ → c_en E d b m σ' τ' → m < g → False
  | 0, m, σ, σ', τ, τ', h, h1, h2, hm => by omega
  | g + 1, 0, σ, σ', τ, τ', h, h1, h2, hm => by
    obtain ⟨s1, a1, a2, _⟩ := h1
    exact wd_no (js_r0_inj (by rw [← a1, ← h2.1, js_J_wd h])) a2 h2.2.1
  | g + 1, m + 1, σ, σ', τ, τ', h, h1, h2, hm => by
    obtain ⟨s1, a1, _, _, a3⟩ := h1
    obtain ⟨s2, b1, _, _, b3⟩ := h2
    exact c_it_en g m _ _ _ _ (js_r0_inj (by rw [← a1, ← b1, js_J_wd h])) a3 b3 (by omega)
end PS
