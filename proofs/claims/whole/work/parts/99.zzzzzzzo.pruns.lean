/-! part 99.zzzzzzzo: a probe's Run to its end, and up to the FLIP, by both -/
section PR
variable {E : js_E} {d e : Nat} {Fu : Int → Int → Int → Prop} {ac zc b N : Int} {T : Nat}
theorem rn_79 {σ ρ : js_S} (hp : psR E Fu ac zc b N T σ ρ) (hR : rn_R Fu ac zc N 7 σ ρ) : 0 ≤ ρ 83 79 ∧ ρ 83 79 < 200000 := by
  have h51 := hp.1.2.2.1.2.2.1
  obtain ⟨_, ⟨c1, c2, c3, c4, c5⟩, _⟩ := hR
  omega
theorem rn_65 {σ ρ : js_S} (hR : rn_R Fu ac zc N 7 σ ρ) : σ 65 0 = 1 ∨ σ 65 0 = 2 := by
  have h : σ 65 0 = ρ 83 77 := hR.1.1
  have g := hR.1.2
  rw [h]
  exact g
/-- a STEP of the reference's loop -/
theorem r_278 {ρ ρ' : js_S} (h : 0 < js_w (ρ 83 77)) (he : 1 ≤ e) (h1 : js_J E (e - 1) 268 0 [(2, 83), (9, 0), (9, 0)] [] ρ = js_r0 E ρ') : js_J E e 278 11 [(2, 83)] [] ρ = js_J E e 278 11 [(2, 83)] [] ρ' := by
  rw [b_278_11, if_pos h, k_278_19 he h1, b_278_22]
theorem r_278e {ρ : js_S} (h : ρ 83 77 = 0) : js_J E e 278 11 [(2, 83)] [] ρ = js_r0 E ρ := by
  rw [b_278_11, h, if_neg (by decide)]
theorem y_prun (hb : b = 0 ∨ b = 25) (hd : 50 ≤ d) (he : 60 ≤ e) : ∀ (g : Nat) (σ ρ : js_S), ρ 83 79 + g = 200000 → psR E Fu ac zc b N T σ ρ → rn_R Fu ac zc N 7 σ ρ → (ρ 83 85 = 0 ∨ ρ 83 85 = 1 ∧ 0 ≤ ρ 130 0 ∧ ρ 130 0 < ρ 83 79) → (0 ≤ ρ 83 82 ∧ ρ 83 82 < 2000000000) → ∃ (m : Nat) (σE ρ3 : js_S), m ≤ g ∧ c_en E d b m σ σE ∧ sc_F 7 σ σE ∧ peR T N σE ρ ρ3 ∧ js_J E e 278 11 [(2, 83)] [] ρ = js_r0 E ρ3 := by
  intro g
  induction g with
  | zero =>
    intro σ ρ hg hp hR _ _
    have := rn_79 hp hR
    omega
  | succ g ih =>
    intro σ ρ hg hp hR hf hem
    have h79 := rn_79 hp hR
    have nf : ρ 83 85 = 0 ∨ ρ 83 85 = 1 ∧ js_w (ρ 130 0) ≠ js_w (ρ 83 79) := by
      rcases hf with q | ⟨q, q2, q3⟩
      · exact Or.inl q
      · refine Or.inr ⟨q, ?_⟩
        rw [js_w_of (x := ρ 130 0) (by omega) (by omega), js_w_of (x := ρ 83 79) (by omega) (by omega)]
        omega
    obtain ⟨σ1, e1, s1, c⟩ := y_pst (E := E) (d := d) (e := e - 1) hb hp hR nf hem hd (by omega)
    rcases c with ⟨ρ1, f1, r1, n1, n79⟩ | ⟨ρ3, f1, pe, t77⟩
    · obtain ⟨m, σE, ρ3, hm, c1, c2, c3, c4⟩ := ih σ1 ρ1 (by push_cast at hg; omega) (psR_fr hb hp s1 r1) n1 (by
        rw [r1 83 85 (by omega) (by omega), r1 130 0 (by omega) (by omega)]
        rcases hf with q | ⟨q, q2, q3⟩
        · exact Or.inl q
        · exact Or.inr ⟨q, q2, by omega⟩) (by rw [r1 83 82 (by omega) (by omega)]; exact hem)
      exact ⟨m + 1, σE, ρ3, by omega, ⟨σ1, e1, rn_65 n1, s1, c1⟩, sc_Ft s1 c2, pe_t r1 c3, by rw [r_278 (rn_w hR) (by omega) f1, c4]⟩
    · have z : σ1 65 0 = 0 := by
        obtain ⟨_, _, _, z, _⟩ := pe
        exact z.1
      exact ⟨0, σ1, ρ3, by omega, ⟨e1, z, s1⟩, s1, pe, by rw [r_278 (rn_w hR) (by omega) f1, r_278e t77]⟩
/-- a FLIP is due and turned; then to the end -/
theorem y_pfl (hb : b = 0 ∨ b = 25) (hd : 50 ≤ d) (he : 60 ≤ e) {σ ρ ρ00 : js_S} (hp : psR E Fu ac zc b N T σ ρ) (hR : rn_R Fu ac zc N 7 σ ρ) (h85 : ρ 83 85 = 1) (h130 : ρ 130 0 = ρ 83 79) (hfl : js_J E (e - 1 - 1) 269 0 [(2, 83), (9, 0), (9, 0), (9, 0)] [] ρ00 = js_r0 E ρ) (h77 : ρ00 83 77 = ρ 83 77) (hem : 0 ≤ ρ 83 82 ∧ ρ 83 82 < 2000000000) : ∃ (m : Nat) (σE ρ3 : js_S), m ≤ 200000 ∧ c_en E d b m σ σE ∧ sc_F 7 σ σE ∧ peR T N σE ρ ρ3 ∧ js_J E e 278 11 [(2, 83)] [] ρ00 = js_r0 E ρ3 := by
  have h79 := rn_79 hp hR
  have w00 : 0 < js_w (ρ00 83 77) := by rw [h77]; exact rn_w hR
  obtain ⟨σ1, e1, s1, c⟩ := y_pstf (E := E) (d := d) (e := e - 1) hb hp hR hfl h77 hem hd (by omega)
  rcases c with ⟨ρ1, f1, r1, n1, n79⟩ | ⟨ρ3, f1, pe, t77⟩
  · obtain ⟨m, σE, ρ3, hm, c1, c2, c3, c4⟩ := y_prun (E := E) (d := d) (e := e) hb hd he (200000 - (ρ1 83 79)).toNat σ1 ρ1 (by omega) (psR_fr hb hp s1 r1) n1 (Or.inr ⟨by rw [r1 83 85 (by omega) (by omega)]; exact h85, by rw [r1 130 0 (by omega) (by omega)]; omega, by rw [r1 130 0 (by omega) (by omega)]; omega⟩) (by rw [r1 83 82 (by omega) (by omega)]; exact hem)
    exact ⟨m + 1, σE, ρ3, by omega, ⟨σ1, e1, rn_65 n1, s1, c1⟩, sc_Ft s1 c2, pe_t r1 c3, by rw [r_278 w00 (by omega) f1, c4]⟩
  · have z : σ1 65 0 = 0 := by
      obtain ⟨_, _, _, z, _⟩ := pe
      exact z.1
    exact ⟨0, σ1, ρ3, by omega, ⟨e1, z, s1⟩, s1, pe, by rw [r_278 w00 (by omega) f1, r_278e t77]⟩
/-- the FLIP itself, by both -/
theorem y_turn (hb : b = 0 ∨ b = 25) {σ ρ : js_S} {c x : Int} (hp : psR E Fu ac zc b N T σ ρ) (hR : rn_R Fu ac zc N 7 σ ρ) (h85 : ρ 83 85 = 1) (h130 : js_w (ρ 130 0) = js_w (ρ 83 79)) (hc : c = 0 ∨ c = 1) (h127 : ρ 127 0 = c) (h128 : ρ 128 0 = x) (hx : -2 ≤ x ∧ x < N) (hd : 2 ≤ d) : ∃ σ' ρ' : js_S, js_J E d 164 0 [(2, 66 + 3 * c), (0, x), (0, ρ 129 0), (9, 0), (9, 0)] [] σ = js_r0 E σ' ∧ js_J E e 269 0 [(2, 83), (9, 0), (9, 0), (9, 0)] [] ρ = js_r0 E ρ' ∧ sc_F 7 σ σ' ∧ fq_M ρ ρ' ∧ psR E Fu ac zc b N T σ' ρ' ∧ rn_R Fu ac zc N 7 σ' ρ' := by
  have hN := hp.1.2.1.2.1
  have hR' := hR
  obtain ⟨⟨g0, g7⟩, ⟨g1, g9, g3, g8, g30⟩, ⟨q1, q2⟩, hm⟩ := hR'
  obtain ⟨σ', ρ', e1, hρ, C1, M1, _, c1, c2⟩ := c_turn7 (E := E) (d := d) (N := N) (σ := σ) (ρ := ρ) (x0 := 66 + 3 * c) (o := if c = 0 then 1 else 58659) (c := c) (x1 := x) (x2 := ρ 129 0) (y := ρ 83 83 + 1) (by
    rcases hc with q | q
    · rw [q, if_pos rfl]
      exact Or.inl ⟨rfl, rfl, rfl⟩
    · rw [q, if_neg (by decide)]
      exact Or.inr ⟨rfl, rfl, rfl⟩) hN hx hd q1 q2
  have sF : sc_F 7 σ σ' := fun a i g => C1 a i (by omega) (by omega) (by omega)
  refine ⟨σ', ρ', e1, r_f1 h85 h130 hc h127 h128 hx (by omega) hρ, sF, M1, ?_, ?_⟩
  · obtain ⟨⟨a1, a2⟩, ⟨a3, a4⟩, a5⟩ := hp
    have oo : ou_o ρ' T = ou_o ρ T := ou_o_e2 T (fun i _ _ => ⟨M1 _ _ (by omega) (by omega), M1 _ _ (by omega) (by omega)⟩)
    exact ⟨⟨by rw [sF _ _ (by omega)]; exact a1, pr_gen hb a2 (fun a i q => sF a i (by omega)) (fun i q => M1 _ _ (by omega) (by omega)) (fun a i q1 q2 => M1 _ _ (by omega) (by omega))⟩, ⟨wc_of a3 (fun a i q1 q2 => M1 _ _ (by omega) (by omega)) (M1 _ _ (by omega) (by omega)), by rw [M1 _ _ (by omega) (by omega)]; exact a4⟩, by rw [oo]; exact a5⟩
  · have s : ∀ i : Int, σ' (58 + 7) i = σ (58 + 7) i := fun i => C1 _ _ (by omega) (by omega) (by omega)
    have r : ∀ i : Int, i ≠ 83 → ρ' 83 i = ρ 83 i := fun i q => M1 _ _ (by omega) (by omega)
    have m77 := r 77 (by decide)
    refine ⟨⟨by rw [s, m77]; exact g0, by rw [m77]; exact g7⟩, ⟨by rw [s, r _ (by decide)]; exact g1, by rw [s, r _ (by decide), r _ (by decide)]; exact g9, by rw [s]; exact g3, by rw [r _ (by decide), r _ (by decide)]; exact g8, by rw [s, m77]; exact g30⟩, ⟨c1, c2⟩, ?_⟩
    rw [m77, r 78 (by decide)]
    obtain ⟨m1, m2, m3, k, l, m4, m5⟩ := hm
    have t : ∀ a i : Int, 123 ≤ a → ρ' a i = ρ a i := fun a i q => M1 _ _ (by omega) (by omega)
    refine ⟨by rw [C1 _ _ (by omega) (by omega) (by omega)]; exact m1, by rw [C1 _ _ (by omega) (by omega) (by omega), t _ _ (by decide)]; exact m2, fun j j1 j2 => ?_, k, l, by rw [t _ _ (by decide)]; exact m4, ms_bk k _ _ (fun j _ _ => t _ _ (by decide)) m5⟩
    rw [t _ _ (by decide)] at j2
    rw [C1 _ _ (by omega) (by omega) (by omega), t _ _ (by decide)]
    exact m3 j j1 j2
theorem y_ppre (hb : b = 0 ∨ b = 25) (hd : 50 ≤ d) (he : 60 ≤ e) {x3 : Int} (hx : x3 < 2147483648) : ∀ (g k : Nat) (σ ρ : js_S), (k : Int) + g = x3 → ρ 83 79 = k → psR E Fu ac zc b N T σ ρ → rn_R Fu ac zc N 7 σ ρ → (ρ 83 85 = 0 ∨ ρ 83 85 = 1 ∧ ρ 130 0 = x3) → (0 ≤ ρ 83 82 ∧ ρ 83 82 < 2000000000) → (∃ σP ρP : js_S, c_it E d b g σ σP ∧ sc_F 7 σ σP ∧ sr_F ρ ρP ∧ rn_R Fu ac zc N 7 σP ρP ∧ ρP 83 79 = x3 ∧ js_J E e 278 11 [(2, 83)] [] ρ = js_J E e 278 11 [(2, 83)] [] ρP) ∨ (∃ (m : Nat) (σE ρ3 : js_S), m < g ∧ (m : Int) + k < 200000 ∧ c_en E d b m σ σE ∧ sc_F 7 σ σE ∧ peR T N σE ρ ρ3 ∧ js_J E e 278 11 [(2, 83)] [] ρ = js_r0 E ρ3) := by
  intro g
  induction g with
  | zero =>
    intro k σ ρ hk h79 hp hR hf hem
    exact Or.inl ⟨σ, ρ, rfl, fun _ _ _ => rfl, fun _ _ _ _ => rfl, hR, by push_cast at hk; omega, rfl⟩
  | succ g ih =>
    intro k σ ρ hk h79 hp hR hf hem
    have b79 := rn_79 hp hR
    have nf : ρ 83 85 = 0 ∨ ρ 83 85 = 1 ∧ js_w (ρ 130 0) ≠ js_w (ρ 83 79) := by
      rcases hf with q | ⟨q, q2⟩
      · exact Or.inl q
      · refine Or.inr ⟨q, ?_⟩
        rw [q2, js_w_of (x := x3) (by omega) (by omega), js_w_of (x := ρ 83 79) (by omega) (by omega)]
        push_cast at hk
        omega
    obtain ⟨σ1, e1, s1, c⟩ := y_pst (E := E) (d := d) (e := e - 1) hb hp hR nf hem hd (by omega)
    rcases c with ⟨ρ1, f1, r1, n1, n79⟩ | ⟨ρ3, f1, pe, t77⟩
    · have go := ih (k + 1) σ1 ρ1 (by push_cast at hk ⊢; omega) (by rw [n79, h79]; push_cast; rfl) (psR_fr hb hp s1 r1) n1 (by
        rw [r1 83 85 (by omega) (by omega), r1 130 0 (by omega) (by omega)]
        exact hf) (by rw [r1 83 82 (by omega) (by omega)]; exact hem)
      have e2 := r_278 (E := E) (e := e) (rn_w hR) (by omega) f1
      rcases go with ⟨σP, ρP, c1, c2, c3, c4, c5, c6⟩ | ⟨m, σE, ρ3, hm, hm2, c1, c2, c3, c4⟩
      · exact Or.inl ⟨σP, ρP, ⟨σ1, e1, rn_65 n1, s1, c1⟩, sc_Ft s1 c2, sr_Ft r1 c3, c4, c5, by rw [e2, c6]⟩
      · exact Or.inr ⟨m + 1, σE, ρ3, by omega, by push_cast at hm2 ⊢; omega, ⟨σ1, e1, rn_65 n1, s1, c1⟩, sc_Ft s1 c2, pe_t r1 c3, by rw [e2, c4]⟩
    · have z : σ1 65 0 = 0 := by
        obtain ⟨_, _, _, z, _⟩ := pe
        exact z.1
      exact Or.inr ⟨0, σ1, ρ3, by omega, by omega, ⟨e1, z, s1⟩, s1, pe, by rw [r_278 (rn_w hR) (by omega) f1, r_278e t77]⟩
/-- the class runs it to its end -/
theorem c_162 (hd : 1 ≤ d) : ∀ (n k : Nat) (σ τ : js_S), n + k < 1000000 - 1 → (σ 65 0 = 1 ∨ σ 65 0 = 2) → c_en E (d - 1) b n σ τ → js_J E d 162 2 [(2, 65), (2, 7 + b), (0, (k : Int))] [] σ = js_r0 E τ := by
  have b2 : ∀ (σ : js_S) (x : Int), js_J E d 162 2 [(2, 65), (2, 7 + b), (0, x)] [] σ = (if js_w x < 1000000 then (if js_w (σ 65 0) = 0 then js_r0 E σ else js_J E d 162 17 [(2, 65), (2, 7 + b), (0, x)] [(2, 7 + b), (2, 65)] σ) else js_r0 E σ) := fun σ x => b_162_2 (r := 7) (Or.inr (Or.inl rfl))
  have k17 : ∀ (σ σ2 : js_S) (x : Int), js_J E (d - 1) 145 0 [(2, 65), (2, 7 + b), (9, 0)] [] σ = js_r0 E σ2 → js_J E d 162 17 [(2, 65), (2, 7 + b), (0, x)] [(2, 7 + b), (2, 65)] σ = js_J E d 162 20 [(2, 65), (2, 7 + b), (0, x)] [] σ2 := fun σ σ2 x h => k_162_17 (r := 7) (Or.inr (Or.inl rfl)) hd h
  have b20 : ∀ (σ : js_S) (x : Int), js_J E d 162 20 [(2, 65), (2, 7 + b), (0, x)] [] σ = js_J E d 162 2 [(2, 65), (2, 7 + b), (0, x + 1)] [] σ := fun σ x => b_162_20 (r := 7)
  have nz : ∀ σ : js_S, σ 65 0 = 1 ∨ σ 65 0 = 2 → ¬ js_w (σ 65 0) = 0 := fun σ h => by
    rcases h with q | q <;> rw [q] <;> decide
  intro n
  induction n with
  | zero =>
    intro k σ τ hk h65 h
    obtain ⟨h1, h2, _⟩ := h
    have wk : js_w (k : Int) = k := js_w_of (by omega) (by omega)
    have wk1 : js_w ((k : Int) + 1) = k + 1 := js_w_of (by omega) (by omega)
    rw [b2, wk, if_pos (by omega), if_neg (nz σ h65), k17 _ _ _ h1, b20, b2, wk1, if_pos (by omega), h2, if_pos (by decide)]
  | succ n ih =>
    intro k σ τ hk h65 h
    obtain ⟨σ1, h1, h2, _, h3⟩ := h
    have wk : js_w (k : Int) = k := js_w_of (by omega) (by omega)
    rw [b2, wk, if_pos (by omega), if_neg (nz σ h65), k17 _ _ _ h1, b20, show (k : Int) + 1 = ((k + 1 : Nat) : Int) by push_cast; rfl]
    exact ih (k + 1) σ1 τ (by omega) h2 h3
end PR
