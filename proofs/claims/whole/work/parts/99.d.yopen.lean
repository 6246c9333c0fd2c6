/-! part 99.d: brackets in step, lengths in step -/
theorem rx_next_up {ρ : js_S} {i v : Int} (h : i < 4 ∨ 8 < i) : rx_next (js_up ρ 83 i v) = js_up (rx_next ρ) 83 i v := by
  have e4 : js_up ρ 83 i v 83 4 = ρ 83 4 := js_up_ni _ (by omega)
  have e7 : js_up ρ 83 i v 83 7 = ρ 83 7 := js_up_ni _ (by omega)
  have e8 : js_up ρ 83 i v 83 8 = ρ 83 8 := js_up_ni _ (by omega)
  have e84 : ∀ k : Int, js_up ρ 83 i v 84 k = ρ 84 k := fun k => js_up_na _ (by decide)
  unfold rx_next
  rw [e7, rx_lex_eq8 e4 e84 e8, rx_fr_eq e4 e84]
  unfold rx_set
  rw [js_up_comm (i := i) (j := 6) (by omega), js_up_comm (i := i) (j := 7) (by omega), js_up_comm (i := i) (j := 5) (by omega), js_up_comm (i := i) (j := 8) (by omega)]
theorem rx_ok_of {ρ ρ' : js_S} (h : rx_ok ρ) (h3 : ∀ i : Int, 4 ≤ i → i ≤ 9 → ρ' 83 i = ρ 83 i) (h4 : ∀ i : Int, ρ' 84 i = ρ 84 i) : rx_ok ρ' := by
  obtain ⟨⟨t1, t2, t3⟩, g2, g3, g4, g5, g6, g7, g8, g9⟩ := h
  have e4 := h3 4 (by decide) (by decide)
  have e5 := h3 5 (by decide) (by decide)
  have e6 := h3 6 (by decide) (by decide)
  have e7 := h3 7 (by decide) (by decide)
  have e9 := h3 9 (by decide) (by decide)
  exact ⟨⟨by rw [e4]; exact t1, by rw [e4]; exact t2, fun i hi hi2 => by rw [h4]; exact t3 i hi (by rw [← e4]; exact hi2)⟩, fun i hi hi2 => by rw [h4]; exact g2 i hi hi2, by rw [e9]; exact g3, by rw [e6]; exact g4, by rw [e6, e7]; exact g5, by rw [e7, e4]; exact g6, by rw [e5]; exact g7, by rw [e5]; exact g8, by rw [e5, e6, e7]; exact g9⟩
theorem rd_deep {σ ρ : js_S} {j : Nat} {v : Int} (h : rd_R σ ρ j) (h0 : 0 ≤ v) (h1 : v ≤ 64) : rd_R (js_up σ 1 5 v) (js_up ρ 83 10 v) j := by
  obtain ⟨r1, r2, r3, r4, r5, r6⟩ := h
  refine ⟨tk_T_of r1 (js_up_ni _ (by decide)) (fun i => js_up_na _ (by decide)) (fun i => js_up_na _ (by decide)) (fun i => js_up_na _ (by decide)) (js_up_ni _ (by decide)) (fun i => js_up_na _ (by decide)), tk_A_of r2 (fun i hi => js_up_ni _ (by omega)) (fun i => js_up_na _ (by decide)) (fun i _ _ => js_up_ni _ (by omega)) (fun i => js_up_na _ (by decide)), rx_ok_of r3 (fun i _ _ => js_up_ni _ (by omega)) (fun i => js_up_na _ (by decide)), ?_, ?_, ?_⟩
  · rw [js_up_same, js_up_same]
  · rw [js_up_same]; exact h0
  · rw [js_up_same]; exact h1
/-- what brackets leave alone -/
def of_R (σ σ' : js_S) : Prop := ∀ a i : Int, ¬ (a = 1 ∧ (i = 1 ∨ i = 2 ∨ i = 3 ∨ i = 5 ∨ i = 11)) → a ≠ 2 → σ' a i = σ a i
def og_R (ρ ρ' : js_S) : Prop := ∀ a i : Int, ¬ (a = 83 ∧ 5 ≤ i ∧ i ≤ 10) → ρ' a i = ρ a i
theorem rx_bad1 {ρ : js_S} (hok : rx_ok ρ) {k : Int} (hk : 1 ≤ k) (hk2 : k ≤ 15) : rx_F (rx_bad ρ k (ρ 83 6)) ∧ rx_bad ρ k (ρ 83 6) 83 9 = k + 16 * ρ 83 6 := by
  have i1 := hok.2.2.2.1
  have i2 := hok.2.2.2.2.1
  have i3 := hok.2.2.2.2.2.1
  have i4 := hok.1.2.1
  exact rx_bad_ok hok.2.2.1 hk hk2 i1 (by omega)
section YO
variable {E : js_E} {d e : Nat} {σ ρ : js_S} {b : Int}
theorem y_open (hn : cx_n σ) {j : Nat} (hR : rd_R σ ρ j) (hd : 7 ≤ d) (he : 3 ≤ e) {k : Int} (hk : tk_V k) (hk1 : k ≠ 1) : ∃ ρ' : js_S, js_J E e 207 0 [(2, 83), (0, k)] [] ρ = js_r0 E ρ' ∧ og_R ρ ρ' ∧ ((∃ (σ' : js_S) (j' : Nat), js_J E d 47 0 [(2, 1), (0, tk_m k)] [] σ = js_r0 E σ' ∧ rd_R σ' ρ' j' ∧ of_R σ σ' ∧ j' = j + 1 ∧ ρ 83 10 < 64 ∧ ρ' 83 10 = ρ 83 10 + 1) ∨ (rx_F ρ' ∧ js_J E d 47 0 [(2, 1), (0, tk_m k)] [] σ = th_P E σ (ρ' 83 9))) := by
  obtain ⟨hV, c7, c8⟩ := rd_V hR
  have m1 := tk_m_in hV
  have m2 := tk_m_in hk
  have hok := hR.2.2.1
  have r4 := hR.2.2.2.1
  have r5 := hR.2.2.2.2.1
  have r6 := hR.2.2.2.2.2
  have hk0 : 0 ≤ k ∧ k < 3000 := by unfold tk_V at hk; omega
  rw [r_enter hok he hk0.1 hk0.2 r5 r6]
  by_cases q1 : ρ 83 5 = k
  · rw [if_pos q1]
    by_cases q2 : ρ 83 10 = 64
    · have hF := rx_bad1 hok (k := 10) (by decide) (by decide)
      refine ⟨_, by rw [if_pos q2], fun a i hh => ?_, Or.inr ⟨rx_F_up hF.1 (by decide) (by decide), ?_⟩⟩
      · rw [js_up_ne _ (by omega), rx_bad_o _ _ _ (by omega)]
      · rw [c_openD hn hd (by rw [c7, q1]) (by rw [r4, q2]), js_up_ni _ (by decide), hF.2, c8]
        rfl
    · obtain ⟨σ', j', e1, e2, e3, e4, e5⟩ := y_next (E := E) (d := d - 1) (rd_deep (v := ρ 83 10 + 1) hR (by omega) (by omega))
      have e6 := e5 (by rw [js_up_ni _ (by decide), q1]; exact hk1)
      refine ⟨_, by rw [if_neg q2], fun a i hh => ?_, Or.inl ⟨σ', j', ?_, e2, fun a i h1 h2 => ?_, e6, by omega, ?_⟩⟩
      · rw [rx_next_o _ (by omega), js_up_ne _ (by omega)]
      · exact c_open (by omega) (by rw [c7, q1]) (by omega) (by omega) (by rw [r4]; exact e1)
      · rw [e3 a i (by omega) h2, js_up_ne _ (by omega)]
      · rw [rx_next_o _ (by omega), js_up_same]
  · have hF := rx_bad1 hok (k := 1) (by decide) (by decide)
    refine ⟨_, by rw [if_neg q1], fun a i hh => ?_, Or.inr ⟨rx_F_up hF.1 (by decide) (by decide), ?_⟩⟩
    · rw [js_up_ne _ (by omega), rx_bad_o _ _ _ (by omega)]
    · have := c_openT (E := E) (d := d) hn hd (x := tk_m k) (by rw [c7]; exact fun hh => q1 ((tk_m_inj hV hk).mp hh)) (by omega) (by omega) (by omega) (by omega)
      rw [this, js_up_ni _ (by decide), hF.2, c8]
      rfl
theorem y_close (hn : cx_n σ) {j : Nat} (hR : rd_R σ ρ j) (hd : 7 ≤ d) (he : 4 ≤ e) {k : Int} (hk : tk_V k) (hk1 : k ≠ 1) (h10 : 1 ≤ ρ 83 10) : ∃ ρ' : js_S, js_J E e 211 0 [(2, 83), (0, k)] [] ρ = js_r0 E ρ' ∧ og_R ρ ρ' ∧ ((∃ (σ' : js_S) (j' : Nat), js_J E d 48 0 [(2, 1), (0, tk_m k)] [] σ = js_r0 E σ' ∧ rd_R σ' ρ' j' ∧ of_R σ σ' ∧ j' = j + 1 ∧ ρ' 83 10 = ρ 83 10 - 1) ∨ (rx_F ρ' ∧ js_J E d 48 0 [(2, 1), (0, tk_m k)] [] σ = th_P E σ (ρ' 83 9))) := by
  obtain ⟨hV, c7, c8⟩ := rd_V hR
  have m1 := tk_m_in hV
  have m2 := tk_m_in hk
  have hok := hR.2.2.1
  have r4 := hR.2.2.2.1
  have r6 := hR.2.2.2.2.2
  have hk0 : 0 ≤ k ∧ k < 3000 := by unfold tk_V at hk; omega
  rw [r_leave hok he hk0.1 hk0.2]
  by_cases q1 : ρ 83 5 = k
  · obtain ⟨σ', j', e1, e2, e3, e4, e5⟩ := y_next (E := E) (d := d - 1) (rd_deep (v := ρ 83 10 - 1) hR (by omega) (by omega))
    have e6 := e5 (by rw [js_up_ni _ (by decide), q1]; exact hk1)
    rw [rx_next_up (by omega)] at e2
    refine ⟨_, by rw [if_pos q1], fun a i hh => ?_, Or.inl ⟨σ', j', ?_, e2, fun a i h1 h2 => ?_, e6, ?_⟩⟩
    · rw [js_up_ne _ (by omega), rx_next_o _ (by omega)]
    · exact c_close (by omega) (by rw [c7, q1]) (by rw [r4]; exact e1)
    · rw [e3 a i (by omega) h2, js_up_ne _ (by omega)]
    · rw [js_up_same]
  · have hF := rx_bad1 hok (k := 1) (by decide) (by decide)
    refine ⟨_, by rw [if_neg q1], fun a i hh => ?_, Or.inr ⟨rx_F_up hF.1 (by decide) (by decide), ?_⟩⟩
    · rw [js_up_ne _ (by omega), rx_bad_o _ _ _ (by omega)]
    · have := c_closeT (E := E) (d := d) hn hd (x := tk_m k) (by rw [c7]; exact fun hh => q1 ((tk_m_inj hV hk).mp hh)) (by omega) (by omega) (by omega) (by omega)
      rw [this, js_up_ni _ (by decide), hF.2, c8]
      rfl
end YO
/-- the reference changes what it knows of symbol n, that is not told to the end -/
theorem sy_Y_rx2 {M : Int} {σ ρ ρ' : js_S} {b p q : Int} {X : Int → Prop} {n : Int} (h : sy_Y M σ ρ b p q X) (hX : X n) (h2 : ρ' 83 11 = ρ 83 11) (h3 : ∀ a i : Int, 86 ≤ a → a ≤ 99 → (i ≠ n ∨ a = 86 ∨ a = 90 ∨ a = 95 ∨ 97 ≤ a) → ρ' a i = ρ a i) (hv : n < ρ 83 11 → 0 ≤ ρ' 87 n ∧ ρ' 87 n < 1000 ∧ -2000000000 ≤ ρ' 94 n ∧ ρ' 94 n ≤ 2000000000) : sy_Y M σ ρ' b p q X := by
  obtain ⟨y1, y2, y3, y4, y5, y6, y7⟩ := h
  have hS : ∀ a i : Int, 97 ≤ a → a ≤ 99 → sy_S ρ' p q a i = sy_S ρ p q a i := fun a i g1 g2 => by
    unfold sy_S
    rw [h3 a i (by omega) g2 (by omega)]
  refine ⟨rs_ok_of y1 h2 (fun i => h3 _ i (by decide) (by decide) (by omega)) (fun i => h3 _ i (by decide) (by decide) (by omega)) (fun i => h3 _ i (by decide) (by decide) (by omega)), fun i hi hi2 => ?_, y3, y4, by rw [h2]; exact y5, fun i hi hi2 => ?_, fun i hi hi2 hx => ?_⟩
  · rw [h2] at hi2
    have g := y2 i hi hi2
    by_cases hin : i = n
    · rw [hin] at g ⊢
      have hv := hv (by rw [← hin]; exact hi2)
      rw [h3 86 n (by decide) (by decide) (by omega)]
      exact ⟨by omega, by omega, by omega, by omega, by omega, by omega, rs_z_of g.2.2.2.2.2.2 h2 (h3 90 n (by decide) (by decide) (by omega)) (h3 95 n (by decide) (by decide) (by omega))⟩
    · rw [h3 86 i (by decide) (by decide) (by omega), h3 87 i (by decide) (by decide) (by omega), h3 94 i (by decide) (by decide) (by omega)]
      exact rs_6 g (rs_z_of g.2.2.2.2.2.2 h2 (h3 90 i (by decide) (by decide) (by omega)) (h3 95 i (by decide) (by decide) (by omega)))
  · rw [h2] at hi2
    obtain ⟨a1, a2, a3, a4, a5⟩ := y6 i hi hi2
    refine ⟨a1, a2, by rw [hS 99 i (by decide) (by decide)]; exact a3, by rw [hS 97 i (by decide) (by decide)]; exact a4, fun k hk hk2 => ?_⟩
    rw [hS 97 i (by decide) (by decide)] at hk2
    rw [hS 98 _ (by decide) (by decide)]
    exact a5 k hk hk2
  · rw [h2] at hi2
    have hin : i ≠ n := fun hh => hx (hh ▸ hX)
    have hF := y7 i hi hi2 hx
    unfold sy_F at hF ⊢
    rw [h3 86 i (by decide) (by decide) (by omega), h3 87 i (by decide) (by decide) (by omega), h3 88 i (by decide) (by decide) (by omega), h3 89 i (by decide) (by decide) (by omega), h3 91 i (by decide) (by decide) (by omega), h3 93 i (by decide) (by decide) (by omega), h3 94 i (by decide) (by decide) (by omega), h3 96 i (by decide) (by decide) (by omega), h3 92 i (by decide) (by decide) (by omega)]
    exact hF
theorem sy_Y_rx {M : Int} {σ ρ ρ' : js_S} {b p q : Int} {X : Int → Prop} {n : Int} (h : sy_Y M σ ρ b p q X) (hX : X n) (h2 : ρ' 83 11 = ρ 83 11) (h3 : ∀ a i : Int, 86 ≤ a → a ≤ 99 → (i ≠ n ∨ a = 86 ∨ a = 90 ∨ a = 95 ∨ 97 ≤ a) → ρ' a i = ρ a i) (hv : 0 ≤ ρ' 87 n ∧ ρ' 87 n < 1000 ∧ -2000000000 ≤ ρ' 94 n ∧ ρ' 94 n ≤ 2000000000) : sy_Y M σ ρ' b p q X := sy_Y_rx2 h hX h2 h3 (fun _ => hv)
theorem kx_R_rx {ρ ρ' : js_S} {p q : Int} {X : Int → Prop} {n : Int} (h : kx_R ρ p q X) (hX : X n) (h2 : ρ' 83 11 = ρ 83 11) (h3 : ∀ a i : Int, 86 ≤ a → a ≤ 99 → (i ≠ n ∨ a = 86 ∨ 97 ≤ a) → ρ' a i = ρ a i) : kx_R ρ' p q X := by
  refine ⟨?_, fun i hi => ?_, fun i hi hi2 hx h8 => ?_⟩
  · rcases h.1 with g | g
    · exact Or.inl g
    · refine Or.inr (fun i hi hi2 => ?_)
      rw [h2] at hi2
      rw [h3 _ _ (by decide) (by decide) (by omega)]
      exact g i hi hi2
  · have := h.2.1 i hi
    unfold sy_S at this ⊢
    rw [h3 _ _ (by decide) (by decide) (by omega)]
    exact this
  · have hin : i ≠ n := fun hh => hx (hh ▸ hX)
    rw [h2] at hi2
    rw [h3 _ _ (by decide) (by decide) (by omega)] at h8
    rw [h3 87 i (by decide) (by decide) (by omega), h3 89 i (by decide) (by decide) (by omega), h3 91 i (by decide) (by decide) (by omega)]
    exact h.2.2 i hi hi2 hx h8
