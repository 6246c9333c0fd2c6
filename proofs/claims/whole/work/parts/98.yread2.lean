/-! part 98: Constants.read in step, to its end -/
/-- the fault of C of type t (-1: of any), 0: none -/
def rx_ce (ρ : js_S) (t : Int) : Int := if rx_cs ρ 83 9 ≠ 0 then rx_cs ρ 83 9 else if t ≠ -1 ∧ rx_cs ρ 83 27 ≠ t then 5 + 16 * ρ 83 6 else 0
theorem cf_R_trans {b : Int} {σ σ' τ : js_S} (h : cf_R b σ σ') (h2 : cf_R b σ' τ) : cf_R b σ τ := fun a i g1 g2 g3 => (h2 a i g1 g2 g3).trans (h a i g1 g2 g3)
theorem cf_R_fr {b : Int} {σ σ' : js_S} (h : tk_fr σ σ') : cf_R b σ σ' := fun a i g1 g2 _ => h a i g1 g2
theorem cf_R_up {b : Int} {σ : js_S} {k x : Int} (hk : 0 ≤ k) (hk2 : k ≤ 2) : cf_R b σ (js_up σ (21 + b) k x) := fun a i _ _ g3 => js_up_ne _ (by omega)
theorem rx_ck_in (ρ : js_S) (m : Bool) : rx_ck ρ m = 0 ∨ rx_ck ρ m = 1 ∨ rx_ck ρ m = 3 := by
  unfold rx_ck
  split
  · exact Or.inl rfl
  · split
    · exact Or.inl rfl
    · split
      · split
        · exact Or.inr (Or.inr rfl)
        · split
          · exact Or.inl rfl
          · exact Or.inr (Or.inr rfl)
      · exact Or.inr (Or.inl rfl)
theorem rx_ct_in {ρ : js_S} {m : Bool} (hk : rx_ck ρ m = 0) (hs : rs_ok ρ) (hv : rs_v ρ) (h8 : ρ 83 5 = 3 → 0 ≤ ρ 83 8 ∧ ρ 83 8 ≤ 2000000000) : 0 ≤ rx_ct ρ ∧ rx_ct ρ < 1000 ∧ -2000000000 ≤ rx_cv ρ ∧ rx_cv ρ ≤ 2000000000 ∧ ρ 83 5 ≠ 1 := by
  have hin := rx_sy_in hs
  have h400 := hs.2.1
  unfold rx_ck at hk
  unfold rx_ct rx_cv
  by_cases q1 : ρ 83 5 = 3
  · have := h8 q1
    rw [if_pos q1, if_pos q1]
    omega
  · rw [if_neg q1] at hk
    rw [if_neg q1, if_neg q1]
    by_cases q2 : m = false ∧ (ρ 83 5 = 316 ∨ ρ 83 5 = 317)
    · rw [if_pos q2.2]
      by_cases q3 : ρ 83 5 = 316
      · rw [if_pos q3]
        omega
      · rw [if_neg q3, if_pos (by omega)]
        omega
    · rw [if_neg q2] at hk
      by_cases q3 : ρ 83 5 = 2
      · rw [if_pos q3] at hk
        rw [if_neg (by omega), if_neg (by omega), if_neg (by omega)]
        by_cases q4 : rx_sy ρ < 0
        · rw [if_pos q4] at hk
          cases hk
        · have := hv (rx_sy ρ) (by omega) (by omega)
          omega
      · rw [if_neg q3] at hk
        cases hk
theorem rx_cs_bad {ρ : js_S} (h : rx_ok ρ) (hk : rx_ck (rx_c1 ρ) (rx_cm ρ) ≠ 0) : rx_F (rx_cs ρ) ∧ rx_cs ρ 83 9 = rx_ck (rx_c1 ρ) (rx_cm ρ) + 16 * rx_c1 ρ 83 6 := by
  have h1 := rx_c1_ok h
  obtain ⟨g1, g2, g3, g4, g5, g6, g7, g8, g9⟩ := h1
  have g0 := g1.2.1
  have hi := rx_ck_in (rx_c1 ρ) (rx_cm ρ)
  have e : rx_cs ρ = rx_bad (rx_c1 ρ) (rx_ck (rx_c1 ρ) (rx_cm ρ)) (rx_c1 ρ 83 6) := by
    unfold rx_cs
    simp only
    rw [if_pos hk]
  rw [e]
  exact rx_bad_ok g3 (by omega) (by omega) g4 (by omega)
theorem rx_cs_ty {ρ : js_S} (h : rx_ok ρ) (hk : rx_ck (rx_c1 ρ) (rx_cm ρ) = 0) (hm : rx_cm ρ = true) (ht : rx_ct (rx_c1 ρ) ≠ 0) : rx_F (rx_cs ρ) ∧ rx_cs ρ 83 9 = 5 + 16 * ρ 83 6 := by
  have h1 := rx_c1_ok h
  obtain ⟨g1, g2, g3, g4, g5, g6, g7, g8, g9⟩ := h1
  obtain ⟨k1, k2, k3, k4, k5, k6, k7, k8, k9⟩ := h
  have k0 := k1.2.1
  have e : rx_cs ρ = js_up (rx_bad (js_up (js_up (rx_c1 ρ) 83 27 (rx_ct (rx_c1 ρ))) 83 28 (rx_cv (rx_c1 ρ))) 5 (rx_c1 ρ 83 29)) 83 28 (-(rx_cv (rx_c1 ρ))) := by
    unfold rx_cs
    simp only
    rw [if_neg (show ¬ rx_ck (rx_c1 ρ) (rx_cm ρ) ≠ 0 from fun hh => hh hk), hm, if_neg (show ¬ true = false by decide), if_neg ht]
  have e9 : js_up (js_up (rx_c1 ρ) 83 27 (rx_ct (rx_c1 ρ))) 83 28 (rx_cv (rx_c1 ρ)) 83 9 = 0 := by
    rw [js_up_ni _ (by decide), js_up_ni _ (by decide)]
    exact g3
  have hb := rx_bad_ok (k := 5) (p := ρ 83 6) e9 (by decide) (by decide) k4 (by omega)
  rw [e, rx_c1_29]
  unfold rx_F at hb ⊢
  rw [js_up_ni _ (by decide), js_up_ni _ (by decide)]
  exact hb
theorem rx_cs_ok {ρ : js_S} (hk : rx_ck (rx_c1 ρ) (rx_cm ρ) = 0) (hm : rx_cm ρ = false ∨ rx_ct (rx_c1 ρ) = 0) : rx_cs ρ = js_up (js_up (rx_c1 ρ) 83 27 (rx_ct (rx_c1 ρ))) 83 28 (if rx_cm ρ = true then -(rx_cv (rx_c1 ρ)) else rx_cv (rx_c1 ρ)) := by
  unfold rx_cs
  simp only
  rw [if_neg (show ¬ rx_ck (rx_c1 ρ) (rx_cm ρ) ≠ 0 from fun hh => hh hk)]
  by_cases q : rx_cm ρ = false
  · rw [if_pos q, if_neg (show ¬ rx_cm ρ = true by rw [q]; decide)]
  · have q2 : rx_cm ρ = true := by
      cases h : rx_cm ρ
      · exact absurd h q
      · rfl
    rw [if_neg q, if_pos q2]
    rcases hm with h | h
    · exact absurd h q
    · rw [if_pos h]
section YR2
variable {E : js_E} {d : Nat} {σ ρ : js_S} {b : Int}
theorem y_const_1 (hb : b = 0 ∨ b = 25) {j : Nat} (hR : rd_R σ ρ j) (hd : 1 ≤ d) {t : Int} : ∃ (σ1 : js_S) (j1 : Nat), js_J E d 41 0 [(2, 21 + b), (0, t), (9, 0), (9, 0), (9, 0)] [] σ = js_J E d 41 40 [(2, 21 + b), (0, t), (0, rx_b (rx_cm ρ)), (9, 0), (9, 0)] [] σ1 ∧ rd_R σ1 (rx_c1 ρ) j1 ∧ cf_R b σ σ1 ∧ σ1 (21 + b) 2 = ρ 83 6 ∧ j ≤ j1 := by
  have hR' := hR
  obtain ⟨r1, r2, r3, r4, r5, r6⟩ := hR
  obtain ⟨g1, g2, g3, g4, g5, g6, g7, g8, g9⟩ := r3
  obtain ⟨c1, c2, c3, c4, c5, c6, c7, c8, c9, c10⟩ := r2
  have hpj := tk_p_in g1 j
  have hV : tk_V (ρ 83 5) := by rw [c5]; exact rx_lex_V g1 hpj.1 hpj.2
  have hmi := tk_m_in hV
  have i45 : tk_m (ρ 83 5) = 45 ↔ ρ 83 5 = 45 := tk_m_inj hV (show tk_V 45 by unfold tk_V; omega)
  have hR2 : rd_R (js_up σ (21 + b) 2 (σ 1 2)) (js_up ρ 83 29 (ρ 83 6)) j := rd_R_of hR' (fun i _ => js_up_na _ (by omega)) (fun a i _ _ => js_up_na _ (by omega)) (fun i _ _ => js_up_ni _ (by omega)) (fun i => js_up_na _ (by decide))
  rw [b_41_0 hb, c7, js_w_of (x := tk_m (ρ 83 5)) (by omega) (by omega)]
  by_cases q : ρ 83 5 = 45
  · have hm : rx_cm ρ = true := by unfold rx_cm; rw [q]; decide
    have e1 : rx_c1 ρ = rx_next (js_up ρ 83 29 (ρ 83 6)) := by
      unfold rx_c1
      rw [if_pos hm]
    obtain ⟨σ1, j1, h1, h2, h3, h4, h5⟩ := y_next (E := E) (d := d - 1) hR2
    refine ⟨σ1, j1, ?_, by rw [e1]; exact h2, cf_R_trans (cf_R_up (by decide) (by decide)) (cf_R_fr h3), ?_, h4⟩
    · have w : ¬ js_w 1 = 0 := by decide
      rw [if_pos (i45.mpr q), b_41_28 hb, if_neg w, k_41_37 hd h1, hm]
      rfl
    · rw [h3 _ _ (by omega) (by omega), js_up_same, c8]
  · have hm : rx_cm ρ = false := by unfold rx_cm; exact decide_eq_false q
    have e1 : rx_c1 ρ = js_up ρ 83 29 (ρ 83 6) := by
      unfold rx_c1
      rw [if_neg (show ¬ rx_cm ρ = true by rw [hm]; decide)]
    refine ⟨_, j, ?_, by rw [e1]; exact hR2, cf_R_up (by decide) (by decide), by rw [js_up_same, c8], Nat.le_refl _⟩
    have w : js_w 0 = 0 := rfl
    rw [if_neg (fun hh => q (i45.mp hh)), b_41_28 hb, if_pos w, hm]
    rfl
theorem y_read {p q : Int} {X : Int → Prop} (hb : b = 0 ∨ b = 25) (hY : sy_Y E.1 σ ρ b p q X) {j : Nat} (hR : rd_R σ ρ j) (hd : 8 ≤ d) (hk : kx_R ρ p q X) {t : Int} (ht : -1 ≤ t) (ht2 : t < 1000) : (rx_ce ρ t = 0 → ∃ (σ' : js_S) (j' : Nat), js_J E d 41 0 [(2, 21 + b), (0, t), (9, 0), (9, 0), (9, 0)] [] σ = js_r E (0, rx_cs ρ 83 28) σ' ∧ rd_R σ' (rx_next (rx_cs ρ)) j' ∧ sy_Y E.1 σ' (rx_next (rx_cs ρ)) b p q X ∧ cf_R b σ σ' ∧ σ' (21 + b) 0 = rx_cs ρ 83 27 ∧ σ' (21 + b) 1 = rx_cs ρ 83 28 ∧ σ' (21 + b) 2 = ρ 83 6 ∧ j < j') ∧ (rx_ce ρ t ≠ 0 → ∃ σ' : js_S, js_J E d 41 0 [(2, 21 + b), (0, t), (9, 0), (9, 0), (9, 0)] [] σ = js_t E (σ' (-1) 0) (js_ne (js_up σ' 1 6 (rx_ce ρ t)) 16) ∧ cf_R b σ σ') := by
  have hok := hR.2.2.1
  obtain ⟨σ1, j1, e1, hR1, hc1, h2, hj⟩ := y_const_1 (E := E) (d := d) (t := t) hb hR (by omega)
  have o1 : ∀ {a i : Int}, ¬ (a = 83 ∧ (5 ≤ i ∧ i ≤ 8 ∨ i = 29)) → rx_c1 ρ a i = ρ a i := fun hh => rx_c1_o ρ hh
  have hY1 : sy_Y E.1 σ1 (rx_c1 ρ) b p q X := sy_Y_of hY (fun a i hh => hc1 a i (by omega) (by omega) (by omega)) (o1 (by omega)) (fun a i _ _ => o1 (by omega))
  have hk1 : kx_R (rx_c1 ρ) p q X := kx_R_of hk (o1 (by omega)) (fun a i _ _ => o1 (by omega))
  obtain ⟨u3, u4, e2⟩ := y_const_2 (E := E) (d := d) (x1 := t) hb hY1 hR1 hd hk1 (rx_cm ρ)
  have h8 : rx_c1 ρ 83 5 = 3 → 0 ≤ rx_c1 ρ 83 8 ∧ rx_c1 ρ 83 8 ≤ 2000000000 := by
    intro h5
    obtain ⟨r1, r2, r3, r4, r5, r6⟩ := hR1
    obtain ⟨c1, c2, c3, c4, c5, c6, c7, c8, c9, c10⟩ := r2
    have hpj := tk_p_in r3.1 j1
    rw [c6 h5]
    exact (rx_lex_3 (by rw [← c5]; exact h5) r3.1 hpj.1 hpj.2).2
  have hn1 : cx_n σ1 := hY1.2.2.1
  rw [e1, e2]
  by_cases q1 : rx_ck (rx_c1 ρ) (rx_cm ρ) = 0
  · have hin := rx_ct_in q1 hY1.1 hY1.2.1 h8
    rw [if_neg (show ¬ rx_ck (rx_c1 ρ) (rx_cm ρ) ≠ 0 from fun hh => hh q1), y_const_3 hb hn1 hd (rx_cm ρ) ht ht2 hin.1 hin.2.1, h2]
    by_cases q2 : rx_cm ρ = true ∧ rx_ct (rx_c1 ρ) ≠ 0
    · have hce : rx_ce ρ t = 5 + 16 * ρ 83 6 := by
        have := (rx_cs_ty hok q1 q2.1 q2.2).2
        have h4 := hok.2.2.2.1
        unfold rx_ce
        rw [this, if_pos (by omega)]
      rw [if_pos (Or.inl q2), hce]
      refine ⟨fun hh => ?_, fun _ => ⟨js_up (js_up σ1 (21 + b) 0 (rx_ct (rx_c1 ρ))) (21 + b) 1 (rx_cv (rx_c1 ρ)), ?_, cf_R_trans hc1 (cf_R_trans (cf_R_up (by decide) (by decide)) (cf_R_up (by decide) (by decide)))⟩⟩
      · have h4 := hok.2.2.2.1
        omega
      · rw [js_up_na _ (by omega), js_up_na _ (by omega)]
        rfl
    · have hm : rx_cm ρ = false ∨ rx_ct (rx_c1 ρ) = 0 := by
        by_cases h : rx_cm ρ = false
        · exact Or.inl h
        · refine Or.inr ?_
          by_cases h3 : rx_ct (rx_c1 ρ) = 0
          · exact h3
          · have : rx_cm ρ = true := by
              cases h5 : rx_cm ρ
              · exact absurd h5 h
              · rfl
            exact absurd ⟨this, h3⟩ q2
      have ecs := rx_cs_ok q1 hm
      have e9 : rx_cs ρ 83 9 = 0 := by
        rw [ecs, js_up_ni _ (by decide), js_up_ni _ (by decide)]
        exact hR1.2.2.1.2.2.1
      have e27 : rx_cs ρ 83 27 = rx_ct (rx_c1 ρ) := by
        rw [ecs, js_up_ni _ (by decide), js_up_same]
      have e28 : rx_cs ρ 83 28 = if rx_cm ρ = true then -(rx_cv (rx_c1 ρ)) else rx_cv (rx_c1 ρ) := by
        rw [ecs, js_up_same]
      have hce : rx_ce ρ t = if t ≠ -1 ∧ rx_ct (rx_c1 ρ) ≠ t then 5 + 16 * ρ 83 6 else 0 := by
        unfold rx_ce
        rw [if_neg (show ¬ rx_cs ρ 83 9 ≠ 0 from fun hh => hh e9), e27]
      rw [hce]
      by_cases q3 : t ≠ -1 ∧ rx_ct (rx_c1 ρ) ≠ t
      · rw [if_pos (Or.inr q3), if_pos q3]
        refine ⟨fun hh => ?_, fun _ => ⟨js_up (js_up σ1 (21 + b) 0 (rx_ct (rx_c1 ρ))) (21 + b) 1 (rx_cv (rx_c1 ρ)), ?_, cf_R_trans hc1 (cf_R_trans (cf_R_up (by decide) (by decide)) (cf_R_up (by decide) (by decide)))⟩⟩
        · have h4 := hok.2.2.2.1
          omega
        · rw [js_up_na _ (by omega), js_up_na _ (by omega)]
          rfl
      · rw [if_neg (show ¬ ((rx_cm ρ = true ∧ rx_ct (rx_c1 ρ) ≠ 0) ∨ (t ≠ -1 ∧ rx_ct (rx_c1 ρ) ≠ t)) from fun hh => hh.elim q2 q3), if_neg q3]
        refine ⟨fun _ => ?_, fun hh => absurd rfl hh⟩
        rw [← e28]
        have hR2 : rd_R (js_up (js_up σ1 (21 + b) 0 (rx_ct (rx_c1 ρ))) (21 + b) 1 (rx_cs ρ 83 28)) (rx_cs ρ) j1 := rd_R_of hR1 (fun i _ => (js_up_na _ (by omega)).trans (js_up_na _ (by omega))) (fun a i _ _ => (js_up_na _ (by omega)).trans (js_up_na _ (by omega))) (fun i _ _ => by rw [ecs, js_up_ni _ (by omega), js_up_ni _ (by omega)]) (fun i => by rw [ecs, js_up_na _ (by decide), js_up_na _ (by decide)])
        obtain ⟨σ', j', f1, f2, f3, f4, f5⟩ := y_next (E := E) (d := d - 1) hR2
        have f6 : j' = j1 + 1 := f5 (by
          rw [ecs, js_up_ni _ (by decide), js_up_ni _ (by decide)]
          exact hin.2.2.2.2)
        have hc3 : cf_R b σ1 σ' := cf_R_trans (cf_R_trans (cf_R_up (by decide) (by decide)) (cf_R_up (by decide) (by decide))) (cf_R_fr f3)
        have s0 : σ' (21 + b) 0 = rx_cs ρ 83 27 := by
          rw [f3 _ _ (by omega) (by omega), js_up_ni _ (by decide), js_up_same, e27]
        have s1 : σ' (21 + b) 1 = rx_cs ρ 83 28 := by
          rw [f3 _ _ (by omega) (by omega), js_up_same]
        have s2 : σ' (21 + b) 2 = ρ 83 6 := by
          rw [f3 _ _ (by omega) (by omega), js_up_ni _ (by decide), js_up_ni _ (by decide), h2]
        refine ⟨σ', j', ?_, f2, ?_, cf_R_trans hc1 hc3, s0, s1, s2, by omega⟩
        · rw [k_41_312 (by omega) f1, b_41_315 hb, s1]
        · exact sy_Y_of hY1 (fun a i hh => hc3 a i (by omega) (by omega) (by omega)) (by rw [rx_next_o _ (by omega), ecs, js_up_ni _ (by decide), js_up_ni _ (by decide)]) (fun a i g1 g2 => by rw [rx_next_o _ (by omega), ecs, js_up_na _ (by omega), js_up_na _ (by omega)])
  · have hcs := rx_cs_bad hok q1
    have hi := rx_ck_in (rx_c1 ρ) (rx_cm ρ)
    have h4 : 0 ≤ rx_c1 ρ 83 6 := hR1.2.2.1.2.2.2.1
    have hce : rx_ce ρ t = rx_ck (rx_c1 ρ) (rx_cm ρ) + 16 * rx_c1 ρ 83 6 := by
      unfold rx_ce
      rw [hcs.2, if_pos (by omega)]
    rw [if_pos (show rx_ck (rx_c1 ρ) (rx_cm ρ) ≠ 0 from q1), hce]
    refine ⟨fun hh => ?_, fun _ => ⟨σ1, rfl, hc1⟩⟩
    omega
end YR2
