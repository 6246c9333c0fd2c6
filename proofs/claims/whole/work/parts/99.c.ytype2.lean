/-! part 99.c: types in step, to the end -/
theorem sy_Y_set3 {M : Int} {σ ρ : js_S} {b p q : Int} {X : Int → Prop} {n x t l h : Int} (hb : b = 0 ∨ b = 25) (hY : sy_Y M σ ρ b p q X) (hX : X n) (hx : js_desc M σ x = some (0, 11, js_sym)) (h0 : σ x 0 = n) : sy_Y M (js_up (js_up (js_up σ x 2 t) x 3 l) x 4 h) ρ b p q X := by
  have hge := js_sym_ge hx
  have y1 := sy_Y_set (k := 2) (v := t) hb hY hX hx h0 (by decide) (by decide)
  have hx4 : js_desc M (js_up σ x 2 t) x = some (0, 11, js_sym) := by rw [js_desc_up (by omega) (fun _ => by decide)]; exact hx
  have y2 := sy_Y_set (k := 3) (v := l) hb y1 hX hx4 (by rw [js_up_ni _ (by decide)]; exact h0) (by decide) (by decide)
  have hx5 : js_desc M (js_up (js_up σ x 2 t) x 3 l) x = some (0, 11, js_sym) := by rw [js_desc_up (by omega) (fun _ => by decide)]; exact hx4
  exact sy_Y_set (k := 4) (v := h) hb y2 hX hx5 (by rw [js_up_ni _ (by decide), js_up_ni _ (by decide)]; exact h0) (by decide) (by decide)
theorem rd_set3 {σ ρ : js_S} {j : Nat} {x t l h : Int} (hR : rd_R σ ρ j) (hx : 137 ≤ x) : rd_R (js_up (js_up (js_up σ x 2 t) x 3 l) x 4 h) ρ j :=
  rd_R_of hR (fun i _ => by rw [js_up_na _ (by omega), js_up_na _ (by omega), js_up_na _ (by omega)]) (fun a i _ _ => by rw [js_up_na _ (by omega), js_up_na _ (by omega), js_up_na _ (by omega)]) (fun _ _ _ => rfl) (fun _ => rfl)
theorem rd_type {σ ρ : js_S} {j : Nat} {t l h : Int} (hR : rd_R σ ρ j) : rd_R σ (js_up (js_up (js_up ρ 83 30 t) 83 31 l) 83 32 h) j :=
  rd_R_of hR (fun _ _ => rfl) (fun _ _ _ _ => rfl) (fun i _ _ => by rw [js_up_ni _ (by omega), js_up_ni _ (by omega), js_up_ni _ (by omega)]) (fun i => by rw [js_up_na _ (by decide), js_up_na _ (by decide), js_up_na _ (by decide)])
section YT2
variable {E : js_E} {d e : Nat} {σ ρ : js_S} {b : Int}
/-- both set the type, both go on to the next token -/
theorem y_type_1 {p q : Int} {X : Int → Prop} (hb : b = 0 ∨ b = 25) (hY : sy_Y E.1 σ ρ b p q X) {j : Nat} (hR : rd_R σ ρ j) {n x t l h : Int} (hX : X n) (hx : js_desc E.1 σ x = some (0, 11, js_sym)) (h0 : σ x 0 = n) (h5 : ρ 83 5 ≠ 1) (hd : 1 ≤ d) (hin : 0 ≤ t ∧ t < 1000 ∧ -2000000000 ≤ l ∧ l ≤ h ∧ h ≤ 2000000000 ∧ ty_b t l h) (htx : 3 ≤ t → t - 3 < ρ 83 11 ∧ ρ 86 (t - 3) = 8 ∧ ¬ X (t - 3) ∧ l = 0 ∧ h = ρ 89 (t - 3)) : ∃ (σ' : js_S), js_J E d 33 0 [(2, 1), (9, 0)] [] (js_up (js_up (js_up σ x 2 t) x 3 l) x 4 h) = js_r0 E σ' ∧ tf_R ρ (rx_next (js_up (js_up (js_up ρ 83 30 t) 83 31 l) 83 32 h)) ∧ ty_P E b x σ (rx_next (js_up (js_up (js_up ρ 83 30 t) 83 31 l) 83 32 h)) p q X j (js_r0 E σ') := by
  have hge := js_sym_ge hx
  have hR2 := rd_type (t := t) (l := l) (h := h) (rd_set3 (x := x) (t := t) (l := l) (h := h) hR hge)
  have tz : tf_R ρ (rx_next (js_up (js_up (js_up ρ 83 30 t) 83 31 l) 83 32 h)) := tf_R_trans (tf_R_trans (tf_R_trans (tf_R_up (by decide) (by decide)) (tf_R_up (by decide) (by decide))) (tf_R_up (by decide) (by decide))) (tf_R_next _)
  have z30 : rx_next (js_up (js_up (js_up ρ 83 30 t) 83 31 l) 83 32 h) 83 30 = t := by rw [rx_next_o _ (by omega), js_up_ni _ (by decide), js_up_ni _ (by decide), js_up_same]
  have z31 : rx_next (js_up (js_up (js_up ρ 83 30 t) 83 31 l) 83 32 h) 83 31 = l := by rw [rx_next_o _ (by omega), js_up_ni _ (by decide), js_up_same]
  have z32 : rx_next (js_up (js_up (js_up ρ 83 30 t) 83 31 l) 83 32 h) 83 32 = h := by rw [rx_next_o _ (by omega), js_up_same]
  obtain ⟨σ', j', e1, e2, e3, e4, e5⟩ := y_next (E := E) (d := d) hR2
  have e6 := e5 (by rw [js_up_ni _ (by decide), js_up_ni _ (by decide), js_up_ni _ (by decide)]; exact h5)
  refine ⟨σ', e1, tz, Or.inl ⟨σ', j', rfl, e2, ?_, by omega, ?_, ?_, ?_, ?_, ?_⟩⟩
  · exact sy_Y_cf hb (sy_Y_set3 (t := t) (l := l) (h := h) hb hY hX hx h0) (cf_R_fr e3) tz
  · exact fun a i g1 g2 g3 g4 => by rw [e3 a i g1 g2, js_up_ne _ (by omega), js_up_ne _ (by omega), js_up_ne _ (by omega)]
  · rw [e3 _ _ (by omega) (by omega), js_up_ni _ (by decide), js_up_ni _ (by decide), js_up_same, z30]
  · rw [e3 _ _ (by omega) (by omega), js_up_ni _ (by decide), js_up_same, z31]
  · rw [e3 _ _ (by omega) (by omega), js_up_same, z32]
  · refine ⟨?_, fun hh => ?_⟩
    · unfold ty_in
      rw [z30, z31, z32]
      exact hin
    · rw [z30] at hh ⊢
      rw [z31, z32, tz 83 11 (by omega), tz 86 _ (by omega), tz 89 _ (by omega)]
      exact htx hh
theorem y_type {p q : Int} {X : Int → Prop} (hb : b = 0 ∨ b = 25) (hY : sy_Y E.1 σ ρ b p q X) {j : Nat} (hR : rd_R σ ρ j) (hd : 10 ≤ d) (he : 6 ≤ e) (hk : kx_R ρ p q X) {n x : Int} (hX : X n) (hx : js_desc E.1 σ x = some (0, 11, js_sym)) (h0 : σ x 0 = n) : ∃ ρ' : js_S, js_J E e 208 0 [(2, 83), (9, 0)] [] ρ = js_r0 E ρ' ∧ tf_R ρ ρ' ∧ ty_P E b x σ ρ' p q X j (js_J E d 49 0 [(2, 21 + b), (2, x), (9, 0), (9, 0), (9, 0)] [] σ) := by
  have hok := hR.2.2.1
  have hge := js_sym_ge hx
  obtain ⟨hV, c7, c8⟩ := rd_V hR
  have m1 := tk_m_in hV
  have i15 : tk_m (ρ 83 5) = 215 ↔ ρ 83 5 = 315 := tk_m_inj hV (show tk_V 315 by unfold tk_V; omega)
  have i2 : tk_m (ρ 83 5) = 2 ↔ ρ 83 5 = 2 := tk_m_inj hV (show tk_V 2 from Or.inr (Or.inl rfl))
  have hs := hY.1
  have h400 := hs.2.1
  have hin := rx_sy_in hs
  have hrf := r_find (E := E) (d := e - 1) hs hok.2.1 hok.2.2.2.1 hok.2.2.2.2.1 (by have := hok.2.2.2.2.2.1; have := hok.1.2.1; omega) hok.2.2.2.2.2.2.1 hok.2.2.2.2.2.2.2.1 (by omega)
  have w5 : js_w (ρ 83 5) = ρ 83 5 := js_w_of (by have := hok.2.2.2.2.2.2.1; omega) (by have := hok.2.2.2.2.2.2.2.1; omega)
  rw [b_208_0, k_208_1 (by omega) hrf, b_208_4, w5, b_49_0 hb, c7, js_w_of (x := tk_m (ρ 83 5)) (by omega) (by omega), js_w_of (x := rx_sy ρ) (by omega) (by omega)]
  by_cases q1 : ρ 83 5 = 315
  · obtain ⟨σ', e1, tz, hP⟩ := y_type_1 (E := E) (d := d - 1) (t := 1) (l := 0) (h := 1) hb hY hR hX hx h0 (by omega) (by omega) (by unfold ty_b; omega) (fun hh => absurd hh (by decide))
    refine ⟨_, ?_, tz, ?_⟩
    · rw [if_pos q1, k_208_31 (by omega) (r_next' (rd_type hR).2.2.1 (by omega)), b_208_34, b_208_156]
    · rw [if_pos (i15.mpr q1), k_49_17 hx (by omega) (b_43_0 hx), b_49_20 hb, k_49_24 (by omega) e1, b_49_27]
      exact hP
  · rw [if_neg q1, if_neg (fun hh => q1 (i15.mp hh))]
    by_cases q2 : ρ 83 5 = 2
    · rw [if_pos (i2.mpr q2), k_49_47 hb (by omega) (y_find hb hY hR q2), b_49_50, b_49_54]
      have hin2 := rx_sy_in (rs_ok_S (p := p) (q := q) hs)
      have e11 : sy_S ρ p q 83 11 = ρ 83 11 := sy_S_o _ _ _ (by decide)
      rw [e11] at hin2
      have tw := sy_two hs hk q2
      have fall : ∀ z : Int, ∃ ρ' : js_S, js_J E e 208 83 [(2, 83), (0, rx_sy ρ)] [] ρ = js_r0 E ρ' ∧ tf_R ρ ρ' ∧ ty_P E b x σ ρ' p q X j (js_J E d 49 89 [(2, 21 + b), (2, x), (2, z), (9, 0), (9, 0)] [] σ) := fun z => y_range hb hY hR hd he hk hX hx h0
      by_cases q3 : rx_sy (sy_S ρ p q) < 0
      · rw [if_pos q3, if_pos (show (-1 : Int) < 0 by decide)]
        have h8 : ¬ (0 ≤ rx_sy ρ ∧ ρ 86 (rx_sy ρ) = 8) := fun hh => by
          rcases tw with h | h
          · omega
          · have := h.2 hh.1
            omega
        by_cases q4 : rx_sy ρ < 0
        · rw [if_pos q4]
          exact fall _
        · have hv := hY.2.1 (rx_sy ρ) (by omega) (by omega)
          rw [if_neg q4, if_pos (show 0 ≤ rx_sy ρ ∧ rx_sy ρ < 400 by omega), js_w_of (x := ρ 86 (rx_sy ρ)) (by omega) (by omega), if_neg (show ¬ ρ 86 (rx_sy ρ) = 8 from fun hh => h8 ⟨by omega, hh⟩)]
          exact fall _
      · have hin3 : rx_sy (sy_S ρ p q) < ρ 83 11 := by omega
        obtain ⟨a1, a2, a3, a4, a5⟩ := hY.2.2.2.2.2.1 (rx_sy (sy_S ρ p q)) (by omega) hin3
        have hge2 := js_sym_ge a1
        have hvis := sy_vis q2 q3
        have hnX : ¬ X (rx_sy (sy_S ρ p q)) := fun hh => hk.2.1 _ hh hvis
        obtain ⟨f1, f2, f3, f4, f5, f6, f7, f8, f9⟩ := hY.2.2.2.2.2.2 _ (by omega) hin3 hnX
        have hv := hY.2.1 (rx_sy (sy_S ρ p q)) (by omega) (by omega)
        rw [if_neg q3, if_neg (show ¬ σ (19 + b) (rx_sy (sy_S ρ p q)) < 0 by omega), b_49_59 a1, f1, js_w_of (x := ρ 86 (rx_sy (sy_S ρ p q))) (by omega) (by omega)]
        by_cases q4 : ρ 86 (rx_sy (sy_S ρ p q)) = 8
        · have es : rx_sy (sy_S ρ p q) = rx_sy ρ := by
            rcases tw with h | h
            · exact h
            · have := h.1 (by omega)
              omega
          rw [es] at q3 q4 f2 f4 hv hin3 hnX
          have ht := hk.2.2 (rx_sy ρ) (by omega) hin3 hnX q4
          have h4 : σ (σ (19 + b) (rx_sy ρ)) 4 = ρ 91 (rx_sy ρ) - 1 := by rw [f4, ht.2.1]
          have h2 : σ (σ (19 + b) (rx_sy ρ)) 2 = 3 + rx_sy ρ := by rw [f2, ht.1]
          obtain ⟨σ', e1, tz, hP⟩ := y_type_1 (E := E) (d := d - 1) (t := 3 + rx_sy ρ) (l := 0) (h := ρ 91 (rx_sy ρ) - 1) hb hY hR hX hx h0 (by omega) (by omega) (by unfold ty_b; omega) (fun _ => by rw [show 3 + rx_sy ρ - 3 = rx_sy ρ by omega]; exact ⟨hin3, q4, hnX, rfl, ht.2.1.symm⟩)
          refine ⟨_, ?_, tz, ?_⟩
          · rw [if_neg q3, if_pos (show 0 ≤ rx_sy ρ ∧ rx_sy ρ < 400 by omega), js_w_of (x := ρ 86 (rx_sy ρ)) (by omega) (by omega), if_pos q4, k_208_77 (by omega) (r_next' (rd_type hR).2.2.1 (by omega)), b_208_80, b_208_156]
          · rw [es, if_pos q4, h4, h2, k_49_78 hx (by omega) (b_43_0 hx), b_49_81 hb, k_49_85 (by omega) e1, b_49_88]
            exact hP
        · have h8 : ¬ (0 ≤ rx_sy ρ ∧ ρ 86 (rx_sy ρ) = 8) := fun hh => by
            rcases tw with h | h
            · rw [h] at q4
              exact q4 hh.2
            · have := h.2 hh.1
              omega
          rw [if_neg q4]
          by_cases q5 : rx_sy ρ < 0
          · rw [if_pos q5]
            exact fall _
          · have hv2 := hY.2.1 (rx_sy ρ) (by omega) (by omega)
            rw [if_neg q5, if_pos (show 0 ≤ rx_sy ρ ∧ rx_sy ρ < 400 by omega), js_w_of (x := ρ 86 (rx_sy ρ)) (by omega) (by omega), if_neg (show ¬ ρ 86 (rx_sy ρ) = 8 from fun hh => h8 ⟨by omega, hh⟩)]
            exact fall _
    · have hsy : rx_sy ρ = -1 := by
        unfold rx_sy
        rw [if_neg q2]
      rw [if_neg (fun hh => q2 (i2.mp hh)), hsy, if_pos (show (-1 : Int) < 0 by decide), b_49_54, if_pos (show (-1 : Int) < 0 by decide)]
      exact y_range hb hY hR hd he hk hX hx h0
end YT2
