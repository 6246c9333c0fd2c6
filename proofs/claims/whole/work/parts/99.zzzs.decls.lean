/-! part 99.zzzs: all declarations in step -/
section PG1
variable {E : js_E} {e : Nat} {ρ : js_S} {x1 x2 x3 x4 x5 : Int}
/-- the reference goes on after a fault: what stays -/
def pw_R (ρ ρ' : js_S) : Prop := ∀ a i : Int, ¬ (a = 83 ∧ (i = 10 ∨ i = 44 ∨ i = 45)) → a ≠ 99 → ρ' a i = ρ a i
theorem sF_pw {b : Int} {σ ρ0 ρa ρ' : js_S} {R : Option (Outcome × ip_W)} (h : sF_P E b σ ρ0 ρa R) (h2 : pw_R ρa ρ') : sF_P E b σ ρ0 ρ' R := by
  obtain ⟨a1, a2, a3, a4, σ', a5, a6⟩ := h
  have e11 := h2 83 11 (by omega) (by omega)
  have e9 := h2 83 9 (by omega) (by omega)
  have e5 := h2 83 5 (by omega) (by omega)
  have hF : rx_F ρ' := by
    unfold rx_F at a2 ⊢
    rw [e9, e5]
    exact a2
  exact ⟨rf_R_trans a1 (fun a i g1 g2 => h2 a i (by omega) (by omega)), hF, by omega, by omega, σ', by rw [e9]; exact a5, a6⟩
theorem r_189_187F (h : rx_F ρ) : js_J E e 189 187 [(2, 83), (0, x1), (0, x2), (0, x3), (0, x4), (0, x5), (9, 0)] [] ρ = js_J E e 189 198 [(2, 83), (0, x1), (0, x2), (0, x3), (0, x4), (0, x5), (9, 0)] [] ρ := by
  have n9 : ¬ js_w (ρ 83 9) = 0 := by have := rx_F_9 h; omega
  rw [b_189_187, if_neg n9]
theorem r_189_167F (h : rx_F ρ) (he : 1 ≤ e) {z : Int} : js_J E e 189 167 [(2, 83), (0, x1), (0, x2), (0, x3), (0, x4), (0, x5), (9, 0)] [(0, z), (2, 83)] ρ = js_J E e 189 198 [(2, 83), (0, x1), (0, x2), (0, x3), (0, x4), (0, x5), (9, 0)] [] (js_up ρ 83 45 z) := by
  have hF : rx_F (js_up ρ 83 45 z) := rx_F_up h (by decide) (by decide)
  have n5 : ¬ js_w (ρ 83 5) = 1 := by rw [h.2.2]; decide
  rw [b_189_167, if_neg n5, k_189_184 (by omega) (r_badF hF), r_189_187F hF]
theorem r_189_157F (h : rx_F ρ) (he : 10 ≤ e) (h1 : 0 ≤ ρ 83 11) (h4 : ρ 83 11 ≤ 400) : ∃ ρ' : js_S, js_J E e 189 157 [(2, 83), (0, x1), (0, x2), (0, x3), (0, x4), (0, x5), (9, 0)] [] ρ = js_J E e 189 198 [(2, 83), (0, x1), (0, x2), (0, x3), (0, x4), (0, x5), (9, 0)] [] ρ' ∧ pw_R ρ ρ' := by
  have u : ∀ a i : Int, ¬ (a = 83 ∧ i = 44) → js_up ρ 83 44 0 a i = ρ a i := fun a i g => js_up_ne _ g
  have hF1 : rx_F (js_up ρ 83 44 0) := rx_F_up h (by decide) (by decide)
  rw [b_189_157]
  generalize js_up ρ 83 44 0 = ρ1 at u hF1 ⊢
  have hF2 : rx_F (js_up ρ1 83 10 (ρ1 83 10 + 1)) := rx_F_up hF1 (by decide) (by decide)
  have u2 : ∀ a i : Int, ¬ (a = 83 ∧ i = 10) → js_up ρ1 83 10 (ρ1 83 10 + 1) a i = ρ1 a i := fun a i g => js_up_ne _ g
  have eo : js_J E (e - 1) 239 0 [(2, 83), (9, 0), (9, 0)] [] ρ1 = js_J E (e - 1) 239 11 [(2, 83), (0, ρ1 83 11), (9, 0)] [] (js_up ρ1 83 10 (ρ1 83 10 + 1)) := by rw [b_239_0, k_239_8 (by omega) (r_openF hF1 (by omega) (by decide) (by decide))]
  generalize js_up ρ1 83 10 (ρ1 83 10 + 1) = ρ2 at hF2 u2 eo
  have e211 : ρ2 83 11 = ρ1 83 11 := u2 _ _ (by omega)
  have e111 : ρ1 83 11 = ρ 83 11 := u _ _ (by omega)
  have u3 : ∀ a i : Int, ¬ (a = 83 ∧ i = 10) → js_up ρ2 83 10 (ρ2 83 10 - 1) a i = ρ2 a i := fun a i g => js_up_ne _ g
  have ec := r_leaveF (E := E) (d := e - 1 - 1) (k := 125) hF2 (by omega) (by decide) (by decide)
  generalize js_up ρ2 83 10 (ρ2 83 10 - 1) = ρ3 at u3 ec
  have e311 : ρ3 83 11 = ρ2 83 11 := u3 _ _ (by omega)
  obtain ⟨ρ4, e4, h4'⟩ := r_240F (E := E) (e := e - 1 - 1) (ρ := ρ3) (f := ρ1 83 11) (by omega) (by omega) (by omega) (by omega)
  have e239 : js_J E (e - 1) 239 0 [(2, 83), (9, 0), (9, 0)] [] ρ1 = js_r E (0, -1) ρ4 := by rw [eo, b_239_11, k_239_12 (by omega) (r_212F hF2), b_239_15, k_239_19 (by omega) ec, b_239_22, k_239_24 (by omega) e4, b_239_27]
  have f : ∀ a i : Int, ¬ (a = 83 ∧ (i = 10 ∨ i = 44)) → a ≠ 99 → ρ4 a i = ρ a i := fun a i g1 g2 => by rw [h4' a i g2, u3 a i (by omega), u2 a i (by omega), u a i (by omega)]
  have e9 := f 83 9 (by omega) (by omega)
  have e5 := f 83 5 (by omega) (by omega)
  have hF4 : rx_F ρ4 := by
    unfold rx_F at h ⊢
    rw [e9, e5]
    exact h
  refine ⟨js_up ρ4 83 45 (-1), ?_, fun a i g1 g2 => by rw [js_up_ne _ (by omega), f a i (by omega) g2]⟩
  rw [k_189_164 (by omega) e239, r_189_167F hF4 (by omega)]
theorem r_189_154F (h : rx_F ρ) (he : 10 ≤ e) (h1 : 0 ≤ ρ 83 11) (h4 : ρ 83 11 ≤ 400) : ∃ ρ' : js_S, js_J E e 189 154 [(2, 83), (0, x1), (0, x2), (0, x3), (0, x4), (0, x5), (9, 0)] [(0, 314), (2, 83)] ρ = js_J E e 189 198 [(2, 83), (0, x1), (0, x2), (0, x3), (0, x4), (0, x5), (9, 0)] [] ρ' ∧ pw_R ρ ρ' := by
  rw [k_189_154 (by omega) (r_takeF h (by omega) (by decide) (by decide))]
  exact r_189_157F h he h1 h4
theorem r_189_83F (h : rx_F ρ) (he : 10 ≤ e) (h1 : 0 ≤ ρ 83 11) (h4 : ρ 83 11 ≤ 400) : ∃ ρ' : js_S, js_J E e 189 83 [(2, 83), (0, x1), (0, x2), (0, x3), (0, x4), (0, x5), (9, 0)] [] ρ = js_J E e 189 198 [(2, 83), (0, x1), (0, x2), (0, x3), (0, x4), (0, x5), (9, 0)] [] ρ' ∧ pw_R ρ ρ' := by
  have n : ∀ k : Int, k ≠ 0 → ¬ js_w (ρ 83 5) = k := fun k hk => by
    rw [h.2.2, js_w_of (x := 0) (by decide) (by decide)]
    omega
  rw [b_189_83, if_neg (n 300 (by decide)), if_neg (n 301 (by decide)), if_neg (n 302 (by decide)), if_neg (n 303 (by decide)), if_neg (n 304 (by decide)), if_neg (n 306 (by decide))]
  exact r_189_154F h he h1 h4
end PG1
/-- all declarations were read by both -/
def dq_P (E : js_E) (b : Int) (d : Nat) (e : Nat) (L : List js_v) (σ ρ : js_S) (j : Nat) (Rc Rr : Option (Outcome × ip_W)) : Prop := (∃ (σ' ρ' : js_S) (j' : Nat) (c : Int) (B : Int → Int) (Bf : Int → Int → Int) (U : Int → Int) (fb fr : Int → tr_T), Rc = js_J E d 16 158 [(2, 6 + b), (0, c)] [] σ' ∧ Rr = js_J E e 189 154 L [(0, 314), (2, 83)] ρ' ∧ rd_R σ' ρ' j' ∧ j ≤ j' ∧ fr_R b σ σ' ∧ rf_R ρ ρ' ∧ dl_R E b B Bf U fb fr σ' ρ' j' ∧ ρ' 83 5 = 314) ∨ (∃ ρ' : js_S, Rr = js_J E e 189 198 L [] ρ' ∧ sF_P E b σ ρ ρ' Rc)
/-- what holds from token j on, for at most G more tokens -/
def dh_P (E : js_E) (b : Int) (d e : Nat) (x1 x2 x3 x4 x5 : Int) (G : Nat) : Prop := ∀ (σ ρ : js_S) (j : Nat) (c : Int) (B : Int → Int) (Bf : Int → Int → Int) (U : Int → Int) (fb fr : Int → tr_T), 8200 ≤ G + j → 0 ≤ c → c ≤ j → dl_R E b B Bf U fb fr σ ρ j → rd_R σ ρ j → dq_P E b d e [(2, 83), (0, x1), (0, x2), (0, x3), (0, x4), (0, x5), (9, 0)] σ ρ j (js_J E d 16 23 [(2, 6 + b), (0, c)] [] σ) (js_J E e 189 83 [(2, 83), (0, x1), (0, x2), (0, x3), (0, x4), (0, x5), (9, 0)] [] ρ)
section PG2
variable {E : js_E} {b : Int} {d e : Nat} {x1 x2 x3 x4 x5 : Int} {σ ρ : js_S} {j : Nat}
theorem dq_step {G : Nat} {c : Int} {Rc Rc1 : Option (Outcome × ip_W)} (IH : dh_P E b d e x1 x2 x3 x4 x5 G) (hG : 8200 ≤ G + 1 + j) (hc : 0 ≤ c) (hcj : c ≤ j) (he : 12 ≤ e) (h1 : ∀ σ' : js_S, Rc1 = js_r0 E σ' → Rc = js_J E d 16 23 [(2, 6 + b), (0, c + 1)] [] σ') (h2 : ∀ (σ' : js_S) (v : Int), Rc1 = th_P E σ' v → Rc = th_P E σ' v) (h3 : js_J E e 189 83 [(2, 83), (0, x1), (0, x2), (0, x3), (0, x4), (0, x5), (9, 0)] [] ρ = js_J E e 189 143 [(2, 83), (0, x1), (0, x2), (0, x3), (0, x4), (0, x5), (9, 0)] [] ρ) (h : ∃ ρ' : js_S, js_J E (e - 1) 197 0 [(2, 83), (9, 0), (9, 0)] [] ρ = js_r0 E ρ' ∧ (dy_P E b σ ρ ρ' j Rc1 ∨ sF_P E b σ ρ ρ' Rc1)) : dq_P E b d e [(2, 83), (0, x1), (0, x2), (0, x3), (0, x4), (0, x5), (9, 0)] σ ρ j Rc (js_J E e 189 83 [(2, 83), (0, x1), (0, x2), (0, x3), (0, x4), (0, x5), (9, 0)] [] ρ) := by
  obtain ⟨ρ', er, hor⟩ := h
  rw [h3, b_189_143, k_189_144 (by omega) er, b_189_147]
  rcases hor with ⟨σ', j', B, Bf, U, fb, fr, ec, hR', hj, fr', rf', hD'⟩ | hf
  · rw [h1 σ' ec]
    rcases IH σ' ρ' j' (c + 1) B Bf U fb fr (by omega) (by omega) (by omega) hD' hR' with ⟨σ2, ρ2, j2, c2, B2, Bf2, U2, fb2, fr2, k1, k2, k3, k4, k5, k6, k7, k8⟩ | ⟨ρ2, k1, k2⟩
    · exact Or.inl ⟨σ2, ρ2, j2, c2, B2, Bf2, U2, fb2, fr2, k1, k2, k3, by omega, fr_R_trans fr' k5, rf_R_trans rf' k6, k7, k8⟩
    · exact Or.inr ⟨ρ2, k1, sF_up fr' rf' k2⟩
  · obtain ⟨a1, a2, a3, a4, σz, a5, a6⟩ := hf
    obtain ⟨ρ2, e2, p2⟩ := r_189_83F (E := E) (e := e) (x1 := x1) (x2 := x2) (x3 := x3) (x4 := x4) (x5 := x5) a2 (by omega) a3 a4
    rw [e2, h2 σz _ a5]
    exact Or.inr ⟨ρ2, rfl, sF_pw ⟨a1, a2, a3, a4, σz, rfl, a6⟩ p2⟩
theorem dh_step {G : Nat} (hb : b = 0 ∨ b = 25) (hd : 312 ≤ d) (he : 860 ≤ e) (IH : dh_P E b d e x1 x2 x3 x4 x5 G) : dh_P E b d e x1 x2 x3 x4 x5 (G + 1) := by
  intro σ ρ j c B Bf U fb fr hG hc hcj hD hR
  have hj := rd_j hR
  obtain ⟨hV, hc1, hc2⟩ := rd_V hR
  have w0 : js_w (ρ 83 5) = ρ 83 5 := by
    unfold tk_V at hV
    exact js_w_of (by omega) (by omega)
  have wc : js_w c < 1000000 := by
    rw [js_w_of (by omega) (by omega)]
    omega
  have n14 : ρ 83 5 ≠ 314 → ¬ js_w (σ 1 1) = 214 := fun h1 h3 => h1 ((tkq hR (k := 314) (by unfold tk_V; omega)).mp h3)
  by_cases q0 : ρ 83 5 = 300
  · have q : js_w (σ 1 1) = 200 := by rw [hc1, q0]; decide
    refine dq_step IH hG hc hcj (by omega) (fun σ' h => ?_) (fun σ' v h => ?_) (by rw [b_189_83, w0, if_pos q0]) (y_dcon (d := d - 1) hb hD hR (by omega) (by omega) q0)
    · rw [b_16_23 hb, if_pos wc, if_neg (n14 (by omega)), s_16_49_200 q, b_16_92, k_16_93 hb (by omega) h, b_16_96, b_16_152]
    · rw [b_16_23 hb, if_pos wc, if_neg (n14 (by omega)), s_16_49_200 q, b_16_92, kt_16_93 hb (by omega) h]
  by_cases q1 : ρ 83 5 = 301
  · have q : js_w (σ 1 1) = 201 := by rw [hc1, q1]; decide
    refine dq_step IH hG hc hcj (by omega) (fun σ' h => ?_) (fun σ' v h => ?_) (by rw [b_189_83, w0, if_neg q0, if_pos q1]) (y_dtyp (d := d - 1) hb hD hR (by omega) (by omega) q1)
    · rw [b_16_23 hb, if_pos wc, if_neg (n14 (by omega)), s_16_49_201 q, b_16_99, k_16_100 hb (by omega) h, b_16_103, b_16_152]
    · rw [b_16_23 hb, if_pos wc, if_neg (n14 (by omega)), s_16_49_201 q, b_16_99, kt_16_100 hb (by omega) h]
  by_cases q2 : ρ 83 5 = 302
  · have q : js_w (σ 1 1) = 202 := by rw [hc1, q2]; decide
    refine dq_step IH hG hc hcj (by omega) (fun σ' h => ?_) (fun σ' v h => ?_) (by rw [b_189_83, w0, if_neg q0, if_neg q1, if_pos q2]) (y_dport (d := d - 1) (k := 1) hb hD hR (by omega) (by omega) (by omega) q2)
    · rw [b_16_23 hb, if_pos wc, if_neg (n14 (by omega)), s_16_49_202 q, b_16_106, k_16_108 hb (by omega) h, b_16_111, b_16_152]
    · rw [b_16_23 hb, if_pos wc, if_neg (n14 (by omega)), s_16_49_202 q, b_16_106, kt_16_108 hb (by omega) h]
  by_cases q3 : ρ 83 5 = 303
  · have q : js_w (σ 1 1) = 203 := by rw [hc1, q3]; decide
    refine dq_step IH hG hc hcj (by omega) (fun σ' h => ?_) (fun σ' v h => ?_) (by rw [b_189_83, w0, if_neg q0, if_neg q1, if_neg q2, if_pos q3]) (y_dport (d := d - 1) (k := 2) hb hD hR (by omega) (by omega) (by omega) q3)
    · rw [b_16_23 hb, if_pos wc, if_neg (n14 (by omega)), s_16_49_203 q, b_16_114, k_16_116 hb (by omega) h, b_16_119, b_16_152]
    · rw [b_16_23 hb, if_pos wc, if_neg (n14 (by omega)), s_16_49_203 q, b_16_114, kt_16_116 hb (by omega) h]
  by_cases q4 : ρ 83 5 = 304
  · have q : js_w (σ 1 1) = 204 := by rw [hc1, q4]; decide
    refine dq_step IH hG hc hcj (by omega) (fun σ' h => ?_) (fun σ' v h => ?_) (by rw [b_189_83, w0, if_neg q0, if_neg q1, if_neg q2, if_neg q3, if_pos q4]) (y_dport (d := d - 1) (k := 3) hb hD hR (by omega) (by omega) (by omega) q4)
    · rw [b_16_23 hb, if_pos wc, if_neg (n14 (by omega)), s_16_49_204 q, b_16_122, k_16_124 hb (by omega) h, b_16_127, b_16_152]
    · rw [b_16_23 hb, if_pos wc, if_neg (n14 (by omega)), s_16_49_204 q, b_16_122, kt_16_124 hb (by omega) h]
  by_cases q6 : ρ 83 5 = 306
  · have q : js_w (σ 1 1) = 206 := by rw [hc1, q6]; decide
    refine dq_step IH hG hc hcj (by omega) (fun σ' h => ?_) (fun σ' v h => ?_) (by rw [b_189_83, w0, if_neg q0, if_neg q1, if_neg q2, if_neg q3, if_neg q4, if_pos q6]) (y_dfun (d := d - 1) hb hD hR q6 (by omega) (by omega))
    · rw [b_16_23 hb, if_pos wc, if_neg (n14 (by omega)), s_16_49_206 q, b_16_130, k_16_131 hb (by omega) h, b_16_134, b_16_152]
    · rw [b_16_23 hb, if_pos wc, if_neg (n14 (by omega)), s_16_49_206 q, b_16_130, kt_16_131 hb (by omega) h]
  rw [b_189_83, w0, if_neg q0, if_neg q1, if_neg q2, if_neg q3, if_neg q4, if_neg q6]
  by_cases q9 : ρ 83 5 = 314
  · have q : js_w (σ 1 1) = 214 := by rw [hc1, q9]; decide
    rw [b_16_23 hb, if_pos wc, if_pos q]
    exact Or.inl ⟨σ, ρ, j, c, B, Bf, U, fb, fr, rfl, rfl, hR, Nat.le_refl _, fr_R_refl b σ, fun _ _ _ _ => rfl, hD, q9⟩
  · have nk : ∀ k : Int, tk_V k → ρ 83 5 ≠ k → js_w (σ 1 1) ≠ tk_m k := fun k h1 h2 h3 => h2 ((tkq hR h1).mp h3)
    have n0 := nk 300 (by unfold tk_V; omega) q0
    have n1 := nk 301 (by unfold tk_V; omega) q1
    have n2 := nk 302 (by unfold tk_V; omega) q2
    have n3 := nk 303 (by unfold tk_V; omega) q3
    have n4 := nk 304 (by unfold tk_V; omega) q4
    have n6 := nk 306 (by unfold tk_V; omega) q6
    rw [show tk_m 300 = 200 by decide] at n0
    rw [show tk_m 301 = 201 by decide] at n1
    rw [show tk_m 302 = 202 by decide] at n2
    rw [show tk_m 303 = 203 by decide] at n3
    rw [show tk_m 304 = 204 by decide] at n4
    rw [show tk_m 306 = 206 by decide] at n6
    have pl := rd_place hR
    have hY := hD.1.1.1
    obtain ⟨hF, h9e⟩ := rx_bad1 hR.2.2.1 (k := 1) (by decide) (by decide)
    have t3 := tf_R_bad ρ 1 (ρ 83 6)
    have m0 := dl_m0 hD
    have b11 : rx_bad ρ 1 (ρ 83 6) 83 11 = ρ 83 11 := t3 _ _ (by omega)
    have er := r_take (E := E) (d := e - 1) (σ := ρ) (k := 314) hR.2.2.1 (by omega) (by decide) (by decide)
    rw [if_neg q9] at er
    have ec : js_J E d 16 49 [(2, 6 + b), (0, c)] [(0, σ 1 1)] σ = js_J E d 16 137 [(2, 6 + b), (0, c)] [] σ := by
      by_cases q5 : js_w (σ 1 1) = 205
      · exact s_16_49_205 q5
      · exact s_16_49_d (by omega)
    rw [b_16_23 hb, if_pos wc, if_neg (n14 q9), ec, b_16_137 hb, kt_16_149 (by omega) (c_fail hY.2.2.1 (by omega)), hc2, k_189_154 (by omega) er]
    obtain ⟨ρ2, e2, p2⟩ := r_189_157F (E := E) (e := e) (x1 := x1) (x2 := x2) (x3 := x3) (x4 := x4) (x5 := x5) hF (by omega) (by omega) (by omega)
    have f0 : sF_P E b σ ρ (rx_bad ρ 1 (ρ 83 6)) (th_P E σ (rx_bad ρ 1 (ρ 83 6) 83 9)) := ⟨rf_R_tf t3, hF, by omega, by omega, σ, rfl, fr_R_refl b σ, hY.2.2.2.1, hY.2.2.1⟩
    rw [h9e] at f0
    rw [e2]
    exact Or.inr ⟨ρ2, rfl, sF_pw f0 p2⟩
theorem dh_all (hb : b = 0 ∨ b = 25) (hd : 312 ≤ d) (he : 860 ≤ e) (G : Nat) : dh_P E b d e x1 x2 x3 x4 x5 G := by
  induction G with
  | zero =>
    intro σ ρ j c B Bf U fb fr hG hc hcj hD hR
    have hj := rd_j hR
    omega
  | succ G ih => exact dh_step hb hd he ih
end PG2
