/-! part 99.zzzb: every statement in step -/
section ST1
variable {E : js_E} {b F : Int} {B U : Int → Int} {X : Int → Prop} {σ ρ : js_S} {j : Nat}
theorem sq_up {Rc Rr Rc' Rr' : Option (Outcome × ip_W)} (hC : ∀ σ' : js_S, Rc = js_r0 E σ' → Rc' = js_r0 E σ') (hT : ∀ (σ' : js_S) (v : Int), Rc = th_P E σ' v → Rc' = th_P E σ' v) (hQ : ∀ (n : Int) (ρ' : js_S), Rr = js_r E (0, n) ρ' → Rr' = js_r E (0, n) ρ') (h : sq_P E b F B U X σ ρ j Rc Rr) : sq_P E b F B U X σ ρ j Rc' Rr' := by
  rcases h with ⟨σ', ρ', j', n, s, e1, e2, h1⟩ | ⟨ρ', v, e1, a1, a2, a3, a4, σ', a5, a6⟩
  · exact Or.inl ⟨σ', ρ', j', n, s, hQ n ρ' e1, hC σ' e2, h1⟩
  · exact Or.inr ⟨ρ', v, hQ v ρ' e1, a1, a2, a3, a4, σ', hT σ' _ a5, a6⟩
theorem y_stmt1 {J0 : Nat} (hb : b = 0 ∨ b = 25) (hS : sa_P E b F B U X (J0 + 1)) : sa_P E b F B U X J0 := by
  intro d e σ ρ j hJ hx hn hR hD ht hp hd he
  have D1 := hR.2.2.2.2.2
  obtain ⟨hV, hc1, hc2⟩ := rd_V hR
  have w0 : js_w (ρ 83 5) = ρ 83 5 := by
    unfold tk_V at hV
    exact js_w_of (by omega) (by omega)
  have pl := rd_place hR
  by_cases q1 : ρ 83 5 = 2
  · exact sq_so hb hx (y_plain hb (y_e hb _) hx.1 hn hR q1 hD ht hp (by omega) (by omega))
  by_cases q2 : ρ 83 5 = 312
  · exact sq_so hb hx (y_assert hb (y_e hb _) hx.1 hn hR q2 (by omega) hp (by omega) (by omega))
  by_cases q3 : ρ 83 5 = 305
  · have c : js_w (σ 1 1) = 205 := by rw [hc1, q3]; decide
    rw [b_56_0 hb, s_56_7_205 c, b_56_64, b_213_0, s_213_4_305 (by rw [w0]; exact q3), b_213_64]
    refine sq_up (fun σ' h => ?_) (fun σ' v h => ?_) (fun n ρ' h => ?_) (y_var (E := E) (d := d - 1) (e := e - 1) hb hx hn hR q3 (by omega) hp (by omega) (by omega))
    · rw [k_56_65 hb (by omega) h, b_56_68, b_56_199]
    · exact kt_56_65 hb (by omega) h
    · rw [k_213_65 (by omega) h, b_213_68]
  by_cases q4 : ρ 83 5 = 307
  · have c : js_w (σ 1 1) = 207 := by rw [hc1, q4]; decide
    rw [b_56_0 hb, s_56_7_207 c, b_56_112, b_213_0, s_213_4_307 (by rw [w0]; exact q4), b_213_102]
    refine sq_up (fun σ' h => ?_) (fun σ' v h => ?_) (fun n ρ' h => ?_) (y_if (E := E) (d := d - 1) (e := e - 1) hb hS (by omega) hx hn hR q4 (by omega) hp (by omega) (by omega))
    · rw [k_56_113 hb (by omega) h, b_56_116, b_56_199]
    · exact kt_56_113 hb (by omega) h
    · rw [k_213_103 (by omega) h, b_213_106]
  by_cases q5 : ρ 83 5 = 309
  · have c : js_w (σ 1 1) = 209 := by rw [hc1, q5]; decide
    rw [b_56_0 hb, s_56_7_209 c, b_56_105, b_213_0, s_213_4_309 (by rw [w0]; exact q5), b_213_97]
    refine sq_up (fun σ' h => ?_) (fun σ' v h => ?_) (fun n ρ' h => ?_) (y_case (E := E) (d := d - 1) (e := e - 1) hb hS (by omega) hx hn hR q5 (by omega) hp (by omega) (by omega))
    · rw [k_56_106 hb (by omega) h, b_56_109, b_56_199]
    · exact kt_56_106 hb (by omega) h
    · rw [k_213_98 (by omega) h, b_213_101]
  by_cases q6 : ρ 83 5 = 310
  · have c : js_w (σ 1 1) = 210 := by rw [hc1, q6]; decide
    rw [b_56_0 hb, s_56_7_210 c, b_56_119, b_213_0, s_213_4_310 (by rw [w0]; exact q6), b_213_107]
    refine sq_up (fun σ' h => ?_) (fun σ' v h => ?_) (fun n ρ' h => ?_) (y_forst (E := E) (d := d - 1) (e := e - 1) hb hS (by omega) hx hn hR q6 hD (by omega) hp (by omega) (by omega))
    · rw [k_56_120 hb (by omega) h, b_56_123, b_56_199]
    · exact kt_56_120 hb (by omega) h
    · rw [k_213_108 (by omega) h, b_213_111]
  have nk : ∀ k : Int, tk_V k → ρ 83 5 ≠ k → js_w (σ 1 1) ≠ tk_m k := fun k h1 h2 h3 => h2 ((tkq hR h1).mp h3)
  have n1 := nk 2 (by unfold tk_V; omega) q1
  have n2 := nk 312 (by unfold tk_V; omega) q2
  have n3 := nk 305 (by unfold tk_V; omega) q3
  have n4 := nk 307 (by unfold tk_V; omega) q4
  have n5 := nk 309 (by unfold tk_V; omega) q5
  have n6 := nk 310 (by unfold tk_V; omega) q6
  rw [show tk_m 2 = 2 by decide] at n1
  rw [show tk_m 312 = 212 by decide] at n2
  rw [show tk_m 305 = 205 by decide] at n3
  rw [show tk_m 307 = 207 by decide] at n4
  rw [show tk_m 309 = 209 by decide] at n5
  rw [show tk_m 310 = 210 by decide] at n6
  obtain ⟨hF, h9e⟩ := rx_bad1 hR.2.2.1 (k := 1) (by decide) (by decide)
  have o9 : ρ 83 9 = 0 := hR.2.2.1.2.2.1
  have t3 := tf_R_bad ρ 1 (ρ 83 6)
  have b11 : rx_bad ρ 1 (ρ 83 6) 83 11 = ρ 83 11 := t3 _ _ (by omega)
  have hs1 := hx.1.1.1.1
  have hs2 := hx.1.1.1.2.1
  rw [b_56_0 hb, s_56_7_d ⟨n1, n3, n4, n5, n6, n2⟩, b_56_184 hb, kt_56_196 (by omega) (c_fail hx.1.1.2.2.1 (by omega)), b_213_0, s_213_4_d (by rw [w0]; exact ⟨q1, q3, q4, q5, q6, q2⟩), b_213_117, k_213_123 (by omega) (r_bad (by omega) (by omega)), b_213_126, hc2]
  have f0 : sF_P E b σ ρ (rx_bad ρ 1 (ρ 83 6)) (th_P E σ (rx_bad ρ 1 (ρ 83 6) 83 9)) := ⟨rf_R_tf t3, hF, by omega, by omega, σ, rfl, fr_R_refl b σ, hx.1.1.2.2.2.1, hx.1.1.2.2.1⟩
  rw [h9e] at f0
  exact Or.inr ⟨_, _, rfl, f0⟩
/-- every statement in step -/
theorem y_stmt (hb : b = 0 ∨ b = 25) (J0 : Nat) : sa_P E b F B U X J0 := by
  have key : ∀ G J0 : Nat, 8200 ≤ G + J0 → sa_P E b F B U X J0 := by
    intro G
    induction G with
    | zero =>
      intro J0 hG d e σ ρ j hJ hx hn hR
      have := rd_j hR
      omega
    | succ G ih =>
      intro J0 hG
      exact y_stmt1 hb (ih (J0 + 1) (by omega))
  exact key 8200 J0 (by omega)
end ST1
