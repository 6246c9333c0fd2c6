/-! part 99.b: types in step -/
/-- it throws, the fault told is f -/
abbrev th_P (E : js_E) (σ : js_S) (f : Int) : Option (Outcome × ip_W) := js_t E (σ (-1) 0) (js_ne (js_up σ 1 6 f) 16)
theorem sy_Y_set {M : Int} {σ ρ : js_S} {b p q : Int} {X : Int → Prop} {n x k v : Int} (hb : b = 0 ∨ b = 25) (h : sy_Y M σ ρ b p q X) (hX : X n) (hx : js_desc M σ x = some (0, 11, js_sym)) (h0 : σ x 0 = n) (hk : 1 ≤ k) (hk2 : k ≤ 12) : sy_Y M (js_up σ x k v) ρ b p q X := by
  obtain ⟨y1, y2, y3, y4, y5, y6, y7⟩ := h
  have ge := js_sym_ge hx
  have o : ∀ {a i : Int}, (a < 137 ∨ i = 0 ∨ 13 ≤ i) → js_up σ x k v a i = σ a i := fun hh => js_up_ne _ (by omega)
  have o19 : ∀ i : Int, js_up σ x k v (19 + b) i = σ (19 + b) i := fun i => o (by omega)
  have dd : ∀ s : Int, js_desc M (js_up σ x k v) s = js_desc M σ s := fun s => js_desc_up (by omega) (fun _ => by omega) s
  refine ⟨y1, y2, ⟨by rw [o (by omega)]; exact y3.1, by rw [o (by omega)]; exact y3.2⟩, fun i hi hi2 => ?_, by rw [o (by omega)]; exact y5, fun i hi hi2 => ?_, fun i hi hi2 hx' => ?_⟩
  · rw [o19, dd, o (i := 0) (by omega)]
    exact y4 i hi hi2
  · obtain ⟨a1, a2, a3, a4, a5⟩ := y6 i hi hi2
    refine ⟨by rw [o19, dd]; exact a1, by rw [o19, o (i := 0) (by omega)]; exact a2, by rw [o19, o (i := 13) (by omega)]; exact a3, by rw [o19, o (i := 14) (by omega)]; exact a4, fun k hk hk2 => ?_⟩
    rw [o (a := 20 + b) (by omega)]
    exact a5 k hk hk2
  · have hne : σ (19 + b) i ≠ x := fun hh => by
      have := (y6 i hi hi2).2.1
      rw [hh, h0] at this
      exact hx' (this ▸ hX)
    have hF := y7 i hi hi2 hx'
    have o2 : ∀ jj : Int, js_up σ x k v (σ (19 + b) i) jj = σ (σ (19 + b) i) jj := fun jj => js_up_na _ hne
    unfold sy_F at hF ⊢
    rw [o19]
    simp only [o2]
    exact hF
theorem rx_bad_o (ρ : js_S) (k p : Int) {a i : Int} (h : ¬ (a = 83 ∧ (i = 5 ∨ i = 9))) : rx_bad ρ k p a i = ρ a i := by
  unfold rx_bad
  rw [js_up_ne _ (by omega)]
  split
  · exact js_up_ne _ (by omega)
  · rfl
theorem rx_cs_o (ρ : js_S) {a i : Int} (h : ¬ (a = 83 ∧ (5 ≤ i ∧ i ≤ 9 ∨ 27 ≤ i ∧ i ≤ 29))) : rx_cs ρ a i = ρ a i := by
  have h1 : rx_c1 ρ a i = ρ a i := rx_c1_o ρ (by omega)
  unfold rx_cs
  split
  · rw [rx_bad_o _ _ _ (by omega), h1]
  · split
    · rw [js_up_ne _ (by omega), js_up_ne _ (by omega), h1]
    · split
      · rw [js_up_ne _ (by omega), js_up_ne _ (by omega), h1]
      · rw [js_up_ne _ (by omega), rx_bad_o _ _ _ (by omega), js_up_ne _ (by omega), js_up_ne _ (by omega), h1]
/-- the number that stands is small -/
theorem rd_8 {σ ρ : js_S} {j : Nat} (hR : rd_R σ ρ j) : ρ 83 5 = 3 → 0 ≤ ρ 83 8 ∧ ρ 83 8 ≤ 2000000000 := by
  intro h5
  obtain ⟨r1, r2, r3, r4, r5, r6⟩ := hR
  obtain ⟨c1, c2, c3, c4, c5, c6, c7, c8, c9, c10⟩ := r2
  have hpj := tk_p_in r3.1 j
  rw [c6 h5]
  exact (rx_lex_3 (by rw [← c5]; exact h5) r3.1 hpj.1 hpj.2).2
theorem rd_c8 {σ ρ : js_S} {j : Nat} (hR : rd_R σ ρ j) : rx_c1 ρ 83 5 = 3 → 0 ≤ rx_c1 ρ 83 8 ∧ rx_c1 ρ 83 8 ≤ 2000000000 := by
  obtain ⟨σ1, j1, e1, hR1, hc1, h2, hj⟩ := y_const_1 (E := (0, 0, fun _ => 0)) (d := 1) (t := 0) (b := 0) (Or.inl rfl) hR (by omega)
  exact rd_8 hR1
theorem rd_V {σ ρ : js_S} {j : Nat} (hR : rd_R σ ρ j) : tk_V (ρ 83 5) ∧ σ 1 1 = tk_m (ρ 83 5) ∧ σ 1 2 = ρ 83 6 := by
  obtain ⟨r1, r2, r3, r4, r5, r6⟩ := hR
  obtain ⟨c1, c2, c3, c4, c5, c6, c7, c8, c9, c10⟩ := r2
  have hpj := tk_p_in r3.1 j
  exact ⟨by rw [c5]; exact rx_lex_V r3.1 hpj.1 hpj.2, c7, c8⟩
theorem sy_Y_cf {M : Int} {σ ρ σ' ρ' : js_S} {b p q : Int} {X : Int → Prop} (hb : b = 0 ∨ b = 25) (h : sy_Y M σ ρ b p q X) (h1 : cf_R b σ σ') (h2 : tf_R ρ ρ') : sy_Y M σ' ρ' b p q X := sy_Y_of h (fun a i hh => h1 a i (by omega) (by omega) (by omega)) (h2 _ _ (by omega)) (fun a i _ _ => h2 _ _ (by omega))
theorem kx_R_tf {ρ ρ' : js_S} {p q : Int} {X : Int → Prop} (h : kx_R ρ p q X) (h2 : tf_R ρ ρ') : kx_R ρ' p q X := kx_R_of h (h2 _ _ (by omega)) (fun a i _ _ => h2 _ _ (by omega))
theorem sy_x_cf {M : Int} {σ σ' : js_S} {b x : Int} (hb : b = 0 ∨ b = 25) (hx : js_desc M σ x = some (0, 11, js_sym)) (h1 : cf_R b σ σ') : js_desc M σ' x = some (0, 11, js_sym) ∧ ∀ i : Int, σ' x i = σ x i := by
  have hge := js_sym_ge hx
  exact ⟨js_desc_mono hx (by rw [h1 _ _ (by omega) (by omega) (by omega)]; exact Int.le_refl _) (fun _ => h1 _ _ (by omega) (by omega) (by omega)), fun i => h1 _ _ (by omega) (by omega) (by omega)⟩
section YX
variable {E : js_E} {d e : Nat} {σ ρ : js_S} {b : Int}
theorem y_expect (hn : cx_n σ) {j : Nat} (hR : rd_R σ ρ j) (hd : 7 ≤ d) {k : Int} (hk : tk_V k) : (ρ 83 5 = k → ∃ (σ' : js_S) (j' : Nat), js_J E d 40 0 [(2, 1), (0, tk_m k)] [] σ = js_r0 E σ' ∧ rd_R σ' (rx_next ρ) j' ∧ tk_fr σ σ' ∧ j ≤ j' ∧ (k ≠ 1 → j' = j + 1)) ∧ (ρ 83 5 ≠ k → js_J E d 40 0 [(2, 1), (0, tk_m k)] [] σ = th_P E σ (1 + 16 * ρ 83 6)) := by
  obtain ⟨hV, c7, c8⟩ := rd_V hR
  have m1 := tk_m_in hV
  have m2 := tk_m_in hk
  refine ⟨fun h => ?_, fun h => ?_⟩
  · obtain ⟨σ', j', e1, e2, e3, e4, e5⟩ := y_next (E := E) (d := d - 1) hR
    exact ⟨σ', j', c_expect (by omega) (by rw [c7, h]) e1, e2, e3, e4, fun hh => e5 (by omega)⟩
  · have := c_expectT (E := E) (d := d) hn hd (x := tk_m k) (by rw [c7]; exact fun hh => h ((tk_m_inj hV hk).mp hh)) (by omega) (by omega) (by omega) (by omega)
    rw [this, c8]
    rfl
/-- what a TYPE leaves alone of the class: x is what is told -/
def tyf_R (b x : Int) (σ σ' : js_S) : Prop := ∀ a i : Int, ¬ (a = 1 ∧ (i = 1 ∨ i = 2 ∨ i = 3 ∨ i = 11)) → a ≠ 2 → ¬ (a = 21 + b ∧ 0 ≤ i ∧ i ≤ 2) → ¬ (a = x ∧ 2 ≤ i ∧ i ≤ 4) → σ' a i = σ a i
theorem tyf_R_of {x : Int} {σ' : js_S} (h : cf_R b σ σ') : tyf_R b x σ σ' := fun a i g1 g2 g3 _ => h a i g1 g2 g3
theorem tyf_R_trans {x : Int} {σ' τ : js_S} (h : tyf_R b x σ σ') (h2 : tyf_R b x σ' τ) : tyf_R b x σ τ := fun a i g1 g2 g3 g4 => (h2 a i g1 g2 g3 g4).trans (h a i g1 g2 g3 g4)
/-- a type is not that of nothing; BOOL is 0 .. 1 -/
def ty_b (t l h : Int) : Prop := t ≠ 2 ∧ (t = 1 → l = 0 ∧ h = 1)
def ty_in (ρ : js_S) : Prop := 0 ≤ ρ 83 30 ∧ ρ 83 30 < 1000 ∧ -2000000000 ≤ ρ 83 31 ∧ ρ 83 31 ≤ ρ 83 32 ∧ ρ 83 32 ≤ 2000000000 ∧ ty_b (ρ 83 30) (ρ 83 31) (ρ 83 32)
/-- a TYPE that was told before -/
def tx_P (ρ : js_S) (X : Int → Prop) : Prop := 3 ≤ ρ 83 30 → ρ 83 30 - 3 < ρ 83 11 ∧ ρ 86 (ρ 83 30 - 3) = 8 ∧ ¬ X (ρ 83 30 - 3) ∧ ρ 83 31 = 0 ∧ ρ 83 32 = ρ 89 (ρ 83 30 - 3)
/-- a TYPE was read by both, or both have the same fault -/
def ty_P (E : js_E) (b x : Int) (σ ρ' : js_S) (p q : Int) (X : Int → Prop) (j : Nat) (R : Option (Outcome × ip_W)) : Prop := (∃ (σ' : js_S) (j' : Nat), R = js_r0 E σ' ∧ rd_R σ' ρ' j' ∧ sy_Y E.1 σ' ρ' b p q X ∧ j < j' ∧ tyf_R b x σ σ' ∧ σ' x 2 = ρ' 83 30 ∧ σ' x 3 = ρ' 83 31 ∧ σ' x 4 = ρ' 83 32 ∧ ty_in ρ' ∧ tx_P ρ' X) ∨ (rx_F ρ' ∧ ∃ σ' : js_S, R = th_P E σ' (ρ' 83 9) ∧ tyf_R b x σ σ')
theorem y_range {p q : Int} {X : Int → Prop} (hb : b = 0 ∨ b = 25) (hY : sy_Y E.1 σ ρ b p q X) {j : Nat} (hR : rd_R σ ρ j) (hd : 10 ≤ d) (he : 6 ≤ e) (hk : kx_R ρ p q X) {n x x1 x2 : Int} (hX : X n) (hx : js_desc E.1 σ x = some (0, 11, js_sym)) (h0 : σ x 0 = n) : ∃ ρ' : js_S, js_J E e 208 83 [(2, 83), (0, x1)] [] ρ = js_r0 E ρ' ∧ tf_R ρ ρ' ∧ ty_P E b x σ ρ' p q X j (js_J E d 49 89 [(2, 21 + b), (2, x), (2, x2), (9, 0), (9, 0)] [] σ) := by
  have hok := hR.2.2.1
  have hge := js_sym_ge hx
  obtain ⟨c1a, c1b⟩ := y_read (E := E) (d := d - 1) (t := 0) hb hY hR (by omega) hk (by decide) (by decide)
  have r1 := r_constantOf (E := E) (d := e - 1) (t := 0) hok hY.1 hY.2.1 (by omega) (rd_c8 hR) (by decide) (by decide)
  rw [b_208_83, k_208_85 (by omega) r1, b_49_89]
  by_cases q1 : rx_ce ρ 0 = 0
  · obtain ⟨σ1, j1, e1, hR1, hY1, f1, s0, s1, s2, hj1⟩ := c1a q1
    clear c1a c1b
    obtain ⟨g1, g2, g3⟩ := rx_co_ok (by decide) hok q1
    have v1 := rx_cs_27 hok hY.1 hY.2.1 (rd_c8 hR) g3
    have tcs := tf_R_cs ρ
    -- the reference's store behind the first C
    have ta : tf_R ρ (rx_next (js_up (rx_cs ρ) 83 31 (rx_cs ρ 83 28))) := tf_R_trans tcs (tf_R_trans (tf_R_up (by decide) (by decide)) (tf_R_next _))
    have hRa : rd_R σ1 (rx_next (js_up (rx_cs ρ) 83 31 (rx_cs ρ 83 28))) j1 := rd_next_of hR1 (fun i _ _ => js_up_ni _ (by omega)) (fun i => js_up_na _ (by decide))
    have a31 : rx_next (js_up (rx_cs ρ) 83 31 (rx_cs ρ 83 28)) 83 31 = rx_cs ρ 83 28 := by rw [rx_next_o _ (by omega), js_up_same]
    have hok0 : rx_ok (js_up (rx_cs ρ) 83 31 (rx_cs ρ 83 28)) := by
      have q0 : rx_ck (rx_c1 ρ) (rx_cm ρ) = 0 := by
        by_cases hh : rx_ck (rx_c1 ρ) (rx_cm ρ) = 0
        · exact hh
        · have := (rx_cs_bad hok hh).1.1
          omega
      have hm : rx_cm ρ = false ∨ rx_ct (rx_c1 ρ) = 0 := by
        by_cases h3 : rx_ct (rx_c1 ρ) = 0
        · exact Or.inr h3
        · cases h5 : rx_cm ρ
          · exact Or.inl rfl
          · have := (rx_cs_ty hok q0 h5 h3).1.1
            omega
      obtain ⟨σ9, j9, _, hR9, _, _, _⟩ := y_const_1 (E := E) (d := 1) (t := 0) hb hR (by omega)
      have ecs := rx_cs_ok q0 hm
      exact (rd_R_of hR9 (fun _ _ => rfl) (fun _ _ _ _ => rfl) (fun i _ _ => by rw [js_up_ni _ (by omega), ecs, js_up_ni _ (by omega), js_up_ni _ (by omega)]) (fun i => by rw [js_up_na _ (by decide), ecs, js_up_na _ (by decide), js_up_na _ (by decide)])).2.2.1
    rw [g1, b_208_88, k_208_97 (by omega) (r_next' hok0 (by omega)), b_208_100, k_208_104 (by omega) (r_take hRa.2.2.1 (by omega) (by decide) (by decide)), k_49_91 hb (by omega) e1, b_49_94 hb]
    generalize hρa : rx_next (js_up (rx_cs ρ) 83 31 (rx_cs ρ 83 28)) = ρa at ta hRa a31 ⊢
    have hYa : sy_Y E.1 σ1 ρa b p q X := sy_Y_cf hb hY f1 ta
    obtain ⟨x1a, x1b⟩ := y_expect (E := E) (d := d - 1) (k := 200) hYa.2.2.1 hRa (by omega) (by unfold tk_V; omega)
    have t128 : tk_m 200 = 128 := by decide
    rw [t128] at x1a x1b
    by_cases q2 : ρa 83 5 = 200
    · obtain ⟨σ2, j2, e2, hRb, f2, hj2, hj2'⟩ := x1a q2
      clear x1a x1b
      rw [if_pos q2, k_49_102 (by omega) e2, b_49_105]
      have tb : tf_R ρ (rx_next ρa) := tf_R_trans ta (tf_R_next _)
      have b31 : rx_next ρa 83 31 = rx_cs ρ 83 28 := by rw [rx_next_o _ (by omega), a31]
      generalize rx_next ρa = ρb at tb hRb b31 ⊢
      have c2 : cf_R b σ σ2 := cf_R_trans f1 (cf_R_fr f2)
      have hYb : sy_Y E.1 σ2 ρb b p q X := sy_Y_cf hb hY c2 tb
      have hkb : kx_R ρb p q X := kx_R_tf hk tb
      have hokb := hRb.2.2.1
      obtain ⟨c3a, c3b⟩ := y_read (E := E) (d := d - 1) (t := 0) hb hYb hRb (by omega) hkb (by decide) (by decide)
      have r3 := r_constantOf (E := E) (d := e - 1) (t := 0) hokb hYb.1 hYb.2.1 (by omega) (rd_c8 hRb) (by decide) (by decide)
      rw [b_208_107, k_208_109 (by omega) r3]
      by_cases q3 : rx_ce ρb 0 = 0
      · obtain ⟨σ3, j3, e3, hR3, hY3, f3, t0, t1, t2, hj3⟩ := c3a q3
        clear c3a c3b
        obtain ⟨h1, h2, h3⟩ := rx_co_ok (by decide) hokb q3
        have v3 := rx_cs_27 hokb hYb.1 hYb.2.1 (rd_c8 hRb) h3
        have d31 : rx_cs ρb 83 31 = rx_cs ρ 83 28 := by rw [rx_cs_o _ (by omega), b31]
        have c3 : cf_R b σ σ3 := cf_R_trans c2 f3
        rw [h1, b_208_112, h3, if_pos (show js_w 0 = 0 from rfl), d31, js_w_of (x := rx_cs ρb 83 28) (by omega) (by omega), js_w_of (x := rx_cs ρ 83 28) (by omega) (by omega), k_49_107 hb (by omega) e3, b_49_110]
        have hn3 : cx_n σ3 := hY3.2.2.1
        by_cases q4 : rx_cs ρb 83 28 < rx_cs ρ 83 28
        · have hF : rx_F (rx_bad (rx_cs ρb) 4 (rx_cs ρb 83 29)) ∧ rx_bad (rx_cs ρb) 4 (rx_cs ρb 83 29) 83 9 = 4 + 16 * rx_cs ρb 83 29 := by
            have i1 := hokb.2.2.2.1
            have i2 := hokb.2.2.2.2.1
            have i3 := hokb.2.2.2.2.2.1
            have i4 := hokb.1.2.1
            exact rx_bad_ok h3 (by decide) (by decide) (by rw [rx_cs_29]; omega) (by rw [rx_cs_29]; omega)
          obtain ⟨ρ', e5, f5⟩ := r_type_139F (E := E) (d := e) (x1 := x1) hF.1 (by omega)
          rw [if_pos q4, k_208_136 (by omega) (r_bad (by omega) (by omega)), e5]
          refine ⟨ρ', rfl, tf_R_trans tb (tf_R_trans (tf_R_cs _) (tf_R_trans (tf_R_bad _ _ _) f5.1)), Or.inr ⟨f5.2.1, σ3, ?_, tyf_R_of c3⟩⟩
          have e6 : js_J E (d - 1) 50 0 [(2, 21 + b), (0, rx_cs ρ 83 28)] [] σ3 = th_P E σ3 (ρ' 83 9) := by
            rw [b_50_0 hb, t1, t2, js_w_of (x := rx_cs ρb 83 28) (by omega) (by omega), js_w_of (x := rx_cs ρ 83 28) (by omega) (by omega), if_pos q4, kt_50_17 (by omega) (c_fail hn3 (by omega)), f5.2.2, hF.2, rx_cs_29]
            rfl
          rw [kt_49_114 hb (by omega) e6]
        · have e6 : js_J E (d - 1) 50 0 [(2, 21 + b), (0, rx_cs ρ 83 28)] [] σ3 = js_r0 E σ3 := by
            rw [b_50_0 hb, t1, js_w_of (x := rx_cs ρb 83 28) (by omega) (by omega), js_w_of (x := rx_cs ρ 83 28) (by omega) (by omega), if_neg q4, b_50_20]
          have hx3 : js_desc E.1 σ3 x = some (0, 11, js_sym) := (sy_x_cf hb hx c3).1
          have h03 : σ3 x 0 = n := by rw [(sy_x_cf hb hx c3).2]; exact h0
          have q0 : rx_ck (rx_c1 ρb) (rx_cm ρb) = 0 := by
            by_cases hh : rx_ck (rx_c1 ρb) (rx_cm ρb) = 0
            · exact hh
            · have := (rx_cs_bad hokb hh).1.1
              omega
          have hm : rx_cm ρb = false ∨ rx_ct (rx_c1 ρb) = 0 := by
            by_cases h3' : rx_ct (rx_c1 ρb) = 0
            · exact Or.inr h3'
            · cases h5 : rx_cm ρb
              · exact Or.inl rfl
              · have := (rx_cs_ty hokb q0 h5 h3').1.1
                omega
          obtain ⟨σ9, j9, _, hR9, _, _, _⟩ := y_const_1 (E := E) (d := 1) (t := 0) hb hRb (by omega)
          have ecs := rx_cs_ok q0 hm
          have hok9 : rx_ok (js_up (js_up (rx_cs ρb) 83 32 (rx_cs ρb 83 28)) 83 30 0) := (rd_R_of hR9 (fun _ _ => rfl) (fun _ _ _ _ => rfl) (fun i _ _ => by rw [js_up_ni _ (by omega), js_up_ni _ (by omega), ecs, js_up_ni _ (by omega), js_up_ni _ (by omega)]) (fun i => by rw [js_up_na _ (by decide), js_up_na _ (by decide), ecs, js_up_na _ (by decide), js_up_na _ (by decide)])).2.2.1
          have tz : tf_R ρ (rx_next (js_up (js_up (rx_cs ρb) 83 32 (rx_cs ρb 83 28)) 83 30 0)) := tf_R_trans tb (tf_R_trans (tf_R_cs _) (tf_R_trans (tf_R_trans (tf_R_up (by decide) (by decide)) (tf_R_up (by decide) (by decide))) (tf_R_next _)))
          have hRz : rd_R σ3 (rx_next (js_up (js_up (rx_cs ρb) 83 32 (rx_cs ρb 83 28)) 83 30 0)) j3 := rd_next_of hR3 (fun i _ _ => by rw [js_up_ni _ (by omega), js_up_ni _ (by omega)]) (fun i => by rw [js_up_na _ (by decide), js_up_na _ (by decide)])
          have z30 : rx_next (js_up (js_up (rx_cs ρb) 83 32 (rx_cs ρb 83 28)) 83 30 0) 83 30 = 0 := by rw [rx_next_o _ (by omega), js_up_same]
          have z31 : rx_next (js_up (js_up (rx_cs ρb) 83 32 (rx_cs ρb 83 28)) 83 30 0) 83 31 = rx_cs ρ 83 28 := by rw [rx_next_o _ (by omega), js_up_ni _ (by decide), js_up_ni _ (by decide), d31]
          have z32 : rx_next (js_up (js_up (rx_cs ρb) 83 32 (rx_cs ρb 83 28)) 83 30 0) 83 32 = rx_cs ρb 83 28 := by rw [rx_next_o _ (by omega), js_up_ni _ (by decide), js_up_same]
          rw [if_neg q4, b_208_139, k_208_153 (by omega) (r_next' hok9 (by omega)), b_208_156]
          generalize rx_next (js_up (js_up (rx_cs ρb) 83 32 (rx_cs ρb 83 28)) 83 30 0) = ρz at tz hRz z30 z31 z32 ⊢
          have hYz : sy_Y E.1 σ3 ρz b p q X := sy_Y_cf hb hY c3 tz
          refine ⟨ρz, rfl, tz, Or.inl ⟨js_up (js_up (js_up σ3 x 2 0) x 3 (rx_cs ρ 83 28)) x 4 (rx_cs ρb 83 28), j3, ?_, ?_, ?_, by omega, ?_, ?_, ?_, ?_, ?_⟩⟩
          · rw [k_49_114 hb (by omega) e6, b_49_117, k_49_122 hx3 (by omega) (b_43_0 hx3), b_49_125]
          · exact rd_R_of hRz (fun i _ => by rw [js_up_na _ (by omega), js_up_na _ (by omega), js_up_na _ (by omega)]) (fun a i _ _ => by rw [js_up_na _ (by omega), js_up_na _ (by omega), js_up_na _ (by omega)]) (fun _ _ _ => rfl) (fun _ => rfl)
          · have y1 := sy_Y_set (k := 2) (v := 0) hb hYz hX hx3 h03 (by decide) (by decide)
            have hx4 : js_desc E.1 (js_up σ3 x 2 0) x = some (0, 11, js_sym) := by rw [js_desc_up (by omega) (fun _ => by decide)]; exact hx3
            have y2 := sy_Y_set (k := 3) (v := rx_cs ρ 83 28) hb y1 hX hx4 (by rw [js_up_ni _ (by decide)]; exact h03) (by decide) (by decide)
            have hx5 : js_desc E.1 (js_up (js_up σ3 x 2 0) x 3 (rx_cs ρ 83 28)) x = some (0, 11, js_sym) := by rw [js_desc_up (by omega) (fun _ => by decide)]; exact hx4
            exact sy_Y_set (k := 4) (v := rx_cs ρb 83 28) hb y2 hX hx5 (by rw [js_up_ni _ (by decide), js_up_ni _ (by decide)]; exact h03) (by decide) (by decide)
          · exact tyf_R_trans (tyf_R_of c3) (fun a i g1 g2 g3 g4 => by rw [js_up_ne _ (by omega), js_up_ne _ (by omega), js_up_ne _ (by omega)])
          · rw [js_up_ni _ (by decide), js_up_ni _ (by decide), js_up_same, z30]
          · rw [js_up_ni _ (by decide), js_up_same, z31]
          · rw [js_up_same, z32]
          · refine ⟨?_, fun hh => ?_⟩
            · unfold ty_in ty_b
              rw [z30, z31, z32]
              omega
            · rw [z30] at hh
              omega
      · obtain ⟨σ3, e3, f3⟩ := c3b q3
        have hF := rx_co_bad hokb q3 (by decide)
        obtain ⟨ρ', e5, f5⟩ := r_type_112F (E := E) (d := e) (x1 := x1) hF.1 (by omega)
        rw [e5, kt_49_107 hb (by omega) e3]
        exact ⟨ρ', rfl, tf_R_trans tb (tf_R_trans (tf_R_co _ _) f5.1), Or.inr ⟨f5.2.1, σ3, by rw [f5.2.2, hF.2], tyf_R_of (cf_R_trans c2 f3)⟩⟩
    · have hF : rx_F (rx_bad ρa 1 (ρa 83 6)) ∧ rx_bad ρa 1 (ρa 83 6) 83 9 = 1 + 16 * ρa 83 6 := by
        have hoka := hRa.2.2.1
        have i1 := hoka.2.2.2.1
        have i2 := hoka.2.2.2.2.1
        have i3 := hoka.2.2.2.2.2.1
        have i4 := hoka.1.2.1
        exact rx_bad_ok hoka.2.2.1 (by decide) (by decide) i1 (by omega)
      obtain ⟨ρ', e5, f5⟩ := r_type_107F (E := E) (d := e) (x1 := x1) hF.1 (by omega)
      rw [if_neg q2, e5, kt_49_102 (by omega) (x1b q2)]
      exact ⟨ρ', rfl, tf_R_trans ta (tf_R_trans (tf_R_bad _ _ _) f5.1), Or.inr ⟨f5.2.1, σ1, by rw [f5.2.2, hF.2], tyf_R_of f1⟩⟩
  · obtain ⟨σ1, e1, f1⟩ := c1b q1
    have hF := rx_co_bad hok q1 (by decide)
    obtain ⟨ρ', e5, f5⟩ := r_type_88F (E := E) (d := e) (x1 := x1) hF.1 (by omega)
    rw [e5, kt_49_91 hb (by omega) e1]
    exact ⟨ρ', rfl, tf_R_trans (tf_R_co _ _) f5.1, Or.inr ⟨f5.2.1, σ1, by rw [f5.2.2, hF.2], tyf_R_of f1⟩⟩
end YX
