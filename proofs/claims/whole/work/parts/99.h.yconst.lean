/-! part 99.h: const NAME = C; in step -/
theorem rx_tf_in (ρ : js_S) (p : Int) : rx_tf ρ p = 0 ∨ rx_tf ρ p = 1 ∨ rx_tf ρ p = 2 ∨ rx_tf ρ p = 10 := by
  unfold rx_tf
  split
  · exact Or.inr (Or.inl rfl)
  · split
    · exact Or.inr (Or.inr (Or.inl rfl))
    · split
      · exact Or.inr (Or.inr (Or.inl rfl))
      · split
        · exact Or.inr (Or.inr (Or.inr rfl))
        · exact Or.inl rfl
/-- what reading leaves alone of the reference -/
def rf_R (ρ ρ' : js_S) : Prop := ∀ a i : Int, ¬ (a = 83 ∧ (5 ≤ i ∧ i ≤ 11 ∨ 26 ≤ i ∧ i ≤ 33 ∨ 42 ≤ i ∧ i ≤ 45)) → ¬ (86 ≤ a ∧ a ≤ 110) → ρ' a i = ρ a i
theorem rf_R_trans {σ σ' τ : js_S} (h : rf_R σ σ') (h2 : rf_R σ' τ) : rf_R σ τ := fun a i g g2 => (h2 a i g g2).trans (h a i g g2)
theorem rf_R_tf {ρ ρ' : js_S} (h : tf_R ρ ρ') : rf_R ρ ρ' := fun a i g _ => h a i (by omega)
theorem rf_R_told (ρ : js_S) (k : Int) : rf_R ρ (rx_next (rx_told ρ k)) := fun a i g g2 => by rw [rx_next_o _ (by omega), rx_told_o ρ k (by omega) (by omega)]
/-- nodes, and what is counted with them, stay; so does the depth -/
def gf_R (ρ ρ' : js_S) : Prop := ∀ a i : Int, (100 ≤ a ∨ (a = 83 ∧ (i = 10 ∨ i = 33 ∨ 42 ≤ i ∧ i ≤ 63))) → ρ' a i = ρ a i
/-- between two declarations -/
def dc_R (M : Int) (σ ρ : js_S) (b : Int) : Prop := sy_Y M σ ρ b 0 0 (fun _ => False) ∧ kx_R ρ 0 0 (fun _ => False) ∧ ρ 83 26 = -1
/-- what a declaration leaves alone of compiler b: m symbols were told before -/
def dn_R (b m : Int) (σ σ' : js_S) : Prop := (∀ a i : Int, 6 + b ≤ a → a ≤ 30 + b → a ≠ 19 + b → a ≠ 20 + b → a ≠ 21 + b → ¬ (a = 7 + b ∧ i = 1) → σ' a i = σ a i) ∧ ∀ i : Int, 0 ≤ i → i < m → σ' (19 + b) i = σ (19 + b) i ∧ ∀ k : Int, σ' (σ (19 + b) i) k = σ (σ (19 + b) i) k
section YC
variable {E : js_E} {d e : Nat} {σ ρ : js_S} {b : Int}
theorem y_take (hn : cx_n σ) {j : Nat} (hR : rd_R σ ρ j) (hd : 7 ≤ d) (he : 3 ≤ e) {k : Int} (hk : tk_V k) (hk1 : k ≠ 1) : ∃ ρ' : js_S, js_J E e 202 0 [(2, 83), (0, k)] [] ρ = js_r0 E ρ' ∧ (∀ a i : Int, ¬ (a = 83 ∧ 5 ≤ i ∧ i ≤ 9) → ρ' a i = ρ a i) ∧ ((∃ (σ' : js_S) (j' : Nat), js_J E d 40 0 [(2, 1), (0, tk_m k)] [] σ = js_r0 E σ' ∧ rd_R σ' ρ' j' ∧ tk_fr σ σ' ∧ j' = j + 1) ∨ (rx_F ρ' ∧ js_J E d 40 0 [(2, 1), (0, tk_m k)] [] σ = th_P E σ (ρ' 83 9))) := by
  have hok := hR.2.2.1
  have hk0 : 0 ≤ k ∧ k < 3000 := by unfold tk_V at hk; omega
  obtain ⟨xa, xb⟩ := y_expect (E := E) (d := d) hn hR hd hk
  rw [r_take hok he hk0.1 hk0.2]
  by_cases q : ρ 83 5 = k
  · obtain ⟨σ', j', e1, e2, e3, e4, e5⟩ := xa q
    exact ⟨_, by rw [if_pos q], fun a i h => rx_next_o _ (by omega), Or.inl ⟨σ', j', e1, e2, e3, e5 hk1⟩⟩
  · have hF := rx_bad1 hok (k := 1) (by decide) (by decide)
    exact ⟨_, by rw [if_neg q], fun a i h => rx_bad_o _ _ _ (by omega), Or.inr ⟨hF.1, by rw [xb q, hF.2]⟩⟩
theorem r_c43F (h : rx_F ρ) {x1 x2 : Int} : js_J E e 197 43 [(2, 83), (0, x1), (0, x2)] [] ρ = js_r0 E ρ := by
  have f1 := h.1
  have f2 := h.2.1
  rw [b_197_43, js_w_of (x := ρ 83 9) (by omega) (by omega), if_pos f1]
theorem r_c37F (h : rx_F ρ) (he : 4 ≤ e) {x1 x2 : Int} : js_J E e 197 37 [(2, 83), (0, x1), (0, x2)] [] ρ = js_r0 E ρ := by
  rw [b_197_37, k_197_40 (by omega) (r_takeF h (by omega) (by decide) (by decide)), r_c43F h]
theorem r_c33F (h : rx_F ρ) (he : 4 ≤ e) {x1 x2 : Int} : js_J E e 197 33 [(2, 83), (0, x1), (0, x2)] [] ρ = js_r0 E ρ := by
  rw [b_197_33, k_197_34 (by omega) (r_nextF h.1 h.2.1), r_c37F h he]
theorem r_c29F (h : rx_F ρ) (he : 4 ≤ e) {x1 x2 : Int} : js_J E e 197 29 [(2, 83), (0, x1), (0, x2)] [] ρ = js_r0 E (js_up ρ 83 29 (ρ 83 6)) := by
  rw [b_197_29, k_197_30 (by omega) (r_constantF h (by omega)), r_c33F (rx_F_up h (by decide) (by decide)) he]
theorem r_c22F (h : rx_F ρ) (he : 4 ≤ e) {x1 z : Int} : js_J E e 197 22 [(2, 83), (0, x1), (9, 0)] [(0, z)] ρ = js_r0 E (js_up ρ 83 29 (ρ 83 6)) := by
  rw [b_197_22, k_197_26 (by omega) (r_takeF h (by omega) (by decide) (by decide)), r_c29F h he]
/-- a declaration: both went on, or both have the same fault -/
def dt_P (E : js_E) (b : Int) (σ ρ' : js_S) (R : Option (Outcome × ip_W)) : Prop := rx_F ρ' ∧ 0 ≤ ρ' 83 11 ∧ ρ' 83 11 ≤ 400 ∧ ∃ σ' : js_S, R = th_P E σ' (ρ' 83 9) ∧ fr_R b σ σ' ∧ sy_H E.1 σ' b ∧ cx_n σ'
/-- a type that a C may have: INT, BOOL, or that of a C before -/
def ct_P (ρ : js_S) (m t : Int) : Prop := t = 0 ∨ t = 1 ∨ ∃ i : Int, 0 ≤ i ∧ i < m ∧ (ρ 86 i = 0 ∨ ρ 86 i = 9) ∧ t = ρ 87 i
/-- what type a C has -/
theorem rx_cs_t {ρ : js_S} (hok : rx_ok ρ) (hs : rs_ok ρ) (h9 : rx_cs ρ 83 9 = 0) : rx_cs ρ 83 27 = 0 ∨ rx_cs ρ 83 27 = 1 ∨ ∃ i : Int, 0 ≤ i ∧ i < ρ 83 11 ∧ ρ 99 i = 1 ∧ (ρ 86 i = 0 ∨ ρ 86 i = 9) ∧ rx_cs ρ 83 27 = ρ 87 i := by
  have hs1 : rs_ok (rx_c1 ρ) := rs_ok_of hs (rx_c1_o ρ (by omega)) (fun i => rx_c1_o ρ (by omega)) (fun i => rx_c1_o ρ (by omega)) (fun i => rx_c1_o ρ (by omega))
  by_cases q1 : rx_ck (rx_c1 ρ) (rx_cm ρ) = 0
  · have ht : rx_ct (rx_c1 ρ) = 0 ∨ rx_ct (rx_c1 ρ) = 1 ∨ ∃ i : Int, 0 ≤ i ∧ i < ρ 83 11 ∧ ρ 99 i = 1 ∧ (ρ 86 i = 0 ∨ ρ 86 i = 9) ∧ rx_ct (rx_c1 ρ) = ρ 87 i := by
      have q1' := q1
      unfold rx_ct
      unfold rx_ck at q1'
      by_cases a1 : rx_c1 ρ 83 5 = 3
      · rw [if_pos a1]
        exact Or.inl rfl
      · rw [if_neg a1] at q1' ⊢
        by_cases a2 : rx_c1 ρ 83 5 = 316 ∨ rx_c1 ρ 83 5 = 317
        · rw [if_pos a2]
          exact Or.inr (Or.inl rfl)
        · rw [if_neg (fun hh => a2 hh.2)] at q1'
          rw [if_neg a2]
          by_cases a3 : rx_c1 ρ 83 5 = 2
          · rw [if_pos a3] at q1'
            by_cases a4 : rx_sy (rx_c1 ρ) < 0
            · rw [if_pos a4] at q1'
              omega
            · rw [if_neg a4] at q1'
              by_cases a5 : rx_c1 ρ 86 (rx_sy (rx_c1 ρ)) = 0 ∨ rx_c1 ρ 86 (rx_sy (rx_c1 ρ)) = 9
              · have hin := rx_sy_in hs1
                rw [rx_c1_o ρ (by omega)] at hin
                have hv : rx_c1 ρ 99 (rx_sy (rx_c1 ρ)) = 1 := by
                  have e : rx_sy (rx_c1 ρ) = rx_fs (rx_c1 ρ) (rx_c1 ρ 83 11).toNat 0 := by
                    unfold rx_sy
                    rw [if_pos a3]
                  rw [e] at a4 ⊢
                  exact rx_fs_vis _ _ _ (by decide) (by omega)
                rw [rx_c1_o ρ (by omega)] at hv
                rw [rx_c1_o ρ (by omega)] at a5
                refine Or.inr (Or.inr ⟨rx_sy (rx_c1 ρ), by omega, by omega, hv, a5, rx_c1_o ρ (by omega)⟩)
              · rw [if_neg a5] at q1'
                omega
          · rw [if_neg a3] at q1'
            omega
    by_cases q2 : rx_cm ρ = true ∧ rx_ct (rx_c1 ρ) ≠ 0
    · have := (rx_cs_ty hok q1 q2.1 q2.2).1.1
      omega
    · have hm : rx_cm ρ = false ∨ rx_ct (rx_c1 ρ) = 0 := by
        by_cases h : rx_cm ρ = false
        · exact Or.inl h
        · refine Or.inr ?_
          by_cases h3 : rx_ct (rx_c1 ρ) = 0
          · exact h3
          · have : rx_cm ρ = true := by
              cases h5 : rx_cm ρ
              · exact absurd h5 h
              · rfl
            exact absurd ⟨this, h3⟩ q2
      rw [rx_cs_ok q1 hm, js_up_ni (i := 28) (j := 27) _ (by decide), js_up_same]
      exact ht
  · have := (rx_cs_bad hok q1).1.1
    omega
theorem y_dconst (hb : b = 0 ∨ b = 25) (hD : dc_R E.1 σ ρ b) {j : Nat} (hR : rd_R σ ρ j) (hd : 12 ≤ d) (he : 8 ≤ e) (h5 : ρ 83 5 = 300) : ∃ ρ' : js_S, js_J E e 197 0 [(2, 83), (9, 0), (9, 0)] [] ρ = js_r0 E ρ' ∧ rf_R ρ ρ' ∧ ((∃ (σ' : js_S) (j' : Nat), js_J E d 34 0 [(2, 6 + b), (9, 0)] [] σ = js_r0 E σ' ∧ rd_R σ' ρ' j' ∧ dc_R E.1 σ' ρ' b ∧ j < j' ∧ fr_R b σ σ' ∧ dn_R b (ρ 83 11) σ σ' ∧ ρ' 83 11 = ρ 83 11 + 1 ∧ (ρ' 86 (ρ 83 11) = 0 ∧ ρ' 92 (ρ 83 11) = 0 ∧ ct_P ρ (ρ 83 11) (ρ' 87 (ρ 83 11))) ∧ σ' (σ' (19 + b) (ρ 83 11)) 5 = -1 ∧ σ' (σ' (19 + b) (ρ 83 11)) 9 = 0 ∧ σ' (σ' (19 + b) (ρ 83 11)) 11 = -1 ∧ (∀ a i : Int, 86 ≤ a → a ≤ 97 → i ≠ ρ 83 11 → ρ' a i = ρ a i) ∧ gf_R ρ ρ') ∨ dt_P E b σ ρ' (js_J E d 34 0 [(2, 6 + b), (9, 0)] [] σ)) := by
  obtain ⟨hY, hk, h26⟩ := hD
  have hok := hR.2.2.1
  have w300 : js_w 300 = 300 := rfl
  obtain ⟨σ1, j1, e1, hR1, f1, hj1, hj1'⟩ := y_next (E := E) (d := d - 1) hR
  have hj1'' := hj1' (by omega)
  have t1 := tf_R_next ρ
  have hY1 := sy_Y_cf hb hY (cf_R_fr f1) t1
  have hk1 := kx_R_tf hk t1
  have m1 : rx_next ρ 83 11 = ρ 83 11 := t1 _ _ (by omega)
  have i1 : rx_next ρ 83 26 = -1 := by rw [t1 _ _ (by omega)]; exact h26
  have o1 : ∀ a i : Int, 84 ≤ a → rx_next ρ a i = ρ a i := fun a i h => t1 _ _ (by omega)
  have fr1 := fr_R_tk hb f1
  rw [b_197_0, k_197_6 (by omega) (r_next' hok (by omega)), b_197_9, h5, w300, if_pos rfl, b_34_0 hb, k_34_4 (by omega) e1, b_34_7 hb]
  generalize rx_next ρ = ρ1 at hR1 t1 hY1 hk1 m1 i1 o1 ⊢
  have hok1 := hR1.2.2.1
  have hs1 := hY1.1
  have rt := r_tell (E := E) (d := e - 1) (k := 0) (p := -1) hok1 hs1 (by omega) (by decide) (by have := hs1.1; omega)
  by_cases q1 : rx_tf ρ1 (-1) = 0
  · obtain ⟨τ, s, j2, e2, hR2, hY2, ht, hj2⟩ := y_tell (E := E) (d := d - 1) (k := 0) (pp := -1) hb hY1 hR1 (by omega) (by decide) (by decide) (Or.inl ⟨rfl, rfl⟩) (by have := hs1.1; omega) q1
    rw [if_pos q1] at rt
    rw [k_197_19 (by omega) rt, b_197_22, k_34_17 hb (by omega) e2, b_34_20 hb]
    have hm0 := hs1.1
    have hm4 : ρ1 83 11 < 400 := by
      have := hY2.1.2.1
      rw [rx_next_o _ (by omega), rx_told_11] at this
      omega
    have fr2 := fr_R_trans fr1 (fr_R_told hb hm0 hm4 ht)
    have hk2 := kx_R_told (k := 0) hk1 hm0
    have t2 := rf_R_trans (rf_R_tf t1) (rf_R_told ρ1 0)
    obtain ⟨d1, d2, d3, d4, d5, d7, d8, d9, d10, d11, d12, d13⟩ := ht
    obtain ⟨n0, n1, n2, n3, n4, n5, n6, n7, n8, n9, n10, n11, n12, n13, n14⟩ := d2
    have hge := js_sym_ge d1
    have m2 : rx_next (rx_told ρ1 0) 83 11 = ρ1 83 11 + 1 := by rw [rx_next_o _ (by omega), rx_told_11]
    have r86 : rx_next (rx_told ρ1 0) 86 (ρ1 83 11) = 0 := by rw [rx_next_o _ (by omega), rx_told_86]
    have r91 : rx_next (rx_told ρ1 0) 91 (ρ1 83 11) = 1 := by rw [rx_next_o _ (by omega), rx_told_91]
    have r92 : rx_next (rx_told ρ1 0) 92 (ρ1 83 11) = 0 := by rw [rx_next_o _ (by omega), rx_told_92]
    have r93 : rx_next (rx_told ρ1 0) 93 (ρ1 83 11) = -1 := by rw [rx_next_o _ (by omega), rx_told_93, i1]
    have r96 : rx_next (rx_told ρ1 0) 96 (ρ1 83 11) = 0 := by rw [rx_next_o _ (by omega), rx_told_96]
    have r26 : rx_next (rx_told ρ1 0) 83 26 = -1 := by rw [rx_next_o _ (by omega), rx_told_o ρ1 0 (by omega) (by omega), i1]
    have rO : ∀ a i : Int, 86 ≤ a → a ≤ 97 → i ≠ ρ1 83 11 → rx_next (rx_told ρ1 0) a i = ρ1 a i := fun a i g1 g2 g3 => by rw [rx_next_o _ (by omega), rx_told_o ρ1 0 (by omega) (by omega)]
    have gr2 : gf_R ρ (rx_next (rx_told ρ1 0)) := fun a i hh => by rw [rx_next_o _ (by omega), rx_told_o ρ1 0 (by omega) (by omega), t1 a i (by omega)]
    -- the symbols before it lie elsewhere
    have sne : ∀ i : Int, 0 ≤ i → i < ρ1 83 11 → σ1 (19 + b) i ≠ s := fun i g1 g2 hh => by
      have a := hY1.2.2.2.2.2.1 i g1 g2
      have a0 := js_sym_lt a.1 (js_sym_ge a.1)
      rcases d4 with h | ⟨h, h'⟩
      · rcases hY1.2.2.2.1 (ρ1 83 11) hm0 hm4 with h2 | h2
        · omega
        · have := a.2.1
          rw [hh, h, h2.2] at this
          omega
      · omega
    have dn2 : dn_R b (ρ1 83 11) σ1 τ := ⟨fun a i g1 g2 g3 g4 g5 g6 => d7 a i (by omega) (by omega) (by omega) (by omega) g6 (by omega) (by omega), fun i g1 g2 => by
      have a := js_sym_ge (hY1.2.2.2.2.2.1 i g1 g2).1
      exact ⟨d7 _ _ (by omega) (by omega) (by omega) (by omega) (by omega) (by omega) (by omega), fun k => d7 _ _ (sne i g1 g2) (by omega) (by omega) (by omega) (by omega) (by omega) (by omega)⟩⟩
    generalize rx_next (rx_told ρ1 0) = ρ2 at hR2 hY2 hk2 t2 m2 r86 r91 r92 r93 r96 r26 rO gr2 ⊢
    obtain ⟨ρ3, e3, o3, hor3⟩ := y_take (E := E) (d := d - 1) (e := e - 1) (k := 61) hY2.2.2.1 hR2 (by omega) (by omega) (by unfold tk_V; omega) (by decide)
    have t61 : tk_m 61 = 61 := by decide
    rw [t61] at hor3
    rw [k_197_26 (by omega) e3]
    have tf3 : tf_R ρ2 ρ3 := fun a i h => o3 a i (by omega)
    rcases hor3 with ⟨σ3, j3, e4, hR3, f3, hj3⟩ | ⟨hF3, e4⟩
    · rw [k_34_27 (by omega) e4, b_34_30 hb]
      have hY3 := sy_Y_cf hb hY2 (cf_R_fr f3) tf3
      have hk3 := kx_R_tf hk2 tf3
      have hok3 := hR3.2.2.1
      obtain ⟨c4a, c4b⟩ := y_read (E := E) (d := d - 1) (t := -1) hb hY3 hR3 (by omega) hk3 (by decide) (by decide)
      have rc := r_constant (E := E) (d := e - 1) hok3 hY3.1 hY3.2.1 (by omega) (rd_c8 hR3)
      rw [b_197_29, k_197_30 (by omega) rc]
      have tf4 := tf_R_trans tf3 (tf_R_cs ρ3)
      have hce : rx_ce ρ3 (-1) = rx_cs ρ3 83 9 := by
        unfold rx_ce
        by_cases q : rx_cs ρ3 83 9 = 0
        · rw [if_neg (show ¬ rx_cs ρ3 83 9 ≠ 0 from fun hh => hh q), if_neg (show ¬ ((-1 : Int) ≠ -1 ∧ rx_cs ρ3 83 27 ≠ -1) from fun hh => hh.1 rfl), q]
        · rw [if_pos q]
      rw [hce] at c4a c4b
      by_cases q4 : rx_cs ρ3 83 9 = 0
      · obtain ⟨σ4, j4, e5, hR4, hY4, f4, s0, s1, s2, hj4⟩ := c4a q4
        clear c4a c4b
        have v4 := rx_cs_27 hok3 hY3.1 hY3.2.1 (rd_c8 hR3) q4
        have vt : ct_P ρ (ρ1 83 11) (rx_cs ρ3 83 27) := by
          rcases rx_cs_t hok3 hY3.1 q4 with h | h | ⟨i, h1, h2, h3, h4, h5⟩
          · exact Or.inl h
          · exact Or.inr (Or.inl h)
          · have hne : i ≠ ρ1 83 11 := fun hh => by
              have := hk3.2.1 i (Or.inr hh)
              rw [sy_S_id] at this
              exact this h3
            rw [tf3 _ _ (by omega), m2] at h2
            refine Or.inr (Or.inr ⟨i, h1, by omega, ?_, ?_⟩)
            · rw [tf3 _ _ (by omega), rO 86 i (by decide) (by decide) hne, o1 86 i (by decide)] at h4
              exact h4
            · rw [h5, tf3 _ _ (by omega), rO 87 i (by decide) (by decide) hne, o1 87 i (by decide)]
        have f24 : cf_R b τ σ4 := cf_R_trans (cf_R_fr f3) f4
        have x4 := sy_x_cf hb d1 f24
        have x40 : σ4 s 0 = ρ1 83 11 := by rw [x4.2]; exact n0
        rw [k_34_36 hb (by omega) e5, b_34_39 x4.1 hb x4.1, js_up_same, s0, b_197_33, k_197_34 (by omega) (r_next' (rx_cs_rok hR3 q4) (by omega)), b_197_37]
        have tf5 := tf_R_trans tf4 (tf_R_next (rx_cs ρ3))
        have z27 : rx_next (rx_cs ρ3) 83 27 = rx_cs ρ3 83 27 := rx_next_o _ (by omega)
        have z28 : rx_next (rx_cs ρ3) 83 28 = rx_cs ρ3 83 28 := rx_next_o _ (by omega)
        rw [← z27, ← z28]
        rw [← z27, ← z28] at v4
        rw [← z27] at vt
        have hY5 := sy_Y_set (k := 8) (v := rx_next (rx_cs ρ3) 83 28) hb hY4 (Or.inr rfl) x4.1 x40 (by decide) (by decide)
        have x5 : js_desc E.1 (js_up σ4 s 8 (rx_next (rx_cs ρ3) 83 28)) s = some (0, 11, js_sym) := by rw [js_desc_up (by omega) (fun _ => by decide)]; exact x4.1
        have x50 : js_up σ4 s 8 (rx_next (rx_cs ρ3) 83 28) s 0 = ρ1 83 11 := by rw [js_up_ni _ (by decide)]; exact x40
        have hY6 := sy_Y_set3 (t := rx_next (rx_cs ρ3) 83 27) (l := rx_next (rx_cs ρ3) 83 28) (h := rx_next (rx_cs ρ3) 83 28) hb hY5 (Or.inr rfl) x5 x50
        have hR5 : rd_R (js_up σ4 s 8 (rx_next (rx_cs ρ3) 83 28)) (rx_next (rx_cs ρ3)) j4 := rd_R_of hR4 (fun i _ => js_up_na _ (by omega)) (fun a i _ _ => js_up_na _ (by omega)) (fun _ _ _ => rfl) (fun _ => rfl)
        have hR6 := rd_set3 (x := s) (t := rx_next (rx_cs ρ3) 83 27) (l := rx_next (rx_cs ρ3) 83 28) (h := rx_next (rx_cs ρ3) 83 28) hR5 hge
        rw [k_34_58 x5 (by omega) (b_43_0 x5), b_34_61 hb]
        generalize rx_next (rx_cs ρ3) = ρ5 at tf5 hY6 hR6 v4 vt ⊢
        -- the class's store: s has its type and its value
        have g0 : ∀ i : Int, (i < 2 ∨ (4 < i ∧ i ≠ 8)) → (js_up (js_up (js_up (js_up σ4 s 8 (ρ5 83 28)) s 2 (ρ5 83 27)) s 3 (ρ5 83 28)) s 4 (ρ5 83 28)) s i = τ s i := fun i hi => by rw [js_up_ni _ (by omega), js_up_ni _ (by omega), js_up_ni _ (by omega), js_up_ni _ (by omega), x4.2]
        have g2 : (js_up (js_up (js_up (js_up σ4 s 8 (ρ5 83 28)) s 2 (ρ5 83 27)) s 3 (ρ5 83 28)) s 4 (ρ5 83 28)) s 2 = ρ5 83 27 := by rw [js_up_ni _ (by decide), js_up_ni _ (by decide), js_up_same]
        have g3 : (js_up (js_up (js_up (js_up σ4 s 8 (ρ5 83 28)) s 2 (ρ5 83 27)) s 3 (ρ5 83 28)) s 4 (ρ5 83 28)) s 3 = ρ5 83 28 := by rw [js_up_ni _ (by decide), js_up_same]
        have g4 : (js_up (js_up (js_up (js_up σ4 s 8 (ρ5 83 28)) s 2 (ρ5 83 27)) s 3 (ρ5 83 28)) s 4 (ρ5 83 28)) s 4 = ρ5 83 28 := js_up_same _ _ _ _
        have g8 : (js_up (js_up (js_up (js_up σ4 s 8 (ρ5 83 28)) s 2 (ρ5 83 27)) s 3 (ρ5 83 28)) s 4 (ρ5 83 28)) s 8 = ρ5 83 28 := by rw [js_up_ni _ (by decide), js_up_ni _ (by decide), js_up_ni _ (by decide), js_up_same]
        have gO : ∀ a i : Int, a ≠ s → (js_up (js_up (js_up (js_up σ4 s 8 (ρ5 83 28)) s 2 (ρ5 83 27)) s 3 (ρ5 83 28)) s 4 (ρ5 83 28)) a i = σ4 a i := fun a i h => by rw [js_up_na _ h, js_up_na _ h, js_up_na _ h, js_up_na _ h]
        have fr6 : fr_R b τ (js_up (js_up (js_up (js_up σ4 s 8 (ρ5 83 28)) s 2 (ρ5 83 27)) s 3 (ρ5 83 28)) s 4 (ρ5 83 28)) := fr_R_of hb (fun a i h1 h2 h3 h4 => by
          have hs : a ≠ s := by
            rcases h4 (ρ1 83 11) hm0 hm4 with h | h
            · omega
            · exact fun hh => h (by rw [d3, hh])
          rw [gO a i hs]
          exact f24 a i (by omega) h2 (by omega))
        generalize js_up (js_up (js_up (js_up σ4 s 8 (ρ5 83 28)) s 2 (ρ5 83 27)) s 3 (ρ5 83 28)) s 4 (ρ5 83 28) = σ6 at hY6 hR6 g0 g2 g3 g4 g8 gO fr6 ⊢
        obtain ⟨ρ7, e7, o7, hor7⟩ := y_take (E := E) (d := d - 1) (e := e - 1) (k := 59) hY6.2.2.1 hR6 (by omega) (by omega) (by unfold tk_V; omega) (by decide)
        have t59 : tk_m 59 = 59 := by decide
        rw [t59] at hor7
        rw [k_197_40 (by omega) e7]
        have tf7 : tf_R ρ2 ρ7 := tf_R_trans tf5 (fun a i h => o7 a i (by omega))
        have u27 : ρ7 83 27 = ρ5 83 27 := o7 _ _ (by omega)
        have u28 : ρ7 83 28 = ρ5 83 28 := o7 _ _ (by omega)
        rcases hor7 with ⟨σ7, j7, e8, hR7, f7, hj7⟩ | ⟨hF7, e8⟩
        · have hY7 := sy_Y_cf hb hY6 (cf_R_fr f7) (fun a i h => o7 a i (by omega))
          have m7 : ρ7 83 11 = ρ1 83 11 + 1 := by rw [tf7 _ _ (by omega)]; exact m2
          have s7 : ∀ i : Int, σ7 s i = σ6 s i := fun i => f7 _ _ (by omega) (by omega)
          have p7 : σ7 (19 + b) (ρ1 83 11) = s := by rw [f7 _ _ (by omega) (by omega), gO _ _ (by omega), f24 _ _ (by omega) (by omega) (by omega)]; exact d3
          have x7 : js_desc E.1 σ7 s = some (0, 11, js_sym) := by
            have := (hY7.2.2.2.2.2.1 (ρ1 83 11) hm0 (by omega)).1
            rw [p7] at this
            exact this
          have h9 := hR7.2.2.1.2.2.1
          -- the reference's store at the end
          have hv7 := hY7.2.1 (ρ1 83 11) hm0 (by omega)
          have hY8 : sy_Y E.1 σ7 (js_up (js_up (js_up (js_up ρ7 87 (ρ1 83 11) (ρ5 83 27)) 88 (ρ1 83 11) (ρ5 83 28)) 89 (ρ1 83 11) (ρ5 83 28)) 94 (ρ1 83 11) (ρ5 83 28)) b 0 0 (fun i => False ∨ i = ρ1 83 11) := sy_Y_rx (n := ρ1 83 11) hY7 (Or.inr rfl) (by rw [js_up_na _ (by decide), js_up_na _ (by decide), js_up_na _ (by decide), js_up_na _ (by decide)]) (fun a i h1 h2 h3 => by rw [js_up_ne _ (by omega), js_up_ne _ (by omega), js_up_ne _ (by omega), js_up_ne _ (by omega)]) (by rw [js_up_na (b := 87) _ (by decide), js_up_na (b := 87) _ (by decide), js_up_na (b := 87) _ (by decide), js_up_same, js_up_same]; omega)
          have qO : ∀ a i : Int, (a ≠ 87 ∧ a ≠ 88 ∧ a ≠ 89 ∧ a ≠ 94) → (js_up (js_up (js_up (js_up ρ7 87 (ρ1 83 11) (ρ5 83 27)) 88 (ρ1 83 11) (ρ5 83 28)) 89 (ρ1 83 11) (ρ5 83 28)) 94 (ρ1 83 11) (ρ5 83 28)) a i = ρ7 a i := fun a i h => by rw [js_up_na _ (by omega), js_up_na _ (by omega), js_up_na _ (by omega), js_up_na _ (by omega)]
          have qN : ∀ a i : Int, i ≠ ρ1 83 11 → (js_up (js_up (js_up (js_up ρ7 87 (ρ1 83 11) (ρ5 83 27)) 88 (ρ1 83 11) (ρ5 83 28)) 89 (ρ1 83 11) (ρ5 83 28)) 94 (ρ1 83 11) (ρ5 83 28)) a i = ρ7 a i := fun a i h => by rw [js_up_ni _ h, js_up_ni _ h, js_up_ni _ h, js_up_ni _ h]
          have q87 : (js_up (js_up (js_up (js_up ρ7 87 (ρ1 83 11) (ρ5 83 27)) 88 (ρ1 83 11) (ρ5 83 28)) 89 (ρ1 83 11) (ρ5 83 28)) 94 (ρ1 83 11) (ρ5 83 28)) 87 (ρ1 83 11) = ρ5 83 27 := by rw [js_up_na _ (by decide), js_up_na _ (by decide), js_up_na _ (by decide), js_up_same]
          have q88 : (js_up (js_up (js_up (js_up ρ7 87 (ρ1 83 11) (ρ5 83 27)) 88 (ρ1 83 11) (ρ5 83 28)) 89 (ρ1 83 11) (ρ5 83 28)) 94 (ρ1 83 11) (ρ5 83 28)) 88 (ρ1 83 11) = ρ5 83 28 := by rw [js_up_na _ (by decide), js_up_na _ (by decide), js_up_same]
          have q89 : (js_up (js_up (js_up (js_up ρ7 87 (ρ1 83 11) (ρ5 83 27)) 88 (ρ1 83 11) (ρ5 83 28)) 89 (ρ1 83 11) (ρ5 83 28)) 94 (ρ1 83 11) (ρ5 83 28)) 89 (ρ1 83 11) = ρ5 83 28 := by rw [js_up_na _ (by decide), js_up_same]
          have q94 : (js_up (js_up (js_up (js_up ρ7 87 (ρ1 83 11) (ρ5 83 27)) 88 (ρ1 83 11) (ρ5 83 28)) 89 (ρ1 83 11) (ρ5 83 28)) 94 (ρ1 83 11) (ρ5 83 28)) 94 (ρ1 83 11) = ρ5 83 28 := js_up_same _ _ _ _
          rw [b_197_43, h9, if_neg (show ¬ 0 < js_w 0 by decide), js_w_of (x := ρ1 83 11) (by omega) (by omega), if_pos ⟨hm0, hm4⟩, js_iand11, u27, u28, k_34_67 (by omega) e8, b_34_70 x7]
          generalize js_up (js_up (js_up (js_up ρ7 87 (ρ1 83 11) (ρ5 83 27)) 88 (ρ1 83 11) (ρ5 83 28)) 89 (ρ1 83 11) (ρ5 83 28)) 94 (ρ1 83 11) (ρ5 83 28) = ρ8 at hY8 qO qN q87 q88 q89 q94 ⊢
          have hF8 : sy_F σ7 ρ8 b (ρ1 83 11) := by
            unfold sy_F
            rw [p7, s7, s7, s7, s7, s7, s7, s7, s7, s7, q87, q88, q89, q94, qO 86 _ (by omega), qO 91 _ (by omega), qO 92 _ (by omega), qO 93 _ (by omega), qO 96 _ (by omega), tf7 86 _ (by omega), tf7 91 _ (by omega), tf7 92 _ (by omega), tf7 93 _ (by omega), tf7 96 _ (by omega), r86, r91, r92, r93, r96, g2, g3, g4, g8, g0 1 (by omega), g0 6 (by omega), g0 7 (by omega), g0 10 (by omega), g0 12 (by omega)]
            exact ⟨n1, rfl, rfl, rfl, n6, n7, rfl, n10, n12⟩
          have m8 : ρ8 83 11 = ρ1 83 11 + 1 := by rw [qO _ _ (by omega)]; exact m7
          have hY9 := sy_Y_end (X' := fun _ => False) hb hY8 hm0 (by omega) p7 hF8 (fun i hi => hi)
          have frz : fr_R b σ (js_up σ7 s 13 1) := fr_R_trans fr2 (fr_R_trans fr6 (fr_R_trans (fr_R_tk hb f7) (fr_R_sym hb hm0 hm4 p7 hge)))
          refine ⟨js_up ρ8 99 (ρ1 83 11) 1, rfl, ?_, Or.inl ⟨js_up σ7 s 13 1, j7, rfl, ?_, ⟨hY9, ⟨Or.inl rfl, fun i hi => hi.elim, fun i h1 h2 _ h8 => ?_⟩, ?_⟩, by omega, frz, ?_, ?_, ?_, ?_, ?_, ?_, ?_, ?_⟩⟩
          · intro a i h1 h2
            rw [js_up_na _ (by omega), qO _ _ (by omega), tf7 _ _ (by omega), t2 a i h1 h2]
          · exact rd_R_of hR7 (fun i _ => js_up_na _ (by omega)) (fun a i _ _ => js_up_na _ (by omega)) (fun i _ _ => by rw [js_up_na _ (by decide), qO _ _ (by omega)]) (fun i => by rw [js_up_na _ (by decide), qO _ _ (by omega)])
          · rw [js_up_na _ (by decide), m8] at h2
            rw [js_up_na _ (by decide)] at h8
            rw [js_up_na _ (by decide), js_up_na _ (by decide), js_up_na _ (by decide)]
            by_cases qi : i = ρ1 83 11
            · rw [qi, qO _ _ (by omega), tf7 _ _ (by omega), r86] at h8
              omega
            · rw [qN _ _ qi, tf7 _ _ (by omega)] at h8
              rw [qN _ _ qi, qN _ _ qi, qN _ _ qi, tf7 87 _ (by omega), tf7 89 _ (by omega), tf7 91 _ (by omega)]
              exact hk2.2.2 i h1 (by omega) (fun hh => hh.elim id qi) h8
          · rw [js_up_na _ (by decide), qO _ _ (by omega), tf7 _ _ (by omega)]
            exact r26
          · rw [← m1]
            refine ⟨fun a i h1 h2 h3 h4 h5 h6 => ?_, fun i h1 h2 => ?_⟩
            · rw [js_up_na _ (by omega), f7 _ _ (by omega) (by omega), gO _ _ (by omega), f24 _ _ (by omega) (by omega) (by omega), dn2.1 a i h1 h2 h3 h4 h5 h6]
              exact f1 _ _ (by omega) (by omega)
            · have a := js_sym_ge (hY1.2.2.2.2.2.1 i h1 h2).1
              have z := dn2.2 i h1 h2
              have zs := sne i h1 h2
              have y19 : σ1 (19 + b) i = σ (19 + b) i := f1 _ _ (by omega) (by omega)
              refine ⟨?_, fun k => ?_⟩
              · rw [js_up_na _ (by omega), f7 _ _ (by omega) (by omega), gO _ _ (by omega), f24 _ _ (by omega) (by omega) (by omega), z.1, y19]
              · rw [← y19, js_up_na _ zs, f7 _ _ (by omega) (by omega), gO _ _ zs, f24 _ _ (by omega) (by omega) (by omega), z.2]
                exact f1 _ _ (by omega) (by omega)
          · rw [js_up_na _ (by decide), m8, m1]
          · rw [← m1, js_up_na _ (by decide), qO _ _ (by omega), tf7 _ _ (by omega), js_up_na (b := 92) _ (by decide), qO 92 _ (by omega), tf7 92 _ (by omega), js_up_na (b := 87) _ (by decide), q87]
            exact ⟨r86, r92, vt⟩
          · rw [← m1, js_up_na (b := 19 + b) _ (by omega), p7, js_up_ni _ (by decide), s7, g0 5 (by omega)]
            exact n5
          · rw [← m1, js_up_na (b := 19 + b) _ (by omega), p7, js_up_ni _ (by decide), s7, g0 9 (by omega)]
            exact n9
          · rw [← m1, js_up_na (b := 19 + b) _ (by omega), p7, js_up_ni _ (by decide), s7, g0 11 (by omega)]
            exact n11
          · intro a i h1 h2 h3
            rw [← m1] at h3
            rw [js_up_na _ (by omega), qN _ _ h3, tf7 _ _ (by omega), rO a i h1 h2 h3, o1 a i (by omega)]
          · intro a i hh
            rw [js_up_na _ (by omega), qO _ _ (by omega), tf7 _ _ (by omega), gr2 a i hh]
        · rw [r_c43F hF7, kt_34_67 (by omega) e8]
          exact ⟨ρ7, rfl, rf_R_trans t2 (rf_R_tf tf7), Or.inr ⟨hF7, by rw [tf7 _ _ (by omega), m2]; omega, by rw [tf7 _ _ (by omega), m2]; omega, σ6, rfl, fr_R_trans fr2 fr6, hY6.2.2.2.1, hY6.2.2.1⟩⟩
      · obtain ⟨σ4, e5, f4⟩ := c4b q4
        clear c4a c4b
        have hF4 : rx_F (rx_cs ρ3) := (rx_cs_9 hok3).elim (fun hh => absurd hh q4) id
        have hY4 := sy_Y_cf hb hY3 f4 (fun a i _ => rfl)
        rw [r_c33F hF4 (by omega), kt_34_36 hb (by omega) e5]
        exact ⟨_, rfl, rf_R_trans t2 (rf_R_tf tf4), Or.inr ⟨hF4, by rw [tf4 _ _ (by omega), m2]; omega, by rw [tf4 _ _ (by omega), m2]; omega, σ4, rfl, fr_R_trans fr2 (fr_R_trans (fr_R_tk hb f3) (fr_R_cf hb f4)), hY4.2.2.2.1, hY4.2.2.1⟩⟩
    · have tf3' : tf_R ρ2 (js_up ρ3 83 29 (ρ3 83 6)) := tf_R_trans tf3 (tf_R_up (by decide) (by decide))
      rw [r_c29F hF3 (by omega), kt_34_27 (by omega) e4]
      exact ⟨_, rfl, rf_R_trans t2 (rf_R_tf tf3'), Or.inr ⟨rx_F_up hF3 (by decide) (by decide), by rw [tf3' _ _ (by omega), m2]; omega, by rw [tf3' _ _ (by omega), m2]; omega, τ, by rw [js_up_ni _ (by decide)], fr2, hY2.2.2.2.1, hY2.2.2.1⟩⟩
  · have e2 := y_tell_T (E := E) (d := d - 1) (k := 0) (pp := -1) hb hY1 hR1 (by omega) (Or.inl ⟨rfl, rfl⟩) q1
    have hin := rx_tf_in ρ1 (-1)
    have hF := rx_bad1 hok1 (k := rx_tf ρ1 (-1)) (by omega) (by omega)
    have tb : tf_R ρ1 (js_up (rx_bad ρ1 (rx_tf ρ1 (-1)) (ρ1 83 6)) 83 29 ((rx_bad ρ1 (rx_tf ρ1 (-1)) (ρ1 83 6)) 83 6)) := tf_R_trans (tf_R_bad _ _ _) (tf_R_up (by decide) (by decide))
    rw [if_neg q1] at rt
    rw [k_197_19 (by omega) rt, r_c22F hF.1 (by omega), kt_34_17 hb (by omega) e2]
    refine ⟨_, rfl, rf_R_trans (rf_R_tf t1) (rf_R_tf tb), Or.inr ⟨rx_F_up hF.1 (by decide) (by decide), ?_, ?_, σ1, ?_, fr1, hY1.2.2.2.1, hY1.2.2.1⟩⟩
    · rw [tb _ _ (by omega)]
      exact hs1.1
    · rw [tb _ _ (by omega)]
      exact hs1.2.1
    · rw [js_up_ni _ (by decide), hF.2]
      rfl
end YC
