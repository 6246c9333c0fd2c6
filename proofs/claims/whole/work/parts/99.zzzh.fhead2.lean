/-! part 99.zzzh: the head of a fun in step -/
section FD
variable {E : js_E} {d e : Nat} {b : Int} {σ ρ : js_S} {j : Nat}
/-- from ) on -/
theorem y_fret {m s n y : Int} {σ5 ρ5 : js_S} {j5 : Nat} {vx : js_v} (hb : b = 0 ∨ b = 25) (hI : pa_I E b m s n σ ρ σ5 ρ5) (hR : rd_R σ5 ρ5 j5) (h10 : 1 ≤ ρ5 83 10) (hd : 14 ≤ d) (he : 16 ≤ e) : (∃ (σ' ρ' : js_S) (j' : Nat) (g : Int), js_J E d 52 130 [(2, 6 + b), (2, s), (0, 0), (0, y)] [] σ5 = js_J E d 52 187 [(2, 6 + b), (2, s), (0, 0), (0, y)] [(2, if g = 0 then -1 else s), (0, m), (2, 22 + b)] σ' ∧ js_J E e 206 136 [(2, 83), (0, m), (0, n), vx, (9, 0)] [] ρ5 = js_J E e 206 195 [(2, 83), (0, m), (0, n), (0, g), (9, 0)] [] ρ' ∧ rd_R σ' ρ' j' ∧ j5 < j' ∧ pb_I E b m s n g σ ρ σ' ρ' ∧ ρ' 83 10 = ρ5 83 10 - 1) ∨ (∃ ρ' : js_S, js_J E e 206 136 [(2, 83), (0, m), (0, n), vx, (9, 0)] [] ρ5 = js_r0 E ρ' ∧ sF_P E b σ ρ ρ' (js_J E d 52 130 [(2, 6 + b), (2, s), (0, 0), (0, y)] [] σ5)) := by
  have t41 : tk_m 41 = 41 := by decide
  have t58 : tk_m 58 = 58 := by decide
  have m0 := hI.2.1.1.1
  have hmn := hI.2.1.1.2.2.2.2
  have n0 := hI.2.1.1.2.1
  have h11 := hI.2.1.1.2.2.2.1
  have hm : 0 ≤ m ∧ m < 400 := by omega
  obtain ⟨ρ6, e6, g6, hor⟩ := y_close (E := E) (d := d - 1) (e := e - 1) (k := 41) hI.1.1.2.2.1 hR (by omega) (by omega) (by unfold tk_V; omega) (by decide) h10
  rw [t41] at hor
  rw [b_52_130 hb, b_206_136, k_206_139 (by omega) e6]
  rcases hor with ⟨σ6, j6, c6, hR6, o6, hj6, hD6⟩ | ⟨hF6, c6⟩
  · subst hj6
    have hI6 := pa_tk hb hI o6 g6
    have hV6 := (rd_V hR6).1
    have w5 : js_w (ρ6 83 5) = ρ6 83 5 := by
      unfold tk_V at hV6
      exact js_w_of (by omega) (by omega)
    have k58 := tkq hR6 (k := 58) (by unfold tk_V; omega)
    rw [t58] at k58
    have hB := pb_none hI6
    have u : ∀ i : Int, js_up (js_up ρ6 91 m n) 87 m 2 83 i = ρ6 83 i := fun i => by rw [js_up_na _ (by decide), js_up_na _ (by decide)]
    have u84 : ∀ i : Int, js_up (js_up ρ6 91 m n) 87 m 2 84 i = ρ6 84 i := fun i => by rw [js_up_na _ (by decide), js_up_na _ (by decide)]
    have hR7 : rd_R σ6 (js_up (js_up ρ6 91 m n) 87 m 2) (j5 + 1) := rd_R_of hR6 (fun _ _ => rfl) (fun _ _ _ _ => rfl) (fun i _ _ => u i) u84
    have u10 := u 10
    rw [k_52_136 (by omega) c6, b_52_139 hb, b_206_142, js_w_of (x := m) (by omega) (by omega), if_pos hm, w5]
    generalize js_up (js_up ρ6 91 m n) 87 m 2 = ρ7 at hB hR7 u10 ⊢
    have hds := hB.2.2.1.1
    have s0 := hB.2.2.2.1.1
    have s2 := hB.2.2.2.1.2.2.1
    have r87 : ρ7 87 m = 2 := by
      rcases hB.2.2.2.2.2.1.1 with h | h
      · exact h.2
      · exact absurd h.1 (by decide)
    by_cases q : ρ6 83 5 = 58
    · have c58 := k58.mpr q
      have hok7 := hR7.2.2.1
      obtain ⟨σ8, j8, c8, hR8, f8, _, hj8⟩ := y_next (E := E) (d := d - 1) hR7
      have q7 : ρ7 83 5 ≠ 1 := by
        have a := (rd_V hR7).2.1
        have a6 := (rd_V hR6).2.1
        have k1 := tkq hR7 (k := 58) (by unfold tk_V; omega)
        rw [t58] at k1
        have := k1.mp c58
        omega
      have hj8' := hj8 q7
      subst hj8'
      clear hj8
      have t8 : ∀ a i : Int, ¬ (a = 83 ∧ 5 ≤ i ∧ i ≤ 9) → rx_next ρ7 a i = ρ7 a i := fun a i g => rx_next_o _ (by omega)
      have gs := js_sym_ge hds
      have hY8 : sy_Y E.1 σ8 (rx_next ρ7) b (m + 1) (m + 1 + n) (fun i => i = m) := sy_Y_of hB.1.1 (fun a i hh => f8 a i (by omega) (by omega)) (t8 _ _ (by omega)) (fun a i _ _ => t8 _ _ (by omega))
      have hk8 : kx_R (rx_next ρ7) (m + 1) (m + 1 + n) (fun i => i = m) := kx_R_of hB.1.2 (t8 _ _ (by omega)) (fun a i _ _ => t8 _ _ (by omega))
      have x8 : js_desc E.1 σ8 s = some (0, 11, js_sym) := js_desc_mono hds (by rw [f8 _ _ (by omega) (by omega)]; exact Int.le_refl _) (fun _ => f8 _ _ (by omega) (by omega))
      have x80 : σ8 s 0 = m := by rw [f8 _ _ (by omega) (by omega)]; exact s0
      obtain ⟨ρ9, e9, tf9, hor9⟩ := y_type (E := E) (d := d - 1) (e := e - 1) hb hY8 hR8 (by omega) (by omega) hk8 (n := m) rfl x8 x80
      rw [if_pos c58, if_pos q, k_52_155 (by omega) c8, b_52_158 hb, b_206_170, if_neg (show ¬ js_w 1 = 0 by decide), k_206_176 (by omega) (r_next' hok7 (by omega)), b_206_179, k_206_180 (by omega) e9]
      rcases hor9 with ⟨σ9, j9, c9, hR9, hY9, hj9, ty9, s29, s39, s49, hin, _⟩ | ⟨hF9, σ9, c9, ty9⟩
      · have hB9 := pb_type hb hB f8 t8 tf9 ty9 hY9 s29 s39 s49 hin
        have o99 : ρ9 83 9 = 0 := hR9.2.2.1.2.2.1
        have hR10 : rd_R σ9 (tp_S ρ9 m) j9 := rd_R_of hR9 (fun _ _ => rfl) (fun _ _ _ _ => rfl) (fun i _ _ => tp_o (by omega)) (fun i => tp_o (by omega))
        have x9 := hB9.2.2.1.1
        have z2 := hB9.2.2.2.1.2.2.1
        have z0 := hB9.2.2.2.1.1
        have zr := hB9.2.2.2.2.2.1.2
        have zn : tp_S ρ9 m 87 m ≠ 2 := by
          rcases hB9.2.2.2.2.2.1.1 with h | h
          · exact absurd h.1 (by decide)
          · exact h.2.1
        have w2 : js_w (σ9 s 2) = tp_S ρ9 m 87 m := by
          rw [z2]
          exact js_w_of (by omega) (by omega)
        rw [k_52_163 hb (by omega) c9, b_52_166 hb x9, w2, if_neg zn, z0, b_206_183, o99, if_pos (show js_w 0 = 0 from rfl), k_206_192 (by omega) (r_tp hm)]
        refine Or.inl ⟨σ9, tp_S ρ9 m, j9, 1, ?_, rfl, hR10, by omega, hB9, ?_⟩
        · rw [if_neg (show ¬ (1 : Int) = 0 by decide)]
        · rw [tp_o (by omega), tf9 _ _ (by omega), t8 _ _ (by omega), u10, hD6]
      · obtain ⟨ρ', e1, f1⟩ := r_206_183F (E := E) (e := e) (m := m) (n := n) (x3 := 1) hF9 (by omega) hm
        have h19 := hB.2.2.1.2
        have frt : fr_R b σ6 σ9 := fr_R_of hb (fun a i g1 g2 g3 g4 => by
          have a1 := g4 m (by omega) (by omega)
          rw [h19] at a1
          rw [ty9 a i (by omega) g2 (by omega) (by omega), f8 a i (by omega) g2])
        have cn9 : cx_n σ9 := by
          have a := hB.1.1.2.2.1
          unfold cx_n at a ⊢
          rw [ty9 _ _ (by omega) (by omega) (by omega) (by omega), f8 _ _ (by omega) (by omega), ty9 _ _ (by omega) (by omega) (by omega) (by omega), f8 _ _ (by omega) (by omega)]
          exact a
        have sh9 : sy_H E.1 σ9 b := fun i g1 g2 => by
          have c : ∀ a i : Int, ¬ (a = 1 ∧ (i = 1 ∨ i = 2 ∨ i = 3 ∨ i = 11)) → a ≠ 2 → ¬ (a = 21 + b ∧ 0 ≤ i ∧ i ≤ 2) → ¬ (a = s ∧ 2 ≤ i ∧ i ≤ 4) → σ9 a i = σ6 a i := fun a i g1 g2 g3 g4 => by rw [ty9 a i g1 g2 g3 g4, f8 a i (by omega) g2]
          rw [c _ _ (by omega) (by omega) (by omega) (by omega)]
          rcases hB.1.1.2.2.2.1 i g1 g2 with h | ⟨h1, h2⟩
          · exact Or.inl h
          · have ge := js_sym_ge h1
            refine Or.inr ⟨js_desc_mono h1 (by rw [c _ _ (by omega) (by omega) (by omega) (by omega)]; exact Int.le_refl _) (fun _ => c _ _ (by omega) (by omega) (by omega) (by omega)), ?_⟩
            rw [c _ _ (by omega) (by omega) (by omega) (by omega)]
            exact h2
        have x911 : ρ9 83 11 = m + 1 + n := by
          rw [tf9 _ _ (by omega), t8 _ _ (by omega)]
          exact hB.2.1.1.2.2.2.1
        have f0 : sF_P E b σ ρ ρ9 (th_P E σ9 (ρ9 83 9)) := ⟨rf_R_trans (pb_rf hB) (rf_R_trans (fun a i g1 g2 => t8 a i (by omega)) (rf_R_tf tf9)), hF9, by omega, by omega, σ9, rfl, fr_R_trans hI6.2.2.2.2.2.1 frt, sh9, cn9⟩
        rw [kt_52_163 hb (by omega) c9, e1]
        exact Or.inr ⟨ρ', rfl, sF_fw f0 f1⟩
    · have c58 : ¬ js_w (σ6 1 1) = 58 := fun h => q (k58.mp h)
      have w2 : js_w (σ6 s 2) = 2 := by
        rw [s2, r87]
        decide
      rw [if_neg c58, if_neg q, b_52_166 hb hds, w2, if_pos (show (2 : Int) = 2 from rfl), s0, b_206_170, if_pos (show js_w 0 = 0 from rfl)]
      refine Or.inl ⟨σ6, ρ7, j5 + 1, 0, ?_, rfl, hR7, by omega, hB, ?_⟩
      · rw [if_pos (show (0 : Int) = 0 from rfl)]
      · rw [u10, hD6]
  · obtain ⟨ρ', e1, f1⟩ := r_206_142F (E := E) (e := e) (m := m) (n := n) (ux3 := vx) hF6 (by omega) hm
    have x611 : ρ6 83 11 = ρ5 83 11 := g6 _ _ (by omega)
    have f0 : sF_P E b σ ρ ρ6 (th_P E σ5 (ρ6 83 9)) := ⟨rf_R_trans (pa_rf hI) (fun a i g1 g2 => g6 a i (by omega)), hF6, by omega, by omega, σ5, rfl, hI.2.2.2.2.2.1, hI.1.1.2.2.2.1, hI.1.1.2.2.1⟩
    rw [kt_52_136 (by omega) c6, e1]
    exact Or.inr ⟨ρ', rfl, sF_fw f0 f1⟩
/-- the head of a fun -/
theorem y_fhd (hb : b = 0 ∨ b = 25) (hD : dc_R E.1 σ ρ b) (h9 : σ (8 + b) 9 = 0) (hR : rd_R σ ρ j) (h5 : ρ 83 5 = 306) (hd : 16 ≤ d) (he : 16 ≤ e) : (∃ (σ' ρ' : js_S) (j' : Nat) (s n g y : Int), js_J E d 52 0 [(2, 6 + b), (9, 0), (9, 0), (9, 0)] [] σ = js_J E d 52 187 [(2, 6 + b), (2, s), (0, 0), (0, y)] [(2, if g = 0 then -1 else s), (0, ρ 83 11), (2, 22 + b)] σ' ∧ js_J E e 206 0 [(2, 83), (9, 0), (9, 0), (9, 0), (9, 0)] [] (rx_next ρ) = js_J E e 206 195 [(2, 83), (0, ρ 83 11), (0, n), (0, g), (9, 0)] [] ρ' ∧ rd_R σ' ρ' j' ∧ j < j' ∧ pb_I E b (ρ 83 11) s n g σ ρ σ' ρ' ∧ ρ' 83 10 = ρ 83 10) ∨ (∃ ρ' : js_S, js_J E e 206 0 [(2, 83), (9, 0), (9, 0), (9, 0), (9, 0)] [] (rx_next ρ) = js_r0 E ρ' ∧ sF_P E b σ ρ ρ' (js_J E d 52 0 [(2, 6 + b), (9, 0), (9, 0), (9, 0)] [] σ)) := by
  have t40 : tk_m 40 = 40 := by decide
  have t41 : tk_m 41 = 41 := by decide
  have hok := hR.2.2.1
  obtain ⟨σ1, j1, e1, hR1, f1, _, hj1⟩ := y_next (E := E) (d := d - 1) hR
  have hj1' := hj1 (by omega)
  subst hj1'
  clear hj1
  have p1 : og_R ρ (rx_next ρ) := fun a i g => rx_next_o _ (by omega)
  have o1 : of_R σ σ1 := fun a i g1 g2 => f1 a i (by omega) g2
  have t1 := tf_R_next ρ
  have hD1 : dc_R E.1 σ1 (rx_next ρ) b := ⟨sy_Y_cf hb hD.1 (cf_R_fr f1) t1, kx_R_tf hD.2.1 t1, by rw [t1 _ _ (by omega)]; exact hD.2.2⟩
  have m1 : rx_next ρ 83 11 = ρ 83 11 := t1 _ _ (by omega)
  have d1 : rx_next ρ 83 10 = ρ 83 10 := t1 _ _ (by omega)
  have fr1 : fr_R b σ σ1 := fr_R_og hb o1
  have rf1 : rf_R ρ (rx_next ρ) := rf_R_tf t1
  have h0 := hD1.1.1.1
  have h400 := hD1.1.1.2.1
  rw [b_52_0 hb, k_52_4 (by omega) e1, b_52_7 hb, b_206_0]
  generalize rx_next ρ = ρ1 at hR1 p1 t1 hD1 m1 d1 rf1 h0 h400 ⊢
  rcases y_gtell (E := E) (d := d - 1) (e := e - 1) (k := 4) (p := 0) (q := 0) (pp := -1) hb hD1.1 hR1 (by omega) (by omega) (by decide) (by decide) (Or.inl ⟨rfl, rfl⟩) h0 with ⟨τ, ρ2, s, j2, ec, er, hR2, hj2, hg⟩ | ⟨ρ2, ec, er, hF2, tf2⟩
  · rw [m1] at er hg
    have hI3 := pa_0 hb hD1 m1 o1 p1 h9 hg
    obtain ⟨hY2, fr2, dm2, xds, x19, ⟨nl, xn⟩, xne, ⟨m0, hm4⟩, m11, xr, hgr, t71⟩ := hg
    have gx := js_sym_ge xds
    have o92 : ρ2 83 9 = 0 := hR2.2.2.1.2.2.1
    have d2 : ρ2 83 10 = ρ 83 10 := by rw [hgr _ _ (by omega) (by omega) (by omega)]; exact d1
    rw [k_52_17 hb (by omega) ec, b_52_20 hb xds, xn.1, k_206_3 (by omega) er, b_206_6, o92, if_neg (show ¬ 0 < js_w 0 by decide)]
    have u : ∀ a i : Int, ¬ (a = s ∧ (i = 5 ∨ i = 6)) → ¬ (a = 22 + b ∧ i = 0) → js_up (js_up (js_up τ s 5 (τ (8 + b) 6)) s 6 0) (22 + b) 0 (ρ 83 11) a i = τ a i := fun a i h1 h2 => by rw [js_up_ne _ h2, js_up_ne _ (by omega), js_up_ne _ (by omega)]
    have w : ∀ a i : Int, ¬ (a = 83 ∧ (i = 26 ∨ i = 44)) → js_up (js_up ρ2 83 26 (ρ 83 11)) 83 44 0 a i = ρ2 a i := fun a i h => by rw [js_up_ne _ (by omega), js_up_ne _ (by omega)]
    have hR3 : rd_R (js_up (js_up (js_up τ s 5 (τ (8 + b) 6)) s 6 0) (22 + b) 0 (ρ 83 11)) (js_up (js_up ρ2 83 26 (ρ 83 11)) 83 44 0) j2 := rd_R_of hR2 (fun i _ => u _ _ (by omega) (by omega)) (fun a i _ _ => u _ _ (by omega) (by omega)) (fun i _ _ => w _ _ (by omega)) (fun i => w _ _ (by omega))
    have d3 : js_up (js_up ρ2 83 26 (ρ 83 11)) 83 44 0 83 10 = ρ 83 10 := by rw [w _ _ (by omega)]; exact d2
    generalize js_up (js_up (js_up τ s 5 (τ (8 + b) 6)) s 6 0) (22 + b) 0 (ρ 83 11) = σ3 at hI3 hR3 ⊢
    generalize js_up (js_up ρ2 83 26 (ρ 83 11)) 83 44 0 = ρ3 at hI3 hR3 d3 ⊢
    clear u w
    have D3 := hR3.2.2.2.2.1
    obtain ⟨ρ4, e4, g4, hor⟩ := y_open (E := E) (d := d - 1) (e := e - 1) (k := 40) hI3.1.1.2.2.1 hR3 (by omega) (by omega) (by unfold tk_V; omega) (by decide)
    rw [t40] at hor
    rw [k_206_30 (by omega) e4]
    rcases hor with ⟨σ4, j4, c4, hR4, o4, hj4, _, hD4⟩ | ⟨hF4, c4⟩
    · subst hj4
      have hI4 := pa_tk hb hI3 o4 g4
      have hV4 := (rd_V hR4).1
      have o94 : ρ4 83 9 = 0 := hR4.2.2.1.2.2.1
      have w5 : js_w (ρ4 83 5) = ρ4 83 5 := by
        unfold tk_V at hV4
        exact js_w_of (by omega) (by omega)
      have k41 := tkq hR4 (k := 41) (by unfold tk_V; omega)
      rw [t41] at k41
      rw [k_52_57 (by omega) c4, b_52_60 hb]
      by_cases q : ρ4 83 5 = 41
      · have c41 := k41.mpr q
        rw [if_pos c41, b_52_77, b_52_80, if_pos (show js_w 0 < 1000000 by decide), if_pos (show js_w 0 = 0 from rfl), b_206_33, o94, if_pos (show js_w 0 = 0 from rfl), w5, if_pos q]
        rcases y_fret (E := E) (d := d) (e := e) (y := 0) (vx := (9, 0)) hb hI4 hR4 (by omega) (by omega) he with ⟨σ', ρ', j', g, ec', er', hR', hj', hB', hd'⟩ | ⟨ρ', er', hf⟩
        · exact Or.inl ⟨σ', ρ', j', s, 0, g, 0, ec', er', hR', by omega, hB', by omega⟩
        · exact Or.inr ⟨ρ', er', hf⟩
      · have c41 : ¬ js_w (σ4 1 1) = 41 := fun h => q (k41.mp h)
        rw [if_neg c41, b_52_77]
        rcases y_params (E := E) (d := d) (e := e) hb (by omega) (by omega) 9 0 σ4 ρ4 (j2 + 1) (9, 0) (by decide) hI4 hR4 q with ⟨σ5, ρ5, j5, n', y, vx, ec5, er5, hR5, hj5, h55, hI5, hd5⟩ | ⟨ρ', er5, hf⟩
        · rw [ec5, er5]
          rcases y_fret (E := E) (d := d) (e := e) (y := y) (vx := vx) hb hI5 hR5 (by omega) (by omega) he with ⟨σ', ρ', j', g, ec', er', hR', hj', hB', hd'⟩ | ⟨ρ', er', hf⟩
          · exact Or.inl ⟨σ', ρ', j', s, n', g, y, ec', er', hR', by omega, hB', by omega⟩
          · exact Or.inr ⟨ρ', er', hf⟩
        · exact Or.inr ⟨ρ', er5, hf⟩
    · obtain ⟨ρ', e5, f5⟩ := r_206_33F (E := E) (e := e) (m := ρ 83 11) (n := 0) (ux3 := (9, 0)) hF4 (by omega) ⟨m0, hm4⟩
      have x411 : ρ4 83 11 = ρ3 83 11 := g4 _ _ (by omega)
      have x311 := hI3.2.1.1.2.2.2.1
      have f0 : sF_P E b σ ρ ρ4 (th_P E σ3 (ρ4 83 9)) := ⟨rf_R_trans (pa_rf hI3) (fun a i g1 g2 => g4 a i (by omega)), hF4, by omega, by omega, σ3, rfl, hI3.2.2.2.2.2.1, hI3.1.1.2.2.2.1, hI3.1.1.2.2.1⟩
      rw [kt_52_57 (by omega) c4, e5]
      exact Or.inr ⟨ρ', rfl, sF_fw f0 f5⟩
  · have x211 : ρ2 83 11 = ρ1 83 11 := tf2 _ _ (by omega)
    have f0 : sF_P E b σ ρ ρ2 (th_P E σ1 (ρ2 83 9)) := ⟨rf_R_trans rf1 (rf_R_tf tf2), hF2, by omega, by omega, σ1, rfl, fr1, hD1.1.2.2.2.1, hD1.1.2.2.1⟩
    rw [kt_52_17 hb (by omega) ec, k_206_3 (by omega) er, b_206_6, if_pos (rx_F_9 hF2)]
    exact Or.inr ⟨ρ2, rfl, f0⟩
end FD
