/-! part 99.zzzq: fun, all of it, in step -/
/-- a declaration was read by both -/
def dy_P (E : js_E) (b : Int) (σ ρ ρ' : js_S) (j : Nat) (R : Option (Outcome × ip_W)) : Prop := ∃ (σ' : js_S) (j' : Nat) (B : Int → Int) (Bf : Int → Int → Int) (U : Int → Int) (fb fr : Int → tr_T), R = js_r0 E σ' ∧ rd_R σ' ρ' j' ∧ j < j' ∧ fr_R b σ σ' ∧ rf_R ρ ρ' ∧ dl_R E b B Bf U fb fr σ' ρ' j'
section FL
variable {E : js_E} {d e : Nat} {b : Int} {B : Int → Int} {Bf : Int → Int → Int} {U : Int → Int} {fb fr : Int → tr_T} {σ ρ : js_S} {j : Nat}
theorem y_fun (hb : b = 0 ∨ b = 25) (hD : dl_R E b B Bf U fb fr σ ρ j) (hR : rd_R σ ρ j) (h5 : ρ 83 5 = 306) (hd : 310 ≤ d) (he : 840 ≤ e) : ∃ ρ' : js_S, js_J E e 206 0 [(2, 83), (9, 0), (9, 0), (9, 0), (9, 0)] [] (rx_next ρ) = js_r0 E ρ' ∧ (dy_P E b σ ρ ρ' j (js_J E d 52 0 [(2, 6 + b), (9, 0), (9, 0), (9, 0)] [] σ) ∨ sF_P E b σ ρ ρ' (js_J E d 52 0 [(2, 6 + b), (9, 0), (9, 0), (9, 0)] [] σ)) := by
  have t123 : tk_m 123 = 123 := by decide
  have d9 := hD.2.2.1.2.2.2.2.2.2.2.2
  rcases y_fhd (E := E) (d := d) (e := e) hb hD.1.1 hD.2.2.1.2.2.1 hR h5 (by omega) (by omega) with ⟨σ1, ρ1, j1, s, n, g, y, ec, er, hR1, hj1, hI1, hd1⟩ | ⟨ρ', er, hf⟩
  · have m0 := hI1.2.1.1.1
    have n0 := hI1.2.1.1.2.1
    have hmn := hI1.2.1.1.2.2.2.2
    have hg : g = 0 ∨ g = 1 := by
      rcases hI1.2.2.2.2.2.1.1 with h | h
      · exact Or.inl h.1
      · exact Or.inr h.1
    have hm : 0 ≤ ρ 83 11 ∧ ρ 83 11 < 400 := by omega
    obtain ⟨ρ2, e2, g2, hor⟩ := y_open (E := E) (d := d - 1 - 1) (e := e - 1) (k := 123) hI1.1.1.2.2.1 hR1 (by omega) (by omega) (by unfold tk_V; omega) (by decide)
    rw [t123] at hor
    rw [ec, er, b_206_195, k_206_198 (by omega) e2, b_206_201]
    have cl0 : js_J E (d - 1) 55 0 [(2, 22 + b), (0, ρ 83 11), (2, if g = 0 then -1 else s), (9, 0)] [] σ1 = js_J E (d - 1) 55 6 [(2, 22 + b), (0, ρ 83 11), (2, if g = 0 then -1 else s), (9, 0)] [(0, 123), (2, 1)] σ1 := b_55_0 hb
    rcases hor with ⟨σ2, j2, c2, hR2, o2, hj2, _, hD2⟩ | ⟨hF2, c2⟩
    · subst hj2
      have hI2 := pb_tk hb hI1 o2 g2
      have o92 : ρ2 83 9 = 0 := hR2.2.2.1.2.2.1
      obtain ⟨ρ3, e3, v1, v2⟩ := r_fvis (E := E) (e := e) (m := ρ 83 11) (n := n) (g := g) m0 n0 hmn n.toNat ρ2 (ρ 83 11 + 1) (by omega) (Int.le_refl _) o92
      have hR3 : rd_R σ2 ρ3 (j1 + 1) := rd_R_of hR2 (fun _ _ => rfl) (fun _ _ _ _ => rfl) (fun i _ _ => v2 _ _ (by omega)) (fun i => v2 _ _ (by omega))
      obtain ⟨hux, hxn⟩ := fb_ux (j := j1 + 1) hb rfl (by omega) hD hI2 v1 v2
      have x11 : ρ3 83 11 = ρ 83 11 + 1 + n := by rw [v2 _ _ (by omega)]; exact hI2.2.1.1.2.2.2.1
      have x10 : ρ3 83 10 = 1 := by rw [v2 _ _ (by omega)]; omega
      have hs := hI2.2.2.2.1
      have hty := hI2.2.2.2.2.2.1.2
      have hc1 := hI2.2.2.2.2.2.2.2.1.1
      have z3 : ∀ a : Int, a ≠ 99 → ρ3 a (ρ 83 11) = ρ2 a (ρ 83 11) := fun a q => v2 _ _ (by omega)
      have e10 : σ2 (8 + b) 10 = 0 := by
        rw [hc1 _ _ (by omega) (by omega) (by omega) (by omega) (by omega) (by omega) (by omega) (by omega)]
        exact hD.2.2.1.2.2.2.1
      have e15 : σ2 (23 + b) 15 = 0 := by
        rw [hc1 _ _ (by omega) (by omega) (by omega) (by omega) (by omega) (by omega) (by omega) (by omega)]
        exact hD.2.2.1.2.2.2.2.2.2.2.1
      have e12 : σ2 (8 + b) 12 = 0 := by
        rw [hc1 _ _ (by omega) (by omega) (by omega) (by omega) (by omega) (by omega) (by omega) (by omega)]
        exact hD.2.2.1.2.2.2.2.2.1
      have e88 : σ2 (8 + b) 8 = σ (8 + b) 8 := hc1 _ _ (by omega) (by omega) (by omega) (by omega) (by omega) (by omega) (by omega) (by omega)
      have fu := fn_u_0 (ρ := ρ) (ρ 83 11).toNat
      have hfu := hD.2.2.2.2.2.1.1
      rw [e3]
      rcases y_fbody (E := E) (d := d - 1) (e := e) (n := n) (g := g) (x4 := ρ 83 11 + n + 1) hb hux rfl hxn hR3 x10 (by omega) e10 e15 hI2.2.2.1.2 hI2.2.2.1.1 (by rw [z3 _ (by decide)]; exact hs.2.2.1) (by rw [z3 _ (by decide)]; exact hs.2.2.2.1) (by rw [z3 _ (by decide)]; exact hs.2.2.2.2.1) (by rw [z3 87 (by decide), z3 88 (by decide), z3 89 (by decide)]; exact hty) hg (by omega) (by omega) with ⟨σ4, ρ4, j4, r, l, x4', ec4, er4, H⟩ | ⟨ρ', er4, hf⟩
      · have c55 : js_J E (d - 1) 55 0 [(2, 22 + b), (0, ρ 83 11), (2, if g = 0 then -1 else s), (9, 0)] [] σ1 = js_r0 E σ4 := by rw [cl0, k_55_6 (by omega) c2, b_55_9, ec4]
        have r4 := H.1.1
        have hj4 := rd_j r4
        have q4 := H.1.2.1
        have sf4 := H.1.2.2.2.1
        have y6 := H.2.2.1.1.2.2.1
        have y7 := H.2.2.1.1.2.2.2.1
        have tl3 := H.2.2.2.2.1.1.2.2
        have hux4 := H.2.2.2.2.2.2
        have hn6 := hxn.1
        have lnr := st_ln_0 r
        have lnl := xt_ln_0 l
        have tcn := H.2.2.2.2.1.2.1
        have hn7 := hxn.2.1
        have hz4 : cz_R σ4 b := by
          unfold cz_R
          push_cast at hn6
          omega
        obtain ⟨σ5, e5, h5e⟩ := c_add (E := E) (d := d - 1) (σ := σ4) (op := 28) (x := 0) hb hz4 (by omega)
        have O5 := h5e.2.2.2
        have n56 := h5e.1
        have s19 : σ4 (19 + b) (ρ 83 11) = s := by rw [(sf4.2.2.1 _ m0 (by omega)).1]; exact hI2.2.2.1.2
        have hds4 : js_desc E.1 σ4 s = some (0, 11, js_sym) := by
          have a := (hux4.1.1.2.2.2.2.2.1 (ρ 83 11) m0 (by have := H.1.2.2.2.2.2.2.2; omega)).1
          rw [s19] at a
          exact a
        have gs := js_sym_ge hds4
        have hds5 : js_desc E.1 σ5 s = some (0, 11, js_sym) := js_desc_mono hds4 (by rw [O5 _ _ (by omega) (by omega)]; exact Int.le_refl _) (fun _ => O5 _ _ (by omega) (by omega))
        have w6 : ∀ a i : Int, ¬ (a = s ∧ (i = 9 ∨ i = 10)) → js_up (js_up σ5 s 9 (σ5 (8 + b) 7)) s 10 (1 + σ5 (8 + b) 12) a i = σ5 a i := fun a i q => by rw [js_up_ne _ (by omega), js_up_ne _ (by omega)]
        have w69 : js_up (js_up σ5 s 9 (σ5 (8 + b) 7)) s 10 (1 + σ5 (8 + b) 12) s 9 = σ5 (8 + b) 7 := by rw [js_up_ni _ (by decide), js_up_same]
        have w610 : js_up (js_up σ5 s 9 (σ5 (8 + b) 7)) s 10 (1 + σ5 (8 + b) 12) s 10 = 1 + σ5 (8 + b) 12 := js_up_same _ _ _ _
        have e58 : σ5 (8 + b) 8 = σ (8 + b) 8 := by rw [O5 _ _ (by omega) (by omega), sf_88 hb sf4, e88]
        have hds6 : js_desc E.1 (js_up (js_up σ5 s 9 (σ5 (8 + b) 7)) s 10 (1 + σ5 (8 + b) 12)) s = some (0, 11, js_sym) := js_desc_mono hds5 (by rw [w6 _ _ (by omega)]; exact Int.le_refl _) (fun _ => w6 _ _ (by omega))
        have e68 : js_up (js_up σ5 s 9 (σ5 (8 + b) 7)) s 10 (1 + σ5 (8 + b) 12) (8 + b) 8 = σ (8 + b) 8 := by rw [w6 _ _ (by omega)]; exact e58
        have z69 : js_up (js_up σ5 s 9 (σ5 (8 + b) 7)) s 10 (1 + σ5 (8 + b) 12) (8 + b) 9 = σ5 (8 + b) 9 := w6 _ _ (by omega)
        have z611 : js_up (js_up σ5 s 9 (σ5 (8 + b) 7)) s 10 (1 + σ5 (8 + b) 12) (8 + b) 11 = σ5 (8 + b) 11 := w6 _ _ (by omega)
        rw [k_52_187 hb (by omega) c55, b_52_190 hb, k_52_200 hb (by omega) e5, b_52_203 hb hds5, er4, b_206_324, js_w_of (x := ρ 83 11) (by omega) (by omega), if_pos hm, js_iand11]
        generalize js_up (js_up σ5 s 9 (σ5 (8 + b) 7)) s 10 (1 + σ5 (8 + b) 12) = σ6 at w6 w69 w610 hds6 e68 z69 z611 ⊢
        obtain ⟨σ7, e7, c15, c8, c7⟩ := c_endUnit (E := E) (d := d - 1) (σ := σ6) hb (by omega) (by omega)
        rw [e68] at c15 c8 c7
        rw [z69, z611] at c15
        have hds7 : js_desc E.1 σ7 s = some (0, 11, js_sym) := js_desc_mono hds6 (by rw [c7 _ _ (by omega) (by omega)]; exact Int.le_refl _) (fun _ => c7 _ _ (by omega) (by omega))
        have w8 : ∀ a i : Int, ¬ (a = s ∧ i = 13) → ¬ (a = 22 + b ∧ i = 0) → js_up (js_up σ7 s 13 1) (22 + b) 0 (-1) a i = σ7 a i := fun a i q1 q2 => by rw [js_up_ne _ q2, js_up_ne _ q1]
        have w813 : js_up (js_up σ7 s 13 1) (22 + b) 0 (-1) s 13 = 1 := by rw [js_up_na _ (by omega), js_up_same]
        have w822 : js_up (js_up σ7 s 13 1) (22 + b) 0 (-1) (22 + b) 0 = -1 := js_up_same _ _ _ _
        rw [k_52_241 hb (by omega) e7, b_52_244 hds7 hb]
        generalize js_up (js_up σ7 s 13 1) (22 + b) 0 (-1) = σ8 at w8 w813 w822 ⊢
        have u : ∀ a i : Int, ¬ (a = 99 ∧ i = ρ 83 11) → ¬ (a = 96 ∧ i = ρ 83 11) → ¬ (a = 83 ∧ i = 26) → js_up (js_up (js_up ρ4 99 (ρ 83 11) 1) 96 (ρ 83 11) (1 + ρ4 83 44)) 83 26 (-1) a i = ρ4 a i := fun a i q1 q2 q3 => by rw [js_up_ne _ q3, js_up_ne _ q2, js_up_ne _ q1]
        have u99 : js_up (js_up (js_up ρ4 99 (ρ 83 11) 1) 96 (ρ 83 11) (1 + ρ4 83 44)) 83 26 (-1) 99 (ρ 83 11) = 1 := by rw [js_up_na _ (by decide), js_up_na _ (by decide), js_up_same]
        have u96 : js_up (js_up (js_up ρ4 99 (ρ 83 11) 1) 96 (ρ 83 11) (1 + ρ4 83 44)) 83 26 (-1) 96 (ρ 83 11) = 1 + ρ4 83 44 := by rw [js_up_na _ (by decide), js_up_same]
        have u26 : js_up (js_up (js_up ρ4 99 (ρ 83 11) 1) 96 (ρ 83 11) (1 + ρ4 83 44)) 83 26 (-1) 83 26 = -1 := js_up_same _ _ _ _
        refine ⟨_, rfl, Or.inl ?_⟩
        generalize js_up (js_up (js_up ρ4 99 (ρ 83 11) 1) 96 (ρ 83 11) (1 + ρ4 83 44)) 83 26 (-1) = ρ8 at u u99 u96 u26 ⊢
        have c77 : ∀ a i : Int, ¬ (a = s ∧ (i = 9 ∨ i = 10)) → ¬ (a = 8 + b ∧ 7 ≤ i ∧ i ≤ 12) → ¬ (15 + b ≤ a ∧ a ≤ 16 + b ∧ i = σ (8 + b) 8) → σ7 a i = σ5 a i := fun a i q1 q2 q3 => by rw [c7 a i q2 q3, w6 a i q1]
        have Z := fz_of hb rfl hI2 v2 H h5e c77 w8 u
        have v8 : ∀ k : Int, σ8 (8 + b) k = σ7 (8 + b) k := fun k => w8 _ _ (by omega) (by omega)
        have hR8 : rd_R σ8 ρ8 j4 := rd_R_of r4 (fun i _ => Z.1 _ _ (by omega) (by omega) (by omega) (by omega) (by omega)) (fun a i _ _ => Z.1 _ _ (by omega) (by omega) (by omega) (by omega) (by omega)) (fun i _ _ => u _ _ (by omega) (by omega) (by omega)) (fun i => u _ _ (by omega) (by omega) (by omega))
        have hdl := dl_fun (j := j) hb rfl (by omega) hD hI2 (by omega) v2 H h5e Z ⟨by rw [w8 _ _ (by omega) (by omega)]; exact c15.1, by rw [w8 _ _ (by omega) (by omega)]; exact c15.2⟩ (fun a g1 g2 => by rw [w8 _ _ (by omega) (by omega), c77 _ _ (by omega) (by omega) (by omega)]) (by rw [v8, c77 _ _ (by omega) (by omega) (by omega)]) ⟨by rw [v8]; exact c8.1, by rw [v8]; exact c8.2.1, by rw [v8]; exact c8.2.2.1, by rw [v8]; exact c8.2.2.2.1, by rw [v8]; exact c8.2.2.2.2.1, by rw [v8]; exact c8.2.2.2.2.2⟩ (by rw [w8 _ _ (by omega) (by omega), c7 _ _ (by omega) (by omega)]; exact w69) (by rw [w8 _ _ (by omega) (by omega), c7 _ _ (by omega) (by omega)]; exact w610) w813 w822 u99 u96 u26
        refine ⟨σ8, j4, _, _, _, _, _, rfl, hR8, by omega, fr_R_trans hI2.2.2.2.2.2.2.1 (fr_R_trans sf4.1 (fr_R_of hb (fun a i q1 q2 q3 q4' => ?_))), fun a i q1 q2 => ?_, hdl⟩
        · have a1 := q4' (ρ 83 11) m0 (by omega)
          rw [s19] at a1
          exact Z.1 a i (by omega) (by omega) (by omega) (by omega) (by omega)
        · rw [u a i (by omega) (by omega) (by omega), H.1.2.2.2.2.1 a i (by omega) (by omega) (by omega) (by omega) (by omega) (by omega), v2 a i (by omega)]
          exact pb_rf hI2 a i q1 q2
      · have rf3 : rf_R ρ ρ3 := rf_R_trans (pb_rf hI2) (fun a i q1 q2 => v2 a i (by omega))
        have f0 := sF_up hI2.2.2.2.2.2.2.1 rf3 hf
        obtain ⟨a1, a2, a3, a4, σz, a5, a6⟩ := f0
        have c55 : js_J E (d - 1) 55 0 [(2, 22 + b), (0, ρ 83 11), (2, if g = 0 then -1 else s), (9, 0)] [] σ1 = th_P E σz (ρ' 83 9) := by rw [cl0, k_55_6 (by omega) c2, b_55_9, a5]
        rw [er4, kt_52_187 hb (by omega) c55]
        exact ⟨ρ', rfl, Or.inr ⟨a1, a2, a3, a4, σz, rfl, a6⟩⟩
    · obtain ⟨ρ', e3, f3⟩ := r_206_206F (E := E) (e := e) (m := ρ 83 11) (n := n) (x3 := g) (x4 := ρ 83 11 + 1) hF2 (by omega) hm
      have c55 : js_J E (d - 1) 55 0 [(2, 22 + b), (0, ρ 83 11), (2, if g = 0 then -1 else s), (9, 0)] [] σ1 = th_P E σ1 (ρ2 83 9) := by rw [cl0, kt_55_6 (by omega) c2]
      have x211 : ρ2 83 11 = ρ1 83 11 := g2 _ _ (by omega)
      have x111 := hI1.2.1.1.2.2.2.1
      have f0 : sF_P E b σ ρ ρ2 (th_P E σ1 (ρ2 83 9)) := ⟨rf_R_trans (pb_rf hI1) (fun a i q1 q2 => g2 a i (by omega)), hF2, by omega, by omega, σ1, rfl, hI1.2.2.2.2.2.2.1, hI1.1.1.2.2.2.1, hI1.1.1.2.2.1⟩
      rw [e3, kt_52_187 hb (by omega) c55]
      exact ⟨ρ', rfl, Or.inr (sF_fw f0 f3)⟩
  · rw [er]
    exact ⟨ρ', rfl, Or.inr hf⟩
theorem y_dfun (hb : b = 0 ∨ b = 25) (hD : dl_R E b B Bf U fb fr σ ρ j) (hR : rd_R σ ρ j) (h5 : ρ 83 5 = 306) (hd : 310 ≤ d) (he : 850 ≤ e) : ∃ ρ' : js_S, js_J E e 197 0 [(2, 83), (9, 0), (9, 0)] [] ρ = js_r0 E ρ' ∧ (dy_P E b σ ρ ρ' j (js_J E d 52 0 [(2, 6 + b), (9, 0), (9, 0), (9, 0)] [] σ) ∨ sF_P E b σ ρ ρ' (js_J E d 52 0 [(2, 6 + b), (9, 0), (9, 0), (9, 0)] [] σ)) := by
  have hok := hR.2.2.1
  obtain ⟨ρ', er, h⟩ := y_fun (E := E) (d := d) (e := e - 1) hb hD hR h5 hd (by omega)
  refine ⟨ρ', ?_, h⟩
  rw [b_197_0, k_197_6 (by omega) (r_next' hok (by omega)), b_197_9, h5, js_w_of (x := 306) (by decide) (by decide), if_neg (by decide), if_neg (by decide), if_pos rfl, k_197_123 (by omega) er, b_197_126]
end FL
