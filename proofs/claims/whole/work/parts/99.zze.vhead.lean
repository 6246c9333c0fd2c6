/-! part 99.zze: var up to = in step -/
/-- the head of a variable is read: m is its number, s the class's symbol -/
def vh_R (E : js_E) (b F m s : Int) (B : Int → Int) (X : Int → Prop) (σ ρ : js_S) (j : Nat) (σ5 ρ5 : js_S) (j5 : Nat) : Prop := xs_R E b F B (fun i => X i ∨ i = m) σ5 ρ5 ∧ (rd_R σ5 ρ5 j5 ∧ j < j5) ∧ sf_R b (σ (8 + b) 6) (σ (8 + b) 10) (σ (23 + b) 15) m σ σ5 ∧ (∀ a i : Int, ¬ (a = 83 ∧ (5 ≤ i ∧ i ≤ 11 ∨ 27 ≤ i ∧ i ≤ 32)) → ¬ (86 ≤ a ∧ a ≤ 99 ∧ a ≠ 98 ∧ i = m) → ¬ (a = 98 ∧ 20 * m ≤ i) → ρ5 a i = ρ a i) ∧ (ρ5 83 11 = m + 1 ∧ ρ5 83 10 = ρ 83 10) ∧ ((∀ i : Int, i ≠ 9 → σ5 (8 + b) i = σ (8 + b) i) ∧ σ5 (8 + b) 9 = σ (8 + b) 9 + ρ5 91 m ∧ (∀ i : Int, σ5 (23 + b) i = σ (23 + b) i) ∧ σ5 (7 + b) 1 = m + 1) ∧ (js_desc E.1 σ5 s = some (0, 11, js_sym) ∧ σ5 (19 + b) m = s) ∧ (σ5 s 0 = m ∧ σ5 s 1 = 6 ∧ σ5 s 2 = ρ5 83 30 ∧ σ5 s 3 = ρ5 83 31 ∧ σ5 s 4 = ρ5 83 32 ∧ σ5 s 5 = σ (8 + b) 9 ∧ σ5 s 6 = ρ5 91 m ∧ σ5 s 7 = σ (22 + b) 0 ∧ σ5 s 8 = 0 ∧ σ5 s 9 = 0 ∧ σ5 s 10 = 0 ∧ σ5 s 11 = σ (8 + b) 8 ∧ σ5 s 12 = ρ5 92 m) ∧ (ρ5 86 m = 6 ∧ ρ5 93 m = F ∧ ρ5 94 m = 0 ∧ ρ5 96 m = 0 ∧ 1 ≤ ρ5 91 m ∧ ρ5 91 m ≤ 4096 ∧ (ρ5 92 m = 0 ∨ ρ5 92 m = 1) ∧ (ρ5 92 m = 0 → ρ5 91 m = 1)) ∧ ty_in ρ5 ∧ tx_P ρ5 (fun i => X i ∨ i = m)
/-- a fault while a name's symbol is told -/
theorem vt_of {E : js_E} {b F m k s : Int} {B : Int → Int} {X : Int → Prop} {σ σ1 ρ1 τ ρ2 σ' ρ ρ' : js_S} {R : Option (Outcome × ip_W)} (hb : b = 0 ∨ b = 25) (ht : vd_R E b F m k s B X σ1 ρ1 τ ρ2) (fr0 : fr_R b σ σ1) (rf0 : rf_R ρ ρ1) (hp : vp_R b s τ σ') (hrf : rf_R ρ2 ρ') (h11 : ρ' 83 11 = m + 1) (hF : rx_F ρ') (hRR : R = th_P E σ' (ρ' 83 9)) : sF_P E b σ ρ ρ' R := by
  obtain ⟨a1, a2, a3, a4, a5, a6, a7, a8, a9, a10, a11, a12⟩ := ht
  have hge := js_sym_ge a4
  have hh := H_vp hb a1.1.2.2.2.1 a1.1.2.2.1 hp hge
  have r12 : rf_R ρ1 ρ2 := fun a i g1 g2 => a11 a i (by omega) (by omega) (by omega)
  exact ⟨rf_R_trans rf0 (rf_R_trans r12 hrf), hF, by omega, by omega, σ', hRR, fr_R_trans fr0 (fr_R_trans a2 (fr_R_vp hb a8.1 a8.2 a5 hge hp)), hh.1, hh.2⟩
section SB
variable {E : js_E} {d e : Nat} {b F : Int} {B U : Int → Int} {X : Int → Prop} {σ ρ : js_S} {j : Nat}
theorem r_214_27F (h : rx_F ρ) (he : 4 ≤ e) {x1 : Int} : js_J E e 214 27 [(2, 83), (0, x1), (9, 0)] [] ρ = js_r E (0, -1) ρ := by
  rw [b_214_27, k_214_30 (by omega) (r_takeF h (by omega) (by decide) (by decide)), b_214_33, if_pos (rx_F_9 h)]
theorem r_214_23F (h : rx_F ρ) (he : 6 ≤ e) {x1 : Int} : ∃ ρ' : js_S, js_J E e 214 23 [(2, 83), (0, x1), (9, 0)] [] ρ = js_r E (0, -1) ρ' ∧ fm_R ρ ρ' := by
  obtain ⟨ρ1, e1, f1⟩ := r_typeF (E := E) (d := e - 1) h (by omega)
  refine ⟨ρ1, ?_, f1⟩
  rw [b_214_23, k_214_24 (by omega) e1, r_214_27F f1.2.1 (by omega)]
theorem r_214_17F (h : rx_F ρ) (he : 6 ≤ e) {x1 : Int} : ∃ ρ' : js_S, js_J E e 214 17 [(2, 83), (0, x1), (9, 0)] [] ρ = js_r E (0, -1) ρ' ∧ fm_R ρ ρ' := by
  obtain ⟨ρ1, e1, f1⟩ := r_214_23F (E := E) (e := e) (x1 := x1) h he
  refine ⟨ρ1, ?_, f1⟩
  rw [b_214_17, k_214_20 (by omega) (r_takeF h (by omega) (by decide) (by decide)), e1]
/-- var NAME, length, type, = -/
theorem y_vhead (hb : b = 0 ∨ b = 25) (hx : ux_R E b F B U X σ ρ) (hR : rd_R σ ρ j) (h5 : ρ 83 5 = 305) (hd : 12 ≤ d) (he : 8 ≤ e) : (∃ (σ' ρ' : js_S) (j' : Nat) (s : Int), js_J E d 57 0 [(2, 22 + b), (9, 0), (9, 0)] [] σ = js_J E d 57 61 [(2, 22 + b), (2, s), (9, 0)] [] σ' ∧ js_J E e 214 0 [(2, 83), (9, 0), (9, 0)] [] ρ = js_J E e 214 44 [(2, 83), (0, ρ 83 11), (9, 0)] [(0, ρ 83 11), (2, 83)] ρ' ∧ vh_R E b F (ρ 83 11) s B X σ ρ j σ' ρ' j') ∨ (∃ ρ' : js_S, js_J E e 214 0 [(2, 83), (9, 0), (9, 0)] [] ρ = js_r E (0, -1) ρ' ∧ sF_P E b σ ρ ρ' (js_J E d 57 0 [(2, 22 + b), (9, 0), (9, 0)] [] σ)) := by
  have hok := hR.2.2.1
  have hpl := hx.2.1
  obtain ⟨σ1, j1, e1, hR1, f1, hj1, hj1'⟩ := y_next (E := E) (d := d - 1) hR
  have hj1'' := hj1' (by omega)
  subst hj1''
  clear hj1'
  have p1 : og_R ρ (rx_next ρ) := fun a i g => rx_next_o _ (by omega)
  have F01 : ∀ n t p : Int, ef_R b n t p σ σ1 := fun n t p => ef_R_tk f1
  have hx1 := xs_R_ef hb hx.1 (F01 0 0 0) (eg_R_og (N := 0) p1)
  have m1 : rx_next ρ 83 11 = ρ 83 11 := rx_next_o _ (by omega)
  have fr1 := fr_R_tk hb f1
  have rf1 : rf_R ρ (rx_next ρ) := rf_R_tf (tf_R_next ρ)
  have t58 : tk_m 58 = 58 := by decide
  have t61 : tk_m 61 = 61 := by decide
  rw [b_57_0 hb, k_57_4 (by omega) e1, b_57_7 hb, b_214_0, k_214_1 (by omega) (r_next' hok (by omega)), b_214_4]
  rcases y_vtell (E := E) (d := d - 1) (e := e - 1) (k := 6) hb hx1 hR1 (by omega) (by omega) (by decide) (by decide) with ⟨τ, ρ2, s, j2, e2, rt, hR2, hj2, ht⟩ | ⟨ρ2, e2, rt, hF2, t2⟩
  · rw [m1] at rt ht
    have ht' := ht
    obtain ⟨a1, a2, a3, a4, a5, ⟨nn, a6⟩, a7, ⟨m0, m4⟩, a9, ⟨r86, r91, r92, r93, r94, r96, _⟩, a11, a12⟩ := ht
    obtain ⟨n0, n1, n2, n3, n4, n5, n6, n7, n8, n9, n10, n11, n12, n13, n14⟩ := a6
    have hge := js_sym_ge a4
    rw [k_57_18 hb (by omega) e2, b_57_21 hb, k_214_8 (by omega) rt, b_214_11]
    obtain ⟨ρ3, e3, lf3, hor3⟩ := y_length (E := E) (d := d - 1) (e := e - 1) hb a1.1 hR2 (by omega) (by omega) a1.2.1 (n := ρ 83 11) (Or.inr rfl) m0 m4 a4 n0 n6 r91 n12 r92
    have q3 : qf_R (ρ 83 11) ρ2 ρ3 := qf_R_lf lf3
    have m3 : ρ3 83 11 = ρ 83 11 + 1 := by rw [q3 _ _ (by omega) (by omega)]; exact a9
    rw [k_214_14 (by omega) e3]
    rcases hor3 with ⟨σ3, j3, c3, hR3, hY3, hj3, ln3, l6, l12, b1, b2, b3, b4, b5⟩ | ⟨hF3, σ3, c3, ln3⟩
    · rw [k_57_27 hb (by omega) c3, b_57_30 hb, b_214_17]
      obtain ⟨ρ4, e4, o4, hor4⟩ := y_take (E := E) (d := d - 1) (e := e - 1) (k := 58) hY3.2.2.1 hR3 (by omega) (by omega) (by unfold tk_V; omega) (by decide)
      rw [t58] at hor4
      have q4 : qf_R (ρ 83 11) ρ2 ρ4 := qf_R_trans q3 (qf_R_t9 o4)
      have m4' : ρ4 83 11 = ρ 83 11 + 1 := by rw [q4 _ _ (by omega) (by omega)]; exact a9
      rw [k_214_20 (by omega) e4]
      rcases hor4 with ⟨σ4, j4, c4, hR4, f4, hj4⟩ | ⟨hF4, c4⟩
      · have tf4 : tf_R ρ3 ρ4 := fun a i h => o4 a i (by omega)
        have hY4 := sy_Y_cf hb hY3 (cf_R_fr f4) tf4
        have p4 : vp_R b s τ σ4 := vp_R_trans (vp_R_lnf ln3) (vp_R_tk f4)
        have x4 : js_desc E.1 σ4 s = some (0, 11, js_sym) := js_desc_mono a4 (by rw [p4 _ _ (by omega) (by omega) (by omega) (by omega) (by omega)]; exact Int.le_refl _) (fun _ => p4 _ _ (by omega) (by omega) (by omega) (by omega) (by omega))
        have x40 : σ4 s 0 = ρ 83 11 := by rw [p4 _ _ (by omega) (by omega) (by omega) (by omega) (by omega)]; exact n0
        rw [k_57_36 (by omega) c4, b_57_39 hb, b_214_23]
        obtain ⟨ρ5, e5, tf5, hor5⟩ := y_type (E := E) (d := d - 1) (e := e - 1) hb hY4 hR4 (by omega) (by omega) (kx_R_qf a1.2.1 (Or.inr rfl) q4) (n := ρ 83 11) (Or.inr rfl) x4 x40
        have q5 : qf_R (ρ 83 11) ρ2 ρ5 := qf_R_trans q4 (qf_R_tf tf5)
        have m5 : ρ5 83 11 = ρ 83 11 + 1 := by rw [q5 _ _ (by omega) (by omega)]; exact a9
        rw [k_214_24 (by omega) e5]
        rcases hor5 with ⟨σ5, j5, c5, hR5, hY5, hj5, ty5, s2, s3, s4, hin, htx⟩ | ⟨hF5, σ5, c5, ty5⟩
        · have p5 : vp_R b s τ σ5 := vp_R_trans p4 (vp_R_tyf ty5)
          have x5 : js_desc E.1 σ5 s = some (0, 11, js_sym) := js_desc_mono a4 (by rw [p5 _ _ (by omega) (by omega) (by omega) (by omega) (by omega)]; exact Int.le_refl _) (fun _ => p5 _ _ (by omega) (by omega) (by omega) (by omega) (by omega))
          have x50 : σ5 s 0 = ρ 83 11 := by rw [p5 _ _ (by omega) (by omega) (by omega) (by omega) (by omega)]; exact n0
          have ss : ∀ i : Int, i ≠ 6 → i ≠ 12 → ¬ (2 ≤ i ∧ i ≤ 4) → σ5 s i = τ s i := fun i g1 g2 g3 => by rw [ty5 _ _ (by omega) (by omega) (by omega) (by omega), f4 _ _ (by omega) (by omega), ln3 _ _ (by omega) (by omega) (by omega) (by omega)]
          have s6 : ∀ i : Int, ¬ (2 ≤ i ∧ i ≤ 4) → σ5 s i = σ3 s i := fun i g3 => by rw [ty5 _ _ (by omega) (by omega) (by omega) (by omega), f4 _ _ (by omega) (by omega)]
          have rr : ∀ a : Int, 86 ≤ a → ρ5 a (ρ 83 11) = ρ3 a (ρ 83 11) := fun a h => by rw [tf5 _ _ (by omega), o4 _ _ (by omega)]
          have r3 : ∀ a : Int, 93 ≤ a ∨ a = 86 → ρ5 a (ρ 83 11) = ρ2 a (ρ 83 11) := fun a h => by rw [rr a (by omega), lf3 _ _ (by omega) (by omega)]
          -- place
          have hY6 : sy_Y E.1 (pc_S σ5 b s) ρ5 b 0 0 (fun i => X i ∨ i = ρ 83 11) := sy_Y_pc hb hY5 (Or.inr rfl) x5 x50
          have hR6 : rd_R (pc_S σ5 b s) ρ5 j5 := rd_R_of hR5 (fun i _ => pc_o (by omega) (by omega)) (fun a i _ _ => pc_o (by omega) (by omega)) (fun _ _ _ => rfl) (fun _ => rfl)
          rw [k_57_44 hb (by omega) c5, b_57_47, k_57_49 hb (by omega) (pc_54 hb x5), b_57_52 hb, b_214_27]
          obtain ⟨ρ7, e7, o7, hor7⟩ := y_take (E := E) (d := d - 1) (e := e - 1) (k := 61) hY6.2.2.1 hR6 (by omega) (by omega) (by unfold tk_V; omega) (by decide)
          rw [t61] at hor7
          rw [k_214_30 (by omega) e7]
          have q7 : qf_R (ρ 83 11) ρ2 ρ7 := qf_R_trans q5 (qf_R_t9 o7)
          have m7 : ρ7 83 11 = ρ 83 11 + 1 := by rw [q7 _ _ (by omega) (by omega)]; exact a9
          have p6 : vp_R b s τ (pc_S σ5 b s) := vp_R_trans p5 vp_R_pc
          rcases hor7 with ⟨σ7, j7, c7, hR7, f7, hj7⟩ | ⟨hF7, c7⟩
          · have o9 : ρ7 83 9 = 0 := hR7.2.2.1.2.2.1
            rw [k_57_58 (by omega) c7, b_214_33, o9, if_neg (show ¬ 0 < js_w 0 by decide)]
            have p7 : vp_R b s τ σ7 := vp_R_trans p6 (vp_R_tk f7)
            have tf7 : tf_R ρ5 ρ7 := fun a i h => o7 a i (by omega)
            have hY7 := sy_Y_cf hb hY6 (cf_R_fr f7) tf7
            have dn8 : ∀ i : Int, τ (8 + b) i = σ (8 + b) i := fun i => by rw [a3.1 _ _ (by omega) (by omega) (by omega) (by omega) (by omega), f1 _ _ (by omega) (by omega)]
            have g5 : ∀ i : Int, σ5 (8 + b) i = σ (8 + b) i := fun i => by rw [ty5 _ _ (by omega) (by omega) (by omega) (by omega), f4 _ _ (by omega) (by omega), ln3 _ _ (by omega) (by omega) (by omega) (by omega), dn8]
            have g22 : σ5 (22 + b) 0 = σ (22 + b) 0 := by rw [p5 _ _ (by omega) (by omega) (by omega) (by omega) (by omega), a3.1 _ _ (by omega) (by omega) (by omega) (by omega) (by omega), f1 _ _ (by omega) (by omega)]
            have k7 : ∀ i : Int, i ≠ 5 → i ≠ 7 → i ≠ 11 → σ7 s i = σ5 s i := fun i h1 h2 h3 => by rw [f7 _ _ (by omega) (by omega), pc_o (by omega) (by omega)]
            have u7 : ∀ a : Int, 86 ≤ a → ρ7 a (ρ 83 11) = ρ5 a (ρ 83 11) := fun a h => o7 _ _ (by omega)
            have u30 : ∀ i : Int, 10 ≤ i → ρ7 83 i = ρ5 83 i := fun i h => o7 _ _ (by omega)
            have s11 : σ7 s 11 = σ (8 + b) 8 := by rw [f7 _ _ (by omega) (by omega), pc_11 (by omega), g5]
            have x7 : js_desc E.1 σ7 s = some (0, 11, js_sym) := js_desc_mono a4 (by rw [p7 _ _ (by omega) (by omega) (by omega) (by omega) (by omega)]; exact Int.le_refl _) (fun _ => p7 _ _ (by omega) (by omega) (by omega) (by omega) (by omega))
            have e19 : σ7 (19 + b) (ρ 83 11) = s := by rw [p7 _ _ (by omega) (by omega) (by omega) (by omega) (by omega)]; exact a5
            have xs7 : xs_R E b F B (fun i => X i ∨ i = ρ 83 11) σ7 ρ7 := xs_vp hb a1 (Or.inr rfl) ⟨m0, by omega⟩ a5 p7 q7 hY7 (by rw [s11, hpl.2.2.1]; exact hpl.2.2.2.2.1) (by rw [k7 9 (by decide) (by decide) (by decide), ss 9 (by decide) (by decide) (by decide)]; exact n9)
            have hg0 := xs_ge hx.1
            have sf7 : sf_R b (σ (8 + b) 6) (σ (8 + b) 10) (σ (23 + b) 15) (ρ 83 11) σ σ7 := by
              refine ⟨fr_R_trans fr1 (fr_R_trans a2 (fr_R_vp hb m0 m4 a5 hge p7)), fun a i h1 h2 h3 => ?_, fun i h1 h2 => ?_, ?_⟩
              · rw [p7 _ _ (by omega) (by omega) (fun hh => h3 (Or.inl (ef_D21 hh))) (by omega) (fun hh => h3 (Or.inr (Or.inl hh))), a3.1 _ _ h1 h2 (fun hh => h3 (Or.inr (Or.inr (Or.inr (Or.inl hh))))) (fun hh => h3 (Or.inr (Or.inr (Or.inr (Or.inr hh))))) (fun hh => h3 (Or.inr (Or.inr (Or.inl hh)))), f1 _ _ (by omega) (by omega)]
              · have g1 := hg0 i h1 h2
                have e0 : σ1 (19 + b) i = σ (19 + b) i := f1 _ _ (by omega) (by omega)
                obtain ⟨d1, d2⟩ := a3.2 i h1 h2
                have ne := a7 i h1 h2
                rw [e0] at d1 d2 ne
                refine ⟨by rw [p7 _ _ (by omega) (by omega) (by omega) (by omega) (by omega), d1], fun k hk => ?_⟩
                rw [p7 _ _ (by omega) (by omega) (by omega) (by omega) (by omega), d2, f1 _ _ (by omega) (by omega)]
              · rw [p7 _ _ (by omega) (by omega) (by omega) (by omega) (by omega), a12, hx.1.1.2.2.2.2.1]
                omega
            refine Or.inl ⟨σ7, ρ7, j7, s, rfl, rfl, xs7, ⟨hR7, by omega⟩, sf7, fun a i h1 h2 h3 => ?_, ⟨m7, ?_⟩, ⟨fun i hi => ?_, ?_, fun i => ?_, ?_⟩, ⟨x7, e19⟩, ⟨?_, ?_, ?_, ?_, ?_, ?_, ?_, ?_, ?_, ?_, ?_, s11, ?_⟩, ⟨?_, ?_, ?_, ?_, ?_, ?_, ?_, ?_⟩, ?_, ?_⟩
            · rw [q7 _ _ (by omega) (by omega), a11 _ _ (by omega) (by omega) h3, rx_next_o _ (by omega)]
            · rw [u30 10 (by decide), tf5 _ _ (by omega), o4 _ _ (by omega)]
              have x1 := hR3.2.2.2.1
              have x2 := hR2.2.2.2.1
              have x3 : ρ2 83 10 = ρ 83 10 := by rw [a11 _ _ (by omega) (by omega) (by omega), rx_next_o _ (by omega)]
              omega
            · rw [f7 _ _ (by omega) (by omega), pc_o (by omega) (by omega), g5]
            · rw [f7 _ _ (by omega) (by omega), pc_9, g5, u7 91 (by decide), rr 91 (by decide), s6 6 (by decide), l6]
            · rw [p7 _ _ (by omega) (by omega) (by omega) (by omega) (by omega), a3.1 _ _ (by omega) (by omega) (by omega) (by omega) (by omega), f1 _ _ (by omega) (by omega)]
            · rw [p7 _ _ (by omega) (by omega) (by omega) (by omega) (by omega), a12]
            · rw [k7 0 (by decide) (by decide) (by decide)]; exact x50
            · rw [k7 1 (by decide) (by decide) (by decide), ss 1 (by decide) (by decide) (by decide)]; exact n1
            · rw [k7 2 (by decide) (by decide) (by decide), u30 30 (by decide)]; exact s2
            · rw [k7 3 (by decide) (by decide) (by decide), u30 31 (by decide)]; exact s3
            · rw [k7 4 (by decide) (by decide) (by decide), u30 32 (by decide)]; exact s4
            · rw [f7 _ _ (by omega) (by omega), pc_5 (by omega), g5]
            · rw [k7 6 (by decide) (by decide) (by decide), s6 6 (by decide), u7 91 (by decide), rr 91 (by decide)]; exact l6
            · rw [f7 _ _ (by omega) (by omega), pc_7 (by omega), g22]
            · rw [k7 8 (by decide) (by decide) (by decide), ss 8 (by decide) (by decide) (by decide)]; exact n8
            · rw [k7 9 (by decide) (by decide) (by decide), ss 9 (by decide) (by decide) (by decide)]; exact n9
            · rw [k7 10 (by decide) (by decide) (by decide), ss 10 (by decide) (by decide) (by decide)]; exact n10
            · rw [k7 12 (by decide) (by decide) (by decide), s6 12 (by decide), u7 92 (by decide), rr 92 (by decide)]; exact l12
            · rw [u7 86 (by decide), r3 86 (by decide)]; exact r86
            · rw [u7 93 (by decide), r3 93 (by decide)]; exact r93
            · rw [u7 94 (by decide), r3 94 (by decide)]; exact r94
            · rw [u7 96 (by decide), r3 96 (by decide)]; exact r96
            · rw [u7 91 (by decide), rr 91 (by decide)]; exact b1
            · rw [u7 91 (by decide), rr 91 (by decide)]; exact b2
            · rw [u7 92 (by decide), rr 92 (by decide)]; exact b3
            · rw [u7 92 (by decide), rr 92 (by decide), u7 91 (by decide), rr 91 (by decide)]; exact b5
            · unfold ty_in at hin ⊢
              rw [u30 30 (by decide), u30 31 (by decide), u30 32 (by decide)]
              exact hin
            · unfold tx_P at htx ⊢
              rw [u30 30 (by decide), u30 31 (by decide), u30 32 (by decide), u30 11 (by decide), o7 86 _ (by omega), o7 89 _ (by omega)]
              exact htx
          · rw [kt_57_58 (by omega) c7, b_214_33, if_pos (rx_F_9 hF7)]
            exact Or.inr ⟨ρ7, rfl, vt_of hb ht' fr1 rf1 p6 (rf_R_qf q7) m7 hF7 rfl⟩
        · rw [kt_57_44 hb (by omega) c5, r_214_27F hF5 (by omega)]
          exact Or.inr ⟨ρ5, rfl, vt_of hb ht' fr1 rf1 (vp_R_trans p4 (vp_R_tyf ty5)) (rf_R_qf q5) m5 hF5 rfl⟩
      · obtain ⟨ρ', e5, f5⟩ := r_214_23F (E := E) (e := e) (x1 := ρ 83 11) hF4 (by omega)
        rw [kt_57_36 (by omega) c4, e5]
        exact Or.inr ⟨ρ', rfl, vt_of hb ht' fr1 rf1 (vp_R_lnf ln3) (rf_R_trans (rf_R_qf q4) (rf_R_tf f5.1)) (by rw [f5.1 _ _ (by omega)]; exact m4') f5.2.1 (by rw [f5.2.2])⟩
    · obtain ⟨ρ', e5, f5⟩ := r_214_17F (E := E) (e := e) (x1 := ρ 83 11) hF3 (by omega)
      rw [kt_57_27 hb (by omega) c3, e5]
      exact Or.inr ⟨ρ', rfl, vt_of hb ht' fr1 rf1 (vp_R_lnf ln3) (rf_R_trans (rf_R_qf q3) (rf_R_tf f5.1)) (by rw [f5.1 _ _ (by omega)]; exact m3) f5.2.1 (by rw [f5.2.2])⟩
  · obtain ⟨ρ', e3, f3⟩ := r_214_17F (E := E) (e := e) (x1 := 0) hF2 (by omega)
    have hs1 := hx1.1.1
    have e11 : ρ' 83 11 = rx_next ρ 83 11 := by rw [f3.1 _ _ (by omega), t2 _ _ (by omega)]
    rw [kt_57_18 hb (by omega) e2, k_214_8 (by omega) rt, b_214_11, k_214_14 (by omega) (r_lengthF hF2), e3]
    exact Or.inr ⟨ρ', rfl, rf_R_trans rf1 (rf_R_trans (rf_R_tf t2) (rf_R_tf f3.1)), f3.2.1, by rw [e11]; exact hs1.1, by rw [e11]; exact hs1.2.1, σ1, by rw [f3.2.2], fr1, hx1.1.2.2.2.1, hx1.1.2.2.1⟩
end SB
