/-! part 99.zzq: if ( e ) BLOCK in step -/
section SN
variable {E : js_E} {d e : Nat} {b F : Int} {B U : Int → Int} {X : Int → Prop} {σ ρ : js_S} {j : Nat}
theorem y_ifhead {J0 : Nat} {Ex Lx nx x1 x2 : Int} {u5 u6 u7 w4 w5 : js_v} (hb : b = 0 ∨ b = 25) (hS : sa_P E b F B U X J0) (hJ : J0 ≤ j + 3) (hx : ux_R E b F B U X σ ρ) (hn : xn_R b σ ρ j) (hR : rd_R σ ρ j) (h5 : ρ 83 5 = 307) (hnx : 0 ≤ nx ∧ nx < 900000) (ht : σ (8 + b) 10 ≤ 2 * ρ 83 10 + 2) (hp : σ (23 + b) 15 ≤ 6 * ρ 83 10) (hd : 4 * (65 - ρ 83 10) + 31 ≤ (d : Int)) (he : 12 * (65 - ρ 83 10) + 33 ≤ (e : Int)) : (∃ (σ' ρ' : js_S) (j' : Nat) (bf nc mm : Int) (l r : tr_T), js_J E d 104 9 [(2, 22 + b), (0, Ex), (0, Lx), (0, 1), (0, nx), u5, u6, u7] [] σ = js_J E d 104 82 [(2, 22 + b), (0, Ex), (0, Lx), (0, 1), (0, nx), (0, σ (8 + b) 6 + xt_ln l), (0, bf), u7] [] σ' ∧ js_J E e 241 6 [(2, 83), (0, x1), (0, x2), (0, 1), w4, w5] [] ρ = js_J E e 241 55 [(2, 83), (0, x1), (0, x2), (0, 1), (0, nc), w5] [(0, ρ' 83 33 - 1)] ρ' ∧ ih_R E b F B U X σ ρ j σ' ρ' j' bf nc mm l r) ∨ (∃ ρ' : js_S, js_J E e 241 6 [(2, 83), (0, x1), (0, x2), (0, 1), w4, w5] [] ρ = js_r E (0, -1) ρ' ∧ sF_P E b σ ρ ρ' (js_J E d 104 9 [(2, 22 + b), (0, Ex), (0, Lx), (0, 1), (0, nx), u5, u6, u7] [] σ)) := by
  have hok := hR.2.2.1
  have D0 := hR.2.2.2.2.1
  have D1 := hR.2.2.2.2.2
  have hs1 := hx.1.1.1.1
  have hs2 := hx.1.1.1.2.1
  have o9 : ρ 83 9 = 0 := hok.2.2.1
  have t40 : tk_m 40 = 40 := by decide
  have t41 : tk_m 41 = 41 := by decide
  obtain ⟨σ1, j1, e1, hR1, f1, _, hj1⟩ := y_next (E := E) (d := d - 1) hR
  have hj1' := hj1 (by omega)
  subst hj1'
  clear hj1
  have p1 : og_R ρ (rx_next ρ) := fun a i g => rx_next_o _ (by omega)
  have o1 : of_R σ σ1 := fun a i g1 g2 => f1 a i (by omega) g2
  have hx1 := ux_ef hb hx (ef_R_of (n := 0) (t := 0) (p := 0) o1) (eg_R_og (N := 0) p1)
  have u10 : rx_next ρ 83 10 = ρ 83 10 := rx_next_o _ (by omega)
  rw [b_104_9 hb, js_w_of (x := nx) (by omega) (by omega), if_pos (show nx < 1000000 by omega), if_neg (show ¬ js_w 1 = 0 by decide), k_104_24 (by omega) e1, b_104_27 hb, b_241_6, if_neg (show ¬ js_w 1 = 0 by decide), o9, if_pos (show js_w 0 = 0 from rfl), k_241_18 (by omega) (r_next' hok (by omega)), b_241_21]
  obtain ⟨ρ2, eo, og, hor⟩ := y_open (E := E) (d := d - 1) (e := e - 1) (k := 40) hx1.1.1.2.2.1 hR1 (by omega) (by omega) (by unfold tk_V; omega) (by decide)
  rw [t40] at hor
  have og02 : og_R ρ ρ2 := fun a i g => by rw [og a i g, p1 a i g]
  have x211 : ρ2 83 11 = ρ 83 11 := og02 _ _ (by omega)
  rw [k_241_24 (by omega) eo]
  rcases hor with ⟨σ2, j2, c2, hR2, o2, hj2, hD64, hD2⟩ | ⟨hF2, c2⟩
  · subst hj2
    have o02 : of_R σ σ2 := fun a i g1 g2 => by rw [o2 a i g1 g2, o1 a i g1 g2]
    have hx2 := ux_ef hb hx (ef_R_of (n := 0) (t := 0) (p := 0) o02) (eg_R_og (N := 0) og02)
    have v : ∀ k : Int, σ2 (8 + b) k = σ (8 + b) k := fun k => o02 _ _ (by omega) (by omega)
    have v6 := v 6
    have v7 := v 7
    have v10 := v 10
    have v11 := v 11
    have v12 := v 12
    have v15 : σ2 (23 + b) 15 = σ (23 + b) 15 := o02 _ _ (by omega) (by omega)
    have u33 : ρ2 83 33 = ρ 83 33 := og02 _ _ (by omega)
    have u44 : ρ2 83 44 = ρ 83 44 := og02 _ _ (by omega)
    have hn2 : xn_R b σ2 ρ2 (j + 1 + 1) := by
      unfold xn_R at hn ⊢
      push_cast
      omega
    rw [k_104_33 (by omega) c2, b_104_36, b_241_27]
    rcases y_truth (E := E) (d := d - 1) (e := e - 1) hb (y_e hb 0) (Nat.zero_le _) hx2.1 hn2 hR2 (by omega) (by omega) (by omega) (by omega) with ⟨σ3, ρ3, j3, nc, l, er, ec, H, _⟩ | ⟨ρ', vv, er, hf⟩
    · have r3 := H.1.1
      have hj3 := rd_j r3
      have dp3 := H.1.2.2.1
      have q3 := H.1.2.1
      have hn3 := xn_next hn2 H
      have F23 := H.1.2.2.2.1
      have G23 := H.1.2.2.2.2.1
      have hx3 := ux_ef hb hx2 F23 G23
      have c10 := H.2.2.1.2.1.1
      have c6 := H.2.2.1.2.1.2.1
      have y15 := H.2.2.1.1.2.2.2
      rw [k_104_37 hb (by omega) ec, b_104_40 hb, k_241_28 (by omega) er, b_241_31]
      obtain ⟨ρ4, e4, g4, hor⟩ := y_close (E := E) (d := d - 1) (e := e - 1) (k := 41) hx3.1.1.2.2.1 r3 (by omega) (by omega) (by unfold tk_V; omega) (by decide) (by omega)
      rw [t41] at hor
      rw [k_241_36 (by omega) e4]
      have x411 : ρ4 83 11 = ρ 83 11 := by rw [g4 _ _ (by omega), G23 _ _ (by omega) (by omega), x211]
      have frc : fr_R b σ σ3 := fr_R_trans (fr_R_ef hb (ef_R_of (n := 0) (t := 0) (p := 0) o02)) (fr_R_ef hb F23)
      have rfc : rf_R ρ ρ4 := rf_R_trans (rf_R_eg (N := 0) (eg_R_og og02)) (rf_R_trans (rf_R_eg G23) (rf_R_eg (N := 0) (eg_R_og g4)))
      rcases hor with ⟨σ4, j4, c4, R4, o4, hj4, d4⟩ | ⟨hF4, c4⟩
      · subst hj4
        have hx4 := ux_ef hb hx3 (ef_R_of (n := 0) (t := 0) (p := 0) o4) (eg_R_og (N := 0) g4)
        have w : ∀ k : Int, σ4 (8 + b) k = σ3 (8 + b) k := fun k => o4 _ _ (by omega) (by omega)
        have w6 := w 6
        have w7 := w 7
        have hz4 : cz_R σ4 b := by
          have k := xn_cz hn3 r3
          unfold cz_R at k ⊢
          rw [w, w]
          exact k
        obtain ⟨σ5, e5, h5e⟩ := c_add (E := E) (d := d - 1) (σ := σ4) (op := 25) (x := 0) hb hz4 (by omega)
        have O5 := h5e.2.2.2
        have n56 := h5e.1
        have n57 := h5e.2.1
        have hx5 := ux_ef hb hx4 (ef_R_em (n := 0) (t := 0) (p := 0) h5e hz4.1) (eg_R_refl 0 _)
        have R5 : rd_R σ5 ρ4 (j3 + 1) := rd_R_of R4 (fun i _ => O5 _ _ (by omega) (by omega)) (fun a i _ _ => O5 _ _ (by omega) (by omega)) (fun _ _ _ => rfl) (fun _ => rfl)
        have z : ∀ k : Int, k ≠ 6 → k ≠ 7 → σ5 (8 + b) k = σ3 (8 + b) k := fun k g1 g2 => by rw [O5 _ _ (by omega) (by omega), w]
        have z10 := z 10 (by decide) (by decide)
        have z11 := z 11 (by decide) (by decide)
        have z12 := z 12 (by decide) (by decide)
        have z15 : σ5 (23 + b) 15 = σ3 (23 + b) 15 := by rw [O5 _ _ (by omega) (by omega), o4 _ _ (by omega) (by omega)]
        have q33 : ρ4 83 33 = ρ3 83 33 := g4 _ _ (by omega)
        have q44 : ρ4 83 44 = ρ3 83 44 := g4 _ _ (by omega)
        have hn5 : xn_R b σ5 ρ4 (j3 + 1) := by
          unfold xn_R at hn3 ⊢
          push_cast
          omega
        have s75 : σ5 (7 + b) 1 = ρ4 83 11 := hx5.1.1.2.2.2.2.1
        have ev : σ4 (8 + b) 6 = σ (8 + b) 6 + xt_ln l := by omega
        rw [k_104_46 (by omega) c4, b_104_49 hb, k_104_56 hb (by omega) e5, b_104_59 hb, s75, ev, b_241_39]
        rcases y_block (E := E) (d := d - 1) (e := e - 1) hb hS (by omega) hx5 hn5 R5 (by omega) (by omega) (by omega) (by omega) with ⟨σ6, ρ6, j6, mm, r, er6, ec6, hbl⟩ | ⟨ρ', vv, er6, hf⟩
        · have hn6 := xn_nextb hn5 hbl
          have r6 := hbl.1.1
          have hj6 := rd_j r6
          have hn633 := hn6.2.2.2.2.1
          obtain ⟨ρ7, er7, hw⟩ := r_node (E := E) (e := e - 1) (ρ := ρ6) (k := 26) (ty := 0) (lo := 0) (hi := 0) (a := nc) (b := mm) (c := -1) r6.2.2.1.2.2.1 (by omega) (by omega) (by decide) (by decide)
          have e33 : ρ7 83 33 - 1 = ρ6 83 33 := by have := hw.1; omega
          rw [k_104_79 hb (by omega) ec6, k_241_48 (by omega) er6, b_241_51, k_241_52 (by omega) er7]
          refine Or.inl ⟨σ6, ρ7, j6, σ5 (8 + b) 7, nc, mm, l, r, rfl, ?_, ih_of hb hx hn o02 og02 (by omega) H o4 g4 d4 h5e hbl hn6 hw⟩
          rw [e33]
        · have hF := hf.2.1
          have fr5 : fr_R b σ σ5 := fr_R_trans frc (fr_R_trans (fr_R_ef hb (ef_R_of (n := 0) (t := 0) (p := 0) o4)) (fr_R_ef hb (ef_R_em (n := 0) (t := 0) (p := 0) h5e hz4.1)))
          have hf2 := sF_up fr5 rfc hf
          rw [k_241_48 (by omega) er6, b_241_51, k_241_52 (by omega) (r_nodeF hF), r_241_55F hF]
          obtain ⟨a1, a2, a3, a4, σz, a5, a6⟩ := hf2
          rw [kt_104_79 hb (by omega) a5]
          exact Or.inr ⟨ρ', rfl, a1, a2, a3, a4, σz, rfl, a6⟩
      · obtain ⟨ρ', e9, h9⟩ := r_241_39F (E := E) (e := e) (x1 := x1) (x2 := x2) (x3 := 1) (x4 := nc) (u5 := w5) hF4 (by omega) (by omega) (by omega)
        have f0 : sF_P E b σ ρ ρ4 (th_P E σ3 (ρ4 83 9)) := ⟨rfc, hF4, by omega, by omega, σ3, rfl, frc, hx3.1.1.2.2.2.1, hx3.1.1.2.2.1⟩
        rw [kt_104_46 (by omega) c4, e9]
        exact Or.inr ⟨ρ', rfl, sF_more f0 h9⟩
    · have f0 := sF_up (fr_R_ef hb (ef_R_of (n := 0) (t := 0) (p := 0) o02)) (rf_R_eg (N := 0) (eg_R_og og02)) (sF_xf hb hx2.1 hf)
      have f0' := f0
      obtain ⟨a1, a2, a3, a4, σz, a5, a6⟩ := f0
      obtain ⟨ρ9, e9, h9⟩ := r_241_31F (E := E) (e := e) (x1 := x1) (x2 := x2) (x3 := 1) (u4 := w4) (u5 := w5) (z0 := vv) a2 (by omega) a3 a4
      rw [kt_104_37 hb (by omega) a5, k_241_28 (by omega) er, e9]
      rw [a5] at f0'
      exact Or.inr ⟨ρ9, rfl, sF_more f0' h9⟩
  · obtain ⟨ρ', e9, h9⟩ := r_241_27F (E := E) (e := e) (x1 := x1) (x2 := x2) (x3 := 1) (u4 := w4) (u5 := w5) hF2 (by omega) (by omega) (by omega)
    have f0 : sF_P E b σ ρ ρ2 (th_P E σ1 (ρ2 83 9)) := ⟨rf_R_eg (N := 0) (eg_R_og og02), hF2, by omega, by omega, σ1, rfl, fr_R_ef hb (ef_R_of (n := 0) (t := 0) (p := 0) o1), hx1.1.1.2.2.2.1, hx1.1.1.2.2.1⟩
    rw [kt_104_33 (by omega) c2, e9]
    exact Or.inr ⟨ρ', rfl, sF_more f0 h9⟩
end SN
