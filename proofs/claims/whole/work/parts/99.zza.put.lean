/-! part 99.zza: an index in step; an element is assigned -/
section RB
variable {E : js_E} {d e : Nat} {b F : Int} {B : Int → Int} {X : Int → Prop} {σ ρ : js_S} {j : Nat}
/-- [ e ] behind the name of a row -/
theorem y_index {σ1 : js_S} {i : Int} (hb : b = 0 ∨ b = 25) (hE : xe_P E b F B X (j + 1)) (hx : xs_R E b F B X σ ρ) (hn : xn_R b σ ρ j) (hR : rd_R σ ρ j) (hnm : nm_R E b X σ1 ρ i) (hR1 : rd_R σ1 (rx_next ρ) (j + 1)) (f1 : tk_fr σ σ1) (hk : 1 ≤ ρ 86 i ∧ ρ 86 i ≤ 3 ∨ 5 ≤ ρ 86 i ∧ ρ 86 i ≤ 7) (ht : σ (8 + b) 10 ≤ 12 * ρ 83 10 + 3) (hp : σ (23 + b) 15 ≤ 6 * ρ 83 10 + 5) (hd : 4 * (65 - ρ 83 10) + 23 ≤ (d : Int)) (he : 12 * (65 - ρ 83 10) + 16 ≤ (e : Int)) : (∃ (σ' ρ' : js_S) (j' : Nat) (n : Int) (l : tr_T), js_J E e 233 0 [(2, 83), (0, i), (9, 0)] [] (rx_next ρ) = js_r E (0, n) ρ' ∧ js_J E d 76 0 [(2, 23 + b), (2, σ1 (19 + b) i)] [] σ1 = js_r0 E σ' ∧ xr_R b F B σ ρ j σ' ρ' j' n l) ∨ (∃ (ρ' : js_S) (v : Int), js_J E e 233 0 [(2, 83), (0, i), (9, 0)] [] (rx_next ρ) = js_r E (0, v) ρ' ∧ xf_P E b σ ρ ρ' (js_J E d 76 0 [(2, 23 + b), (2, σ1 (19 + b) i)] [] σ1)) := by
  obtain ⟨⟨i0, i1, i2⟩, nX, _, _, _, hsym, hf⟩ := hnm
  have ok := hR.2.2.1
  have hj := rd_j hR1
  have D0 := hR.2.2.2.2.1
  have D1 := hR.2.2.2.2.2
  have g := (hx.2.2.1 i i0 i1 nX).2.2.1 hk
  have hge := js_sym_ge hsym
  have t91 : tk_m 91 = 91 := by decide
  have t93 : tk_m 93 = 93 := by decide
  have u10 : rx_next ρ 83 10 = ρ 83 10 := rx_next_o _ (by omega)
  have p1 : og_R ρ (rx_next ρ) := fun a i g => rx_next_o _ (by omega)
  have o1 : of_R σ σ1 := fun a i g1 g2 => f1 a i (by omega) g2
  have hx1 := xs_R_ef hb hx (ef_R_of (b := b) (n := 0) (t := 0) (p := 0) o1) (eg_R_og (N := 0) p1)
  obtain ⟨ρ2, e2, og2, hor2⟩ := y_open (E := E) (d := d - 1) (e := e - 1) (k := 91) hx1.1.2.2.1 hR1 (by omega) (by omega) (by unfold tk_V; omega) (by decide)
  rw [t91] at hor2
  have g2 : og_R ρ ρ2 := fun a i g => (og2 a i g).trans (p1 a i g)
  have G02 : eg_R (ρ 83 33) ρ ρ2 := eg_R_og g2
  have z91 : ρ2 91 i = ρ 91 i := g2 _ _ (by omega)
  have wl := js_w_of (x := ρ 91 i - 1) (by omega) (by omega)
  have r6 : js_J E e 233 0 [(2, 83), (0, i), (9, 0)] [] (rx_next ρ) = js_J E e 233 18 [(2, 83), (0, i), (9, 0)] [(1, ρ 91 i - 1), (1, 0), (0, 0), (2, 83)] ρ2 := by
    rw [b_233_0, k_233_3 (by omega) e2, b_233_6, js_w_of (x := i) (by omega) (by omega), if_pos (show 0 ≤ i ∧ i < 400 from ⟨i0, i2⟩), z91, wl]
  rw [r6, b_76_0 hb]
  rcases hor2 with ⟨σ2, j2, c2, hR2, f2, hj2, hD64, hD1⟩ | ⟨hF2, c2⟩
  · subst hj2
    have o2 : of_R σ σ2 := fun a i g1 g2 => (f2 a i g1 g2).trans (o1 a i g1 g2)
    have F02 : ∀ n t p : Int, ef_R b n t p σ σ2 := fun n t p => ef_R_of o2
    have v : ∀ k : Int, σ2 (8 + b) k = σ (8 + b) k := fun k => o2 _ _ (by omega) (by omega)
    have v6 := v 6
    have v10 := v 10
    have v15 : σ2 (23 + b) 15 = σ (23 + b) 15 := o2 _ _ (by omega) (by omega)
    have u33 : ρ2 83 33 = ρ 83 33 := g2 _ _ (by omega)
    have u44 : ρ2 83 44 = ρ 83 44 := g2 _ _ (by omega)
    have hx2 := xs_R_ef hb hx (F02 0 0 0) G02
    have hn2 : xn_R b σ2 ρ2 (j + 1 + 1) := by
      have v7 := v 7
      have v11 := v 11
      have v12 := v 12
      unfold xn_R at hn ⊢
      push_cast
      omega
    have e6 : σ2 (σ1 (19 + b) i) 6 = ρ 91 i := by rw [f2 _ _ (by omega) (by omega)]; exact hf.2.2.2.2.1
    have hsym2 : js_desc E.1 σ2 (σ1 (19 + b) i) = some (0, 11, js_sym) := js_desc_mono hsym (by rw [f2 _ _ (by omega) (by omega)]; exact Int.le_refl _) (fun _ => f2 _ _ (by omega) (by omega))
    rw [k_76_6 (by omega) c2, b_76_9]
    rcases y_for (d := d - 1) (e := e - 1) (t := 0) (lo := 0) (hi := ρ 91 i - 1) hb hE (by omega) hx2 hn2 hR2 (by omega) (by omega) (by omega) (by omega) (by decide) (by decide) (by omega) with ⟨σ3, ρ3, j3, n1, l, er, ec, ea, h1, _, _, _⟩ | ⟨ρ', vv, er, hf2⟩
    · have r3 := h1.1.1
      have hj3 := rd_j r3
      have q1 := h1.1.2.1
      have dp1 := h1.1.2.2.1
      have F23 := h1.1.2.2.2.1
      have G23 := h1.1.2.2.2.2.1
      have m1 := h1.1.2.2.2.2.2.1
      have y15 := h1.2.2.1.1.2.2.2
      have c10 := h1.2.2.1.2.1.1
      have c6 := h1.2.2.1.2.1.2.1
      have ll := xt_ln_0 l
      have F03 : ef_R b (σ (8 + b) 6) (σ (8 + b) 10) (σ (23 + b) 15) σ σ3 := ef_R_trans (F02 _ _ _) (ef_R_mono F23 (by omega) (by omega) (by omega))
      have G03 : eg_R (ρ 83 33) ρ ρ3 := eg_R_trans G02 G23 (by omega)
      have hx3 := xs_R_ef hb hx F03 G03
      have e63 : σ3 (σ1 (19 + b) i) 6 = ρ 91 i := by rw [F23 _ _ (by unfold ef_D; omega)]; exact e6
      have hsym3 : js_desc E.1 σ3 (σ1 (19 + b) i) = some (0, 11, js_sym) := js_desc_mono hsym2 (by rw [F23 _ _ (by unfold ef_D; omega)]; exact Int.le_refl _) (fun _ => F23 _ _ (by unfold ef_D; omega))
      obtain ⟨ρ4, e4, og4, hor4⟩ := y_close (E := E) (d := d - 1) (e := e - 1) (k := 93) hx3.1.2.2.1 r3 (by omega) (by omega) (by unfold tk_V; omega) (by decide) (by omega)
      rw [t93] at hor4
      have G04 : eg_R (ρ 83 33) ρ ρ4 := eg_R_trans (N' := ρ 83 33) G03 (eg_R_og og4) (Int.le_refl _)
      rw [k_76_10 hb (by omega) ec, b_76_13 hsym3, e63, k_76_22 hb (by omega) ea, b_76_25 hb, k_233_18 (by omega) er, b_233_21, k_233_25 (by omega) e4, b_233_28]
      rcases hor4 with ⟨σ4, j4, c4, hR4, f4, hj4, hD4⟩ | ⟨hF4, c4⟩
      · subst hj4
        rw [k_76_31 (by omega) c4, b_76_34]
        have H := xr_frame (z := zz_b b σ ρ + 2) (σ0 := σ) (ρ0 := ρ) (j0 := j) (σ1 := σ2) (ρ1 := ρ2) (j1 := j + 1 + 1) (σ2 := σ3) (ρ2 := ρ3) (j2 := j3) (σ3 := σ4) (ρ3 := ρ4) (j3 := j3 + 1) hb (xs_hg hx) (F02 _ _ _) (fun k _ _ => v k) (by omega) G02 u33 u44 (by omega) h1 (ef_R_of f4) (fun k _ _ => f4 _ _ (by omega) (by omega)) (fun k _ _ => f4 _ _ (by omega) (by omega)) (by rw [f4 _ _ (by omega) (by omega), y15, v15]) (eg_R_og og4) (og4 _ _ (by omega)) (og4 _ _ (by omega)) (by omega) (by omega) hR4 (by unfold zz_b; omega)
        exact Or.inl ⟨σ4, ρ4, j3 + 1, n1, l, rfl, rfl, H⟩
      · rw [kt_76_31 (by omega) c4]
        exact Or.inr ⟨ρ4, n1, rfl, hF4, G04, σ3, rfl, F03⟩
    · have hF' : rx_F ρ' := by
        rcases hf2 with h | ⟨_, _, _, h⟩
        · exact h.1
        · exact h.1
      rw [k_233_18 (by omega) er, r_233_21F hF' (by omega)]
      rcases hf2 with h | ⟨σ3, ec, F23, h⟩
      · obtain ⟨s1, s2, σ', s3, s4⟩ := xf_deep (xf_ef (F02 _ _ _) G02 (by omega) (by omega) (by omega) (by omega) h)
        rw [kt_76_10 hb (by omega) s3]
        exact Or.inr ⟨_, vv, rfl, s1, s2, σ', rfl, s4⟩
      · obtain ⟨s1, s2, σ', s3, s4⟩ := xf_deep (xf_ef (F02 _ _ _) G02 (by omega) (by omega) (by omega) (by omega) h)
        have e63 : σ3 (σ1 (19 + b) i) 6 = ρ 91 i := by rw [F23 _ _ (by unfold ef_D; omega)]; exact e6
        have hsym3 : js_desc E.1 σ3 (σ1 (19 + b) i) = some (0, 11, js_sym) := js_desc_mono hsym2 (by rw [F23 _ _ (by unfold ef_D; omega)]; exact Int.le_refl _) (fun _ => F23 _ _ (by unfold ef_D; omega))
        rw [k_76_10 hb (by omega) ec, b_76_13 hsym3, e63, kt_76_22 hb (by omega) s3]
        exact Or.inr ⟨_, vv, rfl, s1, s2, σ', rfl, s4⟩
  · rw [k_233_18 (by omega) (r_218F hF2 (by omega)), r_233_21F hF2 (by omega), kt_76_6 (by omega) c2]
    exact Or.inr ⟨_, 0, rfl, xf_deep ⟨hF2, G02, σ1, rfl, ef_R_tk f1⟩⟩
end RB
/-- an element is assigned: the tree -/
theorem ss_put {b F : Int} {B : Int → Int} {σ0 ρ0 σ1 ρ1 σ2 σ3 ρ2 σ4 ρ3 σ5 σ6 σ7 σ8 σ9 σ11 ρ4 ρ5 : js_S} {j0 j1 j4 : Nat} {n1 n2 a c : Int} {l r : tr_T} (hg0 : hg_R σ0 b) (hb : b = 0 ∨ b = 25) (n0 : 0 ≤ ρ0 83 33) (a7 : 0 ≤ σ0 (8 + b) 7 ∧ σ0 (8 + b) 7 ≤ 400000) (ht : σ0 (8 + b) 10 + 2 ≤ 1024) (H1 : xr_R b F B σ0 ρ0 j0 σ1 ρ1 j1 n1 l) (k1 : kp_R b σ1 σ2 (σ1 (23 + b) 1) (σ1 (23 + b) 2)) (f23 : tk_fr σ2 σ3) (t12 : ∀ a i : Int, ¬ (a = 83 ∧ 5 ≤ i ∧ i ≤ 9) → ρ2 a i = ρ1 a i) (H2 : xr_R b F B σ3 ρ2 (j1 + 1) σ4 ρ3 j4 n2 r) (k2 : kp_R b σ4 σ5 (σ4 (23 + b) 1) (σ4 (23 + b) 2)) (m1 : em_R b σ5 σ6 1 (σ0 (8 + b) 10) 0 (σ5 (17 + b) (σ0 (8 + b) 10)) (σ5 (18 + b) (σ0 (8 + b) 10)) (2 * σ5 (8 + b) 8 + 2)) (m2 : em_R b σ6 σ7 3 0 0 1 0 0) (m3 : em_R b σ7 σ8 1 (σ0 (8 + b) 10 + 1) 0 (σ7 (17 + b) (σ0 (8 + b) 10 + 1)) (σ7 (18 + b) (σ0 (8 + b) 10 + 1)) (2 * σ7 (8 + b) 8 + 2)) (m4 : em_R b σ8 σ9 5 (σ8 (σ8 (19 + b) a) 5 + 0) c 1 0 (sh_P (σ8 (σ8 (19 + b) a) 11))) (f : tk_fr (js_up σ9 (8 + b) 10 (σ0 (8 + b) 10)) σ11) (t34 : ∀ a i : Int, ¬ (a = 83 ∧ 5 ≤ i ∧ i ≤ 9) → ρ4 a i = ρ3 a i) (R : rd_R σ11 ρ4 (j4 + 1)) (hw : nw_R ρ4 ρ5 21 0 0 0 a n2 n1) (ha : 0 ≤ a ∧ a < σ8 (7 + b) 1) (hsv : sv_P ρ5 F a) (hsz : sz_P ρ5 a c) : ss_R b F B σ0 ρ0 j0 σ11 ρ5 (j4 + 1) (ρ4 83 33) (tr_n 21 0 0 0 a 0 c l r) := by
  have q1 := H1.1.2.1
  have dp1 := H1.1.2.2.1
  have F01 := H1.1.2.2.2.1
  have G01 := H1.1.2.2.2.2.1
  have g1 := H1.1.2.2.2.2.2.1
  have g1' := H1.1.2.2.2.2.2.2
  have y1 := H1.2.2.1.1.2.1
  have y2 := H1.2.2.1.1.2.2.1
  have y15 := H1.2.2.1.1.2.2.2
  have c10 := H1.2.2.1.2.1.1
  have c6 := H1.2.2.1.2.1.2.1
  have q2 := H2.1.2.1
  have dp2 := H2.1.2.2.1
  have F34 := H2.1.2.2.2.1
  have G23 := H2.1.2.2.2.2.1
  have g2 := H2.1.2.2.2.2.2.1
  have g2' := H2.1.2.2.2.2.2.2
  have z1 := H2.2.2.1.1.2.1
  have z2 := H2.2.2.1.1.2.2.1
  have z15 := H2.2.2.1.1.2.2.2
  have d10 := H2.2.2.1.2.1.1
  have d6 := H2.2.2.1.2.1.2.1
  have ll := xt_ln_0 l
  have lr := xt_ln_0 r
  have kA10 := k1.1.1
  have kA17 := k1.1.2.2.1
  have kA18 := k1.1.2.2.2
  have kA6 := k1.2.1
  have kAO := k1.2.2.2.2
  have kB10 := k2.1.1
  have kB17 := k2.1.2.2.1
  have kB18 := k2.1.2.2.2
  have kB6 := k2.2.1
  have kBO := k2.2.2.2.2
  have e1 := m1.1
  have e2 := m2.1
  have e3 := m3.1
  have e4 := m4.1
  have o1 := m1.2.2.2
  have o2 := m2.2.2.2
  have o3 := m3.2.2.2
  have o4 := m4.2.2.2
  have v : ∀ i : Int, σ3 (8 + b) i = σ2 (8 + b) i := fun i => f23 _ _ (by omega) (by omega)
  have v10 : σ3 (8 + b) 10 = σ0 (8 + b) 10 + 1 := by rw [v, kA10, c10]
  have v6 : σ3 (8 + b) 6 = σ0 (8 + b) 6 + xt_ln l + 1 := by rw [v, kA6, c6]
  have v8 : σ3 (8 + b) 8 = σ0 (8 + b) 8 := by rw [v, kAO _ _ (by omega) (by omega) (by omega), F01 _ _ (by unfold ef_D; omega)]
  have v15 : σ3 (23 + b) 15 = σ0 (23 + b) 15 := by rw [f23 _ _ (by omega) (by omega), kAO _ _ (by omega) (by omega) (by omega), y15]
  have w10 : σ4 (8 + b) 10 = σ0 (8 + b) 10 + 1 := by rw [d10, v10]
  have w6 : σ4 (8 + b) 6 = σ0 (8 + b) 6 + xt_ln l + 1 + xt_ln r := by rw [d6, v6]
  have w8 : σ4 (8 + b) 8 = σ0 (8 + b) 8 := by rw [F34 _ _ (by unfold ef_D; omega), v8]
  have w15 : σ4 (23 + b) 15 = σ0 (23 + b) 15 := by rw [z15, v15]
  have x8 : σ5 (8 + b) 8 = σ0 (8 + b) 8 := by rw [kBO _ _ (by omega) (by omega) (by omega), w8]
  have x8' : σ7 (8 + b) 8 = σ0 (8 + b) 8 := by rw [o2 _ _ (by omega) (by omega), o1 _ _ (by omega) (by omega), x8]
  have x17 : σ5 (17 + b) (σ0 (8 + b) 10) = xt_lo l := by rw [kBO _ _ (by omega) (by omega) (by omega), F34 _ _ (by unfold ef_D; omega), f23 _ _ (by omega) (by omega), ← c10, kA17, y1]
  have x18 : σ5 (18 + b) (σ0 (8 + b) 10) = xt_hi l := by rw [kBO _ _ (by omega) (by omega) (by omega), F34 _ _ (by unfold ef_D; omega), f23 _ _ (by omega) (by omega), ← c10, kA18, y2]
  have x17' : σ7 (17 + b) (σ0 (8 + b) 10 + 1) = xt_lo r := by rw [o2 _ _ (by omega) (by omega), o1 _ _ (by omega) (by omega), ← w10, kB17, z1]
  have x18' : σ7 (18 + b) (σ0 (8 + b) 10 + 1) = xt_hi r := by rw [o2 _ _ (by omega) (by omega), o1 _ _ (by omega) (by omega), ← w10, kB18, z2]
  have f12 : ef_R b (σ0 (8 + b) 6 + xt_ln l) (σ0 (8 + b) 10) (σ0 (23 + b) 15) σ1 σ2 := ef_R_kp k1 (by omega) (by omega)
  have f23' : ∀ n t p : Int, ef_R b n t p σ2 σ3 := fun n t p => ef_R_tk f23
  have f34 : ef_R b (σ0 (8 + b) 6 + xt_ln l + 1) (σ0 (8 + b) 10) (σ0 (23 + b) 15) σ3 σ4 := ef_R_mono F34 (by omega) (by omega) (by omega)
  have f45 : ef_R b (σ0 (8 + b) 6 + xt_ln l + 1 + xt_ln r) (σ0 (8 + b) 10) (σ0 (23 + b) 15) σ4 σ5 := ef_R_kp k2 (by omega) (by omega)
  have f56 : ef_R b (σ0 (8 + b) 6 + xt_ln l + 1 + xt_ln r + 1) (σ0 (8 + b) 10) (σ0 (23 + b) 15) σ5 σ6 := ef_R_em m1 (by omega)
  have f67 : ef_R b (σ0 (8 + b) 6 + xt_ln l + 1 + xt_ln r + 2) (σ0 (8 + b) 10) (σ0 (23 + b) 15) σ6 σ7 := ef_R_em m2 (by omega)
  have f78 : ef_R b (σ0 (8 + b) 6 + xt_ln l + 1 + xt_ln r + 3) (σ0 (8 + b) 10) (σ0 (23 + b) 15) σ7 σ8 := ef_R_em m3 (by omega)
  have f89 : ef_R b (σ0 (8 + b) 6 + xt_ln l + 1 + xt_ln r + 4) (σ0 (8 + b) 10) (σ0 (23 + b) 15) σ8 σ9 := ef_R_em m4 (by omega)
  have zO : ∀ a k : Int, ¬ (a = 8 + b ∧ k = 10) → js_up σ9 (8 + b) 10 (σ0 (8 + b) 10) a k = σ9 a k := fun a k g => js_up_ne _ g
  have f9B : ∀ n t p : Int, ef_R b n t p σ9 σ11 := fun n t p => ef_R_trans (fun a k g => zO a k (fun hh => g (ef_D8 ⟨hh.1, by omega⟩))) (ef_R_tk f)
  have f8B : ef_R b (σ0 (8 + b) 6 + xt_ln l + 1 + xt_ln r + 4) (σ0 (8 + b) 10) (σ0 (23 + b) 15) σ8 σ11 := ef_R_trans f89 (f9B _ _ _)
  have f7B : ef_R b (σ0 (8 + b) 6 + xt_ln l + 1 + xt_ln r + 3) (σ0 (8 + b) 10) (σ0 (23 + b) 15) σ7 σ11 := ef_R_trans f78 (ef_R_mono f8B (by omega) (Int.le_refl _) (Int.le_refl _))
  have f6B : ef_R b (σ0 (8 + b) 6 + xt_ln l + 1 + xt_ln r + 2) (σ0 (8 + b) 10) (σ0 (23 + b) 15) σ6 σ11 := ef_R_trans f67 (ef_R_mono f7B (by omega) (Int.le_refl _) (Int.le_refl _))
  have f5B : ef_R b (σ0 (8 + b) 6 + xt_ln l + 1 + xt_ln r + 1) (σ0 (8 + b) 10) (σ0 (23 + b) 15) σ5 σ11 := ef_R_trans f56 (ef_R_mono f6B (by omega) (Int.le_refl _) (Int.le_refl _))
  have f4B : ef_R b (σ0 (8 + b) 6 + xt_ln l + 1 + xt_ln r) (σ0 (8 + b) 10) (σ0 (23 + b) 15) σ4 σ11 := ef_R_trans f45 (ef_R_mono f5B (by omega) (Int.le_refl _) (Int.le_refl _))
  have f2B : ef_R b (σ0 (8 + b) 6 + xt_ln l + 1) (σ0 (8 + b) 10) (σ0 (23 + b) 15) σ2 σ11 := ef_R_trans (f23' _ _ _) (ef_R_trans f34 (ef_R_mono f4B (by omega) (Int.le_refl _) (Int.le_refl _)))
  have f1B : ef_R b (σ0 (8 + b) 6 + xt_ln l) (σ0 (8 + b) 10) (σ0 (23 + b) 15) σ1 σ11 := ef_R_trans f12 (ef_R_mono f2B (by omega) (Int.le_refl _) (Int.le_refl _))
  have f0B : ef_R b (σ0 (8 + b) 6) (σ0 (8 + b) 10) (σ0 (23 + b) 15) σ0 σ11 := ef_R_trans F01 (ef_R_mono f1B (by omega) (Int.le_refl _) (Int.le_refl _))
  have h1 := hg_ef hb hg0 F01
  have h2 := hg_ef hb h1 f12
  have h3 := hg_ef hb h2 (f23' 0 0 0)
  have h4 := hg_ef hb h3 f34
  have h5 := hg_ef hb h4 f45
  have h6 := hg_ef hb h5 f56
  have h7 := hg_ef hb h6 f67
  have h8 := hg_ef hb h7 f78
  have h9 := hg_ef hb h8 f89
  have n33 : ρ2 83 33 = ρ1 83 33 := t12 _ _ (by omega)
  have n34 : ρ4 83 33 = ρ3 83 33 := t34 _ _ (by omega)
  have G12 : eg_R (ρ1 83 33) ρ1 ρ2 := eg_R_t9 t12
  have G34 : eg_R (ρ3 83 33) ρ3 ρ4 := eg_R_t9 t34
  have G45 : eg_R (ρ3 83 33) ρ4 ρ5 := by
    have := eg_R_nw hw
    rw [n34] at this
    exact this
  have G35 : eg_R (ρ3 83 33) ρ3 ρ5 := eg_R_trans G34 G45 (Int.le_refl _)
  have G15 : eg_R (ρ1 83 33) ρ1 ρ5 := eg_R_trans (eg_R_trans G12 G23 (by omega)) G35 (by omega)
  have G05 : eg_R (ρ0 83 33) ρ0 ρ5 := eg_R_trans G01 G15 (by omega)
  obtain ⟨hw1, ⟨hw2, hw3, hw4, hw5⟩, hw6, hw7, hw8, hw9, hwO⟩ := hw
  have s : ∀ i : Int, i ≠ 10 → σ11 (8 + b) i = σ9 (8 + b) i := fun i hi => by rw [f _ _ (by omega) (by omega), zO _ _ (by omega)]
  have s6 : σ11 (8 + b) 6 = σ0 (8 + b) 6 + xt_ln l + 1 + xt_ln r + 5 := by rw [s _ (by decide), e4, e3, e2, e1, kB6, w6]; omega
  have cn1 := H1.2.2.2.2.2.1.2.1
  have cn2 := H2.2.2.2.2.2.1.2.1
  refine ⟨⟨rd_R_of R (fun _ _ => rfl) (fun _ _ _ _ => rfl) (fun i g1 g2 => hwO _ _ (by omega) (by omega)) (fun i => hwO _ _ (by omega) (by omega)), by omega, ?_, f0B, G05, by omega, by push_cast at g2' ⊢; omega⟩, ?_, ⟨⟨?_, ?_, ?_, ?_, ?_⟩, fun hs => ?_⟩, ⟨?_, ⟨(show (20 : Int) ≤ 21 ∧ (21 : Int) ≤ 28 ∧ (21 : Int) ≠ 25 by decide), ?_, ?_⟩, ⟨?_, ?_, ?_⟩, by omega, by omega, hw9, st_dz (x := 1 + max (xt_dp l) (xt_dp r)) rfl (by
    have a1 := xr_zz H1
    have a2 := xr_zz H2
    have a3 : ρ2 83 10 = ρ1 83 10 := t12 _ _ (by omega)
    unfold zz_b
    omega)⟩⟩
  · rw [hwO _ _ (by omega) (by omega), t34 _ _ (by omega), dp2, t12 _ _ (by omega), dp1]
  · obtain ⟨x, xa, xb, xc, xd⟩ := H1.2.1
    obtain ⟨y, ya, yb, yc, yd⟩ := H2.2.1
    refine ⟨max x y, by omega, by omega, ?_, ?_⟩
    · rw [hwO _ _ (by omega) (by omega), t34 _ _ (by omega), yc, t12 _ _ (by omega), xc]
      omega
    · rw [s _ (by decide), o4 _ _ (by omega) (by omega), o3 _ _ (by omega) (by omega), o2 _ _ (by omega) (by omega), o1 _ _ (by omega) (by omega), kBO _ _ (by omega) (by omega) (by omega), yd, v, kAO _ _ (by omega) (by omega) (by omega), xd]
      omega
  · rw [f _ _ (by omega) (by omega), zO _ _ (by omega), o4 _ _ (by omega) (by omega), o3 _ _ (by omega) (by omega), o2 _ _ (by omega) (by omega), o1 _ _ (by omega) (by omega), kBO _ _ (by omega) (by omega) (by omega), w15]
  · rw [f _ _ (by omega) (by omega), js_up_same]
  · rw [s6, st_ln21]
    omega
  · rw [s _ (by decide), m4.2.1, m3.2.1, m2.2.1, m1.2.1, k2.2.2.1, H2.2.2.1.2.1.2.2.1, v, k1.2.2.1, H1.2.2.1.2.1.2.2.1, st_cn21]
    omega
  · rw [s _ (by decide), o4 _ _ (by omega) (by omega), o3 _ _ (by omega) (by omega), o2 _ _ (by omega) (by omega), o1 _ _ (by omega) (by omega), k2.1.2.1, H2.2.2.1.2.1.2.2.2, v10, w10, v, k1.1.2.1, H1.2.2.1.2.1.2.2.2, c10, st_mt21]
    omega
  · rw [s6] at hs
    rw [st_cd21]
    have i1 := k1.2.2.2.1 (by omega)
    have e8 : σ1 (8 + b) 8 = σ0 (8 + b) 8 := F01 _ _ (by unfold ef_D; omega)
    rw [e8, c6, c10] at i1
    have i2 := H2.2.2.1.2.2 (by omega)
    rw [v8, v10, v6] at i2
    have i3 := k2.2.2.2.1 (by omega)
    rw [w8, w6, w10] at i3
    have m1' := m1
    rw [x17, x18, x8] at m1'
    have i4 := em_ci2 (u := σ0 (8 + b) 8) m1' (by omega)
    rw [kB6, w6] at i4
    have i5 := em_ci0 (u := σ0 (8 + b) 8) m2 (by omega)
    rw [e1, kB6, w6] at i5
    have m3' := m3
    rw [x17', x18', x8'] at m3'
    have i6 := em_ci2 (u := σ0 (8 + b) 8) m3' (by omega)
    rw [e2, e1, kB6, w6] at i6
    have i7 := em_ci1 (u := σ0 (8 + b) 8) (x := a) (y := 0) hb m4 (by omega) ha.1 ha.2 (h8 a ha.1 ha.2)
    rw [e3, e2, e1, kB6, w6] at i7
    rw [show σ0 (8 + b) 6 + xt_ln l + 1 + xt_ln r + 1 + 1 = σ0 (8 + b) 6 + xt_ln l + 1 + xt_ln r + 2 by omega] at i5 i6 i7
    rw [show σ0 (8 + b) 6 + xt_ln l + 1 + xt_ln r + 2 + 1 = σ0 (8 + b) 6 + xt_ln l + 1 + xt_ln r + 3 by omega] at i6 i7
    rw [show σ0 (8 + b) 6 + xt_ln l + 1 + xt_ln r + 3 + 1 = σ0 (8 + b) 6 + xt_ln l + 1 + xt_ln r + 4 by omega] at i7
    exact ⟨xt_cd_ef hb f1B h1 (Int.le_refl _) (H1.2.2.1.2.2 (by omega)), ci_ef hb f2B h2 (by omega) i1, xt_cd_ef hb f4B h4 (by omega) i2, ci_ef hb f5B h5 (by omega) i3, ci_ef hb f6B h6 (by omega) i4, ci_ef hb f7B h7 (by omega) i5, ci_ef hb f8B h8 (by omega) i6, ci_ef hb (f9B (σ0 (8 + b) 6 + xt_ln l + 1 + xt_ln r + 5) 0 0) h9 (by omega) i7⟩
  · rw [st_nd21, hw2, hw6, hw7, hw8]
    exact ⟨⟨by omega, by omega⟩, by omega, rfl, rfl, xt_nd_eg (M' := ρ0 83 33) (N' := ρ4 83 33) H1.2.2.2.1 G15 (by omega), xt_nd_eg (M' := ρ0 83 33) (N' := ρ4 83 33) H2.2.2.2.1 G35 (by omega)⟩
  · rw [st_w21]
    exact ⟨H1.2.2.2.2.1.1, H1.2.2.2.2.1.2.1, H2.2.2.2.2.1.1, H2.2.2.2.2.1.2.1⟩
  · unfold st_G
    rw [st_g21]
    have l2 := xr_L_up H2.2.1
    have l5 : ρ5 83 44 = ρ3 83 44 := by rw [hwO _ _ (by omega) (by omega), t34 _ _ (by omega)]
    have l1 : ρ2 83 44 = ρ1 83 44 := t12 _ _ (by omega)
    exact ⟨hsv, hsz, xt_G_eg H1.2.2.2.2.1.2.2 G15 (by omega), xt_G_eg H2.2.2.2.2.1.2.2 G35 (by omega)⟩
  · have b1 := H1.2.2.2.2.2.1.1
    have b2 := H2.2.2.2.2.2.1.1
    rw [st_ln21]
    push_cast at b1 b2 ⊢
    omega
  · rw [st_cn21]
    omega
  · have b1 := H1.2.2.2.2.2.1.2.2
    have b2 := H2.2.2.2.2.2.1.2.2
    rw [v10] at b2
    rw [st_mt21]
    omega
