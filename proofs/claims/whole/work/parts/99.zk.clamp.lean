/-! part 99.zk: clamp: its C, its ends, its faults -/
def cl_f (a c x : Int) : Int := min (max a x) c
theorem cl_in {a c lo hi : Int} (h : -2000000000 ≤ lo ∧ lo ≤ hi ∧ hi ≤ 2000000000) (ha : -2000000000 ≤ a ∧ a ≤ 2000000000) (hc : -2000000000 ≤ c ∧ c ≤ 2000000000) : -2000000000 ≤ cl_f a c lo ∧ cl_f a c lo ≤ cl_f a c hi ∧ cl_f a c hi ≤ 2000000000 := by
  unfold cl_f
  omega
/-- the reference only unwinds -/
def fu_P (E : js_E) (ρ : js_S) (R : Option (Outcome × ip_W)) : Prop := ∃ ρ' : js_S, R = js_r E (0, 0) ρ' ∧ rx_F ρ' ∧ ρ' 83 9 = ρ 83 9 ∧ ∀ N : Int, eg_R N ρ ρ'
theorem xf_fu {E : js_E} {b F : Int} {B : Int → Int} {σ ρ ρ' : js_S} {j : Nat} {R Rr : Option (Outcome × ip_W)} (h : xf_P E b σ ρ ρ' R) (h2 : fu_P E ρ' Rr) : xo_P E b F B σ ρ j R Rr := by
  obtain ⟨f1, f2, σ', f3, f4⟩ := h
  obtain ⟨ρ2, g1, g2, g3, g4⟩ := h2
  exact Or.inr ⟨ρ2, 0, g1, g2, eg_R_trans f2 (g4 (ρ 83 33)) (Int.le_refl _), σ', by rw [g3]; exact f3, f4⟩
section OU
variable {E : js_E} {d e : Nat} {b F : Int} {B : Int → Int} {X : Int → Prop} {σ ρ : js_S} {j : Nat}
theorem rx_cs_okk (E : js_E) (hb : b = 0 ∨ b = 25) (hR : rd_R σ ρ j) (g3 : rx_cs ρ 83 9 = 0) : rx_ok (rx_cs ρ) := by
  have hok := hR.2.2.1
  have q0 : rx_ck (rx_c1 ρ) (rx_cm ρ) = 0 := by
    by_cases hh : rx_ck (rx_c1 ρ) (rx_cm ρ) = 0
    · exact hh
    · have := (rx_cs_bad hok hh).1.1
      omega
  have hm : rx_cm ρ = false ∨ rx_ct (rx_c1 ρ) = 0 := by
    by_cases h3 : rx_ct (rx_c1 ρ) = 0
    · exact Or.inr h3
    · cases h5 : rx_cm ρ
      · exact Or.inl rfl
      · have := (rx_cs_ty hok q0 h5 h3).1.1
        omega
  obtain ⟨σ9, j9, _, hR9, _, _, _⟩ := y_const_1 (E := E) (d := 1) (t := 0) hb hR (by omega)
  have ecs := rx_cs_ok q0 hm
  exact (rd_R_of hR9 (fun _ _ => rfl) (fun _ _ _ _ => rfl) (fun i _ _ => by rw [ecs, js_up_ni _ (by omega), js_up_ni _ (by omega)]) (fun i => by rw [ecs, js_up_na _ (by decide), js_up_na _ (by decide)])).2.2.1
/-- a C that is an int -/
theorem y_cof (hb : b = 0 ∨ b = 25) (hx : xs_R E b F B X σ ρ) (hR : rd_R σ ρ j) (hd : 9 ≤ d) (he : 5 ≤ e) : ∃ ρ1 : js_S, js_J E e 209 0 [(2, 83), (0, 0)] [] ρ = js_r0 E ρ1 ∧ tf_R ρ ρ1 ∧ ((ρ1 83 9 = 0 ∧ rx_ok ρ1 ∧ ρ1 83 29 = ρ 83 6 ∧ (-2000000000 ≤ ρ1 83 28 ∧ ρ1 83 28 ≤ 2000000000) ∧ ∃ (σ' : js_S) (j' : Nat), js_J E d 41 0 [(2, 21 + b), (0, 0), (9, 0), (9, 0), (9, 0)] [] σ = js_r E (0, ρ1 83 28) σ' ∧ rd_R σ' (rx_next ρ1) j' ∧ cf_R b σ σ' ∧ σ' (21 + b) 1 = ρ1 83 28 ∧ σ' (21 + b) 2 = ρ 83 6 ∧ j < j') ∨ (rx_F ρ1 ∧ ∃ σ' : js_S, js_J E d 41 0 [(2, 21 + b), (0, 0), (9, 0), (9, 0), (9, 0)] [] σ = th_P E σ' (ρ1 83 9) ∧ cf_R b σ σ')) := by
  have hok := hR.2.2.1
  have hY := hx.1
  obtain ⟨c1a, c1b⟩ := y_read (E := E) (d := d) (t := 0) hb hY hR (by omega) hx.2.1 (by decide) (by decide)
  have r1 := r_constantOf (E := E) (d := e) (t := 0) hok hY.1 hY.2.1 (by omega) (rd_c8 hR) (by decide) (by decide)
  refine ⟨rx_co ρ 0, r1, tf_R_co _ _, ?_⟩
  by_cases q1 : rx_ce ρ 0 = 0
  · obtain ⟨σ1, j1, e1, hR1, hY1, f1, s0, s1, s2, hj1⟩ := c1a q1
    clear c1a c1b
    obtain ⟨g1, g2, g3⟩ := rx_co_ok (by decide) hok q1
    have v1 := rx_cs_27 hok hY.1 hY.2.1 (rd_c8 hR) g3
    rw [g1]
    exact Or.inl ⟨g3, rx_cs_okk E hb hR g3, rx_cs_29 _, ⟨v1.2.2.1, v1.2.2.2⟩, σ1, j1, e1, hR1, f1, s1, s2, hj1⟩
  · obtain ⟨σ1, e1, f1⟩ := c1b q1
    obtain ⟨g1, g2⟩ := rx_co_bad hok q1 (by decide)
    refine Or.inr ⟨g1, σ1, ?_, f1⟩
    rw [g2]
    exact e1
/-- the end of clamp in the reference -/
theorem r_clamp (he : 5 ≤ e) (h9 : ρ 83 9 = 0) (n0 : 0 ≤ ρ 83 33) (n1 : ρ 83 33 < 66000) {x1 x2 x3 x4 : Int} (h2 : 0 ≤ x2 ∧ x2 < 66000) (h3 : -2000000000 ≤ x3 ∧ x3 ≤ 2000000000) (h4 : -2000000000 ≤ x4 ∧ x4 ≤ 2000000000) (hl : -2000000000 ≤ ρ 105 x2 ∧ ρ 105 x2 ≤ ρ 106 x2 ∧ ρ 106 x2 ≤ 2000000000) : ∃ ρ' : js_S, js_J E e 229 111 [(2, 83), (0, x1), (0, x2), (0, x3), (0, x4), (9, 0), (9, 0), (9, 0), (9, 0)] [] ρ = js_r E (0, ρ 83 33) ρ' ∧ nw_R ρ ρ' 9 0 (cl_f x3 x4 (ρ 105 x2)) (cl_f x3 x4 (ρ 106 x2)) x2 x3 x4 := by
  obtain ⟨ρ', e1, hw⟩ := r_node (E := E) (e := e - 1) (ρ := ρ) (k := 9) (ty := 0) (lo := cl_f x3 x4 (ρ 105 x2)) (hi := cl_f x3 x4 (ρ 106 x2)) (a := x2) (b := x3) (c := x4) h9 n0 n1 (by decide) (by decide)
  refine ⟨ρ', ?_, hw⟩
  clear hw
  have k : ∀ y : Int, -2000000000 ≤ y → y ≤ 2000000000 → js_w (if js_w (if js_w x3 < js_w y then y else x3) < js_w x4 then (if js_w x3 < js_w y then y else x3) else x4) = cl_f x3 x4 y := fun y y1 y2 => by
    rw [w_max (x := x3) (y := y) (by omega) (by omega) (by omega) (by omega), w_min (x := max x3 y) (y := x4) (by omega) (by omega) (by omega) (by omega)]
    exact js_w_of (by omega) (by omega)
  rw [b_229_111 (by omega), h9, if_neg (show ¬ 0 < js_w 0 by decide), js_w_of (x := x2) (by omega) (by omega), if_pos h2, k (ρ 105 x2) hl.1 (by omega), k (ρ 106 x2) (by omega) hl.2.2, k_229_168 (by omega) e1, b_229_171]
theorem r_229_111F (h : rx_F ρ) (he : 5 ≤ e) {x1 x2 x3 x4 : Int} : js_J E e 229 111 [(2, 83), (0, x1), (0, x2), (0, x3), (0, x4), (9, 0), (9, 0), (9, 0), (9, 0)] [] ρ = js_r E (0, 0) ρ := by
  rw [b_229_111 (by omega), if_pos (rx_F_9 h)]
theorem r_229_101F (h : rx_F ρ) (he : 5 ≤ e) {x1 x2 x3 x4 : Int} : fu_P E ρ (js_J E e 229 101 [(2, 83), (0, x1), (0, x2), (0, x3), (0, x4), (9, 0), (9, 0), (9, 0), (9, 0)] [] ρ) := by
  refine ⟨js_up ρ 83 10 (ρ 83 10 - 1), ?_, rx_F_up h (by decide) (by decide), js_up_ni _ (by decide), fun N => eg_R_up (by omega)⟩
  rw [b_229_101, k_229_102 (by omega) (r_nextF h.1 h.2.1), b_229_105, k_229_108 (by omega) (r_leaveF h (by omega) (by decide) (by decide)), r_229_111F (rx_F_up h (by decide) (by decide)) he]
theorem r_229_73F (h : rx_F ρ) (he : 5 ≤ e) {x1 x2 x3 : Int} : fu_P E ρ (js_J E e 229 73 [(2, 83), (0, x1), (0, x2), (0, x3), (9, 0), (9, 0), (9, 0), (9, 0), (9, 0)] [] ρ) := by
  rw [b_229_73, if_neg (show ¬ js_w (ρ 83 9) = 0 by have := rx_F_9 h; omega)]
  exact r_229_101F h he
theorem fu_29 {R : Option (Outcome × ip_W)} (h : fu_P E (js_up ρ 83 29 (ρ 83 6)) R) : fu_P E ρ R := by
  obtain ⟨ρ', g1, g2, g3, g4⟩ := h
  exact ⟨ρ', g1, g2, by rw [g3, js_up_ni _ (by decide)], fun N => eg_R_trans (N' := N) (eg_R_up (by omega)) (g4 N) (Int.le_refl _)⟩
theorem r_229_68F (h : rx_F ρ) (he : 5 ≤ e) {x1 x2 x3 : Int} : fu_P E ρ (js_J E e 229 68 [(2, 83), (0, x1), (0, x2), (0, x3), (9, 0), (9, 0), (9, 0), (9, 0), (9, 0)] [] ρ) := by
  rw [b_229_68, k_229_70 (by omega) (r_constantOfF h (by omega))]
  exact fu_29 (r_229_73F (rx_F_up h (by decide) (by decide)) he)
theorem r_229_53F (h : rx_F ρ) (he : 5 ≤ e) {x1 x2 : Int} : fu_P E ρ (js_J E e 229 53 [(2, 83), (0, x1), (0, x2), (9, 0), (9, 0), (9, 0), (9, 0), (9, 0), (9, 0)] [] ρ) := by
  rw [b_229_53, k_229_59 (by omega) (r_nextF h.1 h.2.1), b_229_62, k_229_65 (by omega) (r_takeF h (by omega) (by decide) (by decide))]
  exact r_229_68F h he
theorem r_229_48F (h : rx_F ρ) (he : 5 ≤ e) {x1 x2 : Int} : fu_P E ρ (js_J E e 229 48 [(2, 83), (0, x1), (0, x2), (9, 0), (9, 0), (9, 0), (9, 0), (9, 0), (9, 0)] [] ρ) := by
  rw [b_229_48, k_229_50 (by omega) (r_constantOfF h (by omega))]
  exact fu_29 (r_229_53F (rx_F_up h (by decide) (by decide)) he)
theorem r_229_42F (h : rx_F ρ) (he : 5 ≤ e) {x1 x2 : Int} : fu_P E ρ (js_J E e 229 42 [(2, 83), (0, x1), (0, x2), (9, 0), (9, 0), (9, 0), (9, 0), (9, 0), (9, 0)] [] ρ) := by
  rw [b_229_42, k_229_45 (by omega) (r_takeF h (by omega) (by decide) (by decide))]
  exact r_229_48F h he
theorem r_229_19F (h : rx_F ρ) (he : 5 ≤ e) {x1 z : Int} : fu_P E ρ (js_J E e 229 19 [(2, 83), (0, x1), (9, 0), (9, 0), (9, 0), (9, 0), (9, 0), (9, 0), (9, 0)] [(0, z)] ρ) := by
  rw [b_229_19, if_neg (show ¬ js_w (ρ 83 9) = 0 by have := rx_F_9 h; omega)]
  exact r_229_42F h he
theorem r_229_15F (h : rx_F ρ) (he : 9 ≤ e) {x1 : Int} : fu_P E ρ (js_J E e 229 15 [(2, 83), (0, x1), (9, 0), (9, 0), (9, 0), (9, 0), (9, 0), (9, 0), (9, 0)] [] ρ) := by
  rw [b_229_15, k_229_16 (by omega) (r_termF h (by omega))]
  exact r_229_19F h (by omega)
end OU
/-- e, a C, a C: the tree of a clamp -/
theorem xr_clamp {E : js_E} {b F : Int} {B : Int → Int} {X : Int → Prop} {σ0 ρ0 σ1 ρ1 σ3 σ4 σ6 σ8 ρ6 ρ7 : js_S} {j0 j1 j6 : Nat} {n1 a c lo hi : Int} {l : tr_T} (hb : b = 0 ∨ b = 25) (hx : xs_R E b F B X σ0 ρ0) (hn : xn_R b σ0 ρ0 j0) {z z1 : Int} (h : xz_R z1 b F B σ0 ρ0 j0 σ1 ρ1 j1 n1 l) (f13 : cf_R b σ1 σ3) (he1 : em_R b (s3_S σ3 b 0 (max a (xt_lo l)) (max a (xt_hi l))) σ4 22 a 0 (max a (xt_lo l)) (max a (xt_hi l)) 0) (f46 : cf_R b σ4 σ6) (he2 : em_R b (s3_S σ6 b 0 lo hi) σ8 23 c 0 lo hi 0) (hR : rd_R σ8 ρ6 j6) (G16 : eg_R (ρ1 83 33) ρ1 ρ6) (n33 : ρ6 83 33 = ρ1 83 33) (n44 : ρ6 83 44 = ρ1 83 44) (n10 : ρ6 83 10 = ρ1 83 10) (hw : nw_R ρ6 ρ7 9 0 lo hi n1 a c) (hj : j1 + 1 ≤ j6) (hty : 0 ≤ (0 : Int) ∧ (0 : Int) < 1000 ∧ -2000000000 ≤ lo ∧ lo ≤ hi ∧ hi ≤ 2000000000) (hty2 : ty_b 0 lo hi) (ha9 : -2147483648 ≤ a ∧ a < 2147483648) (hzz : 2 + xt_dp l ≤ z) : xz_R z b F B σ0 ρ0 j0 σ8 ρ7 j6 (ρ6 83 33) (tr_n 9 0 lo hi 0 a c l .leaf) := by
  have hg0 := xs_hg hx
  have q := h.1.2.1
  have dp := h.1.2.2.1
  have F01 := h.1.2.2.2.1
  have G01 := h.1.2.2.2.2.1
  have m1 := h.1.2.2.2.2.2.1
  have m1' := h.1.2.2.2.2.2.2
  have y15 := h.2.2.1.1.2.2.2
  have c10 := h.2.2.1.2.1.1
  have c6 := h.2.2.1.2.1.2.1
  have kO1 := he1.2.2.2
  have kO2 := he2.2.2.2
  have ll := xt_ln_0 l
  have s3f : ∀ (n t p ty lo hi : Int) (σ : js_S), ef_R b n t p σ (s3_S σ b ty lo hi) := fun n t p ty lo hi σ a i g => s3_o _ (fun hh => g (ef_D23 ⟨hh.1, by omega⟩))
  have w3 : ∀ i lo hi : Int, s3_S σ3 b 0 lo hi (8 + b) i = σ1 (8 + b) i := fun i lo hi => by rw [s3_o _ (by omega), f13 _ _ (by omega) (by omega) (by omega)]
  have k6a : σ4 (8 + b) 6 = σ1 (8 + b) 6 + 1 := by rw [he1.1, w3]
  have w6 : ∀ i lo hi : Int, s3_S σ6 b 0 lo hi (8 + b) i = σ4 (8 + b) i := fun i lo hi => by rw [s3_o _ (by omega), f46 _ _ (by omega) (by omega) (by omega)]
  have k6b : σ8 (8 + b) 6 = σ1 (8 + b) 6 + 2 := by rw [he2.1, w6, k6a]; omega
  have kO3 : ∀ i : Int, i ≠ 6 → i ≠ 7 → σ8 (8 + b) i = σ1 (8 + b) i := fun i g1 g2 => by rw [kO2 _ _ (by omega) (by omega), w6, kO1 _ _ (by omega) (by omega), w3]
  have F14 : ef_R b (σ0 (8 + b) 6 + xt_ln l) (σ0 (8 + b) 10) (σ0 (23 + b) 15) σ1 σ4 := ef_R_trans (ef_R_cf f13) (ef_R_trans (s3f _ _ _ _ _ _ _) (ef_R_em he1 (by rw [w3]; omega)))
  have F48 : ef_R b (σ0 (8 + b) 6 + xt_ln l + 1) (σ0 (8 + b) 10) (σ0 (23 + b) 15) σ4 σ8 := ef_R_trans (ef_R_cf f46) (ef_R_trans (s3f _ _ _ _ _ _ _) (ef_R_em he2 (by rw [w6]; omega)))
  have F18 : ef_R b (σ0 (8 + b) 6 + xt_ln l) (σ0 (8 + b) 10) (σ0 (23 + b) 15) σ1 σ8 := ef_R_trans F14 (ef_R_mono F48 (by omega) (by omega) (by omega))
  have hg1 := hg_ef hb hg0 F01
  have hg4 := hg_ef hb hg1 F14
  have G67 : eg_R (ρ6 83 33) ρ6 ρ7 := eg_R_nw hw
  have G17 : eg_R (ρ1 83 33) ρ1 ρ7 := eg_R_trans G16 G67 (by omega)
  obtain ⟨hw1, ⟨hw2, hw3, hw4, hw5⟩, hw6, hw7, hw8, hw9, hwO⟩ := hw
  have n0 : 0 ≤ ρ0 83 33 := hn.2.2.2.2.1.1
  refine ⟨⟨rd_R_of hR (fun i _ => rfl) (fun a i _ _ => rfl) (fun i g1 g2 => by rw [hwO _ _ (by omega) (by omega)]) (fun i => by rw [hwO _ _ (by omega) (by omega)]), by omega, ?_, ef_R_trans F01 (ef_R_mono F18 (by omega) (by omega) (by omega)), eg_R_trans G01 G17 m1, by omega, by omega⟩, ?_, ⟨⟨?_, ?_, ?_, ?_⟩, ⟨?_, ?_, ?_, ?_⟩, fun hs => ?_⟩, ⟨?_, ⟨?_, ?_, ?_⟩, ⟨?_, ?_, ?_⟩, xr_Y_op hty hty2 (by omega) hw9 (xt_dz (x := 2 + xt_dp l) rfl hzz)⟩⟩
  · rw [hwO _ _ (by omega) (by omega), n10, dp]
  · obtain ⟨x, x1, x2, x3, x4⟩ := h.2.1
    exact ⟨x, x1, x2, by rw [hwO _ _ (by omega) (by omega), n44, x3], by rw [kO3 _ (by decide) (by decide), x4]⟩
  · rw [kO2 _ _ (by omega) (by omega), s3_0]
    rfl
  · rw [kO2 _ _ (by omega) (by omega), s3_1]
    rfl
  · rw [kO2 _ _ (by omega) (by omega), s3_2]
    rfl
  · rw [kO2 _ _ (by omega) (by omega), s3_o _ (by omega), f46 _ _ (by omega) (by omega) (by omega), kO1 _ _ (by omega) (by omega), s3_o _ (by omega), f13 _ _ (by omega) (by omega) (by omega)]
    exact y15
  · rw [kO3 _ (by decide) (by decide)]
    exact c10
  · rw [k6b, c6, xt_ln9]
    omega
  · have cn := h.2.2.2.2.2.1.2.1
    rw [he2.2.1, w6, he1.2.1, w3, h.2.2.1.2.1.2.2.1, xt_cn9]
    omega
  · rw [kO3 _ (by decide) (by decide), h.2.2.1.2.1.2.2.2, xt_mt9]
  · rw [xt_cd9]
    have k1 := em_ci0 (u := σ0 (8 + b) 8) he1 (by rw [w3]; omega)
    rw [w3, c6] at k1
    have k2 := em_ci0 (u := σ0 (8 + b) 8) he2 (by rw [w6]; omega)
    rw [w6, k6a, c6] at k2
    exact ⟨xt_cd_ef hb F18 hg1 (Int.le_refl _) (h.2.2.1.2.2 (by omega)), ci_ef hb F48 hg4 (by omega) k1, k2⟩
  · rw [xt_nd9, hw2, hw3, hw4, hw5, hw6, hw7, hw8]
    exact ⟨⟨by omega, by omega, rfl, rfl, rfl, rfl⟩, xt_nd_eg (M' := ρ0 83 33) (N' := ρ6 83 33) h.2.2.2.1 G17 (by omega), rfl, rfl⟩
  · exact xt_e_n (by decide) (by decide) hty.2.2 (fun _ => ha9) (fun hh => absurd hh (by decide)) (fun hh => absurd hh (by decide))
  · rw [xt_w9]
    exact ⟨h.2.2.2.2.1.1, h.2.2.2.2.1.2.1⟩
  · unfold xt_G
    rw [xt_g9]
    exact xt_G_eg h.2.2.2.2.1.2.2 G17 (by rw [hwO _ _ (by omega) (by omega), n44]; exact Int.le_refl _)
  · rw [xt_ln9]
    have a1 := h.2.2.2.2.2.1.1
    omega
  · have cn := h.2.2.2.2.2.1.2.1
    rw [xt_cn9]
    omega
  · rw [xt_mt9]
    exact h.2.2.2.2.2.1.2.2
