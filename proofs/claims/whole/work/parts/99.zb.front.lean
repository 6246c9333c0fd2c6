/-! part 99.zb: operands without names, and what stands in front of them -/
/-- an operand or a whole e was read by both, or both have the same fault -/
def xo_P (E : js_E) (b F : Int) (B : Int → Int) (σ ρ : js_S) (j : Nat) (Rc Rr : Option (Outcome × ip_W)) : Prop := (∃ (σ' ρ' : js_S) (j' : Nat) (n : Int) (e : tr_T), Rr = js_r E (0, n) ρ' ∧ Rc = js_r0 E σ' ∧ xk_R b F B σ ρ j σ' ρ' j' n e) ∨ (∃ (ρ' : js_S) (v : Int), Rr = js_r E (0, v) ρ' ∧ xf_P E b σ ρ ρ' Rc)
/-- every e that begins at token J0 or behind it is read in step -/
def xe_P (E : js_E) (b F : Int) (B : Int → Int) (X : Int → Prop) (J0 : Nat) : Prop := ∀ (d e : Nat) (σ ρ : js_S) (j : Nat), J0 ≤ j → xs_R E b F B X σ ρ → xn_R b σ ρ j → rd_R σ ρ j → σ (8 + b) 10 ≤ 12 * ρ 83 10 → σ (23 + b) 15 ≤ 6 * ρ 83 10 → 4 * (65 - ρ 83 10) + 25 ≤ (d : Int) → 12 * (65 - ρ 83 10) + 25 ≤ (e : Int) → (∃ (σ' ρ' : js_S) (j' : Nat) (n : Int) (t : tr_T), js_J E e 219 0 [(2, 83), (9, 0), (9, 0), (9, 0), (9, 0)] [] ρ = js_r E (0, n) ρ' ∧ js_J E d 61 0 [(2, 23 + b), (9, 0), (9, 0), (9, 0), (9, 0), (9, 0), (9, 0)] [] σ = js_r0 E σ' ∧ xr_R b F B σ ρ j σ' ρ' j' n t ∧ σ' (23 + b) 3 = ρ 83 6) ∨ (∃ (ρ' : js_S) (v : Int), js_J E e 219 0 [(2, 83), (9, 0), (9, 0), (9, 0), (9, 0)] [] ρ = js_r E (0, v) ρ' ∧ xf_P E b σ ρ ρ' (js_J E d 61 0 [(2, 23 + b), (9, 0), (9, 0), (9, 0), (9, 0), (9, 0), (9, 0)] [] σ))
/-- a number or a variable -/
theorem xr_leaf1 {E : js_E} {b F : Int} {B : Int → Int} {X : Int → Prop} {σ0 ρ0 σ3 ρ3 : js_S} {j0 j3 : Nat} {ty lo hi a : Int} (hn : xn_R b σ0 ρ0 j0) (hR : rd_R σ3 ρ3 j3) (hj : j0 < j3) (m10 : ρ3 83 10 = ρ0 83 10) (FF : ef_R b (σ0 (8 + b) 6) (σ0 (8 + b) 10) (σ0 (23 + b) 15) σ0 σ3) (GG : eg_R (ρ0 83 33) ρ0 ρ3) (nd : ρ3 83 33 = ρ0 83 33 + 1 ∧ ρ3 100 (ρ0 83 33) = 1 ∧ ρ3 101 (ρ0 83 33) = ty ∧ ρ3 105 (ρ0 83 33) = lo ∧ ρ3 106 (ρ0 83 33) = hi ∧ ρ3 102 (ρ0 83 33) = a) (m44 : ρ3 83 44 = ρ0 83 44) (s : σ3 (23 + b) 0 = ty ∧ σ3 (23 + b) 1 = lo ∧ σ3 (23 + b) 2 = hi ∧ σ3 (23 + b) 15 = σ0 (23 + b) 15) (c6 : σ3 (8 + b) 6 = σ0 (8 + b) 6 + 1) (c7 : σ3 (8 + b) 7 = min 400000 (σ0 (8 + b) 7 + 1)) (c10 : σ3 (8 + b) 10 = σ0 (8 + b) 10) (c11 : σ3 (8 + b) 11 = σ0 (8 + b) 11) (c12 : σ3 (8 + b) 12 = σ0 (8 + b) 12) (ci : σ0 (8 + b) 6 < 8192 → ci_P σ3 b (σ0 (8 + b) 8) (σ0 (8 + b) 6) (0, 0, a, 0, 0, lo, hi)) (hty : 0 ≤ ty ∧ ty < 1000 ∧ -2000000000 ≤ lo ∧ lo ≤ hi ∧ hi ≤ 2000000000) (hty2 : ty_b ty lo hi) (h107 : ρ3 107 (ρ0 83 33) = -1) (hzz : 6 ≤ zz_b b σ0 ρ0) : xk_R b F B σ0 ρ0 j0 σ3 ρ3 j3 (ρ0 83 33) (tr_n 1 ty lo hi a 0 0 .leaf .leaf) := by
  obtain ⟨n1, n2, n3, n4, n5, n6⟩ := nd
  obtain ⟨s0, s1, s2, s15⟩ := s
  unfold xn_R at hn
  refine ⟨⟨hR, hj, m10, FF, GG, by omega, by omega⟩, ⟨0, by decide, by decide, by omega, by omega⟩, ⟨⟨s0, s1, s2, s15⟩, ⟨c10, by rw [c6, xt_ln1], by rw [c7, xt_cn1], by rw [c11, xt_mt1]; omega⟩, fun hs => ?_⟩, ⟨?_, ⟨xt_e_n (by decide) (by decide) hty.2.2 (fun hh => absurd hh (by decide)) (fun hh => absurd hh (by decide)) (fun hh => absurd hh (by decide)), by rw [xt_w1]; exact trivial, by unfold xt_G; rw [xt_g1]; exact trivial⟩, ⟨by rw [xt_ln1]; omega, by rw [xt_cn1]; decide, by rw [xt_mt1]; decide⟩, xr_Y_op hty hty2 (by omega) h107 (xt_dz (x := 6) rfl hzz)⟩⟩
  · rw [xt_cd1]
    exact ci (by omega)
  · rw [xt_nd1]
    exact ⟨⟨by omega, by omega, n2, n3, n4, n5⟩, n6⟩
theorem xr_leaf2 {E : js_E} {b F : Int} {B : Int → Int} {X : Int → Prop} {σ0 ρ0 σ3 ρ3 : js_S} {j0 j3 : Nat} {ty lo hi a : Int} (hn : xn_R b σ0 ρ0 j0) (hR : rd_R σ3 ρ3 j3) (hj : j0 < j3) (m10 : ρ3 83 10 = ρ0 83 10) (FF : ef_R b (σ0 (8 + b) 6) (σ0 (8 + b) 10) (σ0 (23 + b) 15) σ0 σ3) (GG : eg_R (ρ0 83 33) ρ0 ρ3) (nd : ρ3 83 33 = ρ0 83 33 + 1 ∧ ρ3 100 (ρ0 83 33) = 2 ∧ ρ3 101 (ρ0 83 33) = ty ∧ ρ3 105 (ρ0 83 33) = lo ∧ ρ3 106 (ρ0 83 33) = hi ∧ ρ3 102 (ρ0 83 33) = a) (m44 : ρ3 83 44 = ρ0 83 44) (s : σ3 (23 + b) 0 = ty ∧ σ3 (23 + b) 1 = lo ∧ σ3 (23 + b) 2 = hi ∧ σ3 (23 + b) 15 = σ0 (23 + b) 15) (c6 : σ3 (8 + b) 6 = σ0 (8 + b) 6 + 1) (c7 : σ3 (8 + b) 7 = min 400000 (σ0 (8 + b) 7 + 1)) (c10 : σ3 (8 + b) 10 = σ0 (8 + b) 10) (c11 : σ3 (8 + b) 11 = σ0 (8 + b) 11) (c12 : σ3 (8 + b) 12 = σ0 (8 + b) 12) (ci : σ0 (8 + b) 6 < 8192 → ci_P σ3 b (σ0 (8 + b) 8) (σ0 (8 + b) 6) (1, 1, a, 0, 0, lo, hi)) (hv : sv_P ρ3 F a) (hty : 0 ≤ ty ∧ ty < 1000 ∧ -2000000000 ≤ lo ∧ lo ≤ hi ∧ hi ≤ 2000000000) (hty2 : ty_b ty lo hi) (h107 : ρ3 107 (ρ0 83 33) = -1) (hzz : 6 ≤ zz_b b σ0 ρ0) : xk_R b F B σ0 ρ0 j0 σ3 ρ3 j3 (ρ0 83 33) (tr_n 2 ty lo hi a 0 0 .leaf .leaf) := by
  obtain ⟨n1, n2, n3, n4, n5, n6⟩ := nd
  obtain ⟨s0, s1, s2, s15⟩ := s
  unfold xn_R at hn
  refine ⟨⟨hR, hj, m10, FF, GG, by omega, by omega⟩, ⟨0, by decide, by decide, by omega, by omega⟩, ⟨⟨s0, s1, s2, s15⟩, ⟨c10, by rw [c6, xt_ln2], by rw [c7, xt_cn2], by rw [c11, xt_mt2]; omega⟩, fun hs => ?_⟩, ⟨?_, ⟨xt_e_n (by decide) (by decide) hty.2.2 (fun hh => absurd hh (by decide)) (fun hh => absurd hh (by decide)) (fun hh => absurd hh (by decide)), by rw [xt_w2]; exact trivial, by unfold xt_G; rw [xt_g2]; exact hv⟩, ⟨by rw [xt_ln2]; omega, by rw [xt_cn2]; decide, by rw [xt_mt2]; decide⟩, xr_Y_op hty hty2 (by omega) h107 (xt_dz (x := 6) rfl hzz)⟩⟩
  · rw [xt_cd2]
    exact ci (by omega)
  · rw [xt_nd2]
    exact ⟨⟨by omega, by omega, n2, n3, n4, n5⟩, n6⟩
section OP
variable {E : js_E} {d e : Nat} {b F : Int} {B : Int → Int} {X : Int → Prop} {σ ρ : js_S} {j : Nat}
/-- a value that is set, made and passed: numbers, true, false -/
theorem y_const (hb : b = 0 ∨ b = 25) (hx : xs_R E b F B X σ ρ) (hn : xn_R b σ ρ j) (hR : rd_R σ ρ j) (h5 : ρ 83 5 ≠ 1) (hd : 8 ≤ d) (he : 4 ≤ e) {ty lo hi a : Int} (hty : 0 ≤ ty ∧ ty < 1000 ∧ -2000000000 ≤ lo ∧ lo ≤ hi ∧ hi ≤ 2000000000) (hty2 : ty_b ty lo hi) (hzz : 6 ≤ zz_b b σ ρ) : ∃ (σ2 σ3 ρ1 : js_S), js_J E d 59 0 [(2, 8 + b), (0, 0), (0, a), (0, lo), (0, hi)] [] (js_up (js_up (js_up σ (23 + b) 0 ty) (23 + b) 1 lo) (23 + b) 2 hi) = js_r0 E σ2 ∧ js_J E d 33 0 [(2, 1), (9, 0)] [] σ2 = js_r0 E σ3 ∧ js_J E e 217 0 [(2, 83), (0, 1), (0, ty), (1, lo), (9, 0), (1, hi), (9, 0), (0, a), (0, 0), (0, 0), (9, 0)] [] ρ = js_r E (0, ρ 83 33) ρ1 ∧ js_J E e 191 0 [(2, 83), (9, 0), (9, 0), (9, 0), (9, 0), (9, 0)] [] ρ1 = js_r0 E (rx_next ρ1) ∧ xk_R b F B σ ρ j σ3 (rx_next ρ1) (j + 1) (ρ 83 33) (tr_n 1 ty lo hi a 0 0 .leaf .leaf) := by
  have ok := hR.2.2.1
  have hj := rd_j hR
  have hnod := hn.2.2.2.2.1
  have hz := xn_cz hn hR
  obtain ⟨ρ1, e1, hw⟩ := r_node (E := E) (e := e) (ρ := ρ) (k := 1) (ty := ty) (lo := lo) (hi := hi) (a := a) (b := 0) (c := 0) ok.2.2.1 hnod.1 (by omega) (by decide) (by decide)
  have o1 : ∀ x i : Int, ¬ (x = 23 + b ∧ 0 ≤ i ∧ i ≤ 2) → js_up (js_up (js_up σ (23 + b) 0 ty) (23 + b) 1 lo) (23 + b) 2 hi x i = σ x i := fun x i h => by rw [js_up_ne _ (by omega), js_up_ne _ (by omega), js_up_ne _ (by omega)]
  have f0 : js_up (js_up (js_up σ (23 + b) 0 ty) (23 + b) 1 lo) (23 + b) 2 hi (23 + b) 0 = ty := by rw [js_up_ni _ (by decide), js_up_ni _ (by decide), js_up_same]
  have f1 : js_up (js_up (js_up σ (23 + b) 0 ty) (23 + b) 1 lo) (23 + b) 2 hi (23 + b) 1 = lo := by rw [js_up_ni _ (by decide), js_up_same]
  have f2 : js_up (js_up (js_up σ (23 + b) 0 ty) (23 + b) 1 lo) (23 + b) 2 hi (23 + b) 2 = hi := js_up_same _ _ _ _
  generalize js_up (js_up (js_up σ (23 + b) 0 ty) (23 + b) 1 lo) (23 + b) 2 hi = σ1 at o1 f0 f1 f2 ⊢
  have w : ∀ i : Int, σ1 (8 + b) i = σ (8 + b) i := fun i => o1 _ _ (by omega)
  have hz1 : cz_R σ1 b := by unfold cz_R; rw [w, w]; exact hz
  obtain ⟨σ2, e2, he2⟩ := c_set (E := E) (d := d) (op := 0) (x := a) (lo := lo) (hi := hi) hb hz1 (by omega)
  have kO := he2.2.2.2
  have hwO := hw.2.2.2.2.2.2
  have hR2 : rd_R σ2 ρ1 j := rd_R_of hR (fun i hi => by rw [kO _ _ (by omega) (by omega), o1 _ _ (by omega)]) (fun x i g1 g2 => by rw [kO _ _ (by omega) (by omega), o1 _ _ (by omega)]) (fun i g1 g2 => hwO _ _ (by omega) (by omega)) (fun i => hwO _ _ (by omega) (by omega))
  obtain ⟨σ3, j3, e3, hR3, f3, _, hj3⟩ := y_next (E := E) (d := d) hR2
  have hj' := hj3 (by rw [hwO _ _ (by omega) (by omega)]; exact h5)
  subst hj'
  have tz := tf_R_next ρ1
  have v : ∀ i : Int, σ3 (8 + b) i = σ2 (8 + b) i := fun i => f3 _ _ (by omega) (by omega)
  have v23 : ∀ i : Int, σ3 (23 + b) i = σ1 (23 + b) i := fun i => by rw [f3 _ _ (by omega) (by omega), kO _ _ (by omega) (by omega)]
  have hg0 := xs_hg hx
  have F01 : ef_R b (σ (8 + b) 6) (σ (8 + b) 10) (σ (23 + b) 15) σ σ1 := fun x i g => o1 x i (fun hh => g (ef_D23 ⟨hh.1, by omega⟩))
  have w6 := w 6
  have F12 : ef_R b (σ (8 + b) 6) (σ (8 + b) 10) (σ (23 + b) 15) σ1 σ2 := ef_R_em he2 (by omega)
  have F23 : ∀ n t p : Int, ef_R b n t p σ2 σ3 := fun n t p => ef_R_tk f3
  have FF := ef_R_trans F01 (ef_R_trans F12 (F23 _ _ _))
  have hg2 := hg_ef hb (hg_ef hb hg0 F01) F12
  refine ⟨σ2, σ3, ρ1, e2, e3, e1, r_next' hR2.2.2.1 (by omega), ?_⟩
  refine xr_leaf1 (E := E) (X := X) hn hR3 (by omega) ?_ FF (eg_R_trans (eg_R_nw hw) (eg_R_tf tz) (Int.le_refl _)) ⟨?_, ?_, ?_, ?_, ?_, ?_⟩ ?_ ⟨?_, ?_, ?_, ?_⟩ ?_ ?_ ?_ ?_ ?_ (fun hs => ?_) hty hty2 (by rw [tz _ _ (by omega)]; exact hw.2.2.2.2.2.1) hzz
  · rw [tz _ _ (by omega), hwO _ _ (by omega) (by omega)]
  · rw [tz _ _ (by omega), hw.1]
  · rw [tz _ _ (by omega), hw.2.1.1]
  · rw [tz _ _ (by omega), hw.2.1.2.1]
  · rw [tz _ _ (by omega), hw.2.1.2.2.1]
  · rw [tz _ _ (by omega), hw.2.1.2.2.2]
  · rw [tz _ _ (by omega), hw.2.2.1]
  · rw [tz _ _ (by omega), hwO _ _ (by omega) (by omega)]
  · rw [v23, f0]
  · rw [v23, f1]
  · rw [v23, f2]
  · rw [v23, o1 _ _ (by omega)]
  · rw [v, he2.1, w]
  · rw [v, he2.2.1, w]
  · rw [v, kO _ _ (by omega) (by omega), w]
  · rw [v, kO _ _ (by omega) (by omega), w]
  · rw [v, kO _ _ (by omega) (by omega), w]
  · have k := em_ci0 (u := σ (8 + b) 8) he2 (by rw [w]; exact hs)
    rw [w] at k
    exact ci_ef hb (F23 (σ (8 + b) 6 + 1) 0 0) hg2 (by omega) k
/-- what is read behind an operand: the level of the next token -/
theorem y_33 (hb : b = 0 ∨ b = 25) (hn : xn_R b σ ρ j) {x1 x2 x4 D pb : Int} {ux5 ux6 : js_v} {c : Bool} {tb : Int} (hD : D ≤ 64) (hpb : pb ≤ 5) (hq : xq_R b x2 D tb pb 7 c σ ρ) (h40 : 0 ≤ x4) (h41 : x4 ≤ j) (hd : 3 ≤ d) {Rr : Option (Outcome × ip_W)} (h : xo_P E b F B σ ρ j (if ρ 83 5 = 2 then js_J E (d - 1) 64 0 [(2, 23 + b), (9, 0), (9, 0)] [] σ else js_J E (d - 1) 79 0 [(2, 23 + b), (9, 0)] [] σ) Rr) (hR : rd_R σ ρ j) : xc_P E b F B d x1 x2 6 c σ ρ j (js_J E d 61 33 [(2, 23 + b), (0, x1), (0, x2), (0, 1), (0, x4), ux5, ux6] [] σ) Rr := by
  obtain ⟨hV, c7, c8⟩ := rd_V hR
  have mi := tk_m_in hV
  have i2 : tk_m (ρ 83 5) = 2 ↔ ρ 83 5 = 2 := tk_m_inj hV (show tk_V 2 from Or.inr (Or.inl rfl))
  obtain ⟨qD, qt, ⟨q20, q21, qp⟩, qlev, qc⟩ := hq
  rcases h with ⟨σ1, ρ1, j1, n, t, er, ec, h1⟩ | ⟨ρ', v, er, hf⟩
  · refine Or.inl ⟨σ1, ρ1, j1, n, lv_c c (ρ1 83 5), x4, 0, t, er, ?_, h1, rfl, by have := lv_c_in c (ρ1 83 5); omega, ⟨h40, by have := h1.1.2.1; omega⟩, by decide, by omega⟩
    have F01 := h1.1.2.2.2.1
    have y15 := h1.2.2.1.1.2.2.2
    have row : ∀ k : Int, k < σ (23 + b) 15 → σ1 (25 + b) k = σ (25 + b) k := fun k g => F01 _ _ (by unfold ef_D; omega)
    have hlv := c_levelNext (E := E) (d := d - 1) (x1 := x2) (c := c) hb h1.1.1 q20 (by omega) (by omega) (fun k g1 g2 => by
      rw [row k (by omega)]
      have := qlev k g1 (by omega)
      omega) (by
      have qc' : c = true ↔ ∃ k : Int, x2 ≤ k ∧ k < σ (23 + b) 15 ∧ σ (25 + b) k = 3 := qc
      rw [qc', y15]
      constructor
      · rintro ⟨k, g1, g2, g3⟩
        exact ⟨k, g1, g2, by rw [row k g2]; exact g3⟩
      · rintro ⟨k, g1, g2, g3⟩
        exact ⟨k, g1, g2, by rw [← row k g2]; exact g3⟩) (by omega)
    rw [b_61_33 hb, c7, js_w_of (x := tk_m (ρ 83 5)) (by omega) (by omega)]
    by_cases q : ρ 83 5 = 2
    · rw [if_pos q] at ec
      rw [if_pos (i2.mpr q), k_61_45 hb (by omega) ec, b_61_48, b_61_55, k_61_57 hb (by omega) hlv, b_61_60]
    · rw [if_neg q] at ec
      rw [if_neg (fun hh => q (i2.mp hh)), k_61_52 hb (by omega) ec, b_61_55, k_61_57 hb (by omega) hlv, b_61_60]
  · refine Or.inr ⟨ρ', v, er, hf.1, hf.2.1, ?_⟩
    obtain ⟨σ', ec, F01⟩ := hf.2.2
    refine ⟨σ', ?_, F01⟩
    rw [b_61_33 hb, c7, js_w_of (x := tk_m (ρ 83 5)) (by omega) (by omega)]
    by_cases q : ρ 83 5 = 2
    · rw [if_pos q] at ec
      rw [if_pos (i2.mpr q), kt_61_45 hb (by omega) ec]
    · rw [if_neg q] at ec
      rw [if_neg (fun hh => q (i2.mp hh)), kt_61_52 hb (by omega) ec]
end OP
