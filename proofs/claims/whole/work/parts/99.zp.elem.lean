/-! part 99.zp: an e for a place, elements of rows in step -/
section OZ
variable {E : js_E} {d e : Nat} {b F : Int} {B : Int → Int} {X : Int → Prop} {σ ρ : js_S} {j : Nat}
/-- the class: does what was read last suit -/
theorem c_ask3 (hb : b = 0 ∨ b = 25) (hn : cx_n σ) (hd : 7 ≤ d) {t lo hi : Int} (ht : 0 ≤ t ∧ t < 1000) (hl : -2000000000 ≤ lo ∧ lo ≤ 2000000000) (hh : -2000000000 ≤ hi ∧ hi ≤ 2000000000) (s0 : 0 ≤ σ (23 + b) 0 ∧ σ (23 + b) 0 < 1000) (s1 : -2000000000 ≤ σ (23 + b) 1 ∧ σ (23 + b) 1 ≤ 2000000000) (s2 : -2000000000 ≤ σ (23 + b) 2 ∧ σ (23 + b) 2 ≤ 2000000000) : js_J E d 68 0 [(2, 23 + b), (0, t), (0, lo), (0, hi)] [] σ = if σ (23 + b) 0 = t then (if σ (23 + b) 1 < lo ∨ hi < σ (23 + b) 2 then th_P E σ (6 + 16 * σ (23 + b) 3) else js_r0 E σ) else th_P E σ (5 + 16 * σ (23 + b) 3) := by
  have bad : js_J E d 68 36 [(2, 23 + b), (0, t), (0, lo), (0, hi)] [] σ = th_P E σ (6 + 16 * σ (23 + b) 3) := by
    rw [b_68_36 hb, kt_68_46 (by omega) (c_fail hn (by omega))]
    rfl
  rw [b_68_0 hb, js_w_of (x := σ (23 + b) 0) (by omega) (by omega), js_w_of (x := t) (by omega) (by omega)]
  by_cases q : σ (23 + b) 0 = t
  · rw [if_pos q, if_pos q, b_68_20 hb, js_w_of (x := σ (23 + b) 1) (by omega) (by omega), js_w_of (x := σ (23 + b) 2) (by omega) (by omega), js_w_of (x := lo) (by omega) (by omega), js_w_of (x := hi) (by omega) (by omega)]
    by_cases q1 : σ (23 + b) 1 < lo
    · rw [if_pos q1, if_pos (Or.inl q1), bad]
    · by_cases q2 : hi < σ (23 + b) 2
      · rw [if_neg q1, if_pos q2, if_pos (Or.inr q2), bad]
      · rw [if_neg q1, if_neg q2, if_neg (fun h => h.elim q1 q2), b_68_49]
  · rw [if_neg q, if_neg q, kt_68_17 (by omega) (c_fail hn (by omega))]
    rfl
theorem r_218F (h : rx_F ρ) (he : 9 ≤ e) {t lo hi : Int} : js_J E e 218 0 [(2, 83), (0, t), (1, lo), (9, 0), (1, hi), (9, 0), (9, 0), (9, 0)] [] ρ = js_r E (0, 0) ρ := by
  rw [b_218_0, k_218_7 (by omega) (r_termF h (by omega)), b_218_10, if_pos (rx_F_9 h)]
/-- an e for a type and a range -/
theorem y_for {J0 : Nat} (hb : b = 0 ∨ b = 25) (hE : xe_P E b F B X J0) (hJ : J0 ≤ j) (hx : xs_R E b F B X σ ρ) (hn : xn_R b σ ρ j) (hR : rd_R σ ρ j) (ht : σ (8 + b) 10 ≤ 12 * ρ 83 10) (hp : σ (23 + b) 15 ≤ 6 * ρ 83 10) (hd : 4 * (65 - ρ 83 10) + 25 ≤ (d : Int)) (he : 12 * (65 - ρ 83 10) + 26 ≤ (e : Int)) {t lo hi : Int} (htt : 0 ≤ t ∧ t < 1000) (hl : -2000000000 ≤ lo ∧ lo ≤ 2000000000) (hh : -2000000000 ≤ hi ∧ hi ≤ 2000000000) : (∃ (σ' ρ' : js_S) (j' : Nat) (n : Int) (l : tr_T), js_J E e 218 0 [(2, 83), (0, t), (1, lo), (9, 0), (1, hi), (9, 0), (9, 0), (9, 0)] [] ρ = js_r E (0, n) ρ' ∧ js_J E d 61 0 [(2, 23 + b), (9, 0), (9, 0), (9, 0), (9, 0), (9, 0), (9, 0)] [] σ = js_r0 E σ' ∧ js_J E d 68 0 [(2, 23 + b), (0, t), (0, lo), (0, hi)] [] σ' = js_r0 E σ' ∧ xr_R b F B σ ρ j σ' ρ' j' n l ∧ xt_ty l = t ∧ lo ≤ xt_lo l ∧ xt_hi l ≤ hi) ∨ (∃ (ρ' : js_S) (v : Int), js_J E e 218 0 [(2, 83), (0, t), (1, lo), (9, 0), (1, hi), (9, 0), (9, 0), (9, 0)] [] ρ = js_r E (0, v) ρ' ∧ (xf_P E b σ ρ ρ' (js_J E d 61 0 [(2, 23 + b), (9, 0), (9, 0), (9, 0), (9, 0), (9, 0), (9, 0)] [] σ) ∨ ∃ σ' : js_S, js_J E d 61 0 [(2, 23 + b), (9, 0), (9, 0), (9, 0), (9, 0), (9, 0), (9, 0)] [] σ = js_r0 E σ' ∧ ef_R b (σ (8 + b) 6) (σ (8 + b) 10) (σ (23 + b) 15) σ σ' ∧ xf_P E b σ ρ ρ' (js_J E d 68 0 [(2, 23 + b), (0, t), (0, lo), (0, hi)] [] σ'))) := by
  have pl := rd_place hR
  have D1 := hR.2.2.2.2.2
  rw [b_218_0]
  rcases hE d (e - 1) σ ρ j hJ hx hn hR ht hp hd (by omega) with ⟨σ1, ρ1, j1, n, l, er, ec, h1, h3⟩ | ⟨ρ', v, er, hf⟩
  · have r1 := h1.1.1
    have hj1 := rd_j r1
    have h9 := r1.2.2.1.2.2.1
    have F01 := h1.1.2.2.2.1
    have G01 := h1.1.2.2.2.2.1
    have hx1 := xs_R_ef hb hx F01 G01
    have hn1 := xn_next hn h1
    have hnod := hn1.2.2.2.2.1
    have yl := h1.2.2.2.2.2.2.1
    have y0 := h1.2.2.1.1.1
    have y1 := h1.2.2.1.1.2.1
    have y2 := h1.2.2.1.1.2.2.1
    have nd := xt_nd_in h1.2.2.2.1 h1.2.2.2.2.1.1
    have ask := c_ask3 (E := E) (d := d) (σ := σ1) (t := t) (lo := lo) (hi := hi) hb hx1.1.2.2.1 (by omega) htt hl hh (by omega) (by omega) (by omega)
    rw [y0, y1, y2, h3] at ask
    rw [k_218_7 (by omega) er, b_218_10, h9, if_neg (show ¬ 0 < js_w 0 by decide), js_w_of (x := n) (by omega) (by omega), if_pos (show 0 ≤ n ∧ n < 66000 by omega), nd.2.2.1, nd.2.2.2.1, nd.2.2.2.2, js_w_of (x := xt_ty l) (by omega) (by omega), js_w_of (x := t) (by omega) (by omega), js_w_of (x := xt_lo l) (by omega) (by omega), js_w_of (x := xt_hi l) (by omega) (by omega), js_l_of (x := xt_lo l) (by omega) (by omega), js_l_of (x := xt_hi l) (by omega) (by omega), js_l_of (x := lo) (by omega) (by omega), js_l_of (x := hi) (by omega) (by omega)]
    have bad : ∀ k : Int, 1 ≤ k → k ≤ 15 → js_J E d 68 0 [(2, 23 + b), (0, t), (0, lo), (0, hi)] [] σ1 = th_P E σ1 (k + 16 * ρ 83 6) → xf_P E b σ ρ (rx_bad ρ1 k (ρ 83 6)) (js_J E d 68 0 [(2, 23 + b), (0, t), (0, lo), (0, hi)] [] σ1) := fun k k1 k2 hk => by
      obtain ⟨hF, h9e⟩ := rx_bad_new (τ := ρ1) (k := k) (p := ρ 83 6) h9 k1 k2 pl.1 pl.2
      exact ⟨hF, eg_R_trans (N' := ρ 83 33) G01 (eg_R_tf (tf_R_bad _ _ _)) (Int.le_refl _), σ1, by rw [hk, h9e], F01⟩
    by_cases q : xt_ty l = t
    · rw [if_pos q] at ask
      rw [if_pos q]
      by_cases q1 : xt_lo l < lo
      · rw [if_pos (Or.inl q1)] at ask
        rw [if_pos q1, b_218_69, k_218_74 (by omega) (r_bad (by omega) (by omega)), b_218_77]
        exact Or.inr ⟨_, _, rfl, Or.inr ⟨σ1, ec, F01, bad 6 (by decide) (by decide) ask⟩⟩
      · by_cases q2 : hi < xt_hi l
        · rw [if_pos (Or.inr q2)] at ask
          rw [if_neg q1, if_pos q2, b_218_69, k_218_74 (by omega) (r_bad (by omega) (by omega)), b_218_77]
          exact Or.inr ⟨_, _, rfl, Or.inr ⟨σ1, ec, F01, bad 6 (by decide) (by decide) ask⟩⟩
        · rw [if_neg (fun h => h.elim q1 q2)] at ask
          rw [if_neg q1, if_neg q2, b_218_77]
          exact Or.inl ⟨σ1, ρ1, j1, n, l, rfl, ec, ask, h1, q, by omega, by omega⟩
    · rw [if_neg q] at ask
      rw [if_neg q, k_218_36 (by omega) (r_bad (by omega) (by omega)), b_218_39, b_218_77]
      exact Or.inr ⟨_, _, rfl, Or.inr ⟨σ1, ec, F01, bad 5 (by decide) (by decide) ask⟩⟩
  · rw [k_218_7 (by omega) er, b_218_10, if_pos (rx_F_9 hf.1)]
    exact Or.inr ⟨ρ', 0, rfl, Or.inl hf⟩
end OZ
/-- an index, and the row -/
theorem xr_elem {E : js_E} {b F : Int} {B : Int → Int} {X : Int → Prop} {σ0 ρ0 σ2 ρ2 σ4 ρ3 : js_S} {j0 j2 : Nat} {n1 a c : Int} {l : tr_T} {ty lo hi : Int} (hb : b = 0 ∨ b = 25) (hx : xs_R E b F B X σ0 ρ0) (hn : xn_R b σ0 ρ0 j0) {z z1 : Int} (h : xz_R z1 b F B σ0 ρ0 j0 σ2 ρ2 j2 n1 l) (hj : (ρ2 83 33 + 1) + j0 ≤ ρ0 83 33 + j2) (hln : xt_ln l + 1 ≤ 8 * ((j2 : Int) - j0)) (he : em_R b (s3_S σ2 b ty lo hi) σ4 4 (s3_S σ2 b ty lo hi (s3_S σ2 b ty lo hi (19 + b) a) 5) c lo hi (sh_P (s3_S σ2 b ty lo hi (s3_S σ2 b ty lo hi (19 + b) a) 11))) (ha : 0 ≤ a ∧ a < ρ0 83 11) (hw : nw_R ρ2 ρ3 3 ty lo hi a n1 0) (hsv : sv_P ρ3 F a) (hsz : sz_P ρ3 a c) (hty : 0 ≤ ty ∧ ty < 1000 ∧ -2000000000 ≤ lo ∧ lo ≤ hi ∧ hi ≤ 2000000000) (hty2 : ty_b ty lo hi) (hzz : 2 + xt_dp l ≤ z) : xz_R z b F B σ0 ρ0 j0 σ4 ρ3 j2 (ρ2 83 33) (tr_n 3 ty lo hi a 0 c l .leaf) := by
  have hg0 := xs_hg hx
  have r2 := h.1.1
  have q := h.1.2.1
  have dp := h.1.2.2.1
  have F02 := h.1.2.2.2.1
  have G02 := h.1.2.2.2.2.1
  have m1 := h.1.2.2.2.2.2.1
  have y15 := h.2.2.1.1.2.2.2
  have c10 := h.2.2.1.2.1.1
  have c6 := h.2.2.1.2.1.2.1
  have kO := he.2.2.2
  have k6 := he.1
  have ll := xt_ln_0 l
  have F23 : ∀ n t p : Int, ef_R b n t p σ2 (s3_S σ2 b ty lo hi) := fun n t p a i g => s3_o _ (fun hh => g (ef_D23 ⟨hh.1, by omega⟩))
  have w : ∀ i : Int, s3_S σ2 b ty lo hi (8 + b) i = σ2 (8 + b) i := fun i => s3_o _ (by omega)
  have w6 := w 6
  have F34 : ef_R b (σ0 (8 + b) 6 + xt_ln l) (σ0 (8 + b) 10) (σ0 (23 + b) 15) (s3_S σ2 b ty lo hi) σ4 := ef_R_em he (by omega)
  have F24 : ef_R b (σ0 (8 + b) 6 + xt_ln l) (σ0 (8 + b) 10) (σ0 (23 + b) 15) σ2 σ4 := ef_R_trans (F23 _ _ _) F34
  have hg2 := hg_ef hb hg0 F02
  have hg3 := hg_ef hb hg2 (F23 0 0 0)
  have t3 : s3_S σ2 b ty lo hi (7 + b) 1 = ρ0 83 11 := by rw [s3_o _ (by omega), F02 _ _ (by unfold ef_D; omega)]; exact hx.1.2.2.2.2.1
  have ga := hg3 a ha.1 (by rw [t3]; exact ha.2)
  have G23 : eg_R (ρ2 83 33) ρ2 ρ3 := eg_R_nw hw
  obtain ⟨hw1, ⟨hw2, hw3, hw4, hw5⟩, hw6, hw7, hw8, hw9, hwO⟩ := hw
  have n0 : 0 ≤ ρ0 83 33 := hn.2.2.2.2.1.1
  refine ⟨⟨rd_R_of r2 (fun i hi => by rw [kO _ _ (by omega) (by omega), s3_o _ (by omega)]) (fun a i g1 g2 => by rw [kO _ _ (by omega) (by omega), s3_o _ (by omega)]) (fun i g1 g2 => by rw [hwO _ _ (by omega) (by omega)]) (fun i => by rw [hwO _ _ (by omega) (by omega)]), q, ?_, ef_R_trans F02 (ef_R_mono F24 (by omega) (by omega) (by omega)), eg_R_trans G02 G23 m1, by omega, by omega⟩, ?_, ⟨⟨?_, ?_, ?_, ?_⟩, ⟨?_, ?_, ?_, ?_⟩, fun hs => ?_⟩, ⟨?_, ⟨?_, ?_, ?_⟩, ⟨?_, ?_, ?_⟩, xr_Y_op hty hty2 (by omega) hw9 (xt_dz (x := 2 + xt_dp l) rfl hzz)⟩⟩
  · rw [hwO _ _ (by omega) (by omega), dp]
  · obtain ⟨x, x1, x2, x3, x4⟩ := h.2.1
    exact ⟨x, x1, x2, by rw [hwO _ _ (by omega) (by omega), x3], by rw [kO _ _ (by omega) (by omega), w, x4]⟩
  · rw [kO _ _ (by omega) (by omega), s3_0]
    rfl
  · rw [kO _ _ (by omega) (by omega), s3_1]
    rfl
  · rw [kO _ _ (by omega) (by omega), s3_2]
    rfl
  · rw [kO _ _ (by omega) (by omega), s3_o _ (by omega)]
    exact y15
  · rw [kO _ _ (by omega) (by omega), w]
    exact c10
  · rw [k6, w, c6, xt_ln3]
    omega
  · have cn := h.2.2.2.2.2.1.2.1
    rw [he.2.1, w, h.2.2.1.2.1.2.2.1, xt_cn3]
    omega
  · rw [kO _ _ (by omega) (by omega), w, h.2.2.1.2.1.2.2.2, xt_mt3]
  · rw [xt_cd3]
    rw [k6, w, c6] at hs
    have he' := he
    rw [show s3_S σ2 b ty lo hi (s3_S σ2 b ty lo hi (19 + b) a) 5 = s3_S σ2 b ty lo hi (s3_S σ2 b ty lo hi (19 + b) a) 5 + 0 from (Int.add_zero _).symm] at he'
    have k := em_ci1 (u := σ0 (8 + b) 8) (x := a) (y := 0) hb he' (by omega) ha.1 (by rw [t3]; exact ha.2) ga
    rw [w, c6] at k
    exact ⟨xt_cd_ef hb F24 hg2 (Int.le_refl _) (h.2.2.1.2.2 (by omega)), k⟩
  · rw [xt_nd3, hw2, hw3, hw4, hw5, hw6, hw7]
    exact ⟨⟨by omega, by omega, rfl, rfl, rfl, rfl⟩, rfl, xt_nd_eg (M' := ρ0 83 33) (N' := ρ2 83 33) h.2.2.2.1 G23 (Int.le_refl _)⟩
  · exact xt_e_n (by decide) (by decide) hty.2.2 (fun hh => absurd hh (by decide)) (fun hh => absurd hh (by decide)) (fun hh => absurd hh (by decide))
  · rw [xt_w3]
    exact ⟨h.2.2.2.2.1.1, h.2.2.2.2.1.2.1⟩
  · unfold xt_G
    rw [xt_g3]
    exact ⟨hsv, hsz, xt_G_eg h.2.2.2.2.1.2.2 G23 (by rw [hwO _ _ (by omega) (by omega)]; exact Int.le_refl _)⟩
  · rw [xt_ln3]
    exact hln
  · have cn := h.2.2.2.2.2.1.2.1
    rw [xt_cn3]
    omega
  · rw [xt_mt3]
    exact h.2.2.2.2.2.1.2.2
section OZ2
variable {E : js_E} {d e : Nat} {b F : Int} {B : Int → Int} {X : Int → Prop} {σ ρ : js_S} {j : Nat}
theorem r_233_21F (h : rx_F ρ) (he : 5 ≤ e) {x1 v : Int} : js_J E e 233 21 [(2, 83), (0, x1), (9, 0)] [(0, v)] ρ = js_r E (0, v) (js_up ρ 83 10 (ρ 83 10 - 1)) := by
  rw [b_233_21, k_233_25 (by omega) (r_leaveF h (by omega) (by decide) (by decide)), b_233_28]
theorem r_230_306F (h : rx_F ρ) (he : 5 ≤ e) {x1 x2 z1 z2 z3 z4 z5 z6 : Int} : js_J E e 230 306 [(2, 83), (0, x1), (0, x2), (9, 0)] [(0, z6), (0, z5), (1, z4), (1, z3), (0, z2), (0, z1), (2, 83)] ρ = js_r E (0, 0) ρ := by
  rw [b_230_306, k_230_307 (by omega) (r_nodeF h), b_230_310]
/-- an element -/
theorem y_nm_elem {σ1 : js_S} {i c : Int} (hb : b = 0 ∨ b = 25) (hE : xe_P E b F B X (j + 1)) (hx : xs_R E b F B X σ ρ) (hn : xn_R b σ ρ j) (hR : rd_R σ ρ j) (hnm : nm_R E b X σ1 ρ i) (hR1 : rd_R σ1 (rx_next ρ) (j + 1)) (f1 : tk_fr σ σ1) (hk : 1 ≤ ρ 86 i ∧ ρ 86 i ≤ 3 ∨ 5 ≤ ρ 86 i ∧ ρ 86 i ≤ 7) (h92 : ρ 92 i = 1) (ht : σ (8 + b) 10 ≤ 12 * ρ 83 10 + 3) (hp : σ (23 + b) 15 ≤ 6 * ρ 83 10 + 5) (hd : 4 * (65 - ρ 83 10) + 24 ≤ (d : Int)) (he : 12 * (65 - ρ 83 10) + 17 ≤ (e : Int)) : xo_P E b F B σ ρ j (js_J E d 64 56 [(2, 23 + b), (0, ρ 83 6), (2, σ1 (19 + b) i)] [] σ1) (js_J E e 230 123 [(2, 83), (0, i), (0, c), (9, 0)] [(2, 83)] ρ) := by
  obtain ⟨⟨i0, i1, i2⟩, nX, hvis, k8, ⟨k0, k9, t0, t1, v0, v1⟩, hsym, hf⟩ := hnm
  have ok := hR.2.2.1
  have hj := rd_j hR1
  have D0 := hR.2.2.2.2.1
  have D1 := hR.2.2.2.2.2
  have hnod := hn.2.2.2.2.1
  have gs := hx.2.2.1 i i0 i1 nX
  have g := gs.2.2.1 hk
  have g93 : 5 ≤ ρ 86 i ∧ ρ 86 i ≤ 7 → ρ 93 i = F := fun h => (gs.2.2.2.1 h hvis).trans hx.2.2.2.2.2.1
  clear gs
  have hge := js_sym_ge hsym
  have t91 : tk_m 91 = 91 := by decide
  have t93 : tk_m 93 = 93 := by decide
  have u : ∀ a k : Int, 86 ≤ a → rx_next ρ a k = ρ a k := fun a k h => rx_next_o _ (by omega)
  have u10 : rx_next ρ 83 10 = ρ 83 10 := rx_next_o _ (by omega)
  have p1 : og_R ρ (rx_next ρ) := fun a i g => rx_next_o _ (by omega)
  have o1 : of_R σ σ1 := fun a i g1 g2 => f1 a i (by omega) g2
  have hx1 := xs_R_ef hb hx (ef_R_of (b := b) (n := 0) (t := 0) (p := 0) o1) (eg_R_og (N := 0) p1)
  rw [k_230_123 (by omega) (r_next' ok (by omega)), b_230_126, js_w_of (x := i) (by omega) (by omega), if_pos (show 0 ≤ i ∧ i < 400 from ⟨i0, i2⟩), u 86 i (by decide), js_w_of (x := ρ 86 i) (by omega) (by omega), if_neg (show ¬ ρ 86 i = 0 by omega), if_neg (show ¬ ρ 86 i = 9 by omega), u 92 i (by decide), h92, if_neg (show ¬ js_w 1 = 0 by decide), u 87 i (by decide), u 88 i (by decide), u 89 i (by decide), js_w_of (x := ρ 88 i) (by omega) (by omega), js_w_of (x := ρ 89 i) (by omega) (by omega)]
  rw [b_64_56 hsym hb, hf.1, js_w_of (x := ρ 86 i) (by omega) (by omega), if_neg (show ¬ ρ 86 i = 4 by omega), hf.2.2.2.2.2.2.2.2, h92, if_neg (show ¬ js_w 1 = 0 by decide)]
  obtain ⟨ρ2, e2, og2, hor2⟩ := y_open (E := E) (d := d - 1 - 1) (e := e - 1 - 1) (k := 91) hx1.1.2.2.1 hR1 (by omega) (by omega) (by unfold tk_V; omega) (by decide)
  rw [t91] at hor2
  have g2 : og_R ρ ρ2 := fun a i g => (og2 a i g).trans (p1 a i g)
  have G02 : eg_R (ρ 83 33) ρ ρ2 := eg_R_og g2
  have z91 : ρ2 91 i = ρ 91 i := g2 _ _ (by omega)
  have wl := js_w_of (x := ρ 91 i - 1) (by omega) (by omega)
  have r6 : js_J E (e - 1) 233 0 [(2, 83), (0, i), (9, 0)] [] (rx_next ρ) = js_J E (e - 1) 233 18 [(2, 83), (0, i), (9, 0)] [(1, ρ 91 i - 1), (1, 0), (0, 0), (2, 83)] ρ2 := by
    rw [b_233_0, k_233_3 (by omega) e2, b_233_6, js_w_of (x := i) (by omega) (by omega), if_pos (show 0 ≤ i ∧ i < 400 from ⟨i0, i2⟩), z91, wl]
  rcases hor2 with ⟨σ2, j2, c2, hR2, f2, hj2, hD64, hD1⟩ | ⟨hF2, c2⟩
  · subst hj2
    have o2 : of_R σ σ2 := fun a i g1 g2 => (f2 a i g1 g2).trans (o1 a i g1 g2)
    have F02 : ∀ n t p : Int, ef_R b n t p σ σ2 := fun n t p => ef_R_of o2
    have v : ∀ k : Int, σ2 (8 + b) k = σ (8 + b) k := fun k => o2 _ _ (by omega) (by omega)
    have v6 := v 6
    have v10 := v 10
    have v15 : σ2 (23 + b) 15 = σ (23 + b) 15 := o2 _ _ (by omega) (by omega)
    have u33 : ρ2 83 33 = ρ 83 33 := g2 _ _ (by omega)
    have u44 : ρ2 83 44 = ρ 83 44 := g2 _ _ (by omega)
    have hx2 := xs_R_ef hb hx (F02 0 0 0) G02
    have hn2 : xn_R b σ2 ρ2 (j + 1 + 1) := by
      have v7 := v 7
      have v11 := v 11
      have v12 := v 12
      unfold xn_R at hn ⊢
      push_cast
      omega
    have es : σ1 (19 + b) i = σ2 (19 + b) i := (f2 _ _ (by omega) (by omega)).symm
    have e6 : σ2 (σ1 (19 + b) i) 6 = ρ 91 i := by rw [f2 _ _ (by omega) (by omega)]; exact hf.2.2.2.2.1
    have hsym2 : js_desc E.1 σ2 (σ1 (19 + b) i) = some (0, 11, js_sym) := by
      rw [es]
      exact (hx2.1.2.2.2.2.2.1 i i0 (by rw [g2 _ _ (by omega)]; exact i1)).1
    rcases y_for (d := d - 1 - 1) (e := e - 1 - 1) (t := 0) (lo := 0) (hi := ρ 91 i - 1) hb hE (by omega) hx2 hn2 hR2 (by omega) (by omega) (by omega) (by omega) (by decide) (by decide) (by omega) with ⟨σ3, ρ3, j3, n1, l, er, ec, ea, h1, _, _, _⟩ | ⟨ρ', vv, er, hf2⟩
    · have r3 := h1.1.1
      have hj3 := rd_j r3
      have q1 := h1.1.2.1
      have dp1 := h1.1.2.2.1
      have F23 := h1.1.2.2.2.1
      have G23 := h1.1.2.2.2.2.1
      have m1 := h1.1.2.2.2.2.2.1
      have m1' := h1.1.2.2.2.2.2.2
      have y15 := h1.2.2.1.1.2.2.2
      have c10 := h1.2.2.1.2.1.1
      have c6 := h1.2.2.1.2.1.2.1
      have ll := xt_ln_0 l
      have ln1 := h1.2.2.2.2.2.1.1
      have F03 : ef_R b (σ (8 + b) 6) (σ (8 + b) 10) (σ (23 + b) 15) σ σ3 := ef_R_trans (F02 _ _ _) (ef_R_mono F23 (by omega) (by omega) (by omega))
      have G03 : eg_R (ρ 83 33) ρ ρ3 := eg_R_trans G02 G23 (by omega)
      have hx3 := xs_R_ef hb hx F03 G03
      have e63 : σ3 (σ1 (19 + b) i) 6 = ρ 91 i := by rw [F23 _ _ (by unfold ef_D; omega)]; exact e6
      have es3 : σ1 (19 + b) i = σ3 (19 + b) i := by rw [es, F23 _ _ (by unfold ef_D; omega)]
      have hsym3 : js_desc E.1 σ3 (σ1 (19 + b) i) = some (0, 11, js_sym) := by
        rw [es3]
        exact (hx3.1.2.2.2.2.2.1 i i0 (by rw [G03 _ _ (by omega) (by omega)]; exact i1)).1
      obtain ⟨ρ4, e4, og4, hor4⟩ := y_close (E := E) (d := d - 1 - 1) (e := e - 1 - 1) (k := 93) hx3.1.2.2.1 r3 (by omega) (by omega) (by unfold tk_V; omega) (by decide) (by omega)
      rw [t93] at hor4
      have G04 : eg_R (ρ 83 33) ρ ρ4 := eg_R_trans (N' := ρ 83 33) G03 (eg_R_og og4) (Int.le_refl _)
      have r233 : js_J E (e - 1) 233 0 [(2, 83), (0, i), (9, 0)] [] (rx_next ρ) = js_r E (0, n1) ρ4 := by
        rw [r6, k_233_18 (by omega) er, b_233_21, k_233_25 (by omega) e4, b_233_28]
      rw [k_230_303 (by omega) r233]
      rcases hor4 with ⟨σ4, j4, c4, hR4, f4, hj4, hD4⟩ | ⟨hF4, c4⟩
      · subst hj4
        have c76 : js_J E (d - 1) 76 0 [(2, 23 + b), (2, σ1 (19 + b) i)] [] σ1 = js_r0 E σ4 := by
          rw [b_76_0 hb, k_76_6 (by omega) c2, b_76_9, k_76_10 hb (by omega) ec, b_76_13 hsym3, e63, k_76_22 hb (by omega) ea, b_76_25 hb, k_76_31 (by omega) c4, b_76_34]
        have hzz : 2 + xt_dp l ≤ zz_b b σ ρ := by
          have a1 := xr_zz h1
          unfold zz_b
          omega
        have H := xr_frame (z := zz_b b σ ρ) (σ0 := σ) (ρ0 := ρ) (j0 := j) (σ1 := σ2) (ρ1 := ρ2) (j1 := j + 1 + 1) (σ2 := σ3) (ρ2 := ρ3) (j2 := j3) (σ3 := σ4) (ρ3 := ρ4) (j3 := j3 + 1) hb (xs_hg hx) (F02 _ _ _) (fun k _ _ => v k) (by omega) G02 u33 u44 (by omega) h1 (ef_R_of f4) (fun k _ _ => f4 _ _ (by omega) (by omega)) (fun k _ _ => f4 _ _ (by omega) (by omega)) (by rw [f4 _ _ (by omega) (by omega), y15, v15]) (eg_R_og og4) (og4 _ _ (by omega)) (og4 _ _ (by omega)) (by omega) (by omega) hR4 (by unfold zz_b; omega)
        have F04 : ef_R b (σ (8 + b) 6) (σ (8 + b) 10) (σ (23 + b) 15) σ σ4 := H.1.2.2.2.1
        have hx4 := xs_R_ef hb hx F04 G04
        have m33 : ρ4 83 33 = ρ3 83 33 := og4 _ _ (by omega)
        have z11 : ρ4 83 11 = ρ 83 11 := G04 _ _ (by omega) (by omega)
        have hf4 := hx4.1.2.2.2.2.2.2 i i0 (by rw [z11]; exact i1) nX
        have z : ∀ a k : Int, 86 ≤ a → a < 100 → ρ4 a k = ρ a k := fun a k h1 h2 => G04 _ _ (by omega) (by omega)
        have es4 : σ1 (19 + b) i = σ4 (19 + b) i := by rw [es3, f4 _ _ (by omega) (by omega)]
        have hsym4 : js_desc E.1 σ4 (σ1 (19 + b) i) = some (0, 11, js_sym) := by
          rw [es4]
          exact (hx4.1.2.2.2.2.2.1 i i0 (by rw [z11]; exact i1)).1
        unfold sy_F at hf4
        rw [← es4, z 87 i (by decide) (by decide), z 88 i (by decide) (by decide), z 89 i (by decide) (by decide), z 91 i (by decide) (by decide)] at hf4
        have e75 : js_J E (d - 1) 75 0 [(2, 23 + b), (0, ρ 87 i), (0, ρ 88 i), (0, ρ 89 i)] [] σ4 = js_r0 E (s3_S σ4 b (ρ 87 i) (ρ 88 i) (ρ 89 i)) := b_75_0 hb
        have es5 : s3_S σ4 b (ρ 87 i) (ρ 88 i) (ρ 89 i) (19 + b) i = σ1 (19 + b) i := by rw [s3_o _ (by omega), es4]
        have hx5 := xs_R_ef hb hx4 (fun a i g => s3_o _ (fun hh => g (ef_D23 ⟨hh.1, by omega⟩)) : ef_R b 0 0 0 σ4 (s3_S σ4 b (ρ 87 i) (ρ 88 i) (ρ 89 i))) (eg_R_tf (N := 0) (fun _ _ _ => rfl) : eg_R 0 ρ4 ρ4)
        have hs5 := (hx5.1.2.2.2.2.2.1 i i0 (by rw [z11]; exact i1)).1
        have hu := hx5.2.2.2.1 i i0 (by rw [z11]; exact i1)
        have hn4 := xn_next hn H
        have hz4 := xn_cz hn4 hR4
        obtain ⟨σ6, e6', c6'⟩ := c_loadE (E := E) (d := d - 1) (σ := s3_S σ4 b (ρ 87 i) (ρ 88 i) (ρ 89 i)) (x := s3_S σ4 b (ρ 87 i) (ρ 88 i) (ρ 89 i) (19 + b) i) hb (by unfold cz_R; rw [s3_o _ (by omega), s3_o _ (by omega)]; exact hz4) (by omega) hs5 hu.1 hu.2.1
        have q6 : s3_S σ4 b (ρ 87 i) (ρ 88 i) (ρ 89 i) (s3_S σ4 b (ρ 87 i) (ρ 88 i) (ρ 89 i) (19 + b) i) 6 = ρ 91 i := by rw [es5, s3_o _ (by omega)]; exact hf4.2.2.2.2.1
        have q3 : s3_S σ4 b (ρ 87 i) (ρ 88 i) (ρ 89 i) (s3_S σ4 b (ρ 87 i) (ρ 88 i) (ρ 89 i) (19 + b) i) 3 = ρ 88 i := by rw [es5, s3_o _ (by omega)]; exact hf4.2.2.1
        have q4 : s3_S σ4 b (ρ 87 i) (ρ 88 i) (ρ 89 i) (s3_S σ4 b (ρ 87 i) (ρ 88 i) (ρ 89 i) (19 + b) i) 4 = ρ 89 i := by rw [es5, s3_o _ (by omega)]; exact hf4.2.2.2.1
        rw [q6, q3, q4] at c6'
        have e6'' := e6'
        rw [es5] at e6''
        rw [k_64_99 hb (by omega) c76, b_64_102 hsym4, hf4.2.1, hf4.2.2.1, hf4.2.2.2.1, k_64_115 hb (by omega) e75, b_64_118 hb, k_64_123 hb (by omega) e6'', b_64_126, b_64_238]
        obtain ⟨ρ5, er5, hw⟩ := r_node (E := E) (e := e - 1) (ρ := ρ4) (k := 3) (ty := ρ 87 i) (lo := ρ 88 i) (hi := ρ 89 i) (a := i) (b := n1) (c := 0) hR4.2.2.1.2.2.1 (by omega) (by omega) (by decide) (by decide)
        rw [b_230_306, k_230_307 (by omega) er5, b_230_310]
        have hwO := hw.2.2.2.2.2.2
        have zz : ∀ a k : Int, 86 ≤ a → a < 100 → ρ5 a k = ρ a k := fun a k h1 h2 => by rw [hwO _ _ (by omega) (by omega), z _ _ h1 h2]
        have z5 : ρ5 83 11 = ρ 83 11 := by rw [hwO _ _ (by omega) (by omega), z11]
        have hsv : sv_P ρ5 F i := by
          refine ⟨i0, by rw [z5]; exact i1, ?_⟩
          rw [zz _ _ (by decide) (by decide), zz _ _ (by decide) (by decide)]
          rcases hk with h | h
          · exact Or.inl h
          · exact Or.inr ⟨h.1, h.2, g93 h⟩
        have hsz : sz_P ρ5 i (ρ 91 i) := ⟨i0, by rw [z5]; exact i1, zz _ _ (by decide) (by decide)⟩
        refine Or.inl ⟨σ6, ρ5, j3 + 1, ρ4 83 33, tr_n 3 (ρ 87 i) (ρ 88 i) (ρ 89 i) i 0 (ρ 91 i) l .leaf, rfl, rfl, ?_⟩
        exact xr_elem hb hx hn H (by push_cast at m1' ⊢; omega) (by push_cast at ln1 ⊢; omega) c6' ⟨i0, i1⟩ hw hsv hsz ⟨t0, t1, g.2.2.1, g.2.2.2.1, g.2.2.2.2.1⟩ g.2.2.2.2.2 hzz
      · have c76 : js_J E (d - 1) 76 0 [(2, 23 + b), (2, σ1 (19 + b) i)] [] σ1 = th_P E σ3 (ρ4 83 9) := by
          rw [b_76_0 hb, k_76_6 (by omega) c2, b_76_9, k_76_10 hb (by omega) ec, b_76_13 hsym3, e63, k_76_22 hb (by omega) ea, b_76_25 hb, kt_76_31 (by omega) c4]
        rw [r_230_306F hF4 (by omega), kt_64_99 hb (by omega) c76]
        exact Or.inr ⟨ρ4, 0, rfl, hF4, G04, σ3, rfl, F03⟩
    · have hF' : rx_F ρ' := by
        rcases hf2 with h | ⟨_, _, _, h⟩
        · exact h.1
        · exact h.1
      have r233 : js_J E (e - 1) 233 0 [(2, 83), (0, i), (9, 0)] [] (rx_next ρ) = js_r E (0, vv) (js_up ρ' 83 10 (ρ' 83 10 - 1)) := by
        rw [r6, k_233_18 (by omega) er, r_233_21F hF' (by omega)]
      rw [k_230_303 (by omega) r233, r_230_306F (rx_F_up hF' (by decide) (by decide)) (by omega)]
      rcases hf2 with h | ⟨σ3, ec, F23, h⟩
      · obtain ⟨s1, s2, σ', s3, s4⟩ := xf_deep (xf_ef (F02 _ _ _) G02 (by omega) (by omega) (by omega) (by omega) h)
        have c76 : js_J E (d - 1) 76 0 [(2, 23 + b), (2, σ1 (19 + b) i)] [] σ1 = th_P E σ' ((js_up ρ' 83 10 (ρ' 83 10 - 1)) 83 9) := by
          rw [b_76_0 hb, k_76_6 (by omega) c2, b_76_9, kt_76_10 hb (by omega) s3]
        rw [kt_64_99 hb (by omega) c76]
        exact Or.inr ⟨_, 0, rfl, s1, s2, σ', rfl, s4⟩
      · obtain ⟨s1, s2, σ', s3, s4⟩ := xf_deep (xf_ef (F02 _ _ _) G02 (by omega) (by omega) (by omega) (by omega) h)
        have hx3 := xs_R_ef hb hx2 F23 (eg_R_tf (N := 0) (fun _ _ _ => rfl) : eg_R 0 ρ2 ρ2)
        have e63 : σ3 (σ1 (19 + b) i) 6 = ρ 91 i := by rw [F23 _ _ (by unfold ef_D; omega)]; exact e6
        have es3 : σ1 (19 + b) i = σ3 (19 + b) i := by rw [es, F23 _ _ (by unfold ef_D; omega)]
        have hsym3 : js_desc E.1 σ3 (σ1 (19 + b) i) = some (0, 11, js_sym) := by
          rw [es3]
          exact (hx3.1.2.2.2.2.2.1 i i0 (by rw [g2 _ _ (by omega)]; exact i1)).1
        have c76 : js_J E (d - 1) 76 0 [(2, 23 + b), (2, σ1 (19 + b) i)] [] σ1 = th_P E σ' ((js_up ρ' 83 10 (ρ' 83 10 - 1)) 83 9) := by
          rw [b_76_0 hb, k_76_6 (by omega) c2, b_76_9, k_76_10 hb (by omega) ec, b_76_13 hsym3, e63, kt_76_22 hb (by omega) s3]
        rw [kt_64_99 hb (by omega) c76]
        exact Or.inr ⟨_, 0, rfl, s1, s2, σ', rfl, s4⟩
  · have r233 : js_J E (e - 1) 233 0 [(2, 83), (0, i), (9, 0)] [] (rx_next ρ) = js_r E (0, 0) (js_up ρ2 83 10 (ρ2 83 10 - 1)) := by
      rw [r6, k_233_18 (by omega) (r_218F hF2 (by omega)), r_233_21F hF2 (by omega)]
    have c76 : js_J E (d - 1) 76 0 [(2, 23 + b), (2, σ1 (19 + b) i)] [] σ1 = th_P E σ1 (ρ2 83 9) := by
      rw [b_76_0 hb, kt_76_6 (by omega) c2]
    rw [k_230_303 (by omega) r233, r_230_306F (rx_F_up hF2 (by decide) (by decide)) (by omega), kt_64_99 hb (by omega) c76]
    exact Or.inr ⟨_, 0, rfl, xf_deep ⟨hF2, G02, σ1, rfl, ef_R_tk f1⟩⟩
end OZ2
