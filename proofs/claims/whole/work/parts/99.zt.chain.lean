/-! part 99.zt: the chain of arguments in both -/
def cr_A (b L : Int) (σ ρ : js_S) (j : Nat) (σ' ρ' : js_S) (j' : Nat) : Prop := rd_R σ' ρ' j' ∧ j ≤ j' ∧ ρ' 83 10 = ρ 83 10 ∧ ef_R b (σ (8 + b) 6) (σ (8 + b) 10) (σ (23 + b) 15) σ σ' ∧ eh_R (ρ 83 33) L ρ ρ' ∧ ρ 83 33 ≤ ρ' 83 33 ∧ ρ' 83 33 + j ≤ ρ 83 33 + j'
def cr_C (b : Int) (B : Int → Int) (σ σ' : js_S) (r : tr_T) : Prop := (σ' (23 + b) 15 = σ (23 + b) 15 ∧ σ' (8 + b) 10 = σ (8 + b) 10 + xt_na r ∧ σ' (8 + b) 6 = σ (8 + b) 6 + xt_ln r ∧ σ' (8 + b) 7 = min 400000 (σ (8 + b) 7 + (xt_cn B r - 2 * xt_na r)) ∧ σ' (8 + b) 11 = max (σ (8 + b) 11) (xt_mt r (σ (8 + b) 10))) ∧ (σ' (8 + b) 6 ≤ 8192 → xt_cd (ci_P σ' b (σ (8 + b) 8)) r (σ (8 + b) 10) (σ (8 + b) 6)) ∧ tl_P σ' b r (σ (8 + b) 10)
def cr_T (B : Int → Int) (F t dj N L z : Int) (ρ' : js_S) (m : Int) (r : tr_T) : Prop := xt_nd ρ' N r (ρ' 83 33) m 0 ∧ ((r = .leaf ∨ xt_k r = 11) ∧ xt_w r ∧ xt_G ρ' F r) ∧ (xt_ln r + 2 * xt_na r ≤ 8 * dj + 3 ∧ 2 * xt_na r ≤ xt_cn B r ∧ xt_mt r t ≤ 1024) ∧ (0 ≤ L → ρ' 107 L = m) ∧ xt_dp r ≤ z
/-- arguments were read by both: m is the first of their nodes, L the one before, r their chain -/
def cr_R (b F : Int) (B : Int → Int) (L : Int) (σ ρ : js_S) (j : Nat) (σ' ρ' : js_S) (j' : Nat) (m : Int) (r : tr_T) : Prop := cr_A b L σ ρ j σ' ρ' j' ∧ xr_L b σ ρ σ' ρ' ∧ cr_C b B σ σ' r ∧ cr_T B F (σ (8 + b) 10) ((j' : Int) - j) (ρ 83 33) L (zz_b b σ ρ + 2) ρ' m r
theorem cr_nil {b F : Int} {B : Int → Int} {L : Int} {σ ρ : js_S} {j : Nat} (hR : rd_R σ ρ j) (hn : xn_R b σ ρ j) (hL : 0 ≤ L → ρ 107 L = -1) (hzz : 6 ≤ zz_b b σ ρ + 2) : cr_R b F B L σ ρ j σ ρ j (-1) .leaf := by
  have n0 : xt_na .leaf = 0 := rfl
  have l0 : xt_ln .leaf = 0 := rfl
  have c0 : xt_cn B .leaf = 0 := rfl
  have t0 : xt_mt .leaf (σ (8 + b) 10) = 0 := rfl
  unfold xn_R at hn
  refine ⟨⟨hR, Nat.le_refl _, rfl, ef_R_refl _ _ _ _ _, fun _ _ _ _ _ => rfl, Int.le_refl _, Int.le_refl _⟩, ⟨0, by omega, by omega, by omega, by omega⟩, ⟨⟨rfl, by rw [n0]; omega, by rw [l0]; omega, by rw [c0, n0]; omega, by rw [t0]; omega⟩, fun _ => trivial, trivial⟩, rfl, ⟨Or.inl rfl, trivial, trivial⟩, ⟨by rw [l0, n0]; omega, by rw [n0, c0]; omega, by rw [t0]; omega⟩, hL, hzz⟩
/-- one more argument in front of a chain -/
theorem cr_cons {E : js_E} {b F : Int} {B : Int → Int} {X : Int → Prop} {σ0 ρ0 σ1 ρ1 σ2 σ3 ρ3 σ4 ρ4 : js_S} {j0 j1 j3 j4 : Nat} {L n m : Int} {l r : tr_T} (hb : b = 0 ∨ b = 25) (hx : xs_R E b F B X σ0 ρ0) (hn : xn_R b σ0 ρ0 j0) (h1 : xr_R b F B σ0 ρ0 j0 σ1 ρ1 j1 n l) (ht : σ0 (8 + b) 10 < 1024) (hk : kp_R b σ1 σ2 (σ1 (23 + b) 1) (σ1 (23 + b) 2)) (f23 : tk_fr σ2 σ3) (hL : L < ρ0 83 33) (r3 : ∀ a i : Int, ¬ (a = 83 ∧ 5 ≤ i ∧ i ≤ 9) → ρ3 a i = lk_S ρ1 L n a i) (hj : j1 ≤ j3) (h4 : cr_R b F B n σ3 ρ3 j3 σ4 ρ4 j4 m r) (hln : xt_ln r + 2 * xt_na r ≤ 8 * ((j4 : Int) - j1)) : cr_R b F B L σ0 ρ0 j0 σ4 ρ4 j4 n (tr_n 11 0 0 0 0 0 0 l r) := by
  have hg0 := xs_hg hx
  have q1 := h1.1.2.1
  have dp1 := h1.1.2.2.1
  have F01 := h1.1.2.2.2.1
  have G01 := h1.1.2.2.2.2.1
  have m1 := h1.1.2.2.2.2.2.1
  have m1' := h1.1.2.2.2.2.2.2
  have y1 := h1.2.2.1.1.2.1
  have y2 := h1.2.2.1.1.2.2.1
  have y15 := h1.2.2.1.1.2.2.2
  have c10 := h1.2.2.1.2.1.1
  have c6 := h1.2.2.1.2.1.2.1
  have xe := h1.2.2.2.2.1.1
  have nd := xt_nd_in h1.2.2.2.1 xe
  have nN := h1.2.2.2.2.2.2.2.2.1
  have k10 := hk.1.1
  have k17 := hk.1.2.2.1
  have k18 := hk.1.2.2.2
  have k6 := hk.2.1
  have kO := hk.2.2.2.2
  have q4 := h4.1.2.1
  have dp4 := h4.1.2.2.1
  have F34 := h4.1.2.2.2.1
  have H34 := h4.1.2.2.2.2.1
  have m4 := h4.1.2.2.2.2.2.1
  have m4' := h4.1.2.2.2.2.2.2
  have d15 := h4.2.2.1.1.1
  have d10 := h4.2.2.1.1.2.1
  have d6 := h4.2.2.1.1.2.2.1
  have ll := xt_ln_0 l
  have lr := xt_ln_0 r
  have nr := xt_na_0 r
  have na : xt_na (tr_n 11 0 0 0 0 0 0 l r) = 1 + xt_na r := rfl
  have n0 : 0 ≤ ρ0 83 33 := hn.2.2.2.2.1.1
  have v : ∀ i : Int, σ3 (8 + b) i = σ2 (8 + b) i := fun i => f23 _ _ (by omega) (by omega)
  have v10 : σ3 (8 + b) 10 = σ0 (8 + b) 10 + 1 := by rw [v, k10, c10]
  have v6 : σ3 (8 + b) 6 = σ0 (8 + b) 6 + xt_ln l + 1 := by rw [v, k6, c6]
  have v8 : σ3 (8 + b) 8 = σ0 (8 + b) 8 := by rw [v, kO _ _ (by omega) (by omega) (by omega), F01 _ _ (by unfold ef_D; omega)]
  have v15 : σ3 (23 + b) 15 = σ0 (23 + b) 15 := by rw [f23 _ _ (by omega) (by omega), kO _ _ (by omega) (by omega) (by omega), y15]
  have v17 : σ3 (17 + b) (σ0 (8 + b) 10) = xt_lo l := by rw [f23 _ _ (by omega) (by omega), ← c10, k17, y1]
  have v18 : σ3 (18 + b) (σ0 (8 + b) 10) = xt_hi l := by rw [f23 _ _ (by omega) (by omega), ← c10, k18, y2]
  have F12 : ef_R b (σ1 (8 + b) 6) (σ1 (8 + b) 10) (σ1 (23 + b) 15) σ1 σ2 := ef_R_kp hk (Int.le_refl _) (Int.le_refl _)
  have F23 : ∀ n t p : Int, ef_R b n t p σ2 σ3 := fun n t p => ef_R_tk f23
  have F24 : ef_R b (σ0 (8 + b) 6 + xt_ln l + 1) (σ0 (8 + b) 10) (σ0 (23 + b) 15) σ2 σ4 := ef_R_trans (F23 _ _ _) (ef_R_mono F34 (by omega) (by omega) (by omega))
  have F14 : ef_R b (σ0 (8 + b) 6 + xt_ln l) (σ0 (8 + b) 10) (σ0 (23 + b) 15) σ1 σ4 := ef_R_trans (ef_R_mono F12 (by omega) (by omega) (by omega)) (ef_R_mono F24 (by omega) (by omega) (by omega))
  have F04 : ef_R b (σ0 (8 + b) 6) (σ0 (8 + b) 10) (σ0 (23 + b) 15) σ0 σ4 := ef_R_trans F01 (ef_R_mono F14 (by omega) (by omega) (by omega))
  have hg1 := hg_ef hb hg0 F01
  have hg2 := hg_ef hb hg1 F12
  have n33 : ρ3 83 33 = ρ1 83 33 := by rw [r3 _ _ (by omega), lk_o (by omega)]
  have n44 : ρ3 83 44 = ρ1 83 44 := by rw [r3 _ _ (by omega), lk_o (by omega)]
  have n10 : ρ3 83 10 = ρ1 83 10 := by rw [r3 _ _ (by omega), lk_o (by omega)]
  have G14 : eg_R 0 ρ1 ρ4 := fun a i g1 g2 => by rw [H34 _ _ g1 (by omega) (by omega), r3 _ _ (by omega), lk_o (by omega)]
  have e107 : ρ4 107 n = m := h4.2.2.2.2.2.2.1 nd.1
  have cn1 := h1.2.2.2.2.2.1.2.1
  have cn4 := h4.2.2.2.2.2.1.2.1
  refine ⟨⟨h4.1.1, by omega, by rw [dp4, n10, dp1], F04, fun a i g1 g2 g3 => ?_, by omega, by omega⟩, ?_, ⟨⟨?_, ?_, ?_, ?_, ?_⟩, fun hs => ?_, ?_⟩, ?_, ⟨Or.inr rfl, ?_, ?_⟩, ⟨?_, ?_, ?_⟩, fun hh => ?_, xt_dz (x := max (xt_dp l) (xt_dp r)) rfl (by
    have a1 := xr_zz h1
    have a2 : xt_dp r ≤ 2 * (400 - σ3 (23 + b) 15) + 6 * (65 - ρ3 83 10) + 2 := h4.2.2.2.2.2.2.2
    unfold zz_b
    omega)⟩
  · rw [H34 _ _ g1 (by omega) (by omega), r3 _ _ (by omega), lk_o g3, G01 _ _ g1 g2]
  · obtain ⟨x1, x1a, x1b, x1c, x1d⟩ := h1.2.1
    obtain ⟨x2, x2a, x2b, x2c, x2d⟩ := h4.2.1
    have v12 : σ3 (8 + b) 12 = σ1 (8 + b) 12 := by rw [v, kO _ _ (by omega) (by omega) (by omega)]
    refine ⟨max x1 x2, by omega, by omega, ?_, ?_⟩
    · rw [x2c, n44, x1c]
      omega
    · rw [x2d, v12, x1d]
      omega
  · rw [d15, v15]
  · rw [d10, v10, na]
    omega
  · rw [d6, v6, xt_ln11]
    omega
  · rw [h4.2.2.1.1.2.2.2.1, v, hk.2.2.1, h1.2.2.1.2.1.2.2.1, xt_cn11, na]
    have a7 := hn.2.1
    omega
  · rw [h4.2.2.1.1.2.2.2.2, v10, v, hk.1.2.1, h1.2.2.1.2.1.2.2.2, c10, xt_mt11]
    omega
  · rw [xt_cd11]
    have e8 : σ1 (8 + b) 8 = σ0 (8 + b) 8 := F01 _ _ (by unfold ef_D; omega)
    refine ⟨xt_cd_ef hb F14 hg1 (Int.le_refl _) (h1.2.2.1.2.2 (by omega)), ?_, ?_⟩
    · have k := hk.2.2.2.1 (by omega)
      rw [e8, c6, c10] at k
      exact ci_ef hb F24 hg2 (by omega) k
    · have k := h4.2.2.1.2.1 hs
      rw [v8, v10, v6] at k
      exact k
  · have k := h4.2.2.1.2.2
    rw [v10] at k
    show σ4 (17 + b) (σ0 (8 + b) 10) = xt_lo l ∧ σ4 (18 + b) (σ0 (8 + b) 10) = xt_hi l ∧ tl_P σ4 b r (σ0 (8 + b) 10 + 1)
    refine ⟨?_, ?_, k⟩
    · rw [F34 _ _ (by unfold ef_D; omega), v17]
    · rw [F34 _ _ (by unfold ef_D; omega), v18]
  · rw [xt_nd11, e107]
    refine ⟨⟨nd.1, nN⟩, by omega, xt_nd_up (Int.le_refl _) l (ρ1 83 33) (ρ4 83 33) n 0 (by omega) (xt_nd_of l (ρ1 83 33) n 0 (fun a i g1 g2 gm g3 => ?_) (fun i gm g1 g2 => ?_) h1.2.2.2.1), xt_nd_up (by omega) r _ _ _ _ (Int.le_refl _) h4.2.2.2.1⟩
    · rw [H34 _ _ (by omega) (by omega) (by omega), r3 _ _ (by omega), lk_o (by omega)]
    · have ne : i ≠ n := fun hh => by
        have := g2 hh
        unfold xt_e at xe
        omega
      rw [H34 _ _ (by omega) (by omega) (by omega), r3 _ _ (by omega), lk_o (by omega)]
  · rw [xt_w11]
    exact ⟨xe, h1.2.2.2.2.1.2.1, h4.2.2.2.2.1.1, h4.2.2.2.2.1.2.1⟩
  · unfold xt_G
    rw [xt_g11]
    have e4 := xr_L_up h4.2.1
    exact ⟨xt_G_eg h1.2.2.2.2.1.2.2 G14 (by omega), h4.2.2.2.2.1.2.2⟩
  · rw [xt_ln11, na]
    have a1 := h1.2.2.2.2.2.1.1
    omega
  · rw [na, xt_cn11]
    omega
  · rw [xt_mt11]
    have a1 := h1.2.2.2.2.2.1.2.2
    have a2 := h4.2.2.2.2.2.1.2.2
    rw [v10] at a2
    omega
  · rw [H34 _ _ (by omega) (by omega) (by omega), r3 _ _ (by omega), lk_7 hh]
section QB
variable {E : js_E} {d e : Nat} {b F : Int} {B : Int → Int} {X : Int → Prop}
/-- the arguments from the k-th on, in both -/
theorem y_args {J0 : Nat} {N i len s x2 x3 x4 y2 : Int} (hb : b = 0 ∨ b = 25) (hE : xe_P E b F B X J0) (hi : 0 ≤ i ∧ i < 400) (hl : 0 ≤ len ∧ len ≤ 8) (hX : ¬ X i) : ∀ (G : Nat) (σ ρ : js_S) (j : Nat) (k L y4 : Int) (ux8 ux6 ux7 : js_v), 8200 ≤ G + j → J0 ≤ j → xs_R E b F B X σ ρ → xn_R b σ ρ j → rd_R σ ρ j → ρ 83 5 ≠ 41 → σ (8 + b) 10 + (len - k) ≤ 12 * ρ 83 10 → σ (23 + b) 15 ≤ 6 * ρ 83 10 → 4 * (65 - ρ 83 10) + 26 ≤ (d : Int) → 12 * (65 - ρ 83 10) + 27 ≤ (e : Int) → k < len → 0 ≤ k → k ≤ j → σ (19 + b) i = s → i < ρ 83 11 → ρ 86 i = 4 → ρ 91 i = len → N ≤ ρ 83 33 → (0 ≤ L → N ≤ L) → -1 ≤ L → L < ρ 83 33 → (∃ (σ' ρ' : js_S) (j' : Nat) (m : Int) (r : tr_T) (vx v6 v7 : js_v) (yl : Int), js_J E d 66 102 [(2, 23 + b), (2, s), (0, x2), (0, x3), (0, x4), (0, k), (0, 1), (0, k), ux8] [(2, 23 + b)] σ = js_J E d 66 216 [(2, 23 + b), (2, s), (0, x2), (0, x3), (0, x4), (0, len), (0, 0), (0, len), vx] [] σ' ∧ js_J E e 232 78 [(2, 83), (0, i), (0, y2), (0, k), (0, y4), (0, L), ux6, ux7] [] ρ = js_J E e 232 223 [(2, 83), (0, i), (0, y2), (0, len), (0, if L < 0 then m else y4), (0, yl), v6, v7] [] ρ' ∧ ρ' 83 5 = 41 ∧ xt_na r = len - k ∧ cr_R b F B L σ ρ j σ' ρ' j' m r) ∨ xa_P E b N σ ρ (js_J E d 66 102 [(2, 23 + b), (2, s), (0, x2), (0, x3), (0, x4), (0, k), (0, 1), (0, k), ux8] [(2, 23 + b)] σ) (js_J E e 232 78 [(2, 83), (0, i), (0, y2), (0, k), (0, y4), (0, L), ux6, ux7] [] ρ)
  | 0, σ, ρ, j, k, L, y4, ux8, ux6, ux7, hG, _, _, _, hR, _, _, _, _, _, _, _, _, _, _, _, _, _, _, _, _ => by
    have := rd_j hR
    omega
  | G + 1, σ, ρ, j, k, L, y4, ux8, ux6, ux7, hG, hJ, hx, hn, hR, h41, ht, hp, hd, he, hk, hk0, hkj, h19, hi1, h86, h91, hN, hLN, hL0, hL1 => by
    have hj := rd_j hR
    have ok := hR.2.2.1
    have o9 := ok.2.2.1
    have D1 := hR.2.2.2.2.2
    have hnod := hn.2.2.2.2.1
    have h400 := hx.1.1.2.1
    have told := hx.1.2.2.2.2.1
    have hS := hx.1.2.2.2.2.2.1 i hi.1 hi1
    unfold sy_N at hS
    rw [h19] at hS
    have hs := hS.1
    have hge := js_sym_ge hs
    have gs := hx.2.2.1 i hi.1 hi1 hX
    have g4 := gs.2.2.2.2.1 h86
    clear gs
    rw [h91] at g4
    have g4b := g4.2.2.2.1
    have gk := g4.2.2.2.2.1 (1 + k) (by omega) (by omega)
    clear g4
    rw [show i + (1 + k) = i + 1 + k by omega] at gk
    have hP := hx.1.2.2.2.2.2.1 (i + 1 + k) (by omega) (by omega)
    have hgp := js_sym_ge hP.1
    have hF := hx.1.2.2.2.2.2.2 (i + 1 + k) (by omega) (by omega) gk.2
    have gp := (hx.2.2.1 (i + 1 + k) (by omega) (by omega) gk.2).2.2.1 (Or.inr (by omega))
    have rv := hx.1.2.1 (i + 1 + k) (by omega) (by omega)
    have h6 : σ s 6 = len := by
      have := (hx.1.2.2.2.2.2.2 i hi.1 hi1 hX).2.2.2.2.1
      rw [h19] at this
      rw [this]
      exact h91
    have w5 : js_w (ρ 83 5) = ρ 83 5 := js_w_of (by have := ok.2.2.2.2.2.2.1; omega) (by have := ok.2.2.2.2.2.2.2.1; omega)
    have wk : js_w k = k := js_w_of (by omega) (by omega)
    have wl : js_w len = len := js_w_of (by omega) (by omega)
    have wP : js_w (i + 1 + k) = i + 1 + k := js_w_of (by omega) (by omega)
    rw [b_232_78, o9, if_pos (show js_w 0 = 0 from rfl), w5, if_neg h41, js_w_of (x := i) (by omega) (by omega), if_pos hi, h91, wk, wl, if_pos hk, wP, if_pos (show 0 ≤ i + 1 + k ∧ i + 1 + k < 400 by omega), js_w_of (x := ρ 88 (i + 1 + k)) (by omega) (by omega), js_w_of (x := ρ 89 (i + 1 + k)) (by omega) (by omega)]
    rcases y_for (E := E) (d := d - 1) (e := e - 1) (t := ρ 87 (i + 1 + k)) (lo := ρ 88 (i + 1 + k)) (hi := ρ 89 (i + 1 + k)) hb hE hJ hx hn hR (by omega) hp (by omega) (by omega) (by omega) (by omega) (by omega) with ⟨σ1, ρ1, j1, n, l, er, ec, ea, h1, _⟩ | ⟨ρ', v, er, hf⟩
    · have r1 := h1.1.1
      have hj1 := rd_j r1
      have q1 := h1.1.2.1
      have dp1 := h1.1.2.2.1
      have F01 := h1.1.2.2.2.1
      have G01 := h1.1.2.2.2.2.1
      have m1 := h1.1.2.2.2.2.2.1
      have m1' := h1.1.2.2.2.2.2.2
      have y15 := h1.2.2.1.1.2.2.2
      have c10 := h1.2.2.1.2.1.1
      have c6 := h1.2.2.1.2.1.2.1
      have ll := xt_ln_0 l
      have hn1 := xn_next hn h1
      have hx1 := xs_R_ef hb hx F01 G01
      have nd := xt_nd_in h1.2.2.2.1 h1.2.2.2.2.1.1
      have nN := h1.2.2.2.2.2.2.2.2.1
      have nq := h1.2.2.2.2.2.2.2.2.2.1
      have lnl := h1.2.2.2.2.2.1.1
      have s1 : ∀ q : Int, σ1 s q = σ s q := fun q => F01 _ _ (by unfold ef_D; omega)
      have p1 : ∀ q : Int, σ1 (σ (19 + b) (i + 1 + k)) q = σ (σ (19 + b) (i + 1 + k)) q := fun q => F01 _ _ (by unfold ef_D; omega)
      have hs1 : js_desc E.1 σ1 s = some (0, 11, js_sym) := js_desc_mono hs (by rw [F01 _ _ (by unfold ef_D; omega)]; exact Int.le_refl _) (fun _ => s1 _)
      have hP1 : js_desc E.1 σ1 (σ (19 + b) (i + 1 + k)) = some (0, 11, js_sym) := js_desc_mono hP.1 (by rw [F01 _ _ (by unfold ef_D; omega)]; exact Int.le_refl _) (fun _ => p1 _)
      have h61 : σ1 s 6 = len := by rw [s1]; exact h6
      have h01 : σ1 s 0 = i := by rw [s1]; exact hS.2.1
      have e19 : σ1 (19 + b) (i + 1 + k) = σ (19 + b) (i + 1 + k) := F01 _ _ (by unfold ef_D; omega)
      have told1 : σ1 (7 + b) 1 = ρ 83 11 := by rw [F01 _ _ (by unfold ef_D; omega)]; exact told
      have p2 : σ1 (σ (19 + b) (i + 1 + k)) 2 = ρ 87 (i + 1 + k) := by rw [p1]; exact hF.2.1
      have p3 : σ1 (σ (19 + b) (i + 1 + k)) 3 = ρ 88 (i + 1 + k) := by rw [p1]; exact hF.2.2.1
      have p4 : σ1 (σ (19 + b) (i + 1 + k)) 4 = ρ 89 (i + 1 + k) := by rw [p1]; exact hF.2.2.2.1
      have csym : js_J E (d - 1) 67 0 [(2, 7 + b), (0, i + 1 + k)] [] σ1 = js_r E (2, σ (19 + b) (i + 1 + k)) σ1 := by
        rw [c_symAt hb (by omega) (by omega) (by omega), e19]
      have hz1 := xn_cz hn1 r1
      have t0 := hn1.2.2.1
      have mt0 := hn1.2.2.2.1.1
      have mt1 := hn1.2.2.2.1.2
      obtain ⟨σ2, e2, k2⟩ := c_keep (E := E) (d := d - 1) (σ := σ1) (lo := σ1 (23 + b) 1) (hi := σ1 (23 + b) 2) hb hz1 (by omega) t0 (by omega) mt0 (by omega)
      have kO := k2.2.2.2.2
      have k6 := k2.2.1
      have k10 := k2.1.1
      have k15 : σ2 (23 + b) 15 = σ1 (23 + b) 15 := kO _ _ (by omega) (by omega) (by omega)
      have F12 : ef_R b (σ1 (8 + b) 6) (σ1 (8 + b) 10) (σ1 (23 + b) 15) σ1 σ2 := ef_R_kp k2 (Int.le_refl _) (Int.le_refl _)
      have F02 : ef_R b (σ (8 + b) 6) (σ (8 + b) 10) (σ (23 + b) 15) σ σ2 := ef_R_trans F01 (ef_R_mono F12 (by omega) (by omega) (by omega))
      have o91 : ρ1 83 9 = 0 := r1.2.2.1.2.2.1
      have G1 : eg_R N ρ ρ1 := eg_R_trans (eg_R_refl N ρ) G01 hN
      have G12 : eg_R N ρ1 (lk_S ρ1 L n) := eg_R_lk hLN
      have G02 : eg_R N ρ (lk_S ρ1 L n) := eg_R_trans G1 G12 (Int.le_refl _)
      have hx2 := xs_R_ef hb hx F02 G02
      have r2 : rd_R σ2 (lk_S ρ1 L n) j1 := rd_lk (rd_R_of r1 (fun i _ => kO _ _ (by omega) (by omega) (by omega)) (fun a i _ _ => kO _ _ (by omega) (by omega) (by omega)) (fun _ _ _ => rfl) (fun _ => rfl))
      have hn2 : xn_R b σ2 (lk_S ρ1 L n) (j1 + 1) := by
        refine xn_lk ?_
        have a7 := k2.2.2.1
        have a11 := k2.1.2.1
        have a12 : σ2 (8 + b) 12 = σ1 (8 + b) 12 := kO _ _ (by omega) (by omega) (by omega)
        clear hF gp rv gk hP hS
        unfold xn_R at hn1 ⊢
        push_cast
        omega
      have s2 : ∀ q : Int, σ2 s q = σ1 s q := fun q => kO _ _ (by omega) (by omega) (by omega)
      have hs2 : js_desc E.1 σ2 s = some (0, 11, js_sym) := js_desc_mono hs1 (by rw [kO _ _ (by omega) (by omega) (by omega)]; exact Int.le_refl _) (fun _ => s2 _)
      have h62 : σ2 s 6 = len := by rw [s2]; exact h61
      have e91 : lk_S ρ1 L n 91 i = len := by rw [lk_o (by omega), G01 _ _ (by omega) (by omega)]; exact h91
      have e86 : lk_S ρ1 L n 86 i = 4 := by rw [lk_o (by omega), G01 _ _ (by omega) (by omega)]; exact h86
      have e11 : lk_S ρ1 L n 83 11 = ρ 83 11 := by rw [lk_o (by omega), G01 _ _ (by omega) (by omega)]
      have e10 : lk_S ρ1 L n 83 10 = ρ 83 10 := by rw [lk_o (by omega), dp1]
      have e33 : lk_S ρ1 L n 83 33 = ρ1 83 33 := lk_o (by omega)
      clear hF gp rv gk hP hS
      rw [k_66_102 hb (by omega) ec, b_66_105 hs1 hb, h61, wk, wl, if_pos hk, h01, k_66_127 hb (by omega) csym, b_66_130, b_66_134, if_neg (show ¬ σ (19 + b) (i + 1 + k) < 0 by omega), b_66_141 hP1, p2, p3, p4, k_66_157 hb (by omega) ea, b_66_160 hb, k_66_172 hb (by omega) e2, b_66_175, k_232_135 (by omega) er, b_232_138, r_link o91 (by omega)]
      rcases y_sep (E := E) (d := d) (e := e) (N := N) (i := i) (k := k) (x1 := s) (x2 := x2) (x3 := x3) (x4 := x4) (x6 := 1) (x8 := σ (19 + b) (i + 1 + k)) (y2 := y2) (y3 := k + 1) (y4 := if L < 0 then n else y4) (y5 := L) (y6 := i + 1 + k) (y7 := n) hb hx2 r2 (by omega) (by omega) hi (by omega) hs2 with ⟨q41, ec2, er2⟩ | ⟨σ3, ec2, er2, hR3, f3, q41⟩ | hf
      · rw [ec2, er2]
        by_cases qk : k + 1 = len
        · have hq : lk_S ρ1 L n 107 n = -1 := by rw [lk_o (by omega)]; exact nq
          have hn2' : xn_R b σ2 (lk_S ρ1 L n) j1 := by
            refine xn_lk ?_
            have a7 := k2.2.2.1
            have a11 := k2.1.2.1
            have a12 : σ2 (8 + b) 12 = σ1 (8 + b) 12 := kO _ _ (by omega) (by omega) (by omega)
            have b6 := hn.1
            unfold xn_R at hn1 ⊢
            omega
          refine Or.inl ⟨σ2, lk_S ρ1 L n, j1, n, tr_n 11 0 0 0 0 0 0 l .leaf, (2, σ (19 + b) (i + 1 + k)), (0, i + 1 + k), (0, n), n, ?_, ?_, q41, ?_, ?_⟩
          · rw [qk]
          · rw [qk]
          · show 1 + 0 = len - k
            omega
          · exact cr_cons (σ3 := σ2) (ρ3 := lk_S ρ1 L n) (j3 := j1) hb hx hn h1 (by omega) k2 (fun _ _ _ _ => rfl) hL1 (fun _ _ _ => rfl) (Nat.le_refl _) (cr_nil r2 hn2' (fun _ => hq) (by unfold zz_b; omega)) (by show (0 : Int) + 2 * 0 ≤ 8 * ((j1 : Int) - j1); omega)
        · exact Or.inr (xa_up F02 G02 (by omega) (by omega) (by omega) (y_count hb hx2 r2 (by omega) (by omega) hi (by omega) hl qk q41 hs2 h62 e91))
      · rw [ec2, er2]
        have p3 : og_R (lk_S ρ1 L n) (rx_next (lk_S ρ1 L n)) := fun a i g => rx_next_o _ (by omega)
        have v : ∀ q : Int, σ3 (8 + b) q = σ2 (8 + b) q := fun q => f3 _ _ (by omega) (by omega)
        have v6 := v 6
        have v10 := v 10
        have v15 : σ3 (23 + b) 15 = σ2 (23 + b) 15 := f3 _ _ (by omega) (by omega)
        have u10 : rx_next (lk_S ρ1 L n) 83 10 = ρ 83 10 := by rw [rx_next_o _ (by omega), e10]
        have u33 : rx_next (lk_S ρ1 L n) 83 33 = ρ1 83 33 := by rw [rx_next_o _ (by omega), e33]
        have u44 : rx_next (lk_S ρ1 L n) 83 44 = lk_S ρ1 L n 83 44 := rx_next_o _ (by omega)
        have u11 : rx_next (lk_S ρ1 L n) 83 11 = ρ 83 11 := by rw [rx_next_o _ (by omega), e11]
        have u91 : rx_next (lk_S ρ1 L n) 91 i = len := by rw [rx_next_o _ (by omega)]; exact e91
        have u86 : rx_next (lk_S ρ1 L n) 86 i = 4 := by rw [rx_next_o _ (by omega)]; exact e86
        have F03 : ef_R b (σ (8 + b) 6) (σ (8 + b) 10) (σ (23 + b) 15) σ σ3 := ef_R_trans F02 (ef_R_tk f3)
        have G03 : eg_R N ρ (rx_next (lk_S ρ1 L n)) := eg_R_trans G02 (eg_R_og p3) (Int.le_refl _)
        have hx3 := xs_R_ef hb hx F03 G03
        have hn3 : xn_R b σ3 (rx_next (lk_S ρ1 L n)) (j1 + 1) := by
          have v7 := v 7
          have v11 := v 11
          have v12 := v 12
          unfold xn_R at hn2 ⊢
          rw [v6, v7, v10, v11, v12, v15, u33, u44]
          rw [e33] at hn2
          exact hn2
        have s3 : ∀ q : Int, σ3 s q = σ2 s q := fun q => f3 _ _ (by omega) (by omega)
        by_cases qk : k + 1 < len
        · have h193 : σ3 (19 + b) i = s := by rw [F03 _ _ (by unfold ef_D; omega)]; exact h19
          rcases y_args (N := N) (x2 := x2) (x3 := x3) (x4 := x4) (y2 := y2) hb hE hi hl hX G σ3 (rx_next (lk_S ρ1 L n)) (j1 + 1) (k + 1) n (if L < 0 then n else y4) (2, σ (19 + b) (i + 1 + k)) (0, i + 1 + k) (0, n) (by omega) (by omega) hx3 hn3 hR3 q41 (by omega) (by omega) (by omega) (by omega) qk (by omega) (by push_cast; omega) h193 (by omega) u86 u91 (by omega) (fun _ => by omega) (by omega) (by omega) with ⟨σ4, ρ4, j4, m, r, vx, v6', v7', yl, ec4, er4, h45, hna, hc⟩ | hf
          · have jj := hc.1.2.1
            have lnr := hc.2.2.2.2.2.1.1
            refine Or.inl ⟨σ4, ρ4, j4, n, tr_n 11 0 0 0 0 0 0 l r, vx, v6', v7', yl, ec4, ?_, h45, ?_, ?_⟩
            · rw [er4, if_neg (show ¬ n < 0 by omega)]
            · show 1 + xt_na r = len - k
              omega
            · exact cr_cons (σ3 := σ3) (ρ3 := rx_next (lk_S ρ1 L n)) (j3 := j1 + 1) hb hx hn h1 (by omega) k2 f3 hL1 (fun a i g => rx_next_o _ (by omega)) (by omega) hc (by push_cast at lnr; omega)
          · exact Or.inr (xa_up F03 G03 (by omega) (by omega) (by omega) hf)
        · have hs3 : js_desc E.1 σ3 s = some (0, 11, js_sym) := js_desc_mono hs2 (by rw [f3 _ _ (by omega) (by omega)]; exact Int.le_refl _) (fun _ => s3 _)
          exact Or.inr (xa_up F03 G03 (by omega) (by omega) (by omega) (y_more hb hE hi hl G σ3 (rx_next (lk_S ρ1 L n)) (j1 + 1) (k + 1) n (if L < 0 then n else y4) (2, σ (19 + b) (i + 1 + k)) (0, i + 1 + k) (0, n) (by omega) (by omega) hx3 hn3 hR3 q41 (by omega) (by omega) (by omega) (by omega) (by omega) (by push_cast; omega) hs3 (by rw [s3]; exact h62) u91 (by omega) (fun _ => by omega) (by omega) (by omega)))
      · exact Or.inr (xa_up F02 G02 (by omega) (by omega) (by omega) hf)
    · have hFr : rx_F ρ' := by
        rcases hf with h | ⟨_, _, _, h⟩
        · exact h.1
        · exact h.1
      rw [k_232_135 (by omega) er, b_232_138, r_232_145F hFr]
      rcases hf with ⟨_, hg, σ', hc, hff⟩ | ⟨σ1, ec, F01, _, hg, σ', hc, hff⟩
      · rw [kt_66_102 hb (by omega) hc]
        exact Or.inr ⟨ρ', 0, rfl, hFr, eg_R_trans (eg_R_refl N ρ) hg hN, σ', rfl, hff⟩
      · have s1 : ∀ q : Int, σ1 s q = σ s q := fun q => F01 _ _ (by unfold ef_D; omega)
        have p1 : ∀ q : Int, σ1 (σ (19 + b) (i + 1 + k)) q = σ (σ (19 + b) (i + 1 + k)) q := fun q => F01 _ _ (by unfold ef_D; omega)
        have hs1 : js_desc E.1 σ1 s = some (0, 11, js_sym) := js_desc_mono hs (by rw [F01 _ _ (by unfold ef_D; omega)]; exact Int.le_refl _) (fun _ => s1 _)
        have hP1 : js_desc E.1 σ1 (σ (19 + b) (i + 1 + k)) = some (0, 11, js_sym) := js_desc_mono hP.1 (by rw [F01 _ _ (by unfold ef_D; omega)]; exact Int.le_refl _) (fun _ => p1 _)
        have h61 : σ1 s 6 = len := by rw [s1]; exact h6
        have h01 : σ1 s 0 = i := by rw [s1]; exact hS.2.1
        have e19 : σ1 (19 + b) (i + 1 + k) = σ (19 + b) (i + 1 + k) := F01 _ _ (by unfold ef_D; omega)
        have told1 : σ1 (7 + b) 1 = ρ 83 11 := by rw [F01 _ _ (by unfold ef_D; omega)]; exact told
        have p2 : σ1 (σ (19 + b) (i + 1 + k)) 2 = ρ 87 (i + 1 + k) := by rw [p1]; exact hF.2.1
        have p3 : σ1 (σ (19 + b) (i + 1 + k)) 3 = ρ 88 (i + 1 + k) := by rw [p1]; exact hF.2.2.1
        have p4 : σ1 (σ (19 + b) (i + 1 + k)) 4 = ρ 89 (i + 1 + k) := by rw [p1]; exact hF.2.2.2.1
        have csym : js_J E (d - 1) 67 0 [(2, 7 + b), (0, i + 1 + k)] [] σ1 = js_r E (2, σ (19 + b) (i + 1 + k)) σ1 := by
          rw [c_symAt hb (by omega) (by omega) (by omega), e19]
        rw [k_66_102 hb (by omega) ec, b_66_105 hs1 hb, h61, wk, wl, if_pos hk, h01, k_66_127 hb (by omega) csym, b_66_130, b_66_134, if_neg (show ¬ σ (19 + b) (i + 1 + k) < 0 by omega), b_66_141 hP1, p2, p3, p4, kt_66_157 hb (by omega) hc]
        exact Or.inr ⟨ρ', 0, rfl, hFr, eg_R_trans (eg_R_refl N ρ) hg hN, σ', rfl, hff⟩
end QB
