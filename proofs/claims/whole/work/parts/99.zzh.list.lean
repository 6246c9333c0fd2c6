/-! part 99.zzh: lists of statements in step -/
/-- as sg_R, but the next of L is set -/
def sh_R (N m L : Int) (ρ ρ' : js_S) : Prop := ∀ a i : Int, ¬ (a = 83 ∧ (5 ≤ i ∧ i ≤ 11 ∨ 27 ≤ i ∧ i ≤ 33 ∨ 42 ≤ i ∧ i ≤ 44)) → ¬ (100 ≤ a ∧ a ≤ 107 ∧ N ≤ i) → ¬ (86 ≤ a ∧ a ≤ 97 ∧ m ≤ i) → ¬ (a = 98 ∧ 20 * m ≤ i) → a ≠ 99 → ¬ (a = 107 ∧ i = L ∧ 0 ≤ L) → ρ' a i = ρ a i
theorem sg_R_sh {N m L : Int} {ρ ρ' : js_S} (h : sh_R N m L ρ ρ') (hL : L < 0) : sg_R N m ρ ρ' := fun a i g1 g2 g3 g4 g5 => h a i g1 g2 g3 g4 g5 (by omega)
theorem rf_R_sh {N m L : Int} {ρ ρ' : js_S} (h : sh_R N m L ρ ρ') : rf_R ρ ρ' := fun a i g1 g2 => h a i (by omega) (by omega) (by omega) (by omega) (by omega) (by omega)
/-- a list's code knows nothing of what is behind it -/
theorem st_cd_z {P : Int → xt_I → Prop} (e : tr_T) : ∀ t p z z' : Int, (e = .leaf ∨ xt_k e = 90) → st_w e → st_cd P e t p z → st_cd P e t p z' := by
  induction e with
  | leaf => intro t p z z' _ _ _; exact trivial
  | inner z0 d v l r ihl ihr =>
    intro t p z z' hk hw h
    have ek : xt_k (.inner z0 d v l r) = d.1 := rfl
    rw [ek] at hk
    have q : d.1 = 90 := hk.elim (fun hh => by cases hh) id
    rw [st_w, if_pos q] at hw
    rw [st_cd, if_pos q] at h ⊢
    exact ⟨h.1, ihr _ _ _ _ hw.2.2.1 hw.2.2.2 h.2⟩
def lr_A (b L : Int) (σ ρ : js_S) (j : Nat) (σ' ρ' : js_S) (j' : Nat) : Prop := rd_R σ' ρ' j' ∧ j ≤ j' ∧ ρ' 83 10 = ρ 83 10 ∧ sf_R b (σ (8 + b) 6) (σ (8 + b) 10) (σ (23 + b) 15) (ρ 83 11) σ σ' ∧ sh_R (ρ 83 33) (ρ 83 11) L ρ ρ' ∧ ρ 83 33 ≤ ρ' 83 33 ∧ ρ' 83 33 + j ≤ ρ 83 33 + j' ∧ ρ 83 11 ≤ ρ' 83 11
def ls_C (b : Int) (B : Int → Int) (σ σ' : js_S) (r : tr_T) : Prop := (σ' (23 + b) 15 = σ (23 + b) 15 ∧ σ' (8 + b) 10 = σ (8 + b) 10 ∧ σ' (8 + b) 6 = σ (8 + b) 6 + st_ln r ∧ σ' (8 + b) 7 = min 400000 (σ (8 + b) 7 + st_cn B r) ∧ σ' (8 + b) 11 = max (σ (8 + b) 11) (st_mt r (σ (8 + b) 10))) ∧ (σ' (8 + b) 6 ≤ 8192 → st_cd (ci_P σ' b (σ (8 + b) 8)) r (σ (8 + b) 10) (σ (8 + b) 6) 0)
def ls_T (B : Int → Int) (F t dj N L z : Int) (ρ' : js_S) (m : Int) (r : tr_T) : Prop := st_nd ρ' r N (ρ' 83 33) m 0 ∧ ((r = .leaf ∨ xt_k r = 90) ∧ st_w r ∧ st_G ρ' F r) ∧ (st_ln r ≤ 5000 * dj ∧ 0 ≤ st_cn B r ∧ st_mt r t ≤ 1024) ∧ (0 ≤ L → ρ' 107 L = m) ∧ st_dp r ≤ z
/-- statements were read by both: m is the first of their nodes, L the one before -/
def lr_R (E : js_E) (b F : Int) (B U : Int → Int) (X : Int → Prop) (L : Int) (σ ρ : js_S) (j : Nat) (σ' ρ' : js_S) (j' : Nat) (m : Int) (r : tr_T) : Prop := lr_A b L σ ρ j σ' ρ' j' ∧ xr_L b σ ρ σ' ρ' ∧ ls_C b B σ σ' r ∧ ls_T B F (σ (8 + b) 10) ((j' : Int) - j) (ρ 83 33) L (zz_b b σ ρ + 11) ρ' m r ∧ ux_R E b F B U X σ' ρ'
theorem sf_R_refl {b n t p m : Int} {σ : js_S} : sf_R b n t p m σ σ := ⟨fr_R_refl b σ, fun _ _ _ _ _ => rfl, fun _ _ _ => ⟨rfl, fun _ _ => rfl⟩, Int.le_refl _⟩
theorem lr_nil {E : js_E} {b F : Int} {B U : Int → Int} {X : Int → Prop} {L : Int} {σ ρ : js_S} {j : Nat} (hx : ux_R E b F B U X σ ρ) (hR : rd_R σ ρ j) (hn : xn_R b σ ρ j) (hL : 0 ≤ L → ρ 107 L = -1) (hzz : 0 ≤ zz_b b σ ρ) : lr_R E b F B U X L σ ρ j σ ρ j (-1) .leaf := by
  have l0 : st_ln .leaf = 0 := rfl
  have c0 : st_cn B .leaf = 0 := rfl
  have t0 : st_mt .leaf (σ (8 + b) 10) = 0 := rfl
  unfold xn_R at hn
  refine ⟨⟨hR, Nat.le_refl _, rfl, sf_R_refl, fun _ _ _ _ _ _ _ _ => rfl, Int.le_refl _, Int.le_refl _, Int.le_refl _⟩, ⟨0, by omega, by omega, by omega, by omega⟩, ⟨⟨rfl, rfl, by rw [l0]; omega, by rw [c0]; omega, by rw [t0]; omega⟩, fun _ => trivial⟩, ⟨rfl, ⟨Or.inl rfl, trivial, trivial⟩, ⟨by rw [l0]; omega, by rw [c0]; omega, by rw [t0]; omega⟩, hL, st_dz (x := 8) rfl (by omega)⟩, hx⟩
/-- the next of a node is set: symbols and cells as before -/
theorem ux_lk {E : js_E} {b F L n : Int} {B U : Int → Int} {X : Int → Prop} {σ ρ : js_S} (hb : b = 0 ∨ b = 25) (hx : ux_R E b F B U X σ ρ) : ux_R E b F B U X σ (lk_S ρ L n) := by
  by_cases q : 0 ≤ L
  · exact ux_ef (n := 0) (t := 0) (p := 0) (N := L) hb hx (ef_R_refl _ _ _ _ _) (eg_R_lk (fun _ => Int.le_refl _))
  · exact ux_ef (n := 0) (t := 0) (p := 0) (N := 0) hb hx (ef_R_refl _ _ _ _ _) (eg_R_lk (fun h => absurd h q))
/-- one more statement in front of a list -/
theorem lr_cons {E : js_E} {b F : Int} {B U : Int → Int} {X : Int → Prop} {σ0 ρ0 σ1 ρ1 σ4 ρ4 : js_S} {j0 j1 j4 : Nat} {L n m : Int} {s r : tr_T} (hb : b = 0 ∨ b = 25) (hx : ux_R E b F B U X σ0 ρ0) (hn : xn_R b σ0 ρ0 j0) (h1 : sr_R E b F B U X σ0 ρ0 j0 σ1 ρ1 j1 n s) (hL : L < ρ0 83 33) (h4 : lr_R E b F B U X n σ1 (lk_S ρ1 L n) j1 σ4 ρ4 j4 m r) : lr_R E b F B U X L σ0 ρ0 j0 σ4 ρ4 j4 n (tr_n 90 0 0 0 0 0 0 s r) := by
  obtain ⟨⟨r1, q1, dp1, F01, G01, m1, m1', k1⟩, hL1, hC1, hT1, hu1⟩ := h1
  obtain ⟨⟨r4, q4, dp4, F14, H14, m4, m4', k4⟩, hL4, hC4, hT4, hu4⟩ := h4
  have n0 : 0 ≤ ρ0 83 33 := hn.2.2.2.2.1.1
  have a7 := hn.2.1
  have nN := hT1.2.2.2.1
  have nN' := hT1.2.2.2.2.1
  have e33 : lk_S ρ1 L n 83 33 = ρ1 83 33 := lk_o (by omega)
  have e11 : lk_S ρ1 L n 83 11 = ρ1 83 11 := lk_o (by omega)
  have e10 : lk_S ρ1 L n 83 10 = ρ1 83 10 := lk_o (by omega)
  have e44 : lk_S ρ1 L n 83 44 = ρ1 83 44 := lk_o (by omega)
  have c15 := hC1.1.1
  have c10 := hC1.1.2.1
  have c6 := hC1.1.2.2.1
  have d6 := hC4.1.2.2.1
  have ls := st_ln_0 s
  have lr := st_ln_0 r
  have told1 : σ1 (7 + b) 1 = ρ1 83 11 := hu1.1.1.2.2.2.2.1
  have F14' : sf_R b (σ1 (8 + b) 6) (σ1 (8 + b) 10) (σ1 (23 + b) 15) (σ1 (7 + b) 1) σ1 σ4 := by
    rw [told1, ← e11]
    exact F14
  have u8 : σ1 (8 + b) 8 = σ0 (8 + b) 8 := F01.2.1 _ _ (by omega) (by omega) (by unfold sf_D ef_D; omega)
  have e107 : ρ4 107 n = m := hT4.2.2.2.1 (by omega)
  have cn1 := hT1.2.2.1.2.1
  have cn4 := hT4.2.2.1.2.1
  refine ⟨⟨r4, by omega, by rw [dp4, e10, dp1], sf_R_trans F01 F14 (by omega) (by omega) (by omega) (by omega), fun a i g1 g2 g3 g4 g5 g6 => ?_, by omega, by omega, by omega⟩, ?_, ⟨⟨?_, ?_, ?_, ?_, ?_⟩, fun hs => ?_⟩, ⟨?_, ⟨Or.inr rfl, ?_, ?_⟩, ⟨?_, ?_, ?_⟩, fun hh => ?_, st_dz (x := max (1 + st_dp s) (st_dp r)) rfl (by
    have a1 : st_dp s ≤ 2 * (400 - σ0 (23 + b) 15) + 6 * (65 - ρ0 83 10) + 10 := hT1.2.2.2.2.2.2
    have a2 : st_dp r ≤ 2 * (400 - σ1 (23 + b) 15) + 6 * (65 - lk_S ρ1 L n 83 10) + 11 := hT4.2.2.2.2
    unfold zz_b
    omega)⟩, hu4⟩
  · rw [H14 _ _ g1 (by omega) (by omega) (by omega) g5 (by omega), lk_o g6, G01 _ _ g1 g2 g3 g4 g5]
  · obtain ⟨x1, x1a, x1b, x1c, x1d⟩ := hL1
    obtain ⟨x2, x2a, x2b, x2c, x2d⟩ := hL4
    refine ⟨max x1 x2, by omega, by omega, ?_, ?_⟩
    · rw [x2c, e44, x1c]
      omega
    · rw [x2d, x1d]
      omega
  · rw [hC4.1.1, c15]
  · rw [hC4.1.2.1, c10]
  · rw [d6, c6, st_ln90]
    omega
  · rw [hC4.1.2.2.2.1, hC1.1.2.2.2.1, st_cn90]
    omega
  · rw [hC4.1.2.2.2.2, c10, hC1.1.2.2.2.2, st_mt90]
    omega
  · rw [st_cd90]
    have k := hC4.2 hs
    rw [u8, c10, c6] at k
    exact ⟨st_cd_sf hb F14' (by omega) (hC1.2 (by omega)), k⟩
  · rw [st_nd90, e107]
    refine ⟨⟨by omega, nN⟩, by omega, st_nd_of s _ _ _ _ _ _ (Int.le_refl _) (by omega) (fun a i g1 g2 gm g3 => ?_) (fun i gm g1 g2 => ?_) hT1.1, st_nd_of r _ _ _ _ _ _ (by omega) (Int.le_refl _) (fun _ _ _ _ _ _ => rfl) (fun _ _ _ _ => rfl) hT4.1⟩
    · rw [H14 _ _ (by omega) (by omega) (by omega) (by omega) (by omega) (by omega), lk_o (by omega)]
    · have ne : i ≠ n := fun hh => (g2 hh).1 hT1.2.1.1
      rw [H14 _ _ (by omega) (by omega) (by omega) (by omega) (by omega) (by omega), lk_o (by omega)]
  · rw [st_w90]
    exact ⟨hT1.2.1.1, hT1.2.1.2.1, hT4.2.1.1, hT4.2.1.2.1⟩
  · unfold st_G
    rw [st_g90]
    have l4 := xr_L_up hL4
    exact ⟨st_G_of hT1.2.1.2.2 (by omega) (fun a i g1 g2 g3 g4 => by rw [H14 _ _ (by omega) (by omega) (by omega) (by omega) (by omega) (by omega), lk_o (by omega)]) (by rw [e44] at l4; exact l4), hT4.2.1.2.2⟩
  · have b1 := hT1.2.2.1.1
    have b4 := hT4.2.2.1.1
    rw [st_ln90]
    omega
  · rw [st_cn90]
    omega
  · have b1 := hT1.2.2.1.2.2
    have b4 := hT4.2.2.1.2.2
    rw [c10] at b4
    rw [st_mt90]
    omega
  · rw [H14 _ _ (by omega) (by omega) (by omega) (by omega) (by omega) (by omega), lk_7 hh]
/-- every statement from token J0 on -/
def sa_P (E : js_E) (b F : Int) (B U : Int → Int) (X : Int → Prop) (J0 : Nat) : Prop := ∀ (d e : Nat) (σ ρ : js_S) (j : Nat), J0 ≤ j → ux_R E b F B U X σ ρ → xn_R b σ ρ j → rd_R σ ρ j → 1 ≤ ρ 83 10 → σ (8 + b) 10 ≤ 2 * ρ 83 10 → σ (23 + b) 15 ≤ 6 * ρ 83 10 → 4 * (65 - ρ 83 10) + 32 ≤ (d : Int) → 12 * (65 - ρ 83 10) + 34 ≤ (e : Int) → sq_P E b F B U X σ ρ j (js_J E d 56 0 [(2, 22 + b), (9, 0), (9, 0)] [] σ) (js_J E e 213 0 [(2, 83), (9, 0)] [] ρ)
section SD
variable {E : js_E} {d e : Nat} {b F : Int} {B U : Int → Int} {X : Int → Prop}
/-- statements up to } or return -/
theorem y_list {J0 : Nat} {x1 x2 : Int} (hb : b = 0 ∨ b = 25) (hS : sa_P E b F B U X J0) : ∀ (G : Nat) (σ ρ : js_S) (j : Nat) (k h L : Int) (ux3 : js_v), 8200 ≤ G + j → J0 ≤ j → ux_R E b F B U X σ ρ → xn_R b σ ρ j → rd_R σ ρ j → 1 ≤ ρ 83 10 → σ (8 + b) 10 ≤ 2 * ρ 83 10 → σ (23 + b) 15 ≤ 6 * ρ 83 10 → 4 * (65 - ρ 83 10) + 33 ≤ (d : Int) → 12 * (65 - ρ 83 10) + 35 ≤ (e : Int) → 0 ≤ k → k ≤ j → -1 ≤ L → L < ρ 83 33 → (L < 0 → h = -1) → (0 ≤ L → ρ 107 L = -1) → (∃ (σ' ρ' : js_S) (j' : Nat) (m k' : Int) (r : tr_T), js_J E d 55 11 [(2, 22 + b), (0, x1), (2, x2), (0, k)] [] σ = js_J E d 55 11 [(2, 22 + b), (0, x1), (2, x2), (0, k')] [] σ' ∧ js_J E e 212 4 [(2, 83), (0, h), (0, L), ux3] [] ρ = js_r E (0, if L < 0 then m else h) ρ' ∧ (ρ' 83 5 = 125 ∨ ρ' 83 5 = 313) ∧ (0 ≤ k' ∧ k' ≤ j') ∧ lr_R E b F B U X L σ ρ j σ' ρ' j' m r) ∨ (∃ (ρ' : js_S) (v : Int), js_J E e 212 4 [(2, 83), (0, h), (0, L), ux3] [] ρ = js_r E (0, v) ρ' ∧ sF_P E b σ ρ ρ' (js_J E d 55 11 [(2, 22 + b), (0, x1), (2, x2), (0, k)] [] σ))
  | 0, σ, ρ, j, k, h, L, ux3, hG, _, _, _, hR, _, _, _, _, _, _, _, _, _, _, _ => by
    have := rd_j hR
    omega
  | G + 1, σ, ρ, j, k, h, L, ux3, hG, hJ, hx, hn, hR, hD, ht, hp, hd, he, hk0, hkj, hL0, hL1, hh, hL7 => by
    have hj := rd_j hR
    have ok := hR.2.2.1
    have o9 := ok.2.2.1
    have D1 := hR.2.2.2.2.2
    have hnod := hn.2.2.2.2.1
    obtain ⟨hV, c7, c8⟩ := rd_V hR
    have mi := tk_m_in hV
    have w1 : js_w (σ 1 1) = tk_m (ρ 83 5) := by rw [c7]; exact js_w_of (by omega) (by omega)
    have w5 : js_w (ρ 83 5) = ρ 83 5 := js_w_of (by have := ok.2.2.2.2.2.2.1; omega) (by have := ok.2.2.2.2.2.2.2.1; omega)
    have wk : js_w k = k := js_w_of (by omega) (by omega)
    have i125 : tk_m (ρ 83 5) = 125 ↔ ρ 83 5 = 125 := tk_m_inj (b := 125) hV (by unfold tk_V; omega)
    have i213 : tk_m (ρ 83 5) = 213 ↔ ρ 83 5 = 313 := tk_m_inj (b := 313) hV (by unfold tk_V; omega)
    by_cases q : ρ 83 5 = 125 ∨ ρ 83 5 = 313
    · refine Or.inl ⟨σ, ρ, j, -1, k, .leaf, rfl, ?_, q, ⟨hk0, hkj⟩, lr_nil hx hR hn hL7 (by unfold zz_b; have := hR.2.2.2.2.2; omega)⟩
      have e1 : (if L < 0 then (-1 : Int) else h) = h := by
        by_cases g : L < 0
        · rw [if_pos g, hh g]
        · rw [if_neg g]
      rw [e1, b_212_4, o9, if_pos (show js_w 0 = 0 from rfl), w5]
      rcases q with g | g
      · rw [if_pos g]
      · rw [if_neg (show ¬ ρ 83 5 = 125 by omega), if_pos g]
    · have c46 : js_J E d 55 11 [(2, 22 + b), (0, x1), (2, x2), (0, k)] [] σ = js_J E d 55 47 [(2, 22 + b), (0, x1), (2, x2), (0, k)] [(2, 22 + b)] σ := by
        rw [b_55_11 hb, wk, if_pos (show k < 1000000 by omega), w1, if_neg (show ¬ tk_m (ρ 83 5) = 125 from fun g => q (Or.inl (i125.mp g)))]
        by_cases g : x2 < 0
        · rw [if_pos g, b_55_46]
        · rw [if_neg g, b_55_33 hb, w1, if_neg (show ¬ tk_m (ρ 83 5) = 213 from fun g => q (Or.inr (i213.mp g))), b_55_46]
      rw [c46, b_212_4, o9, if_pos (show js_w 0 = 0 from rfl), w5, if_neg (show ¬ ρ 83 5 = 125 from fun g => q (Or.inl g)), if_neg (show ¬ ρ 83 5 = 313 from fun g => q (Or.inr g))]
      rcases hS (d - 1) (e - 1) σ ρ j hJ hx hn hR hD ht hp (by omega) (by omega) with ⟨σ1, ρ1, j1, n, s, er, ec, h1⟩ | ⟨ρ', v, er, hf⟩
      · have h1' := h1
        obtain ⟨⟨r1, q1, dp1, F01, G01, m1, m1', k1⟩, hL1', hC1, hT1, hu1⟩ := h1
        have hj1 := rd_j r1
        have hn1 := xn_nexts hn h1'
        have hnod1 := hn1.2.2.2.2.1
        have nN := hT1.2.2.2.1
        have nN' := hT1.2.2.2.2.1
        have n7 := hT1.2.2.2.2.2.1
        have c15 := hC1.1.1
        have c10 := hC1.1.2.1
        have o91 : ρ1 83 9 = 0 := r1.2.2.1.2.2.1
        have lnk : js_J E e 212 34 [(2, 83), (0, h), (0, L), ux3] [(0, n)] ρ1 = js_J E e 212 4 [(2, 83), (0, if L < 0 then n else h), (0, n), (0, n)] [] (lk_S ρ1 L n) := by
          rw [b_212_34, o91, if_neg (show ¬ 0 < js_w 0 by decide), js_w_of (x := n) (by omega) (by omega), if_neg (show ¬ n < 0 by omega), js_w_of (x := L) (by omega) (by omega)]
          unfold lk_S
          by_cases g : L < 0
          · rw [if_pos g, if_pos g, if_pos g, b_212_67]
          · rw [if_neg g, if_neg g, if_neg g, if_pos (show 0 ≤ L ∧ L < 66000 by omega), b_212_67]
        have e33 : lk_S ρ1 L n 83 33 = ρ1 83 33 := lk_o (by omega)
        have e10 : lk_S ρ1 L n 83 10 = ρ 83 10 := by rw [lk_o (by omega), dp1]
        have e7 : lk_S ρ1 L n 107 n = -1 := by rw [lk_o (by omega)]; exact n7
        have rf1 : rf_R ρ (lk_S ρ1 L n) := rf_R_trans (rf_R_sg G01) (fun a i g1 g2 => lk_o (by omega))
        rw [k_55_47 hb (by omega) ec, b_55_50, k_212_31 (by omega) er, lnk]
        rcases y_list hb hS G σ1 (lk_S ρ1 L n) j1 (k + 1) (if L < 0 then n else h) n (0, n) (by omega) (by omega) (ux_lk hb hu1) (xn_lk hn1) (rd_lk r1) (by omega) (by omega) (by omega) (by omega) (by omega) (by omega) (by omega) (by omega) (by omega) (fun g => absurd g (by omega)) (fun _ => e7) with ⟨σ4, ρ4, j4, m, k', r, ec4, er4, h45, hk4, hc⟩ | ⟨ρ', v, er4, hf⟩
        · refine Or.inl ⟨σ4, ρ4, j4, n, k', tr_n 90 0 0 0 0 0 0 s r, ec4, ?_, h45, hk4, lr_cons hb hx hn h1' hL1 hc⟩
          rw [er4, if_neg (show ¬ n < 0 by omega)]
        · exact Or.inr ⟨ρ', v, er4, sF_up F01.1 rf1 hf⟩
      · have hF := hf.2.1
        obtain ⟨rf', f1, f2, f3, σ', f4, f5, f6⟩ := hf
        rw [kt_55_47 hb (by omega) f4, k_212_31 (by omega) er, b_212_34, if_pos (rx_F_9 hF)]
        exact Or.inr ⟨ρ', -1, rfl, rf', f1, f2, f3, σ', rfl, f5, f6⟩
end SD
