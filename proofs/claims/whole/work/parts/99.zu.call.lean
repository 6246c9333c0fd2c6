/-! part 99.zu: a call as a tree; the levels of calls -/
def mx_S (ρ : js_S) (v : Int) : js_S := if ρ 83 44 < v then js_up ρ 83 44 v else ρ
theorem mx_o {ρ : js_S} {v a i : Int} (h : ¬ (a = 83 ∧ i = 44)) : mx_S ρ v a i = ρ a i := by
  unfold mx_S
  split
  · exact js_up_ne _ h
  · rfl
theorem mx_44 {ρ : js_S} {v : Int} : mx_S ρ v 83 44 = max (ρ 83 44) v := by
  unfold mx_S
  split
  · rw [js_up_same]
    omega
  · omega
/-- as xr_T, of any type -/
def xw_T (B : Int → Int) (F t dj N z : Int) (ρ' : js_S) (n : Int) (e : tr_T) : Prop := xt_nd ρ' N e (ρ' 83 33) n 0 ∧ (xt_e e ∧ xt_w e ∧ xt_G ρ' F e) ∧ (xt_ln e ≤ 8 * dj ∧ 0 ≤ xt_cn B e ∧ xt_mt e t ≤ 1024) ∧ (0 ≤ xt_ty e ∧ xt_ty e < 1000 ∧ -2000000000 ≤ xt_lo e ∧ xt_lo e ≤ xt_hi e ∧ xt_hi e ≤ 2000000000) ∧ N ≤ n ∧ ρ' 107 n = -1 ∧ xt_dp e ≤ z
def xw_R (b F : Int) (B : Int → Int) (σ ρ : js_S) (j : Nat) (σ' ρ' : js_S) (j' : Nat) (n : Int) (e : tr_T) : Prop := xr_A b σ ρ j σ' ρ' j' ∧ xr_L b σ ρ σ' ρ' ∧ xr_C b B σ σ' e ∧ xw_T B F (σ (8 + b) 10) ((j' : Int) - j) (ρ 83 33) (zz_b b σ ρ) ρ' n e
theorem xr_xw {b F : Int} {B : Int → Int} {σ ρ σ' ρ' : js_S} {j j' : Nat} {n : Int} {e : tr_T} (h : xw_R b F B σ ρ j σ' ρ' j' n e) (h2 : ty_b (xt_ty e) (xt_lo e) (xt_hi e)) : xk_R b F B σ ρ j σ' ρ' j' n e := ⟨h.1, h.2.1, h.2.2.1, h.2.2.2.1, h.2.2.2.2.1, h.2.2.2.2.2.1, h.2.2.2.2.2.2.1, h2, h.2.2.2.2.2.2.2⟩
theorem xn_nextw {b F : Int} {B : Int → Int} {σ ρ σ' ρ' : js_S} {j j' : Nat} {n : Int} {e : tr_T} (h : xn_R b σ ρ j) (h2 : xw_R b F B σ ρ j σ' ρ' j' n e) : xn_R b σ' ρ' j' := by
  obtain ⟨⟨_, a2, _, _, _, a6, a7⟩, ⟨x, x1, x2, x3, x4⟩, ⟨⟨_, _, _, c4⟩, ⟨c5, c6, c7, c8⟩, _⟩, ⟨_, _, ⟨t1, t2, t3⟩, _⟩⟩ := h2
  have hl := xt_ln_0 e
  unfold xn_R at h ⊢
  omega
/-- arguments, the bracket, what is passed, CALL: the tree of a call -/
theorem xr_call {E : js_E} {b F : Int} {B : Int → Int} {X : Int → Prop} {σ0 ρ0 σ2 ρ2 σ3 ρ3 σ4 ρ4 σ5 σ7 σ8 ρ5 : js_S} {j0 j3 : Nat} {m i ty lo hi lv : Int} {r : tr_T} (hb : b = 0 ∨ b = 25) (hx : xs_R E b F B X σ0 ρ0) (hn : xn_R b σ0 ρ0 j0) (o2 : of_R σ0 σ2) (G02 : eg_R (ρ0 83 33) ρ0 ρ2) (u33 : ρ2 83 33 = ρ0 83 33) (u44 : ρ2 83 44 = max (ρ0 83 44) lv) (hc : cr_R b F B (-1) σ2 ρ2 (j0 + 2) σ3 ρ3 j3 m r) (o4 : of_R σ3 σ4) (g4 : og_R ρ3 ρ4) (R4 : rd_R σ4 ρ4 (j3 + 1)) (D4 : ρ4 83 10 = ρ0 83 10) (hps : ps_R b σ4 σ5 (i + 1) (σ0 (8 + b) 10) r) (hem : em_R b (js_up σ5 (8 + b) 10 (σ0 (8 + b) 10)) σ7 27 (js_up σ5 (8 + b) 10 (σ0 (8 + b) 10) (js_up σ5 (8 + b) 10 (σ0 (8 + b) 10) (19 + b) i) 5) 0 1 0 0) (h12 : σ8 (8 + b) 12 = max (σ5 (8 + b) 12) lv) (h7 : σ8 (8 + b) 7 = min 400000 (σ7 (8 + b) 7 + B i)) (hO : ∀ a k : Int, ¬ (a = 8 + b ∧ (k = 7 ∨ k = 12)) → σ8 a k = σ7 a k) (hw : nw_R ρ4 ρ5 10 ty lo hi i m 0) (hii : 0 ≤ i ∧ i < ρ0 83 11) (hsk : sk_P ρ5 F i (xt_na r)) (hB : 0 ≤ B i) (hlv : 0 ≤ lv ∧ lv ≤ 17) (hty : 0 ≤ ty ∧ ty < 1000 ∧ -2000000000 ≤ lo ∧ lo ≤ hi ∧ hi ≤ 2000000000) (u10 : ρ2 83 10 = ρ0 83 10 + 1) : xw_R b F B σ0 ρ0 j0 (s3_S σ8 b ty lo hi) ρ5 (j3 + 1) (ρ4 83 33) (tr_n 10 ty lo hi i 0 0 r .leaf) := by
  have hg0 := xs_hg hx
  have told := hx.1.2.2.2.2.1
  have q3 := hc.1.2.1
  have F23 := hc.1.2.2.2.1
  have H23 := hc.1.2.2.2.2.1
  have m3 := hc.1.2.2.2.2.2.1
  have m3' := hc.1.2.2.2.2.2.2
  have c15 := hc.2.2.1.1.1
  have c10 := hc.2.2.1.1.2.1
  have c6 := hc.2.2.1.1.2.2.1
  have c7 := hc.2.2.1.1.2.2.2.1
  have c11 := hc.2.2.1.1.2.2.2.2
  have cn := hc.2.2.2.2.2.1.2.1
  have lr := xt_ln_0 r
  have nr := xt_na_0 r
  have n0 : 0 ≤ ρ0 83 33 := hn.2.2.2.2.1.1
  have a7 := hn.2.1
  have v : ∀ k : Int, σ2 (8 + b) k = σ0 (8 + b) k := fun k => o2 _ _ (by omega) (by omega)
  have v6 := v 6
  have v10 := v 10
  have v15 : σ2 (23 + b) 15 = σ0 (23 + b) 15 := o2 _ _ (by omega) (by omega)
  have w : ∀ k : Int, σ4 (8 + b) k = σ3 (8 + b) k := fun k => o4 _ _ (by omega) (by omega)
  have w6 := w 6
  have p6 := hps.1
  have p7 := hps.2.1
  have pO := hps.2.2.2
  have k6 := hem.1
  have k7 := hem.2.1
  have kO := hem.2.2.2
  have z6 : js_up σ5 (8 + b) 10 (σ0 (8 + b) 10) (8 + b) 6 = σ5 (8 + b) 6 := js_up_ni _ (by decide)
  have z7 : js_up σ5 (8 + b) 10 (σ0 (8 + b) 10) (8 + b) 7 = σ5 (8 + b) 7 := js_up_ni _ (by decide)
  have zO : ∀ a k : Int, ¬ (a = 8 + b ∧ k = 10) → js_up σ5 (8 + b) 10 (σ0 (8 + b) 10) a k = σ5 a k := fun a k g => js_up_ne _ g
  have F02 : ∀ n t p : Int, ef_R b n t p σ0 σ2 := fun n t p => ef_R_of o2
  have F34 : ∀ n t p : Int, ef_R b n t p σ3 σ4 := fun n t p => ef_R_of o4
  have F45 : ∀ t p : Int, ef_R b (σ4 (8 + b) 6) t p σ4 σ5 := fun t p a k g => pO a k (fun hh => g (ef_D8 ⟨hh.1, by omega⟩)) (fun hh => g (ef_D9 hh))
  have F56 : ∀ n t p : Int, ef_R b n t p σ5 (js_up σ5 (8 + b) 10 (σ0 (8 + b) 10)) := fun n t p a k g => zO a k (fun hh => g (ef_D8 ⟨hh.1, by omega⟩))
  have F67 : ∀ t p : Int, ef_R b (σ5 (8 + b) 6) t p (js_up σ5 (8 + b) 10 (σ0 (8 + b) 10)) σ7 := fun t p => ef_R_em hem (by omega)
  have F78 : ∀ n t p : Int, ef_R b n t p σ7 σ8 := fun n t p a k g => hO a k (fun hh => g (ef_D8 ⟨hh.1, by omega⟩))
  have F89 : ∀ n t p : Int, ef_R b n t p σ8 (s3_S σ8 b ty lo hi) := fun n t p a k g => s3_o _ (fun hh => g (ef_D23 ⟨hh.1, by omega⟩))
  have F79 : ∀ n t p : Int, ef_R b n t p σ7 (s3_S σ8 b ty lo hi) := fun n t p => ef_R_trans (F78 n t p) (F89 n t p)
  have F59 : ∀ t p : Int, ef_R b (σ5 (8 + b) 6) t p σ5 (s3_S σ8 b ty lo hi) := fun t p => ef_R_trans (F56 _ _ _) (ef_R_trans (F67 t p) (F79 _ _ _))
  have F39 : ∀ t p : Int, ef_R b (σ3 (8 + b) 6) t p σ3 (s3_S σ8 b ty lo hi) := fun t p => ef_R_trans (F34 _ _ _) (ef_R_trans (ef_R_mono (F45 t p) (by omega) (Int.le_refl _) (Int.le_refl _)) (ef_R_mono (F59 t p) (by omega) (Int.le_refl _) (Int.le_refl _)))
  have F09 : ef_R b (σ0 (8 + b) 6) (σ0 (8 + b) 10) (σ0 (23 + b) 15) σ0 (s3_S σ8 b ty lo hi) := ef_R_trans (F02 _ _ _) (ef_R_trans (ef_R_mono F23 (by omega) (by omega) (by omega)) (ef_R_mono (F39 (σ0 (8 + b) 10) (σ0 (23 + b) 15)) (by omega) (by omega) (by omega)))
  have hg2 := hg_ef hb hg0 (F02 0 0 0)
  have hg3 := hg_ef hb hg2 F23
  have hg4 := hg_ef hb hg3 (F34 0 0 0)
  have hg5 := hg_ef hb hg4 (F45 0 0)
  have hg6 := hg_ef hb hg5 (F56 0 0 0)
  have hg7 := hg_ef hb hg6 (F67 0 0)
  have G23 : eg_R (ρ0 83 33) ρ2 ρ3 := eg_R_eh H23 (by omega) (fun h => absurd h (by decide))
  have G34 : eg_R (ρ3 83 33) ρ3 ρ4 := eg_R_og g4
  have n33 : ρ4 83 33 = ρ3 83 33 := g4 _ _ (by omega)
  have G45 : eg_R (ρ3 83 33) ρ4 ρ5 := by
    have := eg_R_nw hw
    rw [n33] at this
    exact this
  have G35 : eg_R (ρ3 83 33) ρ3 ρ5 := eg_R_trans G34 G45 (Int.le_refl _)
  have G05 : eg_R (ρ0 83 33) ρ0 ρ5 := eg_R_trans (eg_R_trans G02 G23 (Int.le_refl _)) G35 (by omega)
  obtain ⟨hw1, ⟨hw2, hw3, hw4, hw5⟩, hw6, hw7, hw8, hw9, hwO⟩ := hw
  have y : ∀ a k : Int, ¬ (a = 8 + b) → ¬ (9 + b ≤ a ∧ a ≤ 14 + b) → ¬ (a = 23 + b ∧ 0 ≤ k ∧ k ≤ 2) → s3_S σ8 b ty lo hi a k = σ4 a k := fun a k g1 g2 g3 => by
    rw [s3_o _ g3, hO _ _ (by omega), kO _ _ (by omega) (by omega), zO _ _ (by omega), pO _ _ (by omega) (by omega)]
  refine ⟨⟨rd_R_of R4 (fun k hk => y _ _ (by omega) (by omega) (by omega)) (fun a k g1 g2 => y _ _ (by omega) (by omega) (by omega)) (fun k g1 g2 => hwO _ _ (by omega) (by omega)) (fun k => hwO _ _ (by omega) (by omega)), by omega, ?_, F09, G05, by omega, by push_cast at m3' ⊢; omega⟩, ?_, ⟨⟨?_, ?_, ?_, ?_⟩, ⟨?_, ?_, ?_, ?_⟩, fun hs => ?_⟩, ⟨?_, ⟨?_, ?_, ?_⟩, ⟨?_, ?_, ?_⟩, hty, by omega, hw9, xt_dz (x := 3 + xt_dp r) rfl (by
    have a2 : xt_dp r ≤ 2 * (400 - σ2 (23 + b) 15) + 6 * (65 - ρ2 83 10) + 2 := hc.2.2.2.2.2.2.2
    unfold zz_b
    omega)⟩⟩
  · rw [hwO _ _ (by omega) (by omega), D4]
  · obtain ⟨x, x1, x2, x3, x4⟩ := hc.2.1
    refine ⟨max lv x, by omega, by omega, ?_, ?_⟩
    · rw [hwO _ _ (by omega) (by omega), g4 _ _ (by omega), x3, u44]
      omega
    · rw [s3_o _ (by omega), h12, pO _ _ (by omega) (by omega), w, x4, v]
      omega
  · exact s3_0 _ _ _ _ _
  · exact s3_1 _ _ _ _ _
  · exact s3_2 _ _ _ _ _
  · rw [y _ _ (by omega) (by omega) (by omega), o4 _ _ (by omega) (by omega), c15, v15]
  · rw [s3_o _ (by omega), hO _ _ (by omega), kO _ _ (by omega) (by omega), js_up_same]
  · rw [s3_o _ (by omega), hO _ _ (by omega), k6, z6, p6, w6, c6, v6, xt_ln10]
    omega
  · rw [s3_o _ (by omega), h7, k7, z7, p7, w, c7, v 7, xt_cn10]
    omega
  · rw [s3_o _ (by omega), hO _ _ (by omega), kO _ _ (by omega) (by omega), zO _ _ (by omega), pO _ _ (by omega) (by omega), w, c11, v 11, v10, xt_mt10]
  · have s6 : s3_S σ8 b ty lo hi (8 + b) 6 = σ5 (8 + b) 6 + 1 := by rw [s3_o _ (by omega), hO _ _ (by omega), k6, z6]
    rw [s6] at hs
    rw [xt_cd10]
    refine ⟨?_, ?_, ?_⟩
    · have k := hc.2.2.1.2.1 (by omega)
      rw [v 8, v10, v6] at k
      exact xt_cd_ef hb (F39 0 0) hg3 (by omega) k
    · have k := hps.2.2.1 (by omega)
      rw [w6, c6, v6, show σ4 (8 + b) 8 = σ0 (8 + b) 8 by rw [w, F23 _ _ (by unfold ef_D; omega), v]] at k
      exact xt_ps_of r _ _ _ (fun q I g1 g2 hI => ci_ef hb (F59 0 0) hg5 (by omega) hI) k
    · have t6 : js_up σ5 (8 + b) 10 (σ0 (8 + b) 10) (7 + b) 1 = ρ0 83 11 := by
        rw [zO _ _ (by omega), pO _ _ (by omega) (by omega), o4 _ _ (by omega) (by omega), F23 _ _ (by unfold ef_D; omega), o2 _ _ (by omega) (by omega)]
        exact told
      have k := em_ci3 (u := σ0 (8 + b) 8) hb hem (by omega) hii.1 (by rw [t6]; exact hii.2) (hg6 i hii.1 (by rw [t6]; exact hii.2))
      rw [z6, p6, w6, c6, v6] at k
      exact ci_ef hb (F79 (σ0 (8 + b) 6 + xt_ln r + 2 * xt_na r + 1) 0 0) hg7 (by omega) k
  · rw [xt_nd10, hw2, hw3, hw4, hw5, hw6, hw7]
    exact ⟨⟨by omega, by omega, rfl, rfl, rfl, rfl⟩, rfl, xt_nd_eg (M' := ρ0 83 33) (N' := ρ4 83 33) hc.2.2.2.1 G35 (by omega)⟩
  · exact xt_e_n (by decide) (by decide) hty.2.2 (fun hh => absurd hh (by decide)) (fun hh => absurd hh (by decide)) (fun hh => absurd hh (by decide))
  · rw [xt_w10]
    exact ⟨hc.2.2.2.2.1.1, hc.2.2.2.2.1.2.1⟩
  · unfold xt_G
    rw [xt_g10]
    exact ⟨hsk, xt_G_eg hc.2.2.2.2.1.2.2 G35 (by rw [hwO _ _ (by omega) (by omega), g4 _ _ (by omega)]; exact Int.le_refl _)⟩
  · have a1 := hc.2.2.2.2.2.1.1
    rw [xt_ln10]
    push_cast at a1 ⊢
    omega
  · rw [xt_cn10]
    omega
  · have a1 := hc.2.2.2.2.2.1.2.2
    rw [v10] at a1
    rw [xt_mt10]
    exact a1
section QC
variable {E : js_E} {d e : Nat} {b F : Int} {B : Int → Int} {X : Int → Prop} {σ ρ : js_S} {j : Nat}
/-- how deep calls go, in both -/
theorem y_level {s i p : Int} (hb : b = 0 ∨ b = 25) (hx : xs_R E b F B X σ ρ) (hs : js_desc E.1 σ s = some (0, 11, js_sym)) (h10 : σ s 10 = ρ 96 i) (hl : 1 ≤ ρ 96 i ∧ ρ 96 i ≤ 18) (hi : 0 ≤ i ∧ i < 400) (h44 : 0 ≤ ρ 83 44 ∧ ρ 83 44 ≤ 17) : ∃ M z : Int, M = (if F < 0 then 16 else 15) ∧ js_J E d 66 0 [(2, 23 + b), (2, s), (0, p), (9, 0), (9, 0), (9, 0), (9, 0), (9, 0), (9, 0)] [] σ = (if M < ρ 96 i then js_J E d 66 43 [(2, 23 + b), (2, s), (0, p), (0, z), (9, 0), (9, 0), (9, 0), (9, 0), (9, 0)] [(0, p), (0, 10), (2, 1)] σ else js_J E d 66 46 [(2, 23 + b), (2, s), (0, p), (0, z), (9, 0), (9, 0), (9, 0), (9, 0), (9, 0)] [] σ) ∧ js_J E e 232 0 [(2, 83), (0, i), (9, 0), (9, 0), (9, 0), (9, 0), (9, 0), (9, 0)] [] ρ = (if M < ρ 96 i then js_J E e 232 32 [(2, 83), (0, i), (0, M), (9, 0), (9, 0), (9, 0), (9, 0), (9, 0)] [(0, ρ 83 6), (0, 10), (2, 83)] ρ else js_J E e 232 60 [(2, 83), (0, i), (0, M), (9, 0), (9, 0), (9, 0), (9, 0), (9, 0)] [] (mx_S ρ (ρ 96 i))) := by
  have hF := hx.2.2.2.2.2.1
  have w96 : js_w (ρ 96 i) = ρ 96 i := js_w_of (by omega) (by omega)
  have w44 : js_w (ρ 83 44) = ρ 83 44 := js_w_of (by omega) (by omega)
  have wi : js_w i = i := js_w_of (by omega) (by omega)
  have mx : ∀ M : Int, (if ρ 83 44 < ρ 96 i then js_J E e 232 60 [(2, 83), (0, i), (0, M), (9, 0), (9, 0), (9, 0), (9, 0), (9, 0)] [] (js_up ρ 83 44 (ρ 96 i)) else js_J E e 232 60 [(2, 83), (0, i), (0, M), (9, 0), (9, 0), (9, 0), (9, 0), (9, 0)] [] ρ) = js_J E e 232 60 [(2, 83), (0, i), (0, M), (9, 0), (9, 0), (9, 0), (9, 0), (9, 0)] [] (mx_S ρ (ρ 96 i)) := fun M => by
    unfold mx_S
    by_cases q : ρ 83 44 < ρ 96 i
    · rw [if_pos q, if_pos q]
    · rw [if_neg q, if_neg q]
  rcases hx.2.2.2.2.2.2 with ⟨h1, h2, h3⟩ | ⟨⟨h1, h2⟩, h3⟩
  · refine ⟨16, 0, by rw [if_pos (by omega)], ?_, ?_⟩
    · rw [b_66_0 hb, js_w_of (x := σ (7 + b) 3) (by omega) (by omega), if_neg (show ¬ σ (7 + b) 3 = -1 by omega), b_66_16 hs, if_pos (show js_w 0 = 0 from rfl), h10, b_66_30 hb, Int.add_zero, w96]
    · rw [b_232_0, hF, js_w_of (x := F) (by omega) (by omega), if_pos (show F < 0 by omega), b_232_14, wi, if_pos hi, w96, js_w_of (x := 16) (by decide) (by decide), w44, mx]
  · refine ⟨15, 1, by rw [if_neg (by omega)], ?_, ?_⟩
    · rw [b_66_0 hb, h3, if_pos (show js_w (-1) = -1 by decide), b_66_16 hs, if_neg (show ¬ js_w 1 = 0 by decide), h10, b_66_30 hb, js_w_of (x := ρ 96 i + 1) (by omega) (by omega)]
      by_cases q : 15 < ρ 96 i
      · rw [if_pos q, if_pos (show 16 < ρ 96 i + 1 by omega)]
      · rw [if_neg q, if_neg (show ¬ 16 < ρ 96 i + 1 by omega)]
    · rw [b_232_0, hF, js_w_of (x := F) (by omega) (by omega), if_neg (show ¬ F < 0 by omega), b_232_14, wi, if_pos hi, w96, js_w_of (x := 15) (by decide) (by decide), w44, mx]
end QC
