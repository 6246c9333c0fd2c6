/-! part 99.zy: simple statements: what is read and made -/
/-- the counter of a for, the values of a row -/
def su_U (ρ : js_S) (s x y : Int) : Prop := 0 ≤ s ∧ s < ρ 83 11 ∧ ρ 88 s = x ∧ ρ 89 s = y ∧ -2000000000 ≤ x ∧ x ≤ y ∧ y ≤ 2000000000
def su_V (ρ : js_S) (s v x y : Int) : Prop := 0 ≤ s ∧ s < ρ 83 11 ∧ ((ρ 87 s = 0 ∧ x = v ∧ y = v) ∨ (ρ 87 s ≠ 0 ∧ x = ρ 88 s ∧ y = ρ 89 s)) ∧ (-2000000000 ≤ v ∧ v ≤ 2000000000) ∧ -2000000000 ≤ x ∧ x ≤ y ∧ y ≤ 2000000000
def st_G (ρ : js_S) (F : Int) (e : tr_T) : Prop := st_g (sv_P ρ F) (sz_P ρ) (sk_P ρ F) (su_U ρ) (su_V ρ) e
theorem st_G_of {ρ ρ' : js_S} {F : Int} {e : tr_T} (h : st_G ρ F e) (h1 : ρ 83 11 ≤ ρ' 83 11) (h2 : ∀ a i : Int, 86 ≤ a → a ≤ 97 → 0 ≤ i → i < ρ 83 11 → ρ' a i = ρ a i) (h4 : ρ 83 44 ≤ ρ' 83 44) : st_G ρ' F e := by
  refine st_g_of (fun s hs => ?_) (fun s c hs => ?_) (fun s c hs => ?_) (fun s x y hs => ?_) (fun s v x y hs => ?_) e h
  · obtain ⟨a1, a2, a3⟩ := hs
    refine ⟨a1, by omega, ?_⟩
    rw [h2 86 s (by decide) (by decide) a1 a2, h2 93 s (by decide) (by decide) a1 a2]
    exact a3
  · obtain ⟨a1, a2, a3⟩ := hs
    refine ⟨a1, by omega, ?_⟩
    rw [h2 91 s (by decide) (by decide) a1 a2]
    exact a3
  · obtain ⟨a1, a2, a3⟩ := hs
    refine ⟨a1, by omega, ?_⟩
    rw [h2 86 s (by decide) (by decide) a1 a2, h2 91 s (by decide) (by decide) a1 a2, h2 96 s (by decide) (by decide) a1 a2]
    exact ⟨a3.1, a3.2.1, a3.2.2.1, a3.2.2.2.1, Int.le_trans a3.2.2.2.2 h4⟩
  · obtain ⟨a1, a2, a3⟩ := hs
    refine ⟨a1, by omega, ?_⟩
    rw [h2 88 s (by decide) (by decide) a1 a2, h2 89 s (by decide) (by decide) a1 a2]
    exact a3
  · obtain ⟨a1, a2, a3⟩ := hs
    refine ⟨a1, by omega, ?_⟩
    rw [h2 87 s (by decide) (by decide) a1 a2, h2 88 s (by decide) (by decide) a1 a2, h2 89 s (by decide) (by decide) a1 a2]
    exact a3
theorem st_G_eg {ρ ρ' : js_S} {N F : Int} {e : tr_T} (h : st_G ρ F e) (h2 : eg_R N ρ ρ') (h4 : ρ 83 44 ≤ ρ' 83 44) : st_G ρ' F e := st_G_of h (by rw [h2 _ _ (by omega) (by omega)]; exact Int.le_refl _) (fun a i _ _ _ _ => h2 _ _ (by omega) (by omega)) h4
def ss_C (b : Int) (B : Int → Int) (σ σ' : js_S) (s : tr_T) : Prop := (σ' (23 + b) 15 = σ (23 + b) 15 ∧ σ' (8 + b) 10 = σ (8 + b) 10 ∧ σ' (8 + b) 6 = σ (8 + b) 6 + st_ln s ∧ σ' (8 + b) 7 = min 400000 (σ (8 + b) 7 + st_cn B s) ∧ σ' (8 + b) 11 = max (σ (8 + b) 11) (st_mt s (σ (8 + b) 10))) ∧ (σ' (8 + b) 6 ≤ 8192 → st_cd (ci_P σ' b (σ (8 + b) 8)) s (σ (8 + b) 10) (σ (8 + b) 6) (σ (8 + b) 6 + st_ln s))
def ss_T (B : Int → Int) (F t dj N z : Int) (ρ' : js_S) (n : Int) (s : tr_T) : Prop := st_nd ρ' s N (ρ' 83 33) n 0 ∧ ((20 ≤ xt_k s ∧ xt_k s ≤ 28 ∧ xt_k s ≠ 25) ∧ st_w s ∧ st_G ρ' F s) ∧ (st_ln s ≤ 5000 * dj ∧ 0 ≤ st_cn B s ∧ st_mt s t ≤ 1024) ∧ N ≤ n ∧ n < ρ' 83 33 ∧ ρ' 107 n = -1 ∧ st_dp s ≤ z
/-- a simple statement was read by both: node n is the tree s, whose code the class has made -/
def ss_R (b F : Int) (B : Int → Int) (σ ρ : js_S) (j : Nat) (σ' ρ' : js_S) (j' : Nat) (n : Int) (s : tr_T) : Prop := xr_A b σ ρ j σ' ρ' j' ∧ xr_L b σ ρ σ' ρ' ∧ ss_C b B σ σ' s ∧ ss_T B F (σ (8 + b) 10) ((j' : Int) - j) (ρ 83 33) (zz_b b σ ρ + 10) ρ' n s
/-- e ; with one INSTRUCTION behind it: what is common -/
theorem ss_one {b F : Int} {B : Int → Int} {σ0 ρ0 σ1 ρ1 σ2 ρ2 σ3 σ4 ρ3 ρ4 : js_S} {j0 j1 j2 : Nat} {n1 : Int} {l s : tr_T} {op f g h k x y w : Int} (hg0 : hg_R σ0 b) (hb : b = 0 ∨ b = 25) (n0 : 0 ≤ ρ0 83 33) (a7 : 0 ≤ σ0 (8 + b) 7 ∧ σ0 (8 + b) 7 ≤ 400000) (o01 : of_R σ0 σ1) (g01 : og_R ρ0 ρ1) (hj : j0 < j1) (H : xr_R b F B σ1 ρ1 j1 σ2 ρ2 j2 n1 l) (he : em_R b σ2 σ3 op f g 1 0 h) (f34 : tk_fr σ3 σ4) (t23 : ∀ a i : Int, ¬ (a = 83 ∧ 5 ≤ i ∧ i ≤ 9) → ρ3 a i = ρ2 a i) (R4 : rd_R σ4 ρ3 (j2 + 1)) (D : ρ1 83 10 = ρ0 83 10) (hw : nw_R ρ3 ρ4 k 0 0 0 x y w) (sln : st_ln s = xt_ln l + 1) (scn : st_cn B s = xt_cn B l + 1) (smt : st_mt s (σ0 (8 + b) 10) = xt_mt l (σ0 (8 + b) 10)) (scd : σ4 (8 + b) 6 ≤ 8192 → xt_cd (ci_P σ4 b (σ0 (8 + b) 8)) l (σ0 (8 + b) 10) (σ0 (8 + b) 6) → st_cd (ci_P σ4 b (σ0 (8 + b) 8)) s (σ0 (8 + b) 10) (σ0 (8 + b) 6) (σ0 (8 + b) 6 + st_ln s)) (snd : xt_nd ρ4 (ρ0 83 33) l (ρ3 83 33) n1 0 → st_nd ρ4 s (ρ0 83 33) (ρ4 83 33) (ρ3 83 33) 0) (sk : 20 ≤ xt_k s ∧ xt_k s ≤ 28 ∧ xt_k s ≠ 25) (sw : xt_e l → xt_w l → st_w s) (sg : xt_G ρ4 F l → st_G ρ4 F s) (sdp : st_dp s = 1 + xt_dp l) : ss_R b F B σ0 ρ0 j0 σ4 ρ4 (j2 + 1) (ρ3 83 33) s := by
  have q := H.1.2.1
  have dp := H.1.2.2.1
  have F12 := H.1.2.2.2.1
  have G12 := H.1.2.2.2.2.1
  have m1 := H.1.2.2.2.2.2.1
  have m1' := H.1.2.2.2.2.2.2
  have y15 := H.2.2.1.1.2.2.2
  have c10 := H.2.2.1.2.1.1
  have c6 := H.2.2.1.2.1.2.1
  have ll := xt_ln_0 l
  have k6 := he.1
  have kO := he.2.2.2
  have v : ∀ i : Int, σ1 (8 + b) i = σ0 (8 + b) i := fun i => o01 _ _ (by omega) (by omega)
  have v6 := v 6
  have v10 := v 10
  have v15 : σ1 (23 + b) 15 = σ0 (23 + b) 15 := o01 _ _ (by omega) (by omega)
  have w4 : ∀ i : Int, σ4 (8 + b) i = σ3 (8 + b) i := fun i => f34 _ _ (by omega) (by omega)
  have F01 : ∀ n t p : Int, ef_R b n t p σ0 σ1 := fun n t p => ef_R_of o01
  have F23 : ∀ t p : Int, ef_R b (σ0 (8 + b) 6 + xt_ln l) t p σ2 σ3 := fun t p => ef_R_em he (by omega)
  have F34 : ∀ n t p : Int, ef_R b n t p σ3 σ4 := fun n t p => ef_R_tk f34
  have F24 : ∀ t p : Int, ef_R b (σ0 (8 + b) 6 + xt_ln l) t p σ2 σ4 := fun t p => ef_R_trans (F23 t p) (F34 _ _ _)
  have F04 : ef_R b (σ0 (8 + b) 6) (σ0 (8 + b) 10) (σ0 (23 + b) 15) σ0 σ4 := ef_R_trans (F01 _ _ _) (ef_R_trans (ef_R_mono F12 (by omega) (by omega) (by omega)) (ef_R_mono (F24 (σ0 (8 + b) 10) (σ0 (23 + b) 15)) (by omega) (by omega) (by omega)))
  have hg2 := hg_ef hb (hg_ef hb hg0 (F01 0 0 0)) F12
  have u33 : ρ1 83 33 = ρ0 83 33 := g01 _ _ (by omega)
  have n33 : ρ3 83 33 = ρ2 83 33 := t23 _ _ (by omega)
  have G01 : eg_R (ρ0 83 33) ρ0 ρ1 := eg_R_og g01
  have G23 : eg_R (ρ2 83 33) ρ2 ρ3 := eg_R_t9 t23
  have G34 : eg_R (ρ2 83 33) ρ3 ρ4 := by
    have := eg_R_nw hw
    rw [n33] at this
    exact this
  have G24 : eg_R (ρ2 83 33) ρ2 ρ4 := eg_R_trans G23 G34 (Int.le_refl _)
  have G04 : eg_R (ρ0 83 33) ρ0 ρ4 := eg_R_trans (eg_R_trans G01 G12 (by omega)) G24 (by omega)
  have hwO := hw.2.2.2.2.2.2
  have hw1 := hw.1
  have cn := H.2.2.2.2.2.1.2.1
  refine ⟨⟨rd_R_of R4 (fun _ _ => rfl) (fun _ _ _ _ => rfl) (fun i g1 g2 => hwO _ _ (by omega) (by omega)) (fun i => hwO _ _ (by omega) (by omega)), by omega, ?_, F04, G04, by omega, by push_cast; omega⟩, ?_, ⟨⟨?_, ?_, ?_, ?_, ?_⟩, fun hs => ?_⟩, ⟨?_, ⟨sk, ?_, ?_⟩, ⟨?_, ?_, ?_⟩, by omega, by omega, hw.2.2.2.2.2.1, st_dz sdp (by
    have a1 := xr_zz H
    unfold zz_b
    omega)⟩⟩
  · rw [hwO _ _ (by omega) (by omega), t23 _ _ (by omega), dp, D]
  · obtain ⟨x, x1, x2, x3, x4⟩ := H.2.1
    exact ⟨x, x1, x2, by rw [hwO _ _ (by omega) (by omega), t23 _ _ (by omega), x3, g01 _ _ (by omega)], by rw [w4, kO _ _ (by omega) (by omega), x4, v]⟩
  · rw [f34 _ _ (by omega) (by omega), kO _ _ (by omega) (by omega), y15, v15]
  · rw [w4, kO _ _ (by omega) (by omega), c10, v]
  · rw [w4, k6, c6, v6, sln]
    omega
  · rw [w4, he.2.1, H.2.2.1.2.1.2.2.1, v, scn]
    omega
  · rw [w4, kO _ _ (by omega) (by omega), H.2.2.1.2.1.2.2.2, v 11, v10, smt]
  · refine scd hs ?_
    rw [w4, k6] at hs
    have k := H.2.2.1.2.2 (by omega)
    rw [v 8, v10, v6] at k
    exact xt_cd_ef hb (F24 0 0) hg2 (by omega) k
  · exact snd (xt_nd_eg (M' := ρ0 83 33) (N' := ρ3 83 33) H.2.2.2.1 G24 (by omega))
  · exact sw H.2.2.2.2.1.1 H.2.2.2.2.1.2.1
  · exact sg (xt_G_eg H.2.2.2.2.1.2.2 G24 (by rw [hwO _ _ (by omega) (by omega), t23 _ _ (by omega)]; exact Int.le_refl _))
  · have a1 := H.2.2.2.2.2.1.1
    rw [sln]
    push_cast
    omega
  · rw [scn]
    omega
  · have a1 := H.2.2.2.2.2.1.2.2
    rw [v10] at a1
    rw [smt]
    exact a1
/-- e is stored -/
theorem ss_set {b F : Int} {B : Int → Int} {σ0 ρ0 σ1 ρ1 σ2 ρ2 σ3 σ4 ρ3 ρ4 : js_S} {j0 j1 j2 : Nat} {n1 : Int} {l : tr_T} {a w : Int} (hg0 : hg_R σ0 b) (hb : b = 0 ∨ b = 25) (n0 : 0 ≤ ρ0 83 33) (a7 : 0 ≤ σ0 (8 + b) 7 ∧ σ0 (8 + b) 7 ≤ 400000) (o01 : of_R σ0 σ1) (g01 : og_R ρ0 ρ1) (hj : j0 < j1) (H : xr_R b F B σ1 ρ1 j1 σ2 ρ2 j2 n1 l) (he : em_R b σ2 σ3 2 (σ2 (σ2 (19 + b) a) 5 + 0) 0 1 0 (sh_P (σ2 (σ2 (19 + b) a) 11))) (f34 : tk_fr σ3 σ4) (t23 : ∀ a i : Int, ¬ (a = 83 ∧ 5 ≤ i ∧ i ≤ 9) → ρ3 a i = ρ2 a i) (R4 : rd_R σ4 ρ3 (j2 + 1)) (D : ρ1 83 10 = ρ0 83 10) (hw : nw_R ρ3 ρ4 20 0 0 0 a n1 w) (ha : 0 ≤ a ∧ a < σ2 (7 + b) 1) (hsv : sv_P ρ4 F a) : ss_R b F B σ0 ρ0 j0 σ4 ρ4 (j2 + 1) (ρ3 83 33) (tr_n 20 0 0 0 a 0 0 l .leaf) := by
  have v : ∀ i : Int, σ1 (8 + b) i = σ0 (8 + b) i := fun i => o01 _ _ (by omega) (by omega)
  have v6 := v 6
  have c6 := H.2.2.1.2.1.2.1
  have w4 : ∀ i : Int, σ4 (8 + b) i = σ3 (8 + b) i := fun i => f34 _ _ (by omega) (by omega)
  have F01 : ∀ n t p : Int, ef_R b n t p σ0 σ1 := fun n t p => ef_R_of o01
  have hg2 := hg_ef hb (hg_ef hb hg0 (F01 0 0 0)) H.1.2.2.2.1
  have hg3 := hg_ef hb hg2 (ef_R_em (t := 0) (p := 0) he (Int.le_refl _))
  refine ss_one hg0 hb n0 a7 o01 g01 hj H he f34 t23 R4 D hw st_ln20 st_cn20 st_mt20 (fun hs hc => ?_) (fun hc => ?_) (show (20 : Int) ≤ 20 ∧ (20 : Int) ≤ 28 ∧ (20 : Int) ≠ 25 by decide) (fun h1 h2 => ?_) (fun hc => ?_) rfl
  · rw [w4, he.1] at hs
    have k := em_ci1 (u := σ0 (8 + b) 8) (x := a) (y := 0) hb he (by omega) ha.1 ha.2 (hg2 a ha.1 ha.2)
    rw [c6, v6] at k
    rw [st_cd20]
    exact ⟨hc, ci_ef (n := σ0 (8 + b) 6 + xt_ln l + 1) (t := 0) (p := 0) hb (ef_R_tk f34) hg3 (by omega) k⟩
  · obtain ⟨hw1, ⟨hw2, hw3, hw4, hw5⟩, hw6, hw7, hw8, hw9, hwO⟩ := hw
    have n33 : ρ3 83 33 = ρ2 83 33 := t23 _ _ (by omega)
    have u33 : ρ1 83 33 = ρ0 83 33 := g01 _ _ (by omega)
    have m1 := H.1.2.2.2.2.2.1
    rw [st_nd20, hw2, hw6, hw7]
    exact ⟨⟨by omega, by omega⟩, by omega, rfl, rfl, hc⟩
  · rw [st_w20]
    exact ⟨h1, h2⟩
  · unfold st_G
    rw [st_g20]
    exact ⟨hsv, hc⟩
/-- e is asserted -/
theorem ss_assert {b F : Int} {B : Int → Int} {σ0 ρ0 σ1 ρ1 σ2 ρ2 σ3 σ4 ρ3 ρ4 : js_S} {j0 j1 j2 : Nat} {n1 : Int} {l : tr_T} (hg0 : hg_R σ0 b) (hb : b = 0 ∨ b = 25) (n0 : 0 ≤ ρ0 83 33) (a7 : 0 ≤ σ0 (8 + b) 7 ∧ σ0 (8 + b) 7 ≤ 400000) (o01 : of_R σ0 σ1) (g01 : og_R ρ0 ρ1) (hj : j0 < j1) (H : xr_R b F B σ1 ρ1 j1 σ2 ρ2 j2 n1 l) (he : em_R b σ2 σ3 30 0 0 1 0 0) (f34 : tk_fr σ3 σ4) (t23 : ∀ a i : Int, ¬ (a = 83 ∧ 5 ≤ i ∧ i ≤ 9) → ρ3 a i = ρ2 a i) (R4 : rd_R σ4 ρ3 (j2 + 1)) (D : ρ1 83 10 = ρ0 83 10) (hw : nw_R ρ3 ρ4 23 0 0 0 n1 0 0) : ss_R b F B σ0 ρ0 j0 σ4 ρ4 (j2 + 1) (ρ3 83 33) (tr_n 23 0 0 0 0 0 0 l .leaf) := by
  have v : ∀ i : Int, σ1 (8 + b) i = σ0 (8 + b) i := fun i => o01 _ _ (by omega) (by omega)
  have v6 := v 6
  have c6 := H.2.2.1.2.1.2.1
  have w4 : ∀ i : Int, σ4 (8 + b) i = σ3 (8 + b) i := fun i => f34 _ _ (by omega) (by omega)
  have F01 : ∀ n t p : Int, ef_R b n t p σ0 σ1 := fun n t p => ef_R_of o01
  have hg2 := hg_ef hb (hg_ef hb hg0 (F01 0 0 0)) H.1.2.2.2.1
  have hg3 := hg_ef hb hg2 (ef_R_em (t := 0) (p := 0) he (Int.le_refl _))
  refine ss_one hg0 hb n0 a7 o01 g01 hj H he f34 t23 R4 D hw st_ln23 st_cn23 st_mt23 (fun hs hc => ?_) (fun hc => ?_) (show (20 : Int) ≤ 23 ∧ (23 : Int) ≤ 28 ∧ (23 : Int) ≠ 25 by decide) (fun h1 h2 => ?_) (fun hc => ?_) rfl
  · rw [w4, he.1] at hs
    have k := em_ci0 (u := σ0 (8 + b) 8) he (by omega)
    rw [c6, v6] at k
    rw [st_cd23]
    exact ⟨hc, ci_ef (n := σ0 (8 + b) 6 + xt_ln l + 1) (t := 0) (p := 0) hb (ef_R_tk f34) hg3 (by omega) k⟩
  · obtain ⟨hw1, ⟨hw2, hw3, hw4, hw5⟩, hw6, hw7, hw8, hw9, hwO⟩ := hw
    have n33 : ρ3 83 33 = ρ2 83 33 := t23 _ _ (by omega)
    have u33 : ρ1 83 33 = ρ0 83 33 := g01 _ _ (by omega)
    have m1 := H.1.2.2.2.2.2.1
    rw [st_nd23, hw2, hw6]
    exact ⟨⟨by omega, by omega⟩, by omega, rfl, hc⟩
  · rw [st_w23]
    exact ⟨h1, h2⟩
  · unfold st_G
    rw [st_g23]
    exact hc
/-- a call as a statement -/
theorem ss_call {b F : Int} {B : Int → Int} {σ0 ρ0 σ2 ρ2 σ4 ρ3 ρ4 : js_S} {j0 j2 : Nat} {n1 : Int} {l : tr_T} (hg0 : hg_R σ0 b) (hb : b = 0 ∨ b = 25) (n0 : 0 ≤ ρ0 83 33) (a7 : 0 ≤ σ0 (8 + b) 7 ∧ σ0 (8 + b) 7 ≤ 400000) (H : xw_R b F B σ0 ρ0 j0 σ2 ρ2 j2 n1 l) (hk : xt_k l = 10) (f34 : tk_fr σ2 σ4) (t23 : ∀ a i : Int, ¬ (a = 83 ∧ 5 ≤ i ∧ i ≤ 9) → ρ3 a i = ρ2 a i) (R4 : rd_R σ4 ρ3 (j2 + 1)) (hw : nw_R ρ3 ρ4 28 0 0 0 n1 0 0) : ss_R b F B σ0 ρ0 j0 σ4 ρ4 (j2 + 1) (ρ3 83 33) (tr_n 28 0 0 0 0 0 0 l .leaf) := by
  have q := H.1.2.1
  have dp := H.1.2.2.1
  have F12 := H.1.2.2.2.1
  have G12 := H.1.2.2.2.2.1
  have m1 := H.1.2.2.2.2.2.1
  have m1' := H.1.2.2.2.2.2.2
  have y15 := H.2.2.1.1.2.2.2
  have c10 := H.2.2.1.2.1.1
  have c6 := H.2.2.1.2.1.2.1
  have ll := xt_ln_0 l
  have w4 : ∀ i : Int, σ4 (8 + b) i = σ2 (8 + b) i := fun i => f34 _ _ (by omega) (by omega)
  have F24 : ∀ n t p : Int, ef_R b n t p σ2 σ4 := fun n t p => ef_R_tk f34
  have F04 : ef_R b (σ0 (8 + b) 6) (σ0 (8 + b) 10) (σ0 (23 + b) 15) σ0 σ4 := ef_R_trans F12 (F24 _ _ _)
  have hg2 := hg_ef hb hg0 F12
  have n33 : ρ3 83 33 = ρ2 83 33 := t23 _ _ (by omega)
  have G23 : eg_R (ρ2 83 33) ρ2 ρ3 := eg_R_t9 t23
  have G34 : eg_R (ρ2 83 33) ρ3 ρ4 := by
    have := eg_R_nw hw
    rw [n33] at this
    exact this
  have G24 : eg_R (ρ2 83 33) ρ2 ρ4 := eg_R_trans G23 G34 (Int.le_refl _)
  have G04 : eg_R (ρ0 83 33) ρ0 ρ4 := eg_R_trans G12 G24 (by omega)
  obtain ⟨hw1, ⟨hw2, hw3, hw4, hw5⟩, hw6, hw7, hw8, hw9, hwO⟩ := hw
  have cn := H.2.2.2.2.2.1.2.1
  refine ⟨⟨rd_R_of R4 (fun _ _ => rfl) (fun _ _ _ _ => rfl) (fun i g1 g2 => hwO _ _ (by omega) (by omega)) (fun i => hwO _ _ (by omega) (by omega)), by omega, ?_, F04, G04, by omega, by push_cast; omega⟩, ?_, ⟨⟨?_, ?_, ?_, ?_, ?_⟩, fun hs => ?_⟩, ⟨?_, ⟨(show (20 : Int) ≤ 28 ∧ (28 : Int) ≤ 28 ∧ (28 : Int) ≠ 25 by decide), ?_, ?_⟩, ⟨?_, ?_, ?_⟩, by omega, by omega, hw9, st_dz (x := 1 + xt_dp l) rfl (by
    have a1 : xt_dp l ≤ 2 * (400 - σ0 (23 + b) 15) + 6 * (65 - ρ0 83 10) := H.2.2.2.2.2.2.2.2.2
    unfold zz_b
    omega)⟩⟩
  · rw [hwO _ _ (by omega) (by omega), t23 _ _ (by omega), dp]
  · obtain ⟨x, x1, x2, x3, x4⟩ := H.2.1
    exact ⟨x, x1, x2, by rw [hwO _ _ (by omega) (by omega), t23 _ _ (by omega), x3], by rw [w4, x4]⟩
  · rw [f34 _ _ (by omega) (by omega), y15]
  · rw [w4, c10]
  · rw [w4, c6, st_ln28]
  · rw [w4, H.2.2.1.2.1.2.2.1, st_cn28]
  · rw [w4, H.2.2.1.2.1.2.2.2, st_mt28]
  · rw [w4] at hs
    rw [st_cd28]
    exact xt_cd_ef hb (F24 (σ2 (8 + b) 6) 0 0) hg2 (by omega) (H.2.2.1.2.2 hs)
  · rw [st_nd28, hw2, hw6]
    exact ⟨⟨by omega, by omega⟩, by omega, rfl, xt_nd_eg (M' := ρ0 83 33) (N' := ρ3 83 33) H.2.2.2.1 G24 (by omega)⟩
  · rw [st_w28]
    exact ⟨H.2.2.2.2.1.1, H.2.2.2.2.1.2.1, hk⟩
  · unfold st_G
    rw [st_g28]
    exact xt_G_eg H.2.2.2.2.1.2.2 G24 (by rw [hwO _ _ (by omega) (by omega), t23 _ _ (by omega)]; exact Int.le_refl _)
  · have a1 := H.2.2.2.2.2.1.1
    rw [st_ln28]
    push_cast
    omega
  · rw [st_cn28]
    exact cn
  · rw [st_mt28]
    exact H.2.2.2.2.2.1.2.2
