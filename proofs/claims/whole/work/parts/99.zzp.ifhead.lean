/-! part 99.zzp: if ( e ) BLOCK in step, up to what stands behind it -/
section SM
variable {E : js_E} {d e : Nat} {ρ : js_S}
theorem r_openF (h : rx_F ρ) (he : 1 ≤ e) {k : Int} (hk : 0 < k) (hk2 : k < 3000) : js_J E e 207 0 [(2, 83), (0, k)] [] ρ = js_r0 E (js_up ρ 83 10 (ρ 83 10 + 1)) := by
  have hF : rx_F (js_up ρ 83 10 (ρ 83 10 + 1)) := rx_F_up h (by decide) (by decide)
  rw [b_207_0, h.2.2]
  simp (disch := omega) only [js_w_of]
  rw [if_neg (by omega), k_207_14 (by omega) (r_badF h), b_207_17, b_207_39, k_207_50 (by omega) (r_nextF hF.1 hF.2.1), b_207_53]
/-- what goes on after a fault leaves all but the depth and what is visible alone -/
def hf_R (ρ ρ' : js_S) : Prop := ∀ a i : Int, ¬ (a = 83 ∧ i = 10) → a ≠ 99 → ρ' a i = ρ a i
theorem hf_up {v : Int} : hf_R ρ (js_up ρ 83 10 v) := fun a i g _ => js_up_ne _ g
theorem hf_trans {ρ1 ρ2 ρ3 : js_S} (h : hf_R ρ1 ρ2) (h2 : hf_R ρ2 ρ3) : hf_R ρ1 ρ3 := fun a i g1 g2 => (h2 a i g1 g2).trans (h a i g1 g2)
theorem hf_F {ρ' : js_S} (h : rx_F ρ) (h2 : hf_R ρ ρ') : rx_F ρ' := by
  unfold rx_F at h ⊢
  rw [h2 _ _ (by omega) (by decide), h2 _ _ (by omega) (by decide)]
  exact h
theorem r_blockF (h : rx_F ρ) (he : 6 ≤ e) (h1 : 0 ≤ ρ 83 11) (h4 : ρ 83 11 ≤ 400) : ∃ ρ' : js_S, js_J E e 239 0 [(2, 83), (9, 0), (9, 0)] [] ρ = js_r E (0, -1) ρ' ∧ hf_R ρ ρ' := by
  have hF : rx_F (js_up ρ 83 10 (ρ 83 10 + 1)) := rx_F_up h (by decide) (by decide)
  have x11 : ∀ (ρ : js_S) (v : Int), js_up ρ 83 10 v 83 11 = ρ 83 11 := fun ρ v => js_up_ni _ (by decide)
  rw [b_239_0, k_239_8 (by omega) (r_openF h (by omega) (by decide) (by decide)), ← x11 ρ (ρ 83 10 + 1)]
  have hf1 : hf_R ρ (js_up ρ 83 10 (ρ 83 10 + 1)) := hf_up
  have y1 : 0 ≤ js_up ρ 83 10 (ρ 83 10 + 1) 83 11 := by rw [x11]; exact h1
  have y4 : js_up ρ 83 10 (ρ 83 10 + 1) 83 11 ≤ 400 := by rw [x11]; exact h4
  generalize js_up ρ 83 10 (ρ 83 10 + 1) = ρ1 at hF hf1 y1 y4 ⊢
  obtain ⟨ρ3, e3, h3⟩ := r_240F (E := E) (e := e - 1) (ρ := js_up ρ1 83 10 (ρ1 83 10 - 1)) (f := ρ1 83 11) y1 y4 (by rw [x11]; exact y1) (by rw [x11]; exact y4)
  refine ⟨ρ3, ?_, hf_trans hf1 (fun a i g1 g2 => by rw [h3 a i g2, js_up_ne _ g1])⟩
  rw [b_239_11, k_239_12 (by omega) (r_212F hF), b_239_15, k_239_19 (by omega) (r_leaveF hF (by omega) (by decide) (by decide)), b_239_22, k_239_24 (by omega) e3, b_239_27]
variable {x1 x2 x3 x4 : Int} {u4 u5 : js_v}
theorem r_241_55F (h : rx_F ρ) {z0 : Int} : js_J E e 241 55 [(2, 83), (0, x1), (0, x2), (0, x3), (0, x4), u5] [(0, z0)] ρ = js_r E (0, -1) ρ := by
  rw [b_241_55, if_pos (rx_F_9 h)]
theorem r_241_39F (h : rx_F ρ) (he : 7 ≤ e) (h1 : 0 ≤ ρ 83 11) (h4 : ρ 83 11 ≤ 400) : ∃ ρ' : js_S, js_J E e 241 39 [(2, 83), (0, x1), (0, x2), (0, x3), (0, x4), u5] [] ρ = js_r E (0, -1) ρ' ∧ hf_R ρ ρ' := by
  obtain ⟨ρ1, e1, f1⟩ := r_blockF (E := E) (e := e - 1) h (by omega) h1 h4
  refine ⟨ρ1, ?_, f1⟩
  rw [b_241_39, k_241_48 (by omega) e1, b_241_51, k_241_52 (by omega) (r_nodeF (hf_F h f1)), r_241_55F (hf_F h f1)]
theorem r_241_31F (h : rx_F ρ) (he : 7 ≤ e) (h1 : 0 ≤ ρ 83 11) (h4 : ρ 83 11 ≤ 400) {z0 : Int} : ∃ ρ' : js_S, js_J E e 241 31 [(2, 83), (0, x1), (0, x2), (0, x3), u4, u5] [(0, z0)] ρ = js_r E (0, -1) ρ' ∧ hf_R ρ ρ' := by
  have hF : rx_F (js_up ρ 83 10 (ρ 83 10 - 1)) := rx_F_up h (by decide) (by decide)
  have y11 : js_up ρ 83 10 (ρ 83 10 - 1) 83 11 = ρ 83 11 := js_up_ni _ (by decide)
  obtain ⟨ρ1, e1, f1⟩ := r_241_39F (E := E) (e := e) (x1 := x1) (x2 := x2) (x3 := x3) (x4 := z0) (u5 := u5) hF he (by rw [y11]; exact h1) (by rw [y11]; exact h4)
  refine ⟨ρ1, ?_, hf_trans hf_up f1⟩
  rw [b_241_31, k_241_36 (by omega) (r_leaveF h (by omega) (by decide) (by decide)), e1]
theorem r_241_27F (h : rx_F ρ) (he : 10 ≤ e) (h1 : 0 ≤ ρ 83 11) (h4 : ρ 83 11 ≤ 400) : ∃ ρ' : js_S, js_J E e 241 27 [(2, 83), (0, x1), (0, x2), (0, x3), u4, u5] [] ρ = js_r E (0, -1) ρ' ∧ hf_R ρ ρ' := by
  obtain ⟨ρ1, e1, f1⟩ := r_241_31F (E := E) (e := e) (x1 := x1) (x2 := x2) (x3 := x3) (u4 := u4) (u5 := u5) (z0 := 0) h (by omega) h1 h4
  refine ⟨ρ1, ?_, f1⟩
  rw [b_241_27, k_241_28 (by omega) (r_truthF h (by omega)), e1]
end SM
/-- if ( e ) BLOCK was read by both -/
def ih_R (E : js_E) (b F : Int) (B U : Int → Int) (X : Int → Prop) (σ ρ : js_S) (j : Nat) (σ' ρ' : js_S) (j' : Nat) (bf nc mm : Int) (l r : tr_T) : Prop := (rd_R σ' ρ' j' ∧ j + 4 ≤ j' ∧ ρ' 83 10 = ρ 83 10 ∧ sf_R b (σ (8 + b) 6) (σ (8 + b) 10) (σ (23 + b) 15) (ρ 83 11) σ σ' ∧ sg_R (ρ 83 33) (ρ 83 11) ρ ρ' ∧ ρ 83 33 + 1 ≤ ρ' 83 33 ∧ ρ' 83 33 + j + 3 ≤ ρ 83 33 + j' ∧ ρ 83 11 ≤ ρ' 83 11) ∧ xr_L b σ ρ σ' ρ' ∧ (σ' (23 + b) 15 = σ (23 + b) 15 ∧ σ' (8 + b) 10 = σ (8 + b) 10 ∧ σ' (8 + b) 6 = σ (8 + b) 6 + xt_ln l + 1 + st_ln r ∧ bf = min 400000 (σ (8 + b) 7 + xt_cn B l + 1) ∧ σ' (8 + b) 7 = min 400000 (bf + st_cn B r) ∧ σ' (8 + b) 11 = max (σ (8 + b) 11) (max (xt_mt l (σ (8 + b) 10)) (st_mt r (σ (8 + b) 10)))) ∧ (σ' (8 + b) 6 ≤ 8192 → xt_cd (ci_P σ' b (σ (8 + b) 8)) l (σ (8 + b) 10) (σ (8 + b) 6) ∧ ci_P σ' b (σ (8 + b) 8) (σ (8 + b) 6 + xt_ln l) (25, 0, 0, 0, 0, 1, 0) ∧ st_cd (ci_P σ' b (σ (8 + b) 8)) r (σ (8 + b) 10) (σ (8 + b) 6 + xt_ln l + 1) 0) ∧ (ρ' 100 (ρ' 83 33 - 1) = 26 ∧ ρ' 106 (ρ' 83 33 - 1) = 0 ∧ ρ' 102 (ρ' 83 33 - 1) = nc ∧ ρ' 103 (ρ' 83 33 - 1) = mm ∧ ρ' 104 (ρ' 83 33 - 1) = -1 ∧ ρ' 107 (ρ' 83 33 - 1) = -1) ∧ (xt_nd ρ' (ρ 83 33) l (ρ' 83 33 - 1) nc 0 ∧ st_nd ρ' r (ρ 83 33) (ρ' 83 33 - 1) mm 0) ∧ (xt_e l ∧ xt_w l ∧ xt_G ρ' F l) ∧ ((r = .leaf ∨ xt_k r = 90) ∧ st_w r ∧ st_G ρ' F r) ∧ (xt_ln l + 1 + st_ln r ≤ 5000 * ((j' : Int) - j - 3) ∧ 0 ≤ xt_cn B l ∧ 0 ≤ st_cn B r ∧ xt_mt l (σ (8 + b) 10) ≤ 1024 ∧ st_mt r (σ (8 + b) 10) ≤ 1024 ∧ xt_dp l + 4 ≤ zz_b b σ ρ ∧ st_dp r ≤ zz_b b σ ρ + 5) ∧ xn_R b σ' ρ' j' ∧ ux_R E b F B U X σ' ρ'
theorem ih_of {E : js_E} {b F : Int} {B U : Int → Int} {X : Int → Prop} {σ ρ σ2 ρ2 σ3 ρ3 σ4 ρ4 σ5 σ6 ρ6 ρ7 : js_S} {j j3 j6 : Nat} {nc mm : Int} {l r : tr_T} (hb : b = 0 ∨ b = 25) (hx : ux_R E b F B U X σ ρ) (hn : xn_R b σ ρ j) (o2 : of_R σ σ2) (g2 : og_R ρ ρ2) (d2 : ρ2 83 10 = ρ 83 10 + 1) (H : xr_R b F B σ2 ρ2 (j + 2) σ3 ρ3 j3 nc l) (o4 : of_R σ3 σ4) (g4 : og_R ρ3 ρ4) (d4 : ρ4 83 10 = ρ3 83 10 - 1) (h5 : em_R b σ4 σ5 25 0 0 1 0 0) (hbl : bl_R E b F B U X 0 σ5 ρ4 (j3 + 1) σ6 ρ6 j6 mm r) (hn6 : xn_R b σ6 ρ6 j6) (hw : nw_R ρ6 ρ7 26 0 0 0 nc mm (-1)) : ih_R E b F B U X σ ρ j σ6 ρ7 j6 (σ5 (8 + b) 7) nc mm l r := by
  have hz1 := xr_zz H
  have hz2 : st_dp r ≤ 2 * (400 - σ5 (23 + b) 15) + 6 * (65 - ρ4 83 10) + 5 + 6 * 0 := hbl.2.2.2.1.2.2.2.2
  obtain ⟨⟨r3, q3, dp3, F23, G23, m3, m3'⟩, hL3, ⟨⟨_, _, _, y15⟩, ⟨c10, c6, c7, c11⟩, cc⟩, ⟨nd3, ⟨te, tw, tG⟩, ⟨tln, tcn, tmt⟩, _⟩⟩ := H
  obtain ⟨⟨r6, q6, dp6, F56, G46, m6, m6', k6⟩, hL6, ⟨⟨z15, z10, z6, z7, z11⟩, zc⟩, hT6, hu6⟩ := hbl
  have v2 : ∀ k : Int, σ2 (8 + b) k = σ (8 + b) k := fun k => o2 _ _ (by omega) (by omega)
  have v4 : ∀ k : Int, σ4 (8 + b) k = σ3 (8 + b) k := fun k => o4 _ _ (by omega) (by omega)
  have v2_15 : σ2 (23 + b) 15 = σ (23 + b) 15 := o2 _ _ (by omega) (by omega)
  have v4_15 : σ4 (23 + b) 15 = σ3 (23 + b) 15 := o4 _ _ (by omega) (by omega)
  have O5 := h5.2.2.2
  have v5 : ∀ k : Int, k ≠ 6 → k ≠ 7 → σ5 (8 + b) k = σ3 (8 + b) k := fun k g1 g2 => by rw [O5 _ _ (by omega) (by omega), v4]
  have v5_15 : σ5 (23 + b) 15 = σ3 (23 + b) 15 := by rw [O5 _ _ (by omega) (by omega), v4_15]
  have n5 := h5.1
  have n57 := h5.2.1
  rw [v4] at n5 n57
  have e6 : σ2 (8 + b) 6 = σ (8 + b) 6 := v2 6
  have e10 : σ2 (8 + b) 10 = σ (8 + b) 10 := v2 10
  have f10 : σ5 (8 + b) 10 = σ (8 + b) 10 := by rw [v5 10 (by decide) (by decide), c10, e10]
  rw [v2, v2 10] at c11
  rw [e6] at c6
  rw [v2] at c7
  rw [e10] at c10 tmt cc
  rw [v2 8, e6] at cc
  have g33 : ρ2 83 33 = ρ 83 33 := g2 _ _ (by omega)
  have g433 : ρ4 83 33 = ρ3 83 33 := g4 _ _ (by omega)
  have g11 : ρ2 83 11 = ρ 83 11 := g2 _ _ (by omega)
  have g311 : ρ3 83 11 = ρ2 83 11 := G23 _ _ (by omega) (by omega)
  have g411 : ρ4 83 11 = ρ3 83 11 := g4 _ _ (by omega)
  have ll := xt_ln_0 l
  have lr := st_ln_0 r
  have hwO := hw.2.2.2.2.2.2
  have hw1 := hw.1
  have G67 : eg_R (ρ6 83 33) ρ6 ρ7 := eg_R_nw hw
  have e33 : ρ7 83 33 - 1 = ρ6 83 33 := by omega
  have F02 : ∀ n t p : Int, ef_R b n t p σ σ2 := fun n t p => ef_R_of o2
  have F34 : ∀ n t p : Int, ef_R b n t p σ3 σ4 := fun n t p => ef_R_of o4
  have F45 : ∀ n t p : Int, n ≤ σ3 (8 + b) 6 → ef_R b n t p σ4 σ5 := fun n t p h => ef_R_em h5 (by rw [v4]; exact h)
  have F03 : ef_R b (σ (8 + b) 6) (σ (8 + b) 10) (σ (23 + b) 15) σ σ3 := ef_R_trans (F02 _ _ _) (ef_R_mono F23 (by omega) (by omega) (by omega))
  have F05 : ef_R b (σ (8 + b) 6) (σ (8 + b) 10) (σ (23 + b) 15) σ σ5 := ef_R_trans F03 (ef_R_trans (F34 _ _ _) (F45 _ _ _ (by omega)))
  have G04 : eg_R (ρ 83 33) ρ ρ4 := eg_R_trans (eg_R_og g2) (eg_R_trans (N' := ρ3 83 33) G23 (eg_R_og g4) (by omega)) (by omega)
  have hg : hg_R σ b := xs_hg hx.1
  have hg3 : hg_R σ3 b := hg_ef hb hg F03
  have hg5 : hg_R σ5 b := hg_ef hb hg F05
  have s71 : σ (7 + b) 1 = ρ 83 11 := hx.1.1.2.2.2.2.1
  have s75 : σ5 (7 + b) 1 = ρ 83 11 := by rw [F05 _ _ (by unfold ef_D; omega)]; exact s71
  have s73 : σ3 (7 + b) 1 = ρ 83 11 := by rw [F03 _ _ (by unfold ef_D; omega)]; exact s71
  have sf06 : sf_R b (σ (8 + b) 6) (σ (8 + b) 10) (σ (23 + b) 15) (ρ 83 11) σ σ6 := sf_R_trans (sf_R_ef hb (xs_ge hx.1) F05) F56 (by omega) (by omega) (by omega) (by omega)
  have sg06 : sg_R (ρ 83 33) (ρ 83 11) ρ ρ6 := sg_R_trans (sg_R_eg G04) G46 (by omega) (by omega)
  have sg07 : sg_R (ρ 83 33) (ρ 83 11) ρ ρ7 := sg_R_trans sg06 (sg_R_eg (m := ρ 83 11) G67) (by omega) (Int.le_refl _)
  have sg37 : sg_R (ρ3 83 33) (ρ 83 11) ρ3 ρ7 := sg_R_trans (sg_R_trans (sg_R_eg (m := ρ 83 11) (eg_R_og g4)) G46 (by omega) (by omega)) (sg_R_eg (m := ρ 83 11) G67) (by omega) (Int.le_refl _)
  have e711 : ρ7 83 11 = ρ6 83 11 := G67 _ _ (by omega) (by omega)
  have tl := hT6.2.2.1.1
  push_cast at m3' m6' tl tln q6 q3
  refine ⟨⟨?_, by omega, ?_, sf06, sg07, by omega, by omega, by omega⟩, ?_, ⟨?_, ?_, ?_, ?_, ?_, ?_⟩, fun hs => ⟨?_, ?_, ?_⟩, ?_, ⟨?_, ?_⟩, ⟨te, tw, ?_⟩, ⟨hT6.2.1.1, hT6.2.1.2.1, ?_⟩, ⟨?_, tcn, hT6.2.2.1.2.1, tmt, ?_, by unfold zz_b; omega, by unfold zz_b; omega⟩, ?_, ux_ef hb hu6 (ef_R_refl b 0 0 0 σ6) G67⟩
  · exact rd_R_of r6 (fun _ _ => rfl) (fun _ _ _ _ => rfl) (fun i _ _ => hwO _ _ (by omega) (by omega)) (fun i => hwO _ _ (by omega) (by omega))
  · rw [hwO _ _ (by omega) (by omega), dp6, d4, dp3, d2]
    omega
  · obtain ⟨x, x1, x2, x3, x4⟩ := hL3
    obtain ⟨y, y1, y2, y3, y4⟩ := hL6
    refine ⟨max x y, by omega, by omega, ?_, ?_⟩
    · rw [hwO _ _ (by omega) (by omega), y3, g4 _ _ (by omega), x3, g2 _ _ (by omega)]
      omega
    · rw [y4, v5 12 (by decide) (by decide), x4, v2]
      omega
  · rw [z15, v5_15, y15, v2_15]
  · rw [z10, f10]
  · omega
  · have := hn.2.1
    omega
  · exact z7
  · rw [z11, v5 11 (by decide) (by decide), c11, f10]
    omega
  · have k := cc (by omega)
    have sf36 : sf_R b (σ3 (8 + b) 6) (σ (8 + b) 10) (σ (23 + b) 15) (σ3 (7 + b) 1) σ3 σ6 := sf_R_trans (sf_R_ef hb hg3 (ef_R_trans (F34 _ _ _) (F45 _ _ _ (Int.le_refl _)))) F56 (by omega) (by omega) (by omega) (by omega)
    exact xt_cd_sf hb sf36 (by omega) k
  · have i0 : ci_P σ5 b (σ (8 + b) 8) (σ4 (8 + b) 6) (25, 0, 0, 0, 0, 1, 0) := em_ci0 h5 (by rw [v4]; omega)
    have sf56 : sf_R b (σ5 (8 + b) 6) (σ5 (8 + b) 10) (σ5 (23 + b) 15) (σ5 (7 + b) 1) σ5 σ6 := sf_R_mono F56 (Int.le_refl _) (Int.le_refl _) (Int.le_refl _) (by omega)
    have k := ci_sf hb sf56 (by rw [v4]; omega) i0
    have e0 : σ4 (8 + b) 6 = σ (8 + b) 6 + xt_ln l := by rw [v4]; omega
    rw [e0] at k
    exact k
  · have k := zc hs
    have e8 : σ5 (8 + b) 8 = σ (8 + b) 8 := by
      have a1 := F05 (8 + b) 8 (by unfold ef_D; omega)
      exact a1
    have e0 : σ5 (8 + b) 6 = σ (8 + b) 6 + xt_ln l + 1 := by omega
    rw [e8, f10, e0] at k
    exact k
  · rw [e33]
    exact ⟨hw.2.1.1, hw.2.1.2.2.2, hw.2.2.1, hw.2.2.2.1, hw.2.2.2.2.1, hw.2.2.2.2.2.1⟩
  · rw [e33]
    rw [g33] at nd3
    exact xt_nd_sg nd3 sg37 (by omega) (by omega)
  · rw [e33]
    exact st_nd_sg hT6.1 (sg_R_eg (m := 0) G67) (Int.le_refl _) (by omega)
  · have l6 := xr_L_up hL6
    have a1 : ρ7 83 44 = ρ6 83 44 := hwO _ _ (by omega) (by omega)
    have a2 : ρ4 83 44 = ρ3 83 44 := g4 _ _ (by omega)
    exact xt_G_sg tG sg37 (by omega) (by omega) (by omega)
  · exact st_G_sg hT6.2.1.2.2 (sg_R_eg (m := ρ6 83 11) G67) (Int.le_refl _) (by omega) (by rw [hwO _ _ (by omega) (by omega)]; exact Int.le_refl _)
  · omega
  · have k := hT6.2.2.1.2.2
    rw [f10] at k
    exact k
  · have h33 := hn.2.2.2.2.1
    have e44 : ρ7 83 44 = ρ6 83 44 := hwO _ _ (by omega) (by omega)
    unfold xn_R at hn6 ⊢
    omega
