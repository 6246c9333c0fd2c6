/-! part 99.zzza: case in step -/
theorem cf_m1 {Lz b2 b1 b0 cl cs : Int} (h0 : 0 ≤ b0) (hl : 0 ≤ cl) (hs : 0 ≤ cs) (e1 : b1 = min 400000 (b0 + cl + 1)) (e2 : max Lz b2 = max 0 (min 400000 (b1 + cs))) : max Lz b2 = min 400000 (b0 + (cl + 1 + cs)) := by omega
theorem cf_m2 {a b c d : Int} : max (max a (max b c)) d = max a (max b (max c d)) := by omega
theorem cf_m3 {a b c x : Int} (h : x = max a (max b c)) (hx : x ≤ 1024) : c ≤ 1024 := by omega
theorem cf_m4 {a b c : Int} (h1 : a ≤ 1024) (h2 : b ≤ 1024) (h3 : c ≤ 1024) : max a (max b c) ≤ 1024 := by omega
theorem cf_m5 {x y z : Int} : max (max z x) y = max z (max x y) := by omega
/-- out of sight of omega -/
def hi_P (p : Prop) : Prop := p
theorem hi_i {p : Prop} (h : p) : hi_P p := h
theorem hi_e {p : Prop} (h : hi_P p) : p := h
/-- the end of a case -/
theorem case_fin {E : js_E} {b F : Int} {B U : Int → Int} {X : Int → Prop} {Q : List Int} {Ez Lz n m nc hs v : Int} {σ ρ σ1 ρ1 σ2 ρ2 σ3 ρ3 σ4 ρ4 : js_S} {j j1 j2 : Nat} {l s : tr_T} (hb : b = 0 ∨ b = 25) (hx : ux_R E b F B U X σ ρ) (h7 : 0 ≤ σ (8 + b) 7) (h33 : 0 ≤ ρ 83 33) (H : ch_R E b F B U X σ ρ j σ1 ρ1 j1 nc l) (R : ca_R E b F B U X [] (-1) 0 σ1 ρ1 j1 σ2 ρ2 j2 Ez Lz n m s) (o3 : of_R σ2 σ3) (g3 : og_R ρ2 ρ3) (d3 : ρ3 83 10 = ρ2 83 10 - 1) (r3 : rd_R σ3 ρ3 (j2 + 1)) (hQ : ∀ x : Int, x ∈ Q → σ1 (8 + b) 6 ≤ x) (hc : σ2 (8 + b) 6 ≤ 8192 → st_cd (cq_P σ2 b (σ1 (8 + b) 8) (σ2 (8 + b) 6) (fun x => x ∈ Q)) s (σ1 (8 + b) 10) (σ1 (8 + b) 6) (σ2 (8 + b) 6)) (l1 : σ3 (8 + b) 6 ≤ 8192 → ∀ q : Int, q ∈ Q → σ4 (10 + b) q = σ3 (8 + b) 6) (l2 : ∀ a i : Int, ¬ (a = 10 + b ∧ i ∈ Q) → σ4 a i = σ3 a i) (hv : v = max Lz (σ2 (8 + b) 7)) (hw : nw_R ρ3 ρ4 24 hs 0 0 nc n m) (hhs : hs = 0 ∧ m = -1 ∨ hs = 1) : sr_R E b F B U X σ ρ j (js_up (js_up σ4 (8 + b) 7 v) (8 + b) 10 (σ (8 + b) 10)) ρ4 (j2 + 1) (ρ3 83 33) (tr_n 24 hs 0 0 0 0 0 l s) := by
  obtain ⟨⟨_, q1, dp1, F01, G01, m1, m1'⟩, hL1, ⟨y15, y10, y6, y7, y11⟩, ⟨y17, y18⟩, yc, ⟨nd1, ⟨te, tw, tG⟩, ⟨tl, tcn, tmt, hz1⟩, _⟩, hn1, hux1⟩ := H
  obtain ⟨⟨_, q2, dp2, sf12, gp12, m2, m2', w2, _⟩, hL2, ⟨⟨z15, z10, z6⟩, ⟨zb, _, _⟩, z11⟩, _, ⟨nd2, kk, ⟨sw, sG⟩, ⟨sl, scn, smt, sdp⟩, am⟩, hux2⟩ := R
  have hzz : 2 + max (xt_dp l) (st_dp s) ≤ zz_b b σ ρ + 10 := by
    unfold zz_b at hz1 sdp ⊢
    omega
  clear hz1 sdp
  replace y7 := hi_i y7
  replace y11 := hi_i y11
  replace zb := hi_i zb
  replace z11 := hi_i z11
  replace hv := hi_i hv
  replace yc := hi_i yc
  replace hc := hi_i hc
  replace l1 := hi_i l1
  replace kk := hi_i kk
  have ll := xt_ln_0 l
  have ls := st_ln_0 s
  have sg12 := gp_sg gp12
  clear gp12
  have hwO := hw.2.2.2.2.2.2
  have hw1 := hw.1
  have e11 : ρ1 83 11 = ρ 83 11 := G01 _ _ (by omega) (by omega)
  have e333 : ρ3 83 33 = ρ2 83 33 := g3 _ _ (by omega)
  have e311 : ρ3 83 11 = ρ2 83 11 := g3 _ _ (by omega)
  have e411 : ρ4 83 11 = ρ3 83 11 := hwO _ _ (by omega) (by omega)
  have G24 : eg_R (ρ2 83 33) ρ2 ρ4 := fun a i h1 h2 => by rw [hwO a i (by omega) (by omega), g3 a i (by omega)]
  have sg24 : sg_R (ρ2 83 33) (ρ2 83 11) ρ2 ρ4 := sg_R_eg G24
  have sg14 : sg_R (ρ1 83 33) (ρ1 83 11) ρ1 ρ4 := sg_R_trans sg12 sg24 m2 w2
  have u8 : σ1 (8 + b) 8 = σ (8 + b) 8 := by
    have a1 := F01 (8 + b) 8 (by unfold ef_D; omega)
    exact a1
  have v3 : ∀ k : Int, σ3 (8 + b) k = σ2 (8 + b) k := fun k => o3 _ _ (by omega) (by omega)
  have v36 := v3 6
  have hg2 : hg_R σ2 b := xs_hg hux2.1
  have hg3 : hg_R σ3 b := hg_ef hb hg2 (ef_R_of (n := 0) (t := 0) (p := 0) o3)
  have hg4 : hg_R σ4 b := fun x h1 h2 => by
    rw [l2 _ _ (by omega)] at h2
    rw [l2 _ _ (by omega)]
    exact hg3 x h1 h2
  have s712 : σ2 (7 + b) 1 = ρ2 83 11 := hux2.1.1.2.2.2.2.1
  have s711 : σ1 (7 + b) 1 = ρ1 83 11 := hux1.1.1.2.2.2.2.1
  have o5 : ∀ a i : Int, ¬ (a = 8 + b ∧ i = 7) → ¬ (a = 8 + b ∧ i = 10) → js_up (js_up σ4 (8 + b) 7 v) (8 + b) 10 (σ (8 + b) 10) a i = σ4 a i := fun a i h1 h2 => by rw [js_up_ne _ h2, js_up_ne _ h1]
  have o510 : js_up (js_up σ4 (8 + b) 7 v) (8 + b) 10 (σ (8 + b) 10) (8 + b) 10 = σ (8 + b) 10 := js_up_same _ _ _ _
  have o57 : js_up (js_up σ4 (8 + b) 7 v) (8 + b) 10 (σ (8 + b) 10) (8 + b) 7 = v := by rw [js_up_ni _ (by decide)]; exact js_up_same _ _ _ _
  generalize js_up (js_up σ4 (8 + b) 7 v) (8 + b) 10 (σ (8 + b) 10) = σ5 at o5 o510 o57 ⊢
  have o8 : ∀ k : Int, k ≠ 7 → k ≠ 10 → σ5 (8 + b) k = σ2 (8 + b) k := fun k h1 h2 => by rw [o5 _ _ (by omega) (by omega), l2 _ _ (by omega), v3]
  have cfl : ∀ (i : Int) (I : xt_I), ci_P σ4 b (σ (8 + b) 8) i I → ci_P σ5 b (σ (8 + b) 8) i I := fun i I hI => ci_P_of hI (fun a h1 h2 => o5 _ _ (by omega) (by omega)) (by rw [o5 _ _ (by omega) (by omega)]; exact Int.le_refl _) (fun x _ _ => o5 _ _ (by omega) (by omega)) (fun x k h1 h2 _ => o5 _ _ (by have := hg4 x h1 h2; omega) (by have := hg4 x h1 h2; omega))
  have F25 : ∀ t p : Int, ef_R b (σ1 (8 + b) 6) t p σ2 σ5 := fun t p a i g => by
    have g8 : ¬ (a = 8 + b ∧ (i = 6 ∨ i = 7 ∨ 10 ≤ i ∧ i ≤ 12)) := fun hh => g (ef_D8 hh)
    rw [o5 a i (fun hh => g8 ⟨hh.1, by omega⟩) (fun hh => g8 ⟨hh.1, by omega⟩), l2 a i (fun hh => g (ef_D9 ⟨by omega, by omega, hQ i hh.2⟩)), o3 a i (fun hh => g (ef_D1 hh)) (fun hh => g (ef_D2 hh))]
  have sf25 : ∀ t p : Int, sf_R b (σ1 (8 + b) 6) t p (σ2 (7 + b) 1) σ2 σ5 := fun t p => sf_R_ef hb hg2 (F25 t p)
  have sf01 : sf_R b (σ (8 + b) 6) (σ (8 + b) 10) (σ (23 + b) 15) (ρ 83 11) σ σ1 := sf_R_ef hb (xs_ge hx.1) F01
  have sf02 : sf_R b (σ (8 + b) 6) (σ (8 + b) 10) (σ (23 + b) 15) (ρ 83 11) σ σ2 := sf_R_trans sf01 sf12 (by omega) (by omega) (by omega) (by omega)
  have sf12' : sf_R b (σ1 (8 + b) 6) (σ1 (8 + b) 10) (σ1 (23 + b) 15) (σ1 (7 + b) 1) σ1 σ2 := by rw [s711]; exact sf12
  push_cast at m2' sl
  have nd1' : xt_nd ρ4 (ρ 83 33) l (ρ3 83 33) nc 0 := xt_nd_sg nd1 sg14 (by omega)
  have nd2' : st_nd ρ4 s (ρ 83 33) (ρ3 83 33) n m := st_nd_sg nd2 sg24 (by omega)
  refine ⟨⟨?_, by omega, ?_, ?_, ?_, by omega, ?_, by omega⟩, ?_, ⟨⟨?_, o510, ?_, ?_, ?_⟩, fun hs' => ?_⟩, ⟨?_, ⟨(show (20 : Int) ≤ 24 ∧ (24 : Int) ≤ 28 ∧ (24 : Int) ≠ 25 by decide), ?_, ?_⟩, ⟨?_, ?_, ?_⟩, by omega, by omega, hw.2.2.2.2.2.1, st_dz (x := 2 + max (xt_dp l) (st_dp s)) rfl hzz⟩, ux_ef hb hux2 (F25 0 0) G24⟩
  · exact rd_R_of r3 (fun i _ => by rw [o5 _ _ (by omega) (by omega), l2 _ _ (by omega)]) (fun a i _ _ => by rw [o5 _ _ (by omega) (by omega), l2 _ _ (by omega)]) (fun i _ _ => hwO _ _ (by omega) (by omega)) (fun i => hwO _ _ (by omega) (by omega))
  · rw [hwO _ _ (by omega) (by omega)]
    omega
  · exact sf_R_trans sf02 (sf25 (σ (8 + b) 10) (σ (23 + b) 15)) (by omega) (Int.le_refl _) (Int.le_refl _) (by omega)
  · exact sg_R_trans (sg_R_eg (m := ρ 83 11) G01) sg14 m1 (by omega)
  · push_cast
    omega
  · obtain ⟨x, a1, a2, a3, a4⟩ := hL1
    obtain ⟨y, c1, c2, c3, c4⟩ := hL2
    have xy := ic_m4 a1 a2 c1 c2
    refine ⟨max x y, xy.1, xy.2, ?_, ?_⟩
    · rw [hwO _ _ (by omega) (by omega), g3 _ _ (by omega), c3, a3]
      exact cf_m5
    · rw [o8 12 (by decide) (by decide), c4, a4]
      exact cf_m5
  · rw [o5 _ _ (by omega) (by omega), l2 _ _ (by omega), o3 _ _ (by omega) (by omega), z15, y15]
  · rw [o8 6 (by decide) (by decide), z6, y6, st_ln24]
    omega
  · rw [o57, hi_e hv, st_cn24]
    exact cf_m1 h7 tcn scn (hi_e y7) (hi_e zb)
  · rw [o8 11 (by decide) (by decide), hi_e z11, hi_e y11, st_mt24, y10]
    exact cf_m2
  · rw [o8 6 (by decide) (by decide)] at hs'
    have k := hi_e hc hs'
    rw [u8, y10] at k
    obtain ⟨ka, kb⟩ := hi_e yc (by omega)
    have ez : σ (8 + b) 6 + (xt_ln l + 1 + st_ln s) = σ2 (8 + b) 6 := by omega
    have eq1 : σ (8 + b) 6 + xt_ln l + 1 = σ1 (8 + b) 6 := by omega
    rw [st_cd24, st_ln24, ez, eq1]
    refine ⟨xt_cd_sf hb (sf25 0 0) (by omega) (xt_cd_sf hb sf12' (by omega) ka), ci_sf hb (sf25 0 0) (by omega) (ci_sf hb sf12' (by omega) kb), ?_⟩
    refine st_cd_of s _ _ _ (fun i I h1 h2 hI => cfl i I ?_) k
    have hI3 : cq_P σ3 b (σ (8 + b) 8) (σ2 (8 + b) 6) (fun x => x ∈ Q) i I := cq_sf (n := i + 1) (t := 0) (p := 0) hb (sf_R_ef hb hg2 (ef_R_of o3)) (by omega) hI
    exact cq_land hb hI3 hg3 l2 (fun hq => by rw [hi_e l1 (by omega) i hq, v36])
  · rw [st_nd24, hw.2.2.1, hw.2.2.2.1, hw.2.2.2.2.1]
    exact ⟨⟨by omega, by omega⟩, by omega, hw.2.1.1, ⟨hw.2.1.2.1, hhs⟩, nd1', nd2'⟩
  · rw [st_w24]
    have et : σ1 (8 + b) 10 - 1 = σ (8 + b) 10 := by omega
    rw [et, y17, y18] at am
    exact ⟨te, tw, hi_e kk, sw, am⟩
  · unfold st_G
    rw [st_g24]
    have l2 := xr_L_up hL2
    have l4 : ρ4 83 44 = ρ2 83 44 := by rw [hwO _ _ (by omega) (by omega), g3 _ _ (by omega)]
    exact ⟨xt_G_sg tG sg14 (Int.le_refl _) (by omega) (by omega), st_G_sg sG sg24 (Int.le_refl _) (by omega) (by omega)⟩
  · rw [st_ln24]
    push_cast
    omega
  · rw [st_cn24]
    omega
  · rw [st_mt24]
    rw [y10] at smt
    exact cf_m4 tmt (cf_m3 (hi_e y11) hn1.2.2.2.1.2) smt
section CA3
variable {E : js_E} {d e : Nat} {b F : Int} {B U : Int → Int} {X : Int → Prop} {σ ρ : js_S} {j : Nat}
/-- case -/
theorem y_case {J0 : Nat} (hb : b = 0 ∨ b = 25) (hS : sa_P E b F B U X J0) (hJ : J0 ≤ j + 5) (hx : ux_R E b F B U X σ ρ) (hn : xn_R b σ ρ j) (hR : rd_R σ ρ j) (h5 : ρ 83 5 = 309) (ht : σ (8 + b) 10 ≤ 2 * ρ 83 10 + 2) (hp : σ (23 + b) 15 ≤ 6 * ρ 83 10) (hd : 4 * (65 - ρ 83 10) + 31 ≤ (d : Int)) (he : 12 * (65 - ρ 83 10) + 33 ≤ (e : Int)) : sq_P E b F B U X σ ρ j (js_J E d 99 0 [(2, 22 + b), (9, 0), (9, 0), (9, 0), (9, 0), (9, 0), (9, 0), (9, 0)] [] σ) (js_J E e 238 0 [(2, 83), (9, 0), (9, 0), (9, 0), (9, 0), (9, 0), (9, 0), (9, 0), (9, 0)] [] ρ) := by
  have D0 := hR.2.2.2.2.1
  have D1 := hR.2.2.2.2.2
  have t125 : tk_m 125 = 125 := by decide
  have hn0 := hn
  unfold xn_R at hn0
  rcases y_chead (E := E) (d := d) (e := e) hb hx hn hR h5 ht hp hd he with ⟨σ1, ρ1, j1, x1, nc, l, ec, er, H⟩ | ⟨ρ', v, er, hf⟩
  · rw [ec, er]
    have r1 := H.1.1
    have q1 := H.1.2.1
    have dp1 := H.1.2.2.1
    have F01 := H.1.2.2.2.1
    have G01 := H.1.2.2.2.2.1
    have y15 := H.2.2.1.1
    have y10 := H.2.2.1.2.1
    have nd1 := xt_nd_in H.2.2.2.2.2.1.1 H.2.2.2.2.2.1.2.1.1
    have yty := H.2.2.2.2.2.1.2.2.2
    have hn1 := H.2.2.2.2.2.2.1
    have hux1 := H.2.2.2.2.2.2.2
    have h331 := hn1.2.2.2.2.1
    have fr01 : fr_R b σ σ1 := fr_R_ef hb F01
    have rf01 : rf_R ρ ρ1 := rf_R_eg G01
    rcases y_arms (E := E) (d := d) (e := e) (J0 := J0) (ty := xt_ty l) (tm := σ (8 + b) 10) hb hS yty (by omega) 8200 σ1 ρ1 j1 [] (-1) 0 0 x1 nc (-1) (-1) (9, 0) (9, 0) (9, 0) (9, 0) (9, 0) (9, 0) (by omega) (by omega) hux1 hn1 r1 (by omega) (by omega) (fun h => absurd h (by decide)) (fun _ => rfl) ⟨nd1.1, nd1.2.1, nd1.2.2.1⟩ y10 rfl (by decide) (by omega) (by omega) (by omega) (by omega) with ⟨σ2, ρ2, j2, Ez, Lz, n, m, y4, y5, hs, v6, v7, z7, z8, s, ec2, er2, hhs, R⟩ | ⟨ρ', v, er2, hf⟩
    · rw [if_pos (show (-1 : Int) < 0 by decide)] at er2
      rw [ec2, er2, b_99_241 hb, b_238_309]
      have r2 := R.1.1
      have dp2 := R.1.2.2.1
      have sf12 := R.1.2.2.2.1
      have gp12 := R.1.2.2.2.2.1
      have m2' := R.1.2.2.2.2.2.2.1
      have z6 := R.2.2.1.1.2.2
      have zb := R.2.2.1.2.1.2
      have sl := R.2.2.2.2.1.2.2.2.1.1
      have hux2 := R.2.2.2.2.2
      have ls := st_ln_0 s
      have hj2 := rd_j r2
      have hn10 := hn1
      unfold xn_R at hn10
      have e111 := hux2.1.1.1.1
      have e112 := hux2.1.1.1.2.1
      have fr02 : fr_R b σ σ2 := fr_R_trans fr01 sf12.1
      have rf02 : rf_R ρ ρ2 := rf_R_trans rf01 (rf_R_sg (gp_sg gp12))
      obtain ⟨Q1, jq, hQ, hc⟩ := R.2.2.2.1
      rw [List.append_nil] at jq
      obtain ⟨ρ3, e3, g3, hor⟩ := y_close (E := E) (d := d - 1) (e := e - 1) (k := 125) hux2.1.1.2.2.1 r2 (by omega) (by omega) (by unfold tk_V; omega) (by decide) (by omega)
      rw [t125] at hor
      rw [k_238_312 (by omega) e3]
      rcases hor with ⟨σ3, j3, c3, R3, o3, hj3, d3⟩ | ⟨hF3, c3⟩
      · subst hj3
        have v3 : ∀ k : Int, σ3 (8 + b) k = σ2 (8 + b) k := fun k => o3 _ _ (by omega) (by omega)
        have v36 := v3 6
        have v37 := v3 7
        have hz3 : cz_R σ3 b := by
          unfold cz_R
          omega
        have jq3 : jw (fun i => σ3 (10 + b) i) Q1 (σ3 (8 + b) 6) Ez := by
          rw [v36]
          refine jw_of Q1 _ _ (fun i hi => ?_) jq
          exact o3 _ _ (by omega) (by omega)
        obtain ⟨σ4, e4, l2, l1⟩ := c_landAll (E := E) (d := d - 1) (Q := Q1) (σ := σ3) (x := Ez) hb (by omega) hz3 jq3
        have k7 : σ4 (8 + b) 7 = σ2 (8 + b) 7 := by rw [l2 _ _ (by omega), v37]
        have e333 : ρ3 83 33 = ρ2 83 33 := g3 _ _ (by omega)
        have hm2 := R.1.2.2.2.2.2.1
        obtain ⟨ρ4, er4, hw⟩ := r_node (E := E) (e := e - 1) (ρ := ρ3) (k := 24) (ty := hs) (lo := 0) (hi := 0) (a := nc) (b := n) (c := m) R3.2.2.1.2.2.1 (by omega) (by omega) (by decide) (by decide)
        have mx : (if js_w Lz < js_w (σ2 (8 + b) 7) then σ2 (8 + b) 7 else Lz) = max Lz (σ2 (8 + b) 7) := by
          rw [js_w_of (x := Lz) (by omega) (by omega), js_w_of (x := σ2 (8 + b) 7) (by omega) (by omega)]
          split <;> omega
        have r315 : js_J E e 238 315 [(2, 83), (0, x1), (0, nc), (0, n), (0, y4), (0, m), (0, hs), z7, z8] [] ρ3 = js_J E e 238 328 [(2, 83), (0, x1), (0, nc), (0, n), (0, y4), (0, m), (0, hs), z7, z8] [(0, hs), (0, 24), (2, 83)] ρ3 := by
          rw [b_238_315]
          rcases hhs with h | h
          · rw [h.1, if_pos (show js_w 0 = 0 from rfl)]
          · rw [h, if_neg (show ¬ js_w 1 = 0 by decide)]
        rw [k_99_247 (by omega) c3, b_99_250 hb, k_99_255 hb (by omega) e4, b_99_258 (by omega) hb, k7, r315, b_238_328, k_238_334 (by omega) er4, b_238_337]
        exact Or.inl ⟨_, ρ4, j2 + 1, ρ3 83 33, _, rfl, rfl, case_fin hb hx hn0.2.1.1 hn0.2.2.2.2.1.1 H R o3 g3 d3 R3 hQ hc l1 l2 mx hw hhs⟩
      · have hF : rx_F ρ3 := hF3
        have x311 : ρ3 83 11 = ρ2 83 11 := g3 _ _ (by omega)
        have f0 : sF_P E b σ ρ ρ3 (th_P E σ2 (ρ3 83 9)) := ⟨rf_R_trans rf02 (rf_R_eg (N := 0) (eg_R_og g3)), hF, by omega, by omega, σ2, rfl, fr02, hux2.1.1.2.2.2.1, hux2.1.1.2.2.1⟩
        rw [kt_99_247 (by omega) c3, b_238_315]
        rcases hhs with h | h
        · rw [h.1, if_pos (show js_w 0 = 0 from rfl), b_238_328, k_238_334 (by omega) (r_nodeF hF), b_238_337]
          exact Or.inr ⟨_, _, rfl, f0⟩
        · rw [h, if_neg (show ¬ js_w 1 = 0 by decide), b_238_328, k_238_334 (by omega) (r_nodeF hF), b_238_337]
          exact Or.inr ⟨_, _, rfl, f0⟩
    · rw [er2]
      exact Or.inr ⟨ρ', v, rfl, sF_up fr01 rf01 hf⟩
  · rw [er]
    exact Or.inr ⟨ρ', v, rfl, hf⟩
end CA3
