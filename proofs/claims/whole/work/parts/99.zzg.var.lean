/-! part 99.zzg: var NAME : TYPE = e ; in step -/
/-- a name is told but for its end; m its number, s the class's symbol -/
def va_R (E : js_E) (b F m s : Int) (B : Int → Int) (X : Int → Prop) (σ ρ : js_S) (j : Nat) (σa ρa : js_S) (ja : Nat) : Prop := xs_R E b F B (fun i => X i ∨ i = m) σa ρa ∧ (rd_R σa ρa ja ∧ j < ja) ∧ sf_R b (σ (8 + b) 6) (σ (8 + b) 10) (σ (23 + b) 15) m σ σa ∧ sg_R (ρ 83 33) m ρ ρa ∧ (ρa 83 11 = m + 1 ∧ ρa 83 10 = ρ 83 10 ∧ ρa 83 33 = ρ 83 33 ∧ ρa 83 44 = ρ 83 44) ∧ ((∀ i : Int, i ≠ 9 → σa (8 + b) i = σ (8 + b) i) ∧ σa (8 + b) 9 = σ (8 + b) 9 + ρa 91 m ∧ σa (23 + b) 15 = σ (23 + b) 15 ∧ σa (7 + b) 1 = m + 1) ∧ (js_desc E.1 σa s = some (0, 11, js_sym) ∧ σa (19 + b) m = s) ∧ sy_F σa ρa b m ∧ (6 ≤ ρa 86 m ∧ ρa 86 m ≤ 7 ∧ ρa 93 m = F ∧ (ρa 92 m = 0 ∨ ρa 92 m = 1) ∧ 1 ≤ ρa 91 m ∧ ρa 91 m ≤ 4096 ∧ -2000000000 ≤ ρa 88 m ∧ ρa 88 m ≤ ρa 89 m ∧ ρa 89 m ≤ 2000000000 ∧ ty_b (ρa 87 m) (ρa 88 m) (ρa 89 m)) ∧ (σa s 5 = σ (8 + b) 9 ∧ σa s 11 = σ (8 + b) 8)
theorem va_xn {E : js_E} {b F m s : Int} {B : Int → Int} {X : Int → Prop} {σ ρ σa ρa : js_S} {j ja : Nat} (h : va_R E b F m s B X σ ρ j σa ρa ja) (hn : xn_R b σ ρ j) : xn_R b σa ρa ja := by
  obtain ⟨_, ⟨_, hj⟩, _, _, ⟨_, _, h33, h44⟩, ⟨h8, _, h15, _⟩, _⟩ := h
  have v6 := h8 6 (by decide)
  have v7 := h8 7 (by decide)
  have v10 := h8 10 (by decide)
  have v11 := h8 11 (by decide)
  have v12 := h8 12 (by decide)
  unfold xn_R at hn ⊢
  omega
/-- the statement behind it is read: all of it -/
theorem sr_va {E : js_E} {b F m s n : Int} {B U : Int → Int} {X : Int → Prop} {σ ρ σa ρa σ8 ρ9 : js_S} {j ja j9 : Nat} {st : tr_T} (hb : b = 0 ∨ b = 25) (hx : ux_R E b F B U X σ ρ) (hm : ρ 83 11 = m) (hm4 : m < 400) (hv : va_R E b F m s B X σ ρ j σa ρa ja) (hs : ss_R b F B σa ρa (ja - 1) σ8 ρ9 j9 n st) : sr_R E b F B U X σ ρ j (js_up σ8 s 13 1) (js_up ρ9 99 m 1) j9 n st := by
  obtain ⟨xa, ⟨ra, hja⟩, sfa, sga, ⟨h11, h10, h33, h44⟩, ⟨h8, h9, h15, h71⟩, ⟨hds, h19⟩, hF, ⟨k6, k7, k93, k92, k91, k91', k88, k88', k89, kty⟩, ⟨s5, s11⟩⟩ := hv
  have m0 : 0 ≤ m := by have := hx.1.1.1.1; omega
  have hge := js_sym_ge hds
  obtain ⟨⟨r9, q9, dp9, F8, G9, m9, m9'⟩, hL, hC, hT⟩ := hs
  have x8 := xs_R_ef hb xa F8 G9
  have w : ∀ a i : Int, a < 99 → 86 ≤ a → ρ9 a i = ρa a i := fun a i g1 g2 => G9 _ _ (by omega) (by omega)
  have e11 : ρ9 83 11 = m + 1 := by rw [G9 _ _ (by omega) (by omega)]; exact h11
  have e19 : σ8 (19 + b) m = s := by rw [F8 _ _ (by unfold ef_D; omega)]; exact h19
  have fld : ∀ k : Int, σ8 s k = σa s k := fun k => F8 _ _ (by unfold ef_D; omega)
  have v6 := h8 6 (by decide)
  have v10 := h8 10 (by decide)
  have v8 := h8 8 (by decide)
  have v7 := h8 7 (by decide)
  have v11 := h8 11 (by decide)
  have v12 := h8 12 (by decide)
  have sf8 : sf_R b (σ (8 + b) 6) (σ (8 + b) 10) (σ (23 + b) 15) m σ σ8 := sf_R_trans sfa (sf_R_ef (m := m) hb (fun i g1 g2 => xs_ge xa i g1 (by omega)) F8) (by omega) (by omega) (by omega) (Int.le_refl _)
  have sg9 : sg_R (ρ 83 33) m ρ ρ9 := sg_R_trans sga (sg_R_eg (m := m) G9) (by omega) (Int.le_refl _)
  have hF8 : sy_F σ8 ρ9 b m := by
    unfold sy_F at hF ⊢
    rw [e19, fld, fld, fld, fld, fld, fld, fld, fld, fld, w 86 m (by decide) (by decide), w 87 m (by decide) (by decide), w 88 m (by decide) (by decide), w 89 m (by decide) (by decide), w 91 m (by decide) (by decide), w 92 m (by decide) (by decide), w 93 m (by decide) (by decide), w 94 m (by decide) (by decide), w 96 m (by decide) (by decide)]
    rw [h19] at hF
    exact hF
  have hux := ux_new (s := s) hb hx hm x8 sf8 sg9 e11 e19 hF8 (by rw [w 86 m (by decide) (by decide)]; exact ⟨k6, k7⟩) (by rw [w 93 m (by decide) (by decide)]; exact k93) (by rw [w 92 m (by decide) (by decide)]; exact k92) (by rw [w 91 m (by decide) (by decide)]; exact ⟨k91, k91'⟩) (by rw [w 88 m (by decide) (by decide), w 89 m (by decide) (by decide)]; exact ⟨k88, k88', k89⟩) (by rw [w 87 m (by decide) (by decide), w 88 m (by decide) (by decide), w 89 m (by decide) (by decide)]; exact kty) (by rw [fld]; exact s5) (by rw [fld]; exact s11) (by rw [F8 _ _ (by unfold ef_D; omega), w 91 m (by decide) (by decide)]; exact h9)
  have up : ∀ a i : Int, a < 137 → js_up σ8 s 13 1 a i = σ8 a i := fun a i g => js_up_na _ (by omega)
  have ur : ∀ a i : Int, a ≠ 99 → js_up ρ9 99 m 1 a i = ρ9 a i := fun a i g => js_up_na _ (by omega)
  have sfz : ∀ n t p mm : Int, sf_R b n t p mm σ8 (js_up σ8 s 13 1) := fun n t p mm => sf_R_13 hb m0 hm4 e19 hge
  refine ⟨⟨rd_R_of r9 (fun i _ => up _ _ (by omega)) (fun a i _ _ => up _ _ (by omega)) (fun i _ _ => ur _ _ (by decide)) (fun i => ur _ _ (by decide)), by omega, by rw [ur _ _ (by decide), dp9]; exact h10, ?_, ?_, by rw [ur _ _ (by decide)]; omega, by rw [ur _ _ (by decide)]; omega, by rw [ur _ _ (by decide), e11]; omega⟩, ?_, ⟨⟨?_, ?_, ?_, ?_, ?_⟩, fun hs => ?_⟩, ⟨?_, ⟨hT.2.1.1, hT.2.1.2.1, ?_⟩, ⟨?_, hT.2.2.1.2.1, ?_⟩, ?_, ?_, ?_, Int.le_trans hT.2.2.2.2.2.2 (by unfold zz_b; omega)⟩, hux⟩
  · rw [hm]
    exact sf_R_trans sf8 (sfz _ _ _ _) (Int.le_refl _) (Int.le_refl _) (Int.le_refl _) (Int.le_refl _)
  · rw [hm]
    exact fun a i g1 g2 g3 g4 g5 => by rw [ur _ _ g5]; exact sg9 a i g1 g2 g3 g4 g5
  · obtain ⟨x, x1, x2, x3, x4⟩ := hL
    exact ⟨x, x1, x2, by rw [ur _ _ (by decide), x3, h44], by rw [up _ _ (by omega), x4, v12]⟩
  · rw [up _ _ (by omega), hC.1.1, h15]
  · rw [up _ _ (by omega), hC.1.2.1, v10]
  · rw [up _ _ (by omega), hC.1.2.2.1, v6]
  · rw [up _ _ (by omega), hC.1.2.2.2.1, v7]
  · rw [up _ _ (by omega), hC.1.2.2.2.2, v11, v10]
  · rw [up _ _ (by omega)] at hs
    have k := hC.2 hs
    rw [v8, v10, v6] at k
    exact st_cd_sf hb (sfz (σ (8 + b) 6 + st_ln st) 0 0 (σ8 (7 + b) 1)) (Int.le_refl _) k
  · have k := hT.1
    rw [h33] at k
    rw [ur _ _ (by decide)]
    exact st_nd_of st _ _ _ _ _ _ (Int.le_refl _) (Int.le_refl _) (fun a i g1 g2 _ _ => ur _ _ (by omega)) (fun i _ _ _ => ur _ _ (by decide)) k
  · exact st_G_of hT.2.1.2.2 (by rw [ur _ _ (by decide)]; exact Int.le_refl _) (fun a i g1 g2 _ _ => ur _ _ (by omega)) (by rw [ur _ _ (by decide)]; exact Int.le_refl _)
  · have a1 := hT.2.2.1.1
    omega
  · have a1 := hT.2.2.1.2.2
    rw [v10] at a1
    exact a1
  · have a1 := hT.2.2.2.1
    omega
  · rw [ur _ _ (by decide)]
    exact hT.2.2.2.2.1
  · rw [ur _ _ (by decide)]
    exact hT.2.2.2.2.2.1
/-- behind =, the type set -/
theorem va_of {E : js_E} {b F m s : Int} {B U : Int → Int} {X : Int → Prop} {σ ρ σ5 ρ5 : js_S} {j j5 : Nat} (hb : b = 0 ∨ b = 25) (hx : ux_R E b F B U X σ ρ) (hm : ρ 83 11 = m) (h : vh_R E b F m s B X σ ρ j σ5 ρ5 j5) : va_R E b F m s B X σ ρ j σ5 (tp_S ρ5 m) j5 := by
  obtain ⟨x5, ⟨r5, hj⟩, sf5, u5, ⟨h11, h10⟩, ⟨g8, g9, g23, g71⟩, ⟨hds, h19⟩, ⟨s0, s1, s2, s3, s4, s5, s6, s7, s8, s9, s10, s11, s12⟩, ⟨k86, k93, k94, k96, k91, k91', k92, _⟩, hin, _⟩ := h
  have m0 : 0 ≤ m := by have := hx.1.1.1.1; omega
  have hpl := hx.2.1
  obtain ⟨i1, i2, i3, i4, i5, i6⟩ := hin
  have q : qf_R m ρ5 (tp_S ρ5 m) := fun a i g1 g2 => tp_o (by omega)
  have hY := sy_Y_rx (ρ' := tp_S ρ5 m) x5.1 (Or.inr rfl) (tp_o (by omega)) (fun a i g1 g2 g3 => tp_o (by omega)) (by rw [tp_87, tp_o (by omega)]; omega)
  refine ⟨xs_vp hb x5 (Or.inr rfl) ⟨m0, by omega⟩ h19 (vp_R_refl _ _ _) q hY (by rw [s11, hpl.2.2.1]; exact hpl.2.2.2.2.1) s9, ⟨rd_R_of r5 (fun _ _ => rfl) (fun _ _ _ _ => rfl) (fun i _ _ => tp_o (by omega)) (fun i => tp_o (by omega)), hj⟩, sf5, ?_, ⟨?_, ?_, ?_, ?_⟩, ⟨g8, ?_, g23 15, g71⟩, ⟨hds, h19⟩, ?_, ⟨?_, ?_, ?_, ?_, ?_, ?_, ?_, ?_, ?_, ?_⟩, s5, s11⟩
  · exact fun a i g1 g2 g3 g4 g5 => by rw [tp_o (by omega)]; exact u5 a i (by omega) (by omega) (by omega)
  · rw [tp_o (by omega)]; exact h11
  · rw [tp_o (by omega)]; exact h10
  · rw [tp_o (by omega)]; exact u5 _ _ (by omega) (by omega) (by omega)
  · rw [tp_o (by omega)]; exact u5 _ _ (by omega) (by omega) (by omega)
  · rw [tp_o (by omega)]; exact g9
  · unfold sy_F
    rw [h19, tp_87, tp_88, tp_89, tp_o (by omega), tp_o (by omega), tp_o (by omega), tp_o (by omega), tp_o (by omega), tp_o (by omega), k86, k93, k94, k96]
    exact ⟨s1, s2, s3, s4, s6, by rw [s7]; exact hpl.2.2.2.1, s8, s10, s12⟩
  · rw [tp_o (by omega)]; omega
  · rw [tp_o (by omega)]; omega
  · rw [tp_o (by omega)]; exact k93
  · rw [tp_o (by omega)]; exact k92
  · rw [tp_o (by omega)]; exact k91
  · rw [tp_o (by omega)]; exact k91'
  · rw [tp_88]; exact i3
  · rw [tp_88, tp_89]; exact i4
  · rw [tp_89]; exact i5
  · rw [tp_87, tp_88, tp_89]; exact i6
section SC
variable {E : js_E} {d e : Nat} {b F : Int} {B U : Int → Int} {X : Int → Prop} {σ ρ : js_S} {j : Nat}
theorem r_214_128F (h : rx_F ρ) (he : 4 ≤ e) {x1 x2 : Int} : js_J E e 214 125 [(2, 83), (0, x1), (0, x2)] [] ρ = js_r E (0, x2) ρ := by
  have n9 : ¬ js_w (ρ 83 9) = 0 := by have := rx_F_9 h; omega
  rw [b_214_125, k_214_128 (by omega) (r_takeF h (by omega) (by decide) (by decide)), b_214_131, if_neg n9]
/-- a variable that is no row -/
theorem y_var1 {m s : Int} {σ5 ρ5 : js_S} {j5 : Nat} (hb : b = 0 ∨ b = 25) (hx : ux_R E b F B U X σ ρ) (hn : xn_R b σ ρ j) (hm : ρ 83 11 = m) (hm4 : m < 400) (hv : vh_R E b F m s B X σ ρ j σ5 ρ5 j5) (h92 : ρ5 92 m = 0) (ht : σ (8 + b) 10 ≤ 12 * ρ 83 10) (hp : σ (23 + b) 15 ≤ 6 * ρ 83 10) (hd : 4 * (65 - ρ 83 10) + 26 ≤ (d : Int)) (he : 12 * (65 - ρ 83 10) + 27 ≤ (e : Int)) : sq_P E b F B U X σ ρ j (js_J E d 57 61 [(2, 22 + b), (2, s), (9, 0)] [] σ5) (js_J E e 214 44 [(2, 83), (0, m), (9, 0)] [(0, m), (2, 83)] ρ5) := by
  have m0 : 0 ≤ m := by have := hx.1.1.1.1; omega
  have va := va_of hb hx hm hv
  have va' := va
  obtain ⟨xa, ⟨ra, hja⟩, sfa, sga, ⟨h11, h10, h33, h44⟩, ⟨h8, h9, h15, h71⟩, ⟨hds, h19⟩, hF, ⟨k6, k7, k93, k92, k91, k91', k88, k88', k89, kty⟩, ⟨s5, s11⟩⟩ := va
  have hna := va_xn va' hn
  have r1 : ρ5 91 m = 1 := hv.2.2.2.2.2.2.2.2.1.2.2.2.2.2.2.2 h92
  have hin := hv.2.2.2.2.2.2.2.2.2.1
  obtain ⟨i1, i2, i3, i4, i5, _⟩ := hin
  have hge := js_sym_ge hds
  have D1 := ra.2.2.2.2.2
  have hj5 := rd_j ra
  have t59 : tk_m 59 = 59 := by decide
  have wm : js_w m = m := js_w_of (by omega) (by omega)
  have gm : 0 ≤ m ∧ m < 400 := ⟨m0, hm4⟩
  unfold sy_F at hF
  rw [h19, tp_87, tp_88, tp_89] at hF
  have f12 : σ5 s 12 = 0 := by rw [hF.2.2.2.2.2.2.2.2, tp_o (by omega)]; exact h92
  have f6 : σ5 s 6 = 1 := by rw [hF.2.2.2.2.1, tp_o (by omega)]; exact r1
  have v10 := h8 10 (by decide)
  have t92 : tp_S ρ5 m 92 m = 0 := by rw [tp_o (by omega)]; exact h92
  have fr5 : fr_R b σ σ5 := sfa.1
  have rf5 : rf_R ρ (tp_S ρ5 m) := rf_R_sg sga
  have lift : ∀ {ρ' : js_S} {R : Option (Outcome × ip_W)}, xf_P E b σ5 (tp_S ρ5 m) ρ' R → sF_P E b σ ρ ρ' R := fun h => sF_up fr5 rf5 (sF_xf hb xa h)
  rw [b_57_61 hds hb, f12, if_pos (show js_w 0 = 0 from rfl), k_214_44 (by omega) (r_tp gm), b_214_47, wm, if_pos gm, t92, if_pos (show js_w 0 = 0 from rfl), tp_o (a := 83) (i := 30) (by omega), tp_o (a := 83) (i := 31) (by omega), tp_o (a := 83) (i := 32) (by omega), js_w_of (x := ρ5 83 31) (by omega) (by omega), js_w_of (x := ρ5 83 32) (by omega) (by omega)]
  rcases y_for (E := E) (d := d - 1) (e := e - 1) (t := ρ5 83 30) (lo := ρ5 83 31) (hi := ρ5 83 32) hb (y_e hb 0) (Nat.zero_le _) xa hna ra (by omega) (by omega) (by omega) (by omega) ⟨i1, i2⟩ (by omega) (by omega) with ⟨σ6, ρ7, j6, n, l, er, ec, ea, H, _⟩ | ⟨ρ', vv, er, hff⟩
  · have r6 := H.1.1
    have hj6 := rd_j r6
    have F56 := H.1.2.2.2.1
    have G67 := H.1.2.2.2.2.1
    have g6 := H.1.2.2.2.2.2.1
    have hn6 := xn_next hna H
    have hnod := hn6.2.2.2.2.1
    have c6 := H.2.2.1.2.1.2.1
    have c10 := H.2.2.1.2.1.1
    have y15 := H.2.2.1.1.2.2.2
    have ll := xt_ln_0 l
    have x6 := xs_R_ef hb xa F56 G67
    have fld : ∀ k : Int, σ6 s k = σ5 s k := fun k => F56 _ _ (by unfold ef_D; omega)
    have hds6 : js_desc E.1 σ6 s = some (0, 11, js_sym) := js_desc_mono hds (by rw [F56 _ _ (by unfold ef_D; omega)]; exact Int.le_refl _) (fun _ => fld _)
    have e196 : σ6 (19 + b) m = s := by rw [F56 _ _ (by unfold ef_D; omega)]; exact h19
    have z11 : ρ7 83 11 = m + 1 := by rw [G67 _ _ (by omega) (by omega)]; exact h11
    have hu0 := x6.2.2.2.1 m m0 (by omega)
    have hu := And.intro hu0.1 hu0.2.1
    rw [e196] at hu
    obtain ⟨σ7, e7, h7⟩ := c_store (E := E) (d := d - 1) (σ := σ6) (x := s) (y := 0) hb (xn_cz hn6 r6) (by omega) hds6 hu.1 hu.2
    have kO := h7.2.2.2
    have hds7 : js_desc E.1 σ7 s = some (0, 11, js_sym) := js_desc_mono hds6 (by rw [kO _ _ (by omega) (by omega)]; exact Int.le_refl _) (fun _ => kO _ _ (by omega) (by omega))
    have f67 : σ7 s 6 = 1 := by rw [kO _ _ (by omega) (by omega), fld]; exact f6
    rw [k_57_117 hb (by omega) ec, b_57_120 hb hds6, fld, fld, fld, hF.2.1, hF.2.2.1, hF.2.2.2.1, k_57_136 hb (by omega) ea, b_57_139, b_57_141 hds6 hb, fld, f6, if_pos (show js_w 0 < js_w 1 by decide), k_57_155 hb (by omega) e7, b_57_158, b_57_141 hds7 hb, f67, if_neg (show ¬ js_w (0 + 1) < js_w 1 by decide), k_214_117 (by omega) er, b_214_120]
    obtain ⟨ρ8, er8, hw⟩ := r_node (E := E) (e := e - 1) (ρ := ρ7) (k := 20) (ty := 0) (lo := 0) (hi := 0) (a := m) (b := n) (c := 0) r6.2.2.1.2.2.1 (by omega) (by omega) (by decide) (by decide)
    have hwO := hw.2.2.2.2.2.2
    rw [k_214_121 (by omega) er8, b_214_124]
    have F67 : ef_R b (σ6 (8 + b) 6) (σ6 (8 + b) 10) (σ6 (23 + b) 15) σ6 σ7 := ef_R_em h7 (Int.le_refl _)
    have F57 : ef_R b (σ5 (8 + b) 6) (σ5 (8 + b) 10) (σ5 (23 + b) 15) σ5 σ7 := ef_R_trans F56 (ef_R_mono F67 (by omega) (by omega) (by omega))
    have G68 : eg_R (tp_S ρ5 m 83 33) (tp_S ρ5 m) ρ8 := eg_R_trans G67 (eg_R_nw hw) (by omega)
    have x7 := xs_R_ef hb xa F57 G68
    have r7 : rd_R σ7 ρ8 j6 := rd_R_of r6 (fun i _ => kO _ _ (by omega) (by omega)) (fun a i _ _ => kO _ _ (by omega) (by omega)) (fun i _ _ => hwO _ _ (by omega) (by omega)) (fun i => hwO _ _ (by omega) (by omega))
    obtain ⟨ρ9, e9, t89, hor⟩ := y_take (E := E) (d := d - 1) (e := e - 1) (k := 59) x7.1.2.2.1 r7 (by omega) (by omega) (by unfold tk_V; omega) (by decide)
    rw [t59] at hor
    rw [b_214_125, k_214_128 (by omega) e9]
    rcases hor with ⟨σ8, j8, c8, R8, f8, hj8⟩ | ⟨hF9, c8⟩
    · subst hj8
      have o9 : ρ9 83 9 = 0 := R8.2.2.1.2.2.1
      have hds8 : js_desc E.1 σ8 s = some (0, 11, js_sym) := js_desc_mono hds7 (by rw [f8 _ _ (by omega) (by omega)]; exact Int.le_refl _) (fun _ => f8 _ _ (by omega) (by omega))
      rw [k_57_170 (by omega) c8, b_57_173 hds8, b_214_131, o9, if_pos (show js_w 0 = 0 from rfl), wm, if_pos gm, js_iand11]
      obtain ⟨ρx, tx1, tx2, hwx⟩ := nt_swap hw t89
      have Rx : rd_R σ8 ρx (j6 + 1) := rd_R_of R8 (fun _ _ => rfl) (fun _ _ _ _ => rfl) (fun i g1 g2 => by
        by_cases q : 5 ≤ i ∧ i ≤ 9
        · exact tx2 i q.1 q.2
        · rw [tx1 _ _ (by omega), t89 _ _ (by omega), hwO _ _ (by omega) (by omega)]) (fun i => by rw [tx1 _ _ (by omega), t89 _ _ (by omega), hwO _ _ (by omega) (by omega)])
      have hwxO := hwx.2.2.2.2.2.2
      have zz : ∀ a k : Int, 86 ≤ a → a < 100 → ρ9 a k = tp_S ρ5 m a k := fun a k g1 g2 => by rw [t89 _ _ (by omega), hwO _ _ (by omega) (by omega), G67 _ _ (by omega) (by omega)]
      have z9 : ρ9 83 11 = m + 1 := by rw [t89 _ _ (by omega), hwO _ _ (by omega) (by omega), z11]
      have hsv : sv_P ρ9 F m := ⟨m0, by omega, Or.inr (by rw [zz _ _ (by decide) (by decide), zz _ _ (by decide) (by decide)]; exact ⟨by omega, by omega, k93⟩)⟩
      have h7' : em_R b σ6 σ7 2 (σ6 (σ6 (19 + b) m) 5 + 0) 0 1 0 (sh_P (σ6 (σ6 (19 + b) m) 11)) := by rw [e196]; exact h7
      have ss := ss_set (j0 := j5 - 1) (xs_hg xa) hb hna.2.2.2.2.1.1 hna.2.1 (fun _ _ _ _ => rfl : of_R σ5 σ5) (fun _ _ _ => rfl : og_R (tp_S ρ5 m) (tp_S ρ5 m)) (by omega) H h7' f8 tx1 Rx rfl hwx ⟨m0, by rw [x6.1.2.2.2.2.1, z11]; omega⟩ hsv
      have e33 : ρx 83 33 = ρ7 83 33 := tx1 _ _ (by omega)
      rw [e33] at ss
      exact Or.inl ⟨js_up σ8 s 13 1, js_up ρ9 99 m 1, j6 + 1, ρ7 83 33, tr_n 20 0 0 0 m 0 0 l .leaf, rfl, rfl, sr_va hb hx hm hm4 va' ss⟩
    · have n9 : ¬ js_w (ρ9 83 9) = 0 := by have := rx_F_9 hF9; omega
      rw [kt_57_170 (by omega) c8, b_214_131, if_neg n9]
      exact Or.inr ⟨ρ9, ρ7 83 33, rfl, lift ⟨hF9, eg_R_trans (N' := tp_S ρ5 m 83 33) G68 (eg_R_t9 t89) (Int.le_refl _), σ7, rfl, F57⟩⟩
  · have hF' : rx_F ρ' := by
      rcases hff with h | ⟨_, _, _, h⟩
      · exact h.1
      · exact h.1
    rw [k_214_117 (by omega) er, b_214_120, k_214_121 (by omega) (r_nodeF hF'), b_214_124, r_214_128F hF' (by omega)]
    rcases hff with h | ⟨σ6, ec, F56, h⟩
    · obtain ⟨a1, a2, σ', a3, a4⟩ := h
      rw [kt_57_117 hb (by omega) a3]
      exact Or.inr ⟨ρ', 0, rfl, lift ⟨a1, a2, σ', rfl, a4⟩⟩
    · obtain ⟨a1, a2, σ', a3, a4⟩ := h
      have fld : ∀ k : Int, σ6 s k = σ5 s k := fun k => F56 _ _ (by unfold ef_D; omega)
      have hds6 : js_desc E.1 σ6 s = some (0, 11, js_sym) := js_desc_mono hds (by rw [F56 _ _ (by unfold ef_D; omega)]; exact Int.le_refl _) (fun _ => fld _)
      rw [k_57_117 hb (by omega) ec, b_57_120 hb hds6, fld, fld, fld, hF.2.1, hF.2.2.1, hF.2.2.2.1, kt_57_136 hb (by omega) a3]
      exact Or.inr ⟨ρ', 0, rfl, lift ⟨a1, a2, σ', rfl, a4⟩⟩
end SC
