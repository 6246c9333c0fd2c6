/-! part 99.zv: calls in step -/
section QD
variable {E : js_E} {d e : Nat} {b F : Int} {B : Int → Int} {X : Int → Prop} {σ ρ : js_S} {j : Nat}
/-- from ( on: all arguments, or a fault -/
theorem y_args0 {N i len s x2 x3 x4 y2 : Int} (hb : b = 0 ∨ b = 25) (hE : xe_P E b F B X j) (hx : xs_R E b F B X σ ρ) (hn : xn_R b σ ρ j) (hR : rd_R σ ρ j) (hi : 0 ≤ i ∧ i < 400) (hl : 0 ≤ len ∧ len ≤ 8) (hX : ¬ X i) (ht : σ (8 + b) 10 + len ≤ 12 * ρ 83 10) (hp : σ (23 + b) 15 ≤ 6 * ρ 83 10) (hd : 4 * (65 - ρ 83 10) + 26 ≤ (d : Int)) (he : 12 * (65 - ρ 83 10) + 27 ≤ (e : Int)) (h19 : σ (19 + b) i = s) (hi1 : i < ρ 83 11) (h86 : ρ 86 i = 4) (h91 : ρ 91 i = len) (hN : N ≤ ρ 83 33) : (∃ (σ' ρ' : js_S) (j' : Nat) (m : Int) (r : tr_T) (vx v6 v7 : js_v) (yl x6 x7 : Int), js_J E d 66 55 [(2, 23 + b), (2, s), (0, x2), (0, x3), (9, 0), (9, 0), (9, 0), (9, 0), (9, 0)] [] σ = js_J E d 66 216 [(2, 23 + b), (2, s), (0, x2), (0, x3), (0, σ (8 + b) 10), (0, len), (0, x6), (0, x7), vx] [] σ' ∧ js_J E e 232 70 [(2, 83), (0, i), (0, y2), (9, 0), (9, 0), (9, 0), (9, 0), (9, 0)] [] ρ = js_J E e 232 223 [(2, 83), (0, i), (0, y2), (0, len), (0, m), (0, yl), v6, v7] [] ρ' ∧ ρ' 83 5 = 41 ∧ xt_na r = len ∧ cr_R b F B (-1) σ ρ j σ' ρ' j' m r) ∨ xa_P E b N σ ρ (js_J E d 66 55 [(2, 23 + b), (2, s), (0, x2), (0, x3), (9, 0), (9, 0), (9, 0), (9, 0), (9, 0)] [] σ) (js_J E e 232 70 [(2, 83), (0, i), (0, y2), (9, 0), (9, 0), (9, 0), (9, 0), (9, 0)] [] ρ) := by
  obtain ⟨hV, c7, c8⟩ := rd_V hR
  have mi := tk_m_in hV
  have hj := rd_j hR
  have ok := hR.2.2.1
  have o9 := ok.2.2.1
  have D1 := hR.2.2.2.2.2
  have hS := hx.1.2.2.2.2.2.1 i hi.1 hi1
  unfold sy_N at hS
  rw [h19] at hS
  have hs := hS.1
  clear hS
  have h6 : σ s 6 = len := by
    have := (hx.1.2.2.2.2.2.2 i hi.1 hi1 hX).2.2.2.2.1
    rw [h19] at this
    rw [this]
    exact h91
  have w1 : js_w (σ 1 1) = tk_m (ρ 83 5) := by rw [c7]; exact js_w_of (by omega) (by omega)
  have w5 : js_w (ρ 83 5) = ρ 83 5 := js_w_of (by have := ok.2.2.2.2.2.2.1; omega) (by have := ok.2.2.2.2.2.2.2.1; omega)
  have i41 : tk_m (ρ 83 5) = 41 ↔ ρ 83 5 = 41 := tk_m_inj (b := 41) hV (by unfold tk_V; omega)
  rw [b_66_55 hb, w1, b_232_70]
  by_cases q41 : ρ 83 5 = 41
  · rw [if_pos (show tk_m (ρ 83 5) = 41 from i41.mpr q41), b_66_84, b_66_89, if_pos (show js_w 0 < 1000000 by decide), if_pos (show js_w 0 = 0 from rfl), b_232_78, o9, if_pos (show js_w 0 = 0 from rfl), w5, if_pos q41]
    by_cases ql : len = 0
    · refine Or.inl ⟨σ, ρ, j, -1, .leaf, (9, 0), (9, 0), (9, 0), -1, 0, 0, ?_, ?_, q41, ?_, cr_nil hR hn (fun h => absurd h (by decide)) (by unfold zz_b; omega)⟩
      · rw [ql]
      · rw [ql]
      · rw [ql]
        rfl
    · exact Or.inr (y_count hb hx hR (by omega) (by omega) hi (by omega) hl (fun hh => ql hh.symm) q41 hs h6 h91)
  · rw [if_neg (show ¬ tk_m (ρ 83 5) = 41 from fun hh => q41 (i41.mp hh)), b_66_84, b_66_89, if_pos (show js_w 0 < 1000000 by decide), if_neg (show ¬ js_w 1 = 0 by decide)]
    by_cases ql : len = 0
    · exact Or.inr (y_more hb hE hi hl 8200 σ ρ j 0 (-1) (-1) (9, 0) (9, 0) (9, 0) (by omega) (Nat.le_refl _) hx hn hR q41 (by omega) hp hd (by omega) (by omega) (by omega) hs h6 h91 hN (fun h => absurd h (by decide)) (by omega) (by have := hn.2.2.2.2.1.1; omega))
    · rcases y_args (x2 := x2) (x3 := x3) (x4 := σ (8 + b) 10) (y2 := y2) (N := N) hb hE hi hl hX 8200 σ ρ j 0 (-1) (-1) (9, 0) (9, 0) (9, 0) (by omega) (Nat.le_refl _) hx hn hR q41 (by omega) hp hd he (by omega) (by omega) (by omega) h19 hi1 h86 h91 hN (fun h => absurd h (by decide)) (by omega) (by have := hn.2.2.2.2.1.1; omega) with ⟨σ', ρ', j', m, r, vx, v6, v7, yl, ec, er, h5, hna, hc⟩ | hf
      · refine Or.inl ⟨σ', ρ', j', m, r, vx, v6, v7, yl, 0, len, ec, ?_, h5, by omega, hc⟩
        rw [er, if_pos (show (-1 : Int) < 0 by decide)]
      · exact Or.inr hf
/-- from ) on: what is passed, CALL, the node -/
theorem y_callend {σ2 ρ2 σ3 ρ3 : js_S} {j3 : Nat} {i len s x2 x3 x6 x7 y2 yl m lv : Int} {vx v6 v7 : js_v} {r : tr_T} (hb : b = 0 ∨ b = 25) (hx : xs_R E b F B X σ ρ) (hn : xn_R b σ ρ j) (o2 : of_R σ σ2) (G02 : eg_R (ρ 83 33) ρ ρ2) (u33 : ρ2 83 33 = ρ 83 33) (u44 : ρ2 83 44 = max (ρ 83 44) lv) (u10 : ρ2 83 10 = ρ 83 10 + 1) (hc : cr_R b F B (-1) σ2 ρ2 (j + 2) σ3 ρ3 j3 m r) (h5 : ρ3 83 5 = 41) (hna : xt_na r = len) (hi : 0 ≤ i ∧ i < ρ 83 11) (hi4 : i < 400) (hX : ¬ X i) (h86 : ρ 86 i = 4) (h91 : ρ 91 i = len) (h96 : ρ 96 i = lv) (hlv : lv ≤ (if F < 0 then 16 else 15)) (h19 : σ (19 + b) i = s) (D0 : 0 ≤ ρ 83 10) (ht : σ (8 + b) 10 + len ≤ 1024) (hd : 12 ≤ d) (he : 8 ≤ e) : (∃ (σ' ρ' : js_S) (j' : Nat) (n : Int) (t : tr_T), js_J E e 232 223 [(2, 83), (0, i), (0, y2), (0, len), (0, m), (0, yl), v6, v7] [] ρ3 = js_r E (0, n) ρ' ∧ js_J E d 66 216 [(2, 23 + b), (2, s), (0, x2), (0, x3), (0, σ (8 + b) 10), (0, len), (0, x6), (0, x7), vx] [] σ3 = js_r0 E σ' ∧ xw_R b F B σ ρ j σ' ρ' j' n t ∧ xt_ty t = ρ 87 i ∧ xt_lo t = ρ 88 i ∧ xt_hi t = ρ 89 i ∧ xt_k t = 10) ∨ (∃ (ρ' : js_S) (v : Int), js_J E e 232 223 [(2, 83), (0, i), (0, y2), (0, len), (0, m), (0, yl), v6, v7] [] ρ3 = js_r E (0, v) ρ' ∧ xf_P E b σ ρ ρ' (js_J E d 66 216 [(2, 23 + b), (2, s), (0, x2), (0, x3), (0, σ (8 + b) 10), (0, len), (0, x6), (0, x7), vx] [] σ3)) := by
  have r3 := hc.1.1
  have hj3 := rd_j r3
  have dp3 := hc.1.2.2.1
  have F23 := hc.1.2.2.2.1
  have H23 := hc.1.2.2.2.2.1
  have m3 := hc.1.2.2.2.2.2.1
  have m3' := hc.1.2.2.2.2.2.2
  have c6 := hc.2.2.1.1.2.2.1
  have c10 := hc.2.2.1.1.2.1
  have lr := xt_ln_0 r
  have n0 := hn.2.2.2.2.1
  have v : ∀ k : Int, σ2 (8 + b) k = σ (8 + b) k := fun k => o2 _ _ (by omega) (by omega)
  have v6' := v 6
  have v10 := v 10
  have v15 : σ2 (23 + b) 15 = σ (23 + b) 15 := o2 _ _ (by omega) (by omega)
  have F02 : ∀ n t p : Int, ef_R b n t p σ σ2 := fun n t p => ef_R_of o2
  have F03 : ef_R b (σ (8 + b) 6) (σ (8 + b) 10) (σ (23 + b) 15) σ σ3 := ef_R_trans (F02 _ _ _) (ef_R_mono F23 (by omega) (by omega) (by omega))
  have G23 : eg_R (ρ 83 33) ρ2 ρ3 := eg_R_eh H23 (by omega) (fun h => absurd h (by decide))
  have G03 : eg_R (ρ 83 33) ρ ρ3 := eg_R_trans G02 G23 (Int.le_refl _)
  have hx3 := xs_R_ef hb hx F03 G03
  have z11 : ρ3 83 11 = ρ 83 11 := G03 _ _ (by omega) (by omega)
  have z : ∀ a k : Int, 86 ≤ a → a < 100 → ρ3 a k = ρ a k := fun a k g1 g2 => G03 _ _ (by omega) (by omega)
  have e19 : σ3 (19 + b) i = s := by rw [F03 _ _ (by unfold ef_D; omega)]; exact h19
  have hS := hx3.1.2.2.2.2.2.1 i hi.1 (by rw [z11]; exact hi.2)
  unfold sy_N at hS
  rw [e19] at hS
  have hs3 := hS.1
  clear hS
  have hge := js_sym_ge hs3
  have gs := hx.2.2.1 i hi.1 hi.2 hX
  have g := gs.2.2.2.2.1 h86
  clear gs
  rw [h91] at g
  have g8 : 0 ≤ len ∧ len ≤ 8 := ⟨g.2.1, g.2.2.1⟩
  have gl := g.2.2.2.1
  have gv := g.2.2.2.2.2.1
  have gv2 : ρ 96 i ≤ 17 := by
    have h := hlv
    split at h <;> omega
  have gr : -2000000000 ≤ ρ 88 i ∧ ρ 88 i ≤ ρ 89 i ∧ ρ 89 i ≤ 2000000000 := ⟨g.2.2.2.2.2.2.2.1, g.2.2.2.2.2.2.2.2.1, g.2.2.2.2.2.2.2.2.2.1⟩
  have gF := g.2.2.2.2.2.2.2.2.2.2.2
  clear g
  rw [hx.2.2.2.2.2.1] at gF
  have rv := hx.1.2.1 i hi.1 hi.2
  have h400 := hx.1.1.2.1
  have hf3 := hx3.1.2.2.2.2.2.2 i hi.1 (by rw [z11]; exact hi.2) hX
  unfold sy_F at hf3
  rw [e19] at hf3
  have s6 : σ3 s 6 = len := by rw [hf3.2.2.2.2.1, z _ _ (by decide) (by decide)]; exact h91
  have s2 : σ3 s 2 = ρ 87 i := by rw [hf3.2.1, z _ _ (by decide) (by decide)]
  have s3 : σ3 s 3 = ρ 88 i := by rw [hf3.2.2.1, z _ _ (by decide) (by decide)]
  have s4 : σ3 s 4 = ρ 89 i := by rw [hf3.2.2.2.1, z _ _ (by decide) (by decide)]
  have s10 : σ3 s 10 = lv := by rw [hf3.2.2.2.2.2.2.2.1, z _ _ (by decide) (by decide)]; exact h96
  clear hf3
  have hBB := hx3.2.2.2.2.1 i hi.1 (by rw [z11]; exact hi.2) hX (by rw [z _ _ (by decide) (by decide)]; exact h86)
  rw [e19] at hBB
  obtain ⟨hV, c7, c8⟩ := rd_V r3
  have ok := r3.2.2.1
  have o9 := ok.2.2.1
  have w1 : js_w (σ3 1 1) = 41 := by rw [c7, h5]; decide
  have t41 : tk_m 41 = 41 := by decide
  have wl : js_w len = len := js_w_of (by omega) (by omega)
  rw [b_66_216 hb hs3, w1, if_pos (show (41 : Int) = 41 from rfl), s6, if_pos (show js_w len = js_w len from rfl), b_66_253 hb]
  rw [b_232_223, o9, if_pos (show js_w 0 = 0 from rfl), js_w_of (x := i) (by omega) (by omega), if_pos (show 0 ≤ i ∧ i < 400 from ⟨hi.1, hi4⟩), z _ _ (by decide) (by decide), h91, if_pos (show js_w len = js_w len from rfl), b_232_250]
  obtain ⟨ρ4, e4, g4, hor⟩ := y_close (E := E) (d := d - 1) (e := e - 1) (k := 41) hx3.1.2.2.1 r3 (by omega) (by omega) (by unfold tk_V; omega) (by decide) (by omega)
  rw [t41] at hor
  have G04 : eg_R (ρ 83 33) ρ ρ4 := eg_R_trans G03 (eg_R_og g4) (Int.le_refl _)
  rcases hor with ⟨σ4, j4, c4, hR4, o4, hj4, D4⟩ | ⟨hF4, c4⟩
  · subst hj4
    have F34 : ∀ n t p : Int, ef_R b n t p σ3 σ4 := fun n t p => ef_R_of o4
    have F04 : ef_R b (σ (8 + b) 6) (σ (8 + b) 10) (σ (23 + b) 15) σ σ4 := ef_R_trans F03 (F34 _ _ _)
    have hx4 := xs_R_ef hb hx F04 G04
    have w : ∀ k : Int, σ4 (8 + b) k = σ3 (8 + b) k := fun k => o4 _ _ (by omega) (by omega)
    have w6 := w 6
    have w7 := w 7
    have y11 : ρ4 83 11 = ρ 83 11 := G04 _ _ (by omega) (by omega)
    have e194 : σ4 (19 + b) i = s := by rw [o4 _ _ (by omega) (by omega)]; exact e19
    have lna := hc.2.2.2.2.2.1.1
    have b6 := hn.1
    have b7 := hn.2.1
    have cn := hc.2.2.2.2.2.1.2.1
    have c7b := hc.2.2.1.1.2.2.2.1
    have v7' := v 7
    have hz4 : cz_R σ4 b := by
      unfold cz_R
      push_cast at lna
      omega
    have tl4 : tl_P σ4 b r (σ (8 + b) 10 + 0) := by
      rw [Int.add_zero, ← v10]
      exact tl_of r _ hc.2.2.1.2.2 (fun a q g1 g2 g3 => o4 _ _ (by omega) (by omega))
    obtain ⟨σ5, ux, ep, hps⟩ := c_passes (E := E) (d := d) (ρ := ρ4) (i := i) (len := len) (t0 := σ (8 + b) 10) (x2 := x2) (x3 := x3) (x5 := len) (x6 := x6) hb (by omega) (by rw [y11]; omega) g8 ⟨hn.2.2.1, ht⟩ r σ4 0 vx hx4 (by rw [e194, o4 _ _ (by omega) (by omega)]; exact s6) hz4 (by push_cast at lna; omega) (Int.le_refl _) (by omega) tl4
    rw [e194] at ep
    rw [Int.add_zero, Int.add_zero] at hps
    have p6 := hps.1
    have p7 := hps.2.1
    have pO := hps.2.2.2
    have zO : ∀ a k : Int, ¬ (a = 8 + b ∧ k = 10) → js_up σ5 (8 + b) 10 (σ (8 + b) 10) a k = σ5 a k := fun a k g => js_up_ne _ g
    have q : ∀ a k : Int, ¬ (a = 8 + b) → ¬ (9 + b ≤ a ∧ a ≤ 14 + b) → js_up σ5 (8 + b) 10 (σ (8 + b) 10) a k = σ3 a k ∨ a = 1 ∨ a = 2 := fun a k g1 g2 => by
      by_cases h : a = 1 ∨ a = 2
      · exact Or.inr h
      · left
        rw [zO _ _ (by omega), pO _ _ (by omega) (by omega), o4 _ _ (by omega) (by omega)]
    have qs : ∀ k : Int, js_up σ5 (8 + b) 10 (σ (8 + b) 10) s k = σ3 s k := fun k => (q s k (by omega) (by omega)).resolve_right (by omega)
    have q0 : js_up σ5 (8 + b) 10 (σ (8 + b) 10) (-1) 0 = σ3 (-1) 0 := (q (-1) 0 (by omega) (by omega)).resolve_right (by omega)
    have hs6 : js_desc E.1 (js_up σ5 (8 + b) 10 (σ (8 + b) 10)) s = some (0, 11, js_sym) := js_desc_mono hs3 (by rw [q0]; exact Int.le_refl _) (fun _ => qs _)
    have z6 : js_up σ5 (8 + b) 10 (σ (8 + b) 10) (8 + b) 6 = σ5 (8 + b) 6 := zO _ _ (by omega)
    have z7 : js_up σ5 (8 + b) 10 (σ (8 + b) 10) (8 + b) 7 = σ5 (8 + b) 7 := zO _ _ (by omega)
    have z12 : js_up σ5 (8 + b) 10 (σ (8 + b) 10) (8 + b) 12 = σ5 (8 + b) 12 := zO _ _ (by omega)
    have p12 : σ5 (8 + b) 12 = σ3 (8 + b) 12 := by rw [pO _ _ (by omega) (by omega), w]
    have hz6 : cz_R (js_up σ5 (8 + b) 10 (σ (8 + b) 10)) b := by
      unfold cz_R at hz4 ⊢
      rw [z6, z7]
      push_cast at lna
      omega
    have h12 : 0 ≤ σ3 (8 + b) 12 ∧ σ3 (8 + b) 12 ≤ 17 := by
      obtain ⟨x, x1, x2, x3, x4⟩ := hc.2.1
      have a12 := hn.2.2.2.2.2.1
      have v12 := v 12
      omega
    obtain ⟨σ7, σ8, e8, hem, k12, k7, kO⟩ := c_call (E := E) (d := d - 1) (σ := js_up σ5 (8 + b) 10 (σ (8 + b) 10)) (x := s) hb hz6 (by omega) hs6 hge (by rw [qs, hBB.1]; exact hBB.2) (by rw [qs, s10]; omega) (by rw [z12, p12]; exact h12)
    rw [qs 10, s10, z12] at k12
    rw [qs 9, hBB.1] at k7
    have q19 : js_up σ5 (8 + b) 10 (σ (8 + b) 10) (19 + b) i = s := by rw [(q (19 + b) i (by omega) (by omega)).resolve_right (by omega)]; exact e19
    rw [show js_up σ5 (8 + b) 10 (σ (8 + b) 10) s 5 = js_up σ5 (8 + b) 10 (σ (8 + b) 10) (js_up σ5 (8 + b) 10 (σ (8 + b) 10) (19 + b) i) 5 by rw [q19]] at hem
    have m8 : ∀ k : Int, σ8 s k = σ3 s k := fun k => by
      rw [kO _ _ (by omega), hem.2.2.2 _ _ (by omega) (by omega), qs]
    have hs8 : js_desc E.1 σ8 s = some (0, 11, js_sym) := js_desc_mono hs6 (by rw [kO _ _ (by omega), hem.2.2.2 _ _ (by omega) (by omega)]; exact Int.le_refl _) (fun _ => by rw [m8, qs])
    have e75 : js_J E (d - 1) 75 0 [(2, 23 + b), (0, ρ 87 i), (0, ρ 88 i), (0, ρ 89 i)] [] σ8 = js_r0 E (s3_S σ8 b (ρ 87 i) (ρ 88 i) (ρ 89 i)) := b_75_0 hb
    obtain ⟨ρ5, er5, hw⟩ := r_node (E := E) (e := e - 1) (ρ := ρ4) (k := 10) (ty := ρ 87 i) (lo := ρ 88 i) (hi := ρ 89 i) (a := i) (b := m) (c := 0) hR4.2.2.1.2.2.1 (by rw [g4 _ _ (by omega)]; omega) (by rw [g4 _ _ (by omega)]; push_cast at m3'; omega) (by decide) (by decide)
    have y : ∀ a k : Int, 86 ≤ a → a < 100 → ρ4 a k = ρ a k := fun a k g1 g2 => G04 _ _ (by omega) (by omega)
    have hsk : sk_P ρ5 F i (xt_na r) := by
      have hwO := hw.2.2.2.2.2.2
      refine ⟨hi.1, by rw [hwO _ _ (by omega) (by omega), y11]; exact hi.2, by rw [hwO _ _ (by omega) (by omega), y _ _ (by decide) (by decide)]; exact h86, by rw [hwO _ _ (by omega) (by omega), y _ _ (by decide) (by decide), hna]; exact h91, gF, by rw [hwO _ _ (by omega) (by omega), y _ _ (by decide) (by decide), h96]; exact hlv, ?_⟩
      have a1 := xr_L_up hc.2.1
      have a2 : ρ5 83 44 = ρ3 83 44 := by rw [hwO _ _ (by omega) (by omega), g4 _ _ (by omega)]
      rw [hwO 96 _ (by omega) (by omega), y _ _ (by decide) (by decide), h96, a2]
      omega
    refine Or.inl ⟨s3_S σ8 b (ρ 87 i) (ρ 88 i) (ρ 89 i), ρ5, j3 + 1, ρ4 83 33, tr_n 10 (ρ 87 i) (ρ 88 i) (ρ 89 i) i 0 0 r .leaf, ?_, ?_, ?_, rfl, rfl, rfl, rfl⟩
    · rw [k_232_253 (by omega) e4, b_232_256, js_w_of (x := i) (by omega) (by omega), if_pos (show 0 ≤ i ∧ i < 400 from ⟨hi.1, hi4⟩), y 87 i (by decide) (by decide), y 88 i (by decide) (by decide), y 89 i (by decide) (by decide), js_w_of (x := ρ 88 i) (by omega) (by omega), js_w_of (x := ρ 89 i) (by omega) (by omega), k_232_283 (by omega) er5, b_232_286]
    · rw [k_66_259 (by omega) c4, b_66_262, ep, k_66_331 hb (by omega) e8, b_66_334 hs8, m8, m8, m8, s2, s3, s4, k_66_347 hb (by omega) e75, b_66_350]
    · exact xr_call hb hx hn o2 G02 u33 u44 hc o4 g4 hR4 (by rw [D4, dp3, u10]; omega) hps hem k12 k7 kO hw hi hsk hBB.2.1 (by omega) ⟨rv.2.2.1, rv.2.2.2.1, gr.1, gr.2.1, gr.2.2⟩ u10
  · rw [k_232_253 (by omega) e4, b_232_256, js_w_of (x := i) (by omega) (by omega), if_pos (show 0 ≤ i ∧ i < 400 from ⟨hi.1, hi4⟩), k_232_283 (by omega) (r_nodeF hF4), b_232_286, kt_66_259 (by omega) c4]
    exact Or.inr ⟨ρ4, 0, rfl, hF4, G04, σ3, rfl, F03⟩
/-- a call -/
theorem y_call {σ1 : js_S} {i : Int} (hb : b = 0 ∨ b = 25) (hE : xe_P E b F B X (j + 2)) (hx : xs_R E b F B X σ ρ) (hn : xn_R b σ ρ j) (hR : rd_R σ ρ j) (hnm : nm_R E b X σ1 ρ i) (hR1 : rd_R σ1 (rx_next ρ) (j + 1)) (f1 : tk_fr σ σ1) (h86 : ρ 86 i = 4) (ht : σ (8 + b) 10 ≤ 12 * ρ 83 10 + 3) (hp : σ (23 + b) 15 ≤ 6 * ρ 83 10 + 5) (hd : 4 * (65 - ρ 83 10) + 22 ≤ (d : Int)) (he : 12 * (65 - ρ 83 10) + 15 ≤ (e : Int)) : (∃ (σ' ρ' : js_S) (j' : Nat) (n : Int) (t : tr_T), js_J E e 232 0 [(2, 83), (0, i), (9, 0), (9, 0), (9, 0), (9, 0), (9, 0), (9, 0)] [] ρ = js_r E (0, n) ρ' ∧ js_J E d 66 0 [(2, 23 + b), (2, σ1 (19 + b) i), (0, ρ 83 6), (9, 0), (9, 0), (9, 0), (9, 0), (9, 0), (9, 0)] [] σ1 = js_r0 E σ' ∧ xw_R b F B σ ρ j σ' ρ' j' n t ∧ xt_ty t = ρ 87 i ∧ xt_lo t = ρ 88 i ∧ xt_hi t = ρ 89 i ∧ xt_k t = 10) ∨ (∃ (ρ' : js_S) (v : Int), js_J E e 232 0 [(2, 83), (0, i), (9, 0), (9, 0), (9, 0), (9, 0), (9, 0), (9, 0)] [] ρ = js_r E (0, v) ρ' ∧ xf_P E b σ ρ ρ' (js_J E d 66 0 [(2, 23 + b), (2, σ1 (19 + b) i), (0, ρ 83 6), (9, 0), (9, 0), (9, 0), (9, 0), (9, 0), (9, 0)] [] σ1)) := by
  obtain ⟨⟨i0, i1, i2⟩, nX, _, _, _, hsym, hf⟩ := hnm
  have h10 : σ1 (σ1 (19 + b) i) 10 = ρ 96 i := hf.2.2.2.2.2.2.2.1
  clear hf
  have pl := rd_place hR
  have o9 := hR.2.2.1.2.2.1
  have D0 := hR.2.2.2.2.1
  have D1 := hR.2.2.2.2.2
  have t40 : tk_m 40 = 40 := by decide
  have gs := hx.2.2.1 i i0 i1 nX
  have g := gs.2.2.2.2.1 h86
  clear gs
  have g8 : 0 ≤ ρ 91 i ∧ ρ 91 i ≤ 8 := ⟨g.2.1, g.2.2.1⟩
  have gv : 1 ≤ ρ 96 i ∧ ρ 96 i ≤ 18 := ⟨g.2.2.2.2.2.1, g.2.2.2.2.2.2.1⟩
  clear g
  have h44 := hn.2.2.2.2.2.1.2.2
  have hx1 := xs_R_ef hb hx (ef_R_tk (b := b) (n := 0) (t := 0) (p := 0) f1) (eg_R_refl 0 ρ)
  obtain ⟨M, z, hM, ec0, er0⟩ := y_level (E := E) (d := d) (e := e) (p := ρ 83 6) hb hx1 hsym h10 gv ⟨i0, i2⟩ h44
  rw [ec0, er0]
  by_cases q : M < ρ 96 i
  · obtain ⟨hF, h9e⟩ := rx_bad_new (τ := ρ) (k := 10) (p := ρ 83 6) o9 (by decide) (by decide) pl.1 pl.2
    rw [if_pos q, if_pos q, k_232_32 (by omega) (r_bad (by omega) (by omega)), b_232_35, kt_66_43 (by omega) (c_fail hx1.1.2.2.1 (by omega))]
    exact Or.inr ⟨rx_bad ρ 10 (ρ 83 6), 0, rfl, hF, eg_R_tf (tf_R_bad _ _ _), σ1, by rw [h9e]; rfl, ef_R_tk f1⟩
  · have Rm : rd_R σ (mx_S ρ (ρ 96 i)) j := rd_R_of hR (fun _ _ => rfl) (fun _ _ _ _ => rfl) (fun k _ _ => mx_o (by omega)) (fun k => mx_o (by omega))
    have Rm1 : rd_R σ1 (rx_next (mx_S ρ (ρ 96 i))) (j + 1) := rd_next_of hR1 (fun k _ _ => mx_o (by omega)) (fun k => mx_o (by omega))
    rw [if_neg q, if_neg q, b_66_46 hb, b_232_60, k_232_61 (by omega) (r_next' Rm.2.2.1 (by omega)), b_232_64]
    obtain ⟨ρ2, e2, og2, hor2⟩ := y_open (E := E) (d := d - 1) (e := e - 1) (k := 40) hx1.1.2.2.1 Rm1 (by omega) (by omega) (by unfold tk_V; omega) (by decide)
    rw [t40] at hor2
    rw [k_232_67 (by omega) e2]
    have g2 : ∀ a k : Int, ¬ (a = 83 ∧ (5 ≤ k ∧ k ≤ 10 ∨ 27 ≤ k ∧ k ≤ 32)) → ¬ (a = 83 ∧ k = 44) → ρ2 a k = ρ a k := fun a k g1 g2 => by
      rw [og2 a k (by omega), rx_next_o _ (by omega), mx_o g2]
    have G02 : eg_R (ρ 83 33) ρ ρ2 := fun a k g1 g3 => g2 a k (by omega) (by omega)
    rcases hor2 with ⟨σ2, j2, c2, hR2, f2, hj2, hD64, hD1⟩ | ⟨hF2, c2⟩
    · subst hj2
      have o2 : of_R σ σ2 := fun a k g1 g2 => (f2 a k g1 g2).trans (f1 a k (by omega) g2)
      have u33 : ρ2 83 33 = ρ 83 33 := g2 _ _ (by omega) (by omega)
      have u44 : ρ2 83 44 = max (ρ 83 44) (ρ 96 i) := by rw [og2 _ _ (by omega), rx_next_o _ (by omega), mx_44]
      have u10 : ρ2 83 10 = ρ 83 10 + 1 := by rw [hD1, rx_next_o _ (by omega), mx_o (by omega)]
      have u11 : ρ2 83 11 = ρ 83 11 := g2 _ _ (by omega) (by omega)
      have F02 : ∀ n t p : Int, ef_R b n t p σ σ2 := fun n t p => ef_R_of o2
      have v : ∀ k : Int, σ2 (8 + b) k = σ (8 + b) k := fun k => o2 _ _ (by omega) (by omega)
      have v10 := v 10
      have v6 := v 6
      have v15 : σ2 (23 + b) 15 = σ (23 + b) 15 := o2 _ _ (by omega) (by omega)
      have hx2 := xs_R_ef hb hx (F02 0 0 0) G02
      have hn2 : xn_R b σ2 ρ2 (j + 2) := by
        have v7 := v 7
        have v11 := v 11
        have v12 := v 12
        unfold xn_R at hn ⊢
        push_cast
        omega
      have e19 : σ2 (19 + b) i = σ1 (19 + b) i := f2 _ _ (by omega) (by omega)
      have e19' : σ (19 + b) i = σ1 (19 + b) i := (f1 _ _ (by omega) (by omega)).symm
      have y86 : ρ2 86 i = 4 := by rw [g2 _ _ (by omega) (by omega)]; exact h86
      have y91 : ρ2 91 i = ρ 91 i := g2 _ _ (by omega) (by omega)
      have e64 : rx_next (mx_S ρ (ρ 96 i)) 83 10 = ρ 83 10 := by rw [rx_next_o _ (by omega), mx_o (by omega)]
      rw [e64] at hD64
      rw [k_66_52 (by omega) c2]
      rcases y_args0 (E := E) (d := d) (e := e) (N := ρ 83 33) (i := i) (len := ρ 91 i) (s := σ1 (19 + b) i) (x2 := ρ 83 6) (x3 := z) (x4 := 0) (y2 := M) hb hE hx2 hn2 hR2 ⟨i0, i2⟩ g8 nX (by omega) (by omega) (by omega) (by omega) e19 (by rw [u11]; exact i1) y86 y91 (by omega) with ⟨σ3, ρ3, j3, m, r, vx, v6, v7, yl, x6, x7, ec3, er3, h35, hna, hc⟩ | hfa
      · rw [ec3, er3, v10]
        exact y_callend hb hx hn o2 G02 u33 u44 u10 hc h35 hna ⟨i0, i1⟩ i2 nX h86 rfl rfl (by rw [← hM]; omega) e19' D0 (by omega) (by omega) (by omega)
      · obtain ⟨ρ', vv, a1, a2, a3, σ', a4, a5⟩ := hfa
        rw [v6, v10, v15] at a5
        exact Or.inr ⟨ρ', vv, a1, a2, eg_R_trans G02 a3 (Int.le_refl _), σ', a4, ef_R_trans (F02 _ _ _) a5⟩
    · rw [b_232_70, r_232_78F hF2 (by omega) ⟨i0, i2⟩, kt_66_52 (by omega) c2]
      exact Or.inr ⟨_, 0, rfl, xf_deep ⟨hF2, G02, σ1, rfl, ef_R_tk f1⟩⟩
end QD
