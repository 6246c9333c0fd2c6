/-! part 99.n: type NAME = members; in step -/
theorem sy_Y_X {M : Int} {σ ρ : js_S} {b p q : Int} {X X' : Int → Prop} (hY : sy_Y M σ ρ b p q X) (h : ∀ i : Int, X i → X' i) : sy_Y M σ ρ b p q X' := ⟨hY.1, hY.2.1, hY.2.2.1, hY.2.2.2.1, hY.2.2.2.2.1, hY.2.2.2.2.2.1, fun i hi hi2 hx => hY.2.2.2.2.2.2 i hi hi2 (fun hh => hx (h i hh))⟩
theorem dn_R_tk {b m : Int} {σ σ1 τ : js_S} (hb : b = 0 ∨ b = 25) (h : dn_R b m σ1 τ) (hf : tk_fr σ σ1) (hg : ∀ i : Int, 0 ≤ i → i < m → 137 ≤ σ1 (19 + b) i) : dn_R b m σ τ := ⟨fun a i h1 h2 h3 h4 h5 h6 => (h.1 a i h1 h2 h3 h4 h5 h6).trans (hf _ _ (by omega) (by omega)), fun i h1 h2 => by
  have e := h.2 i h1 h2
  have e19 : σ1 (19 + b) i = σ (19 + b) i := hf _ _ (by omega) (by omega)
  have ge := hg i h1 h2
  rw [e19] at e ge
  exact ⟨e.1, fun k => by rw [e.2 k]; exact hf _ _ (by omega) (by omega)⟩⟩
/-- a type and its members are told -/
def mb_P (E : js_E) (b m : Int) (σ ρ ρ' : js_S) (j : Nat) (R : Option (Outcome × ip_W)) : Prop := ∃ (σ' : js_S) (j' : Nat), R = js_r0 E σ' ∧ rd_R σ' ρ' j' ∧ dc_R E.1 σ' ρ' b ∧ j < j' ∧ fr_R b σ σ' ∧ dn_R b m σ σ' ∧ (m < ρ' 83 11 ∧ ρ' 86 m = 8) ∧ (∀ i : Int, m ≤ i → i < ρ' 83 11 → ((i = m ∧ ρ' 86 i = 8 ∨ ρ' 86 i = 9 ∧ ρ' 87 i = 3 + m) ∧ ρ' 92 i = 0) ∧ σ' (σ' (19 + b) i) 5 = -1 ∧ σ' (σ' (19 + b) i) 9 = 0 ∧ σ' (σ' (19 + b) i) 11 = -1) ∧ (∀ a i : Int, 86 ≤ a → a ≤ 97 → i < m → ρ' a i = ρ a i) ∧ gf_R ρ ρ'
section ML
variable {E : js_E} {d e : Nat} {σ ρ σ0 ρ0 : js_S} {b : Int}
theorem y_mend {m s n : Int} (hb : b = 0 ∨ b = 25) (hk0 : kx_R ρ0 0 0 (fun _ => False)) (hm0 : ρ0 83 11 = m) (hI : mb_I E.1 b m s n σ0 ρ0 σ ρ) (hn : 0 < n) {j0 j : Nat} (hj : j0 ≤ j) (hR : rd_R σ ρ j) (hd : 9 ≤ d) (he : 6 ≤ e) {ux5 ux4 : js_v} : ∃ ρ' : js_S, js_J E e 204 42 [(2, 83), (0, m), (0, n), (0, 0), ux4] [] ρ = js_r0 E ρ' ∧ rf_R ρ0 ρ' ∧ (mb_P E b m σ0 ρ0 ρ' j0 (js_J E d 44 53 [(2, 6 + b), (2, s), (0, 3 + m), (0, 0), (0, n), ux5] [] σ) ∨ dt_P E b σ0 ρ' (js_J E d 44 53 [(2, 6 + b), (2, s), (0, 3 + m), (0, 0), (0, n), ux5] [] σ)) := by
  obtain ⟨hY, ⟨m0, n0, n64, m11, r26, p19⟩, ⟨c1, c5, c6, c7, c8, c9, c10, c11, c12⟩, hpos, ⟨r86, r87, r88, r92, r93, r94, r96⟩, hfr, hrf, hdn, hmem, hold, hgf⟩ := hI
  obtain ⟨c2, c3, c4, r89, r91⟩ := hpos hn
  have hsd := (hY.2.2.2.2.2.1 m m0 (by omega))
  unfold sy_N at hsd
  rw [p19] at hsd
  have hsge := js_sym_ge hsd.1
  have hs := hY.1
  obtain ⟨ρ3, e3, o3, hor3⟩ := y_take (E := E) (d := d - 1) (e := e - 1) (k := 59) hY.2.2.1 hR (by omega) (by omega) (by unfold tk_V; omega) (by decide)
  have t59 : tk_m 59 = 59 := by decide
  rw [t59] at hor3
  rw [b_204_42, if_pos (show js_w 0 = 0 from rfl), b_204_168, k_204_171 (by omega) e3, b_204_174, b_44_53 hb hsd.1, js_w_of (x := n) (by omega) (by omega), if_pos (show n < 1000000 by omega), if_pos (show js_w 0 = 0 from rfl), b_44_180 hb]
  have tf3 : tf_R ρ ρ3 := fun a i h => o3 a i (by omega)
  have m3 : ρ3 83 11 = m + 1 + n := by rw [o3 _ _ (by omega)]; exact m11
  refine ⟨ρ3, rfl, rf_R_trans hrf (rf_R_tf tf3), ?_⟩
  rcases hor3 with ⟨σ3, j3, e4, hR3, f3, hj3⟩ | ⟨hF3, e4⟩
  · have hY3 := sy_Y_cf hb hY (cf_R_fr f3) tf3
    have c : ∀ a i : Int, 2 < a → σ3 a i = σ a i := fun a i h => f3 _ _ (by omega) (by omega)
    have t : ∀ a i : Int, 83 < a → ρ3 a i = ρ a i := fun a i h => o3 _ _ (by omega)
    have p3 : σ3 (19 + b) m = s := by rw [c _ _ (by omega)]; exact p19
    have hF : sy_F σ3 ρ3 b m := by
      unfold sy_F
      rw [p3]
      simp only [c s _ (by omega)]
      rw [t 86 _ (by decide), t 87 _ (by decide), t 88 _ (by decide), t 89 _ (by decide), t 91 _ (by decide), t 92 _ (by decide), t 93 _ (by decide), t 94 _ (by decide), t 96 _ (by decide)]
      omega
    have hYe : sy_Y E.1 σ3 ρ3 b 0 0 (fun _ => False) := ⟨hY3.1, hY3.2.1, hY3.2.2.1, hY3.2.2.2.1, hY3.2.2.2.2.1, hY3.2.2.2.2.2.1, fun i hi hi2 _ => by
      by_cases qi : i = m
      · rw [qi]; exact hF
      · exact hY3.2.2.2.2.2.2 i hi hi2 qi⟩
    have hkx : kx_R ρ3 0 0 (fun _ => False) := ⟨Or.inl rfl, fun i hi => hi.elim, fun i h1 h2 _ h8 => by
      rw [t _ _ (by decide)] at h8
      rw [t _ _ (by decide), t _ _ (by decide), t _ _ (by decide)]
      by_cases qi : i = m
      · rw [qi, r87, r89, r91]
        omega
      · by_cases ql : i < m
        · rw [hold _ _ (by decide) (by decide) ql] at h8
          rw [hold _ _ (by decide) (by decide) ql, hold _ _ (by decide) (by decide) ql, hold _ _ (by decide) (by decide) ql]
          exact hk0.2.2 i h1 (by omega) (fun hh => hh) h8
        · have := (hmem i (by omega) (by omega)).1.1
          omega⟩
    refine Or.inl ⟨σ3, j3, by rw [k_44_186 (by omega) e4, b_44_189], hR3, ⟨hYe, hkx, by rw [o3 _ _ (by omega)]; exact r26⟩, by omega, fr_R_trans hfr (fr_R_tk hb f3), ⟨fun a i h1 h2 h3 h4 h5 h6 => ?_, fun i h1 h2 => ?_⟩, ⟨by omega, by rw [t _ _ (by decide)]; exact r86⟩, fun i h1 h2 => ?_, fun a i h1 h2 h3 => by rw [t _ _ (by omega)]; exact hold a i h1 h2 h3, fun a i hh => by rw [o3 a i (by omega)]; exact hgf a i hh⟩
    · rw [c _ _ (by omega)]
      exact hdn.1 a i h1 h2 h3 h4 h5 h6
    · have e1 := hdn.2 i h1 h2
      have ge := js_sym_ge (hY.2.2.2.2.2.1 i h1 (by omega)).1
      rw [e1.1] at ge
      exact ⟨by rw [c _ _ (by omega)]; exact e1.1, fun k => by rw [c _ _ (by omega)]; exact e1.2 k⟩
    · by_cases qi : i = m
      · rw [qi, p3, c s _ (by omega), c s _ (by omega), c s _ (by omega), t 86 _ (by decide), t 92 _ (by decide)]
        exact ⟨⟨Or.inl ⟨rfl, r86⟩, r92⟩, c5, c9, c11⟩
      · have hh := hmem i (by omega) (by omega)
        have ge := js_sym_ge (hY.2.2.2.2.2.1 i (by omega) (by omega)).1
        rw [t 86 _ (by decide), t 87 _ (by decide), t 92 _ (by decide), c (19 + b) _ (by omega), c _ _ (by omega), c _ _ (by omega), c _ _ (by omega)]
        exact ⟨⟨Or.inr ⟨hh.1.1, hh.1.2.1⟩, hh.1.2.2⟩, hh.2⟩
  · have h400 := hs.2.1
    exact Or.inr ⟨hF3, by omega, by omega, σ, by rw [kt_44_186 (by omega) e4], hfr, hY.2.2.2.1, hY.2.2.1⟩
theorem y_mloop {m s : Int} (hb : b = 0 ∨ b = 25) (hk0 : kx_R ρ0 0 0 (fun _ => False)) (hm0 : ρ0 83 11 = m) {j0 : Nat} (hd : 9 ≤ d) (he : 6 ≤ e) : ∀ (g : Nat) (n : Int) (σ ρ : js_S) (j : Nat) (ux5 ux4 : js_v), (g : Int) = 64 - n → mb_I E.1 b m s n σ0 ρ0 σ ρ → rd_R σ ρ j → j0 ≤ j → ∃ ρ' : js_S, js_J E e 204 42 [(2, 83), (0, m), (0, n), (0, 1), ux4] [] ρ = js_r0 E ρ' ∧ rf_R ρ0 ρ' ∧ (mb_P E b m σ0 ρ0 ρ' j0 (js_J E d 44 53 [(2, 6 + b), (2, s), (0, 3 + m), (0, 1), (0, n), ux5] [] σ) ∨ dt_P E b σ0 ρ' (js_J E d 44 53 [(2, 6 + b), (2, s), (0, 3 + m), (0, 1), (0, n), ux5] [] σ))
  | 0, n, σ, ρ, j, ux5, ux4, hg, hI, hR, hj => by
    have hI' := hI
    obtain ⟨hY, ⟨m0, n0, n64, m11, r26, p19⟩, ⟨c1, c5, c6, c7, c8, c9, c10, c11, c12⟩, hpos, hr, hfr, hrf, hdn, hmem, hold, hgf⟩ := hI
    have hn : n = 64 := by push_cast at hg; omega
    have hsd := (hY.2.2.2.2.2.1 m m0 (by omega))
    unfold sy_N at hsd
    rw [p19] at hsd
    have hok := hR.2.2.1
    have hs := hY.1
    have h9 := hok.2.2.1
    have hin : rx_tm ρ (-1) = 1 ∨ rx_tm ρ (-1) = 2 ∨ rx_tm ρ (-1) = 10 := by
      unfold rx_tm
      split
      · exact Or.inl rfl
      · split
        · exact Or.inr (Or.inl rfl)
        · exact Or.inr (Or.inr rfl)
    have hF := rx_bad1 hok (k := rx_tm ρ (-1)) (by omega) (by omega)
    have tb := tf_R_bad ρ (rx_tm ρ (-1)) (ρ 83 6)
    have e1 := r_tooMany (E := E) (e := e - 1) (p := -1) hok hs (by omega) (by decide) (by omega)
    have hs2 : rs_ok (rx_bad ρ (rx_tm ρ (-1)) (ρ 83 6)) := by
      exact rs_ok_of hs (tb _ _ (by omega)) (fun i => tb _ _ (by omega)) (fun i => tb _ _ (by omega)) (fun i => tb _ _ (by omega))
    have e2 := r_tellF (E := E) (d := e - 1) (k := 9) (p := -1) hF.1 hs2 (by omega) (by decide) (by decide)
    have e3 := y_tell_full (E := E) (d := d - 1) (k := 9) (pp := -1) hb hY hR (by omega) (Or.inl ⟨rfl, rfl⟩)
    have f1 := hF.1.1
    have f2 := hF.1.2.1
    rw [b_204_42, if_neg (show ¬ js_w 1 = 0 by decide), h9, if_pos (show js_w 0 = 0 from rfl), hn, if_pos (show js_w 64 = 64 by decide), k_204_61 (by omega) e1, b_204_64, k_204_68 (by omega) e2, b_204_71, js_w_of (x := rx_bad ρ (rx_tm ρ (-1)) (ρ 83 6) 83 9) (by omega) (by omega), if_pos f1]
    refine ⟨_, rfl, rf_R_trans hrf (rf_R_tf tb), Or.inr ⟨hF.1, ?_, ?_, σ, ?_, hfr, hY.2.2.2.1, hY.2.2.1⟩⟩
    · rw [tb _ _ (by omega)]
      exact hs.1
    · rw [tb _ _ (by omega)]
      exact hs.2.1
    · rw [b_44_53 hb hsd.1, if_pos (show js_w 64 < 1000000 by decide), if_neg (show ¬ js_w 1 = 0 by decide), c6, hn, if_neg (show ¬ js_w 64 < 64 by decide), b_44_84 hb, kt_44_88 hb (by omega) e3, hF.2]
  | g + 1, n, σ, ρ, j, ux5, ux4, hg, hI, hR, hj => by
    have hI' := hI
    obtain ⟨hY, ⟨m0, n0, n64, m11, r26, p19⟩, ⟨c1, c5, c6, c7, c8, c9, c10, c11, c12⟩, hpos, hr, hfr, hrf, hdn, hmem, hold, hgf⟩ := hI
    have hn : n < 64 := by push_cast at hg; omega
    have hsd := (hY.2.2.2.2.2.1 m m0 (by omega))
    unfold sy_N at hsd
    rw [p19] at hsd
    have h9 := hR.2.2.1.2.2.1
    rw [b_204_42, if_neg (show ¬ js_w 1 = 0 by decide), h9, if_pos (show js_w 0 = 0 from rfl), js_w_of (x := n) (by omega) (by omega), if_neg (show ¬ n = 64 by omega), b_44_53 hb hsd.1, js_w_of (x := n) (by omega) (by omega), if_pos (show n < 1000000 by omega), if_neg (show ¬ js_w 1 = 0 by decide), c6, js_w_of (x := n) (by omega) (by omega), if_pos hn]
    rcases y_mstep (E := E) (d := d) (e := e) (ux5 := ux5) (ux4 := ux4) hb hI' hn hR hd he with ⟨σ', ρ', j', y, x5, x4, hy, e1, e2, hR', hj', hI2⟩ | ⟨ρ', e2, rf2, hT⟩
    · rw [e1, e2]
      rcases hy with rfl | rfl
      · exact y_mend hb hk0 hm0 hI2 (by omega) (by omega) hR' hd he
      · exact y_mloop hb hk0 hm0 hd he g (n + 1) σ' ρ' j' (2, x5) (0, x4) (by push_cast at hg; omega) hI2 hR' (by omega)
    · exact ⟨ρ', e2, rf2, Or.inr hT⟩
theorem y_dtell2 (hb : b = 0 ∨ b = 25) (hD : dc_R E.1 σ ρ b) {j : Nat} (hR : rd_R σ ρ j) (hd : 8 ≤ d) (he : 3 ≤ e) {k : Int} (hk0 : 0 ≤ k) (hk9 : k ≤ 9) : (∃ (τ ρ2 : js_S) (s : Int) (j2 : Nat), js_J E d 35 0 [(2, 7 + b), (0, k), (0, 0), (2, 1), (9, 0), (9, 0)] [] σ = js_r E (2, s) τ ∧ js_J E e 198 0 [(2, 83), (0, k), (0, -1), (9, 0), (9, 0)] [] ρ = js_r E (0, ρ 83 11) ρ2 ∧ rd_R τ ρ2 j2 ∧ j < j2 ∧ td_R E.1 b (ρ 83 11) k s σ ρ τ ρ2 ∧ ρ2 = rx_next (rx_told ρ k)) ∨ (∃ ρ2 : js_S, js_J E d 35 0 [(2, 7 + b), (0, k), (0, 0), (2, 1), (9, 0), (9, 0)] [] σ = th_P E σ (ρ2 83 9) ∧ js_J E e 198 0 [(2, 83), (0, k), (0, -1), (9, 0), (9, 0)] [] ρ = js_r E (0, 0) ρ2 ∧ rx_F ρ2 ∧ tf_R ρ ρ2) := by
  obtain ⟨hY1, hk1, i1⟩ := hD
  have hok1 := hR.2.2.1
  have hs1 := hY1.1
  have rt := r_tell (E := E) (d := e) (k := k) (p := -1) hok1 hs1 he (by decide) (by have := hs1.1; omega)
  by_cases q1 : rx_tf ρ (-1) = 0
  · refine Or.inl ?_
    obtain ⟨τ, s, j2, e2, hR2, hY2, ht, hj2⟩ := y_tell (E := E) (d := d) (k := k) (pp := -1) hb hY1 hR hd hk0 hk9 (Or.inl ⟨rfl, rfl⟩) (by have := hs1.1; omega) q1
    rw [if_pos q1] at rt
    have hm0 := hs1.1
    have hm4 : ρ 83 11 < 400 := by
      have := hY2.1.2.1
      rw [rx_next_o _ (by omega), rx_told_11] at this
      omega
    have fr2 := fr_R_told hb hm0 hm4 ht
    have hk2 := kx_R_told (k := k) hk1 hm0
    obtain ⟨d1, d2, d3, d4, d5, d7, d8, d9, d10, d11, d12, d13⟩ := ht
    have hge := js_sym_ge d1
    have sne : ∀ i : Int, 0 ≤ i → i < ρ 83 11 → σ (19 + b) i ≠ s := fun i g1 g2 hh => by
      have a := hY1.2.2.2.2.2.1 i g1 g2
      have a0 := js_sym_lt a.1 (js_sym_ge a.1)
      rcases d4 with h | ⟨h, h'⟩
      · rcases hY1.2.2.2.1 (ρ 83 11) hm0 hm4 with h2 | h2
        · omega
        · have := a.2.1
          rw [hh, h, h2.2] at this
          omega
      · omega
    have dn2 : dn_R b (ρ 83 11) σ τ := ⟨fun a i g1 g2 g3 g4 g5 g6 => d7 a i (by omega) (by omega) (by omega) (by omega) g6 (by omega) (by omega), fun i g1 g2 => by
      have a := js_sym_ge (hY1.2.2.2.2.2.1 i g1 g2).1
      exact ⟨d7 _ _ (by omega) (by omega) (by omega) (by omega) (by omega) (by omega) (by omega), fun k => d7 _ _ (sne i g1 g2) (by omega) (by omega) (by omega) (by omega) (by omega) (by omega)⟩⟩
    refine ⟨τ, _, s, j2, e2, rt, hR2, hj2, ⟨hY2, hk2, fr2, rf_R_told ρ k, dn2, d1, d3, ⟨_, d2⟩, sne, hm0, hm4, ?_, ?_, ?_, ?_, ?_, ?_, ?_, ?_, ?_, ?_, ?_⟩, rfl⟩
    · rw [rx_next_o _ (by omega), rx_told_11]
    · rw [rx_next_o _ (by omega), rx_told_o ρ k (by omega) (by omega), i1]
    · rw [rx_next_o _ (by omega), rx_told_86]
    · rw [rx_next_o _ (by omega), rx_told_87]
    · rw [rx_next_o _ (by omega), rx_told_91]
    · rw [rx_next_o _ (by omega), rx_told_92]
    · rw [rx_next_o _ (by omega), rx_told_93, i1]
    · rw [rx_next_o _ (by omega), rx_told_94]
    · rw [rx_next_o _ (by omega), rx_told_96]
    · intro a i g1 g2 g3
      rw [rx_next_o _ (by omega), rx_told_o ρ k (by omega) (by omega)]
    · intro a i hh
      rw [rx_next_o _ (by omega), rx_told_o ρ k (by omega) (by omega)]
  · have e2 := y_tell_T (E := E) (d := d) (k := k) (pp := -1) hb hY1 hR hd (Or.inl ⟨rfl, rfl⟩) q1
    have hin := rx_tf_in ρ (-1)
    have hF := rx_bad1 hok1 (k := rx_tf ρ (-1)) (by omega) (by omega)
    rw [if_neg q1] at rt
    refine Or.inr ⟨_, ?_, rt, hF.1, tf_R_bad _ _ _⟩
    rw [e2, hF.2]
    rfl
/-- type NAME = .. ; -/
theorem y_dtype (hb : b = 0 ∨ b = 25) (hD : dc_R E.1 σ ρ b) {j : Nat} (hR : rd_R σ ρ j) (hd : 12 ≤ d) (he : 8 ≤ e) (h5 : ρ 83 5 = 301) : ∃ ρ' : js_S, js_J E e 197 0 [(2, 83), (9, 0), (9, 0)] [] ρ = js_r0 E ρ' ∧ rf_R ρ ρ' ∧ (mb_P E b (ρ 83 11) σ ρ ρ' j (js_J E d 44 0 [(2, 6 + b), (9, 0), (9, 0), (9, 0), (9, 0), (9, 0)] [] σ) ∨ dt_P E b σ ρ' (js_J E d 44 0 [(2, 6 + b), (9, 0), (9, 0), (9, 0), (9, 0), (9, 0)] [] σ)) := by
  have hD' := hD
  obtain ⟨hY, hkx, h26⟩ := hD
  have hok := hR.2.2.1
  obtain ⟨σ1, j1, e1, hR1, f1, hj1, hj1'⟩ := y_next (E := E) (d := d - 1) hR
  have hj1'' := hj1' (by omega)
  have t1 := tf_R_next ρ
  have hD1 : dc_R E.1 σ1 (rx_next ρ) b := ⟨sy_Y_cf hb hY (cf_R_fr f1) t1, kx_R_tf hkx t1, by rw [t1 _ _ (by omega)]; exact h26⟩
  have m1 : rx_next ρ 83 11 = ρ 83 11 := t1 _ _ (by omega)
  have o1 : ∀ a i : Int, 84 ≤ a → rx_next ρ a i = ρ a i := fun a i h => t1 _ _ (by omega)
  have fr1 := fr_R_tk hb f1
  rw [b_197_0, k_197_6 (by omega) (r_next' hok (by omega)), b_197_9, h5, if_neg (show ¬ js_w 301 = 300 by decide), if_pos (show js_w 301 = 301 by decide), b_44_0 hb, k_44_4 (by omega) e1, b_44_7 hb]
  generalize rx_next ρ = ρ1 at hR1 t1 hD1 m1 o1 ⊢
  have g1 : ∀ i : Int, 0 ≤ i → i < ρ 83 11 → 137 ≤ σ1 (19 + b) i := fun i h1 h2 => js_sym_ge (hD1.1.2.2.2.2.2.1 i h1 (by omega)).1
  rcases y_dtell2 (E := E) (d := d - 1) (e := e - 1 - 1) (k := 8) hb hD1 hR1 (by omega) (by omega) (by omega) (by omega) with ⟨τ, ρ2, s, j2, e2, rt, hR2, hj2, ht, hρ2⟩ | ⟨ρ2, e2, rt, hF2, t2⟩
  · rw [m1] at rt ht
    obtain ⟨a1, a2, a3, a4, a5, a6, a7, ⟨nn, a8⟩, a9, m0, m4, a12, a13, a14, a15, a16, a17, a18, a19, a20, a21⟩ := ht
    obtain ⟨n0, n1, n2, n3, n4, n5, n6, n7, n8, n9, n10, n11, n12, n13, n14⟩ := a8
    have hge := js_sym_ge a6
    have h9 := hR2.2.2.1.2.2.1
    rw [k_44_18 hb (by omega) e2, b_44_21 a6 hb, n0]
    -- visible at once, and its type
    have r88 : ρ2 88 (ρ 83 11) = 0 := by rw [hρ2, rx_next_o _ (by omega), ← m1, rx_told_88]
    clear hρ2
    have e204 : js_J E (e - 1) 204 0 [(2, 83), (9, 0), (9, 0), (9, 0), (9, 0)] [] ρ1 = js_J E (e - 1) 204 35 [(2, 83), (0, ρ 83 11), (9, 0), (9, 0), (9, 0)] [(0, 61), (2, 83)] (js_up (js_up ρ2 99 (ρ 83 11) 1) 87 (ρ 83 11) (3 + ρ 83 11)) := by
      rw [b_204_0, k_204_4 (by omega) rt, b_204_7, h9, if_neg (show ¬ 0 < js_w 0 by decide), js_w_of (x := ρ 83 11) (by omega) (by omega), if_pos ⟨m0, m4⟩, js_iand11]
    have gO : ∀ a i : Int, a ≠ s → js_up (js_up τ s 13 1) s 6 0 a i = τ a i := fun a i h => by rw [js_up_na _ h, js_up_na _ h]
    have gs : ∀ i : Int, js_up (js_up τ s 13 1) s 6 0 s i = if i = 6 then 0 else if i = 13 then 1 else τ s i := fun i => by simp only [js_up, true_and]
    have kO : ∀ a i : Int, (a ≠ 99 ∧ a ≠ 87) ∨ i ≠ ρ 83 11 → js_up (js_up ρ2 99 (ρ 83 11) 1) 87 (ρ 83 11) (3 + ρ 83 11) a i = ρ2 a i := fun a i h => by rw [js_up_ne _ (by omega), js_up_ne _ (by omega)]
    have k87 : js_up (js_up ρ2 99 (ρ 83 11) 1) 87 (ρ 83 11) (3 + ρ 83 11) 87 (ρ 83 11) = 3 + ρ 83 11 := js_up_same _ _ _ _
    have k99 : js_up (js_up ρ2 99 (ρ 83 11) 1) 87 (ρ 83 11) (3 + ρ 83 11) 99 (ρ 83 11) = 1 := by rw [js_up_na _ (by decide), js_up_same]
    have fr6 : fr_R b τ (js_up (js_up τ s 13 1) s 6 0) := fr_R_of hb (fun a i h1 h2 h3 h4 => by
      have a2 : a ≠ s := by
        rcases h4 (ρ 83 11) m0 m4 with h | h
        · omega
        · exact fun hh => h (by rw [a7, hh])
      exact gO a i a2)
    generalize js_up (js_up τ s 13 1) s 6 0 = σ3 at gO gs fr6 ⊢
    generalize js_up (js_up ρ2 99 (ρ 83 11) 1) 87 (ρ 83 11) (3 + ρ 83 11) = ρ3 at kO k87 k99 e204
    have k11 : ρ3 83 11 = ρ 83 11 + 1 := by rw [kO _ _ (by omega)]; exact a12
    have hR3 : rd_R σ3 ρ3 j2 := rd_R_of hR2 (fun i _ => gO _ _ (by omega)) (fun a i _ _ => gO _ _ (by omega)) (fun i _ _ => kO _ _ (by omega)) (fun i => kO _ _ (by omega))
    have hrv := a1.2.1
    have hY3 : sy_Y E.1 σ3 ρ3 b 0 0 (fun i => i = ρ 83 11) := by
      refine sy_Y_gen2 hb a1 (fun a i h => ?_) (by rw [k11, a12]) (fun a i h => kO _ _ (by omega)) (fun i h1 h2 => ?_) (fun i h1 h2 => ?_) (fun i h1 h2 => ?_) (fun i h1 h2 hx => ?_)
      · by_cases q : a = s
        · rw [q, gs, if_neg (by omega), if_neg (by omega)]
        · exact gO a i q
      · by_cases q : i = ρ 83 11
        · rw [q, k99]
          exact Or.inr rfl
        · rw [kO _ _ (Or.inr q)]
          exact a1.1.2.2.2.2 i h1 h2
      · by_cases q : i = ρ 83 11
        · have := hrv i h1 h2
          rw [q] at this
          rw [q, kO 86 _ (by omega), k87, kO 94 _ (by omega)]
          exact ⟨by omega, by omega, by omega, by omega, by omega, by omega, rs_z_of this.2.2.2.2.2.2 (by rw [k11, a12]) (kO 90 _ (by omega)) (kO 95 _ (by omega))⟩
        · rw [kO _ _ (Or.inr q), kO _ _ (Or.inr q), kO _ _ (Or.inr q)]
          exact rs_6 (hrv i h1 h2) (rs_z_of (hrv i h1 h2).2.2.2.2.2.2 (by rw [k11, a12]) (kO _ _ (Or.inr q)) (kO _ _ (Or.inr q)))
      · rw [sy_S_id]
        by_cases q : i = ρ 83 11
        · rw [q, a7, gs, if_neg (by decide), if_pos rfl, k99]
        · have hN := (a1.2.2.2.2.2.1 i h1 h2).2.2.1
          have ne := sy_Y_ne a1 (i := i) (k := ρ 83 11) h1 h2 m0 (by omega) q
          rw [a7] at ne
          rw [sy_S_id] at hN
          rw [gO _ _ ne, kO _ _ (Or.inr q)]
          exact hN
      · have ne := sy_Y_ne a1 (i := i) (k := ρ 83 11) h1 h2 m0 (by omega) hx
        have hFi := a1.2.2.2.2.2.2 i h1 h2 (fun hh => hh.elim id hx)
        rw [a7] at ne
        unfold sy_F at hFi ⊢
        rw [gO (19 + b) _ (by omega)]
        simp only [gO _ _ ne]
        rw [kO 86 _ (Or.inr hx), kO 87 _ (Or.inr hx), kO 88 _ (Or.inr hx), kO 89 _ (Or.inr hx), kO 91 _ (Or.inr hx), kO 92 _ (Or.inr hx), kO 93 _ (Or.inr hx), kO 94 _ (Or.inr hx), kO 96 _ (Or.inr hx)]
        exact hFi
    obtain ⟨ρ4, e4, o4, hor4⟩ := y_take (E := E) (d := d - 1) (e := e - 1 - 1) (k := 61) hY3.2.2.1 hR3 (by omega) (by omega) (by unfold tk_V; omega) (by decide)
    have t61 : tk_m 61 = 61 := by decide
    rw [t61] at hor4
    have tf4 : tf_R ρ3 ρ4 := fun a i h => o4 a i (by omega)
    have rf3 : rf_R ρ ρ3 := rf_R_trans (rf_R_tf t1) (rf_R_trans a4 (fun a i g1 g2 => kO _ _ (by omega)))
    have frs : fr_R b σ σ3 := fr_R_trans fr1 (fr_R_trans a3 fr6)
    rcases hor4 with ⟨σ4, j4, e5, hR4, f4, hj4⟩ | ⟨hF4, e5⟩
    · have c : ∀ a i : Int, 2 < a → σ4 a i = σ3 a i := fun a i h => f4 _ _ (by omega) (by omega)
      have t : ∀ a i : Int, 83 < a → ρ4 a i = ρ3 a i := fun a i h => o4 _ _ (by omega)
      have hI : mb_I E.1 b (ρ 83 11) s 0 σ ρ σ4 ρ4 := by
        have dn1 := dn_R_tk hb a5 f1 g1
        refine ⟨sy_Y_cf hb hY3 (cf_R_fr f4) tf4, ⟨m0, by decide, by decide, by rw [tf4 _ _ (by omega), k11]; omega, by rw [tf4 _ _ (by omega), kO _ _ (by omega)]; exact a13, by rw [c _ _ (by omega), gO _ _ (by omega)]; exact a7⟩, ?_, fun h => absurd h (by decide), ?_, fr_R_trans frs (fr_R_tk hb f4), rf_R_trans rf3 (rf_R_tf tf4), ⟨fun a i h1 h2 h3 h4 h5 h6 => ?_, fun i h1 h2 => ?_⟩, fun i h1 h2 => by omega, fun a i h1 h2 h3 => ?_, fun a i hh => ?_⟩
        · unfold mb_c
          simp only [c s _ (by omega), gs]
          simp [n1, n5, n7, n8, n9, n10, n11, n12]
        · unfold mb_r
          rw [t 86 _ (by decide), t 87 _ (by decide), t 88 _ (by decide), t 92 _ (by decide), t 93 _ (by decide), t 94 _ (by decide), t 96 _ (by decide), k87, kO 86 _ (by omega), kO 88 _ (by omega), kO 92 _ (by omega), kO 93 _ (by omega), kO 94 _ (by omega), kO 96 _ (by omega)]
          exact ⟨a14, rfl, r88, a17, a18, a19, a20⟩
        · rw [c _ _ (by omega), gO _ _ (by omega)]
          exact dn1.1 a i h1 h2 h3 h4 h5 h6
        · have e9 := dn1.2 i h1 h2
          have ne := a9 i h1 h2
          have e19 : σ1 (19 + b) i = σ (19 + b) i := f1 _ _ (by omega) (by omega)
          have ge := g1 i h1 h2
          rw [e19] at ne ge
          exact ⟨by rw [c _ _ (by omega), gO _ _ (by omega)]; exact e9.1, fun k => by rw [c _ _ (by omega), gO _ _ ne]; exact e9.2 k⟩
        · rw [t _ _ (by omega), kO _ _ (by omega), a21.1 a i h1 h2 (by omega), o1 _ _ (by omega)]
        · rw [tf4 _ _ (by omega), kO _ _ (by omega), a21.2 a i hh, t1 _ _ (by omega)]
      obtain ⟨ρ', e6, rf6, hor6⟩ := y_mloop (E := E) (d := d) (e := e - 1) (j0 := j + 1) (m := ρ 83 11) (s := s) (σ0 := σ) (ρ0 := ρ) hb hkx rfl (by omega) (by omega) 64 0 σ4 ρ4 j4 (9, 0) (9, 0) (by decide) hI hR4 (by omega)
      refine ⟨ρ', ?_, rf6, ?_⟩
      · have ee : js_J E (e - 1) 204 0 [(2, 83), (9, 0), (9, 0), (9, 0), (9, 0)] [] ρ1 = js_r0 E ρ' := by rw [e204, k_204_35 (by omega) e4, b_204_38, e6]
        rw [k_197_109 (by omega) ee, b_197_112]
      · rw [k_44_45 (by omega) e5, b_44_48]
        rcases hor6 with ⟨σ', j', h1, h2, h3, h4, h5, h6⟩ | h
        · exact Or.inl ⟨σ', j', h1, h2, h3, by omega, h5, h6⟩
        · exact Or.inr h
    · have f1' := hF4.1
      have f2' := hF4.2.1
      have ee : js_J E (e - 1) 204 0 [(2, 83), (9, 0), (9, 0), (9, 0), (9, 0)] [] ρ1 = js_r0 E ρ4 := by
        rw [e204, k_204_35 (by omega) e4, b_204_38, b_204_42, if_neg (show ¬ js_w 1 = 0 by decide), js_w_of (x := ρ4 83 9) (by omega) (by omega), if_neg (show ¬ ρ4 83 9 = 0 by omega), b_204_168, k_204_171 (by omega) (r_takeF hF4 (by omega) (by decide) (by decide)), b_204_174]
      refine ⟨ρ4, by rw [k_197_109 (by omega) ee, b_197_112], rf_R_trans rf3 (rf_R_tf tf4), Or.inr ⟨hF4, by rw [tf4 _ _ (by omega), k11]; omega, by rw [tf4 _ _ (by omega), k11]; omega, σ3, by rw [kt_44_45 (by omega) e5], frs, hY3.2.2.2.1, hY3.2.2.1⟩⟩
  · have f1' := hF2.1
    have f2' := hF2.2.1
    have hs1 := hD1.1.1
    have m2 : ρ2 83 11 = ρ1 83 11 := t2 _ _ (by omega)
    have ee : js_J E (e - 1) 204 0 [(2, 83), (9, 0), (9, 0), (9, 0), (9, 0)] [] ρ1 = js_r0 E ρ2 := by
      rw [b_204_0, k_204_4 (by omega) rt, b_204_7, js_w_of (x := ρ2 83 9) (by omega) (by omega), if_pos f1']
    refine ⟨ρ2, by rw [k_197_109 (by omega) ee, b_197_112], rf_R_trans (rf_R_tf t1) (rf_R_tf t2), Or.inr ⟨hF2, by rw [m2]; exact hs1.1, by rw [m2]; exact hs1.2.1, σ1, by rw [kt_44_18 hb (by omega) e2], fr1, hD1.1.2.2.2.1, hD1.1.2.2.1⟩⟩
end ML
