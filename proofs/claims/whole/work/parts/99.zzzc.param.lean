/-! part 99.zzzc: a fun's name and its parameters are told -/
/-- the reference unwinds: what stays -/
def fw_R (ρ ρ' : js_S) : Prop := (∀ a i : Int, ¬ (a = 83 ∧ (5 ≤ i ∧ i ≤ 10 ∨ 27 ≤ i ∧ i ≤ 32)) → ¬ (86 ≤ a ∧ a ≤ 110) → ρ' a i = ρ a i) ∧ rx_F ρ' ∧ ρ' 83 9 = ρ 83 9
theorem fw_refl {ρ : js_S} (h : rx_F ρ) : fw_R ρ ρ := ⟨fun _ _ _ _ => rfl, h, rfl⟩
theorem fw_trans {ρ ρ' ρ'' : js_S} (h : fw_R ρ ρ') (h2 : fw_R ρ' ρ'') : fw_R ρ ρ'' := ⟨fun a i g1 g2 => (h2.1 a i g1 g2).trans (h.1 a i g1 g2), h2.2.1, h2.2.2.trans h.2.2⟩
theorem fw_10 {ρ : js_S} {v : Int} (h : rx_F ρ) : fw_R ρ (js_up ρ 83 10 v) := ⟨fun a i g1 g2 => js_up_ne _ (by omega), rx_F_up h (by decide) (by decide), js_up_ni _ (by decide)⟩
theorem fw_na {ρ : js_S} {a n v : Int} (h : rx_F ρ) (ha : 86 ≤ a ∧ a ≤ 110) : fw_R ρ (js_up ρ a n v) := ⟨fun a i g1 g2 => js_up_ne _ (by omega), rx_F_na h (by omega), js_up_na _ (by omega)⟩
theorem fw_fm {ρ ρ' : js_S} (h : fm_R ρ ρ') : fw_R ρ ρ' := ⟨fun a i g1 g2 => h.1 a i (by omega), h.2.1, h.2.2⟩
theorem sF_fw {E : js_E} {b : Int} {σ ρ ρa ρ' : js_S} {R : Option (Outcome × ip_W)} (h : sF_P E b σ ρ ρa R) (h2 : fw_R ρa ρ') : sF_P E b σ ρ ρ' R := by
  obtain ⟨a1, a2, a3, a4, σ', a5, a6⟩ := h
  have e11 := h2.1 83 11 (by omega) (by omega)
  exact ⟨rf_R_trans a1 (fun a i g1 g2 => h2.1 a i (by omega) g2), h2.2.1, by omega, by omega, σ', by rw [h2.2.2]; exact a5, a6⟩
theorem rs_ok_bad {ρ : js_S} {k p : Int} (h : rs_ok ρ) : rs_ok (rx_bad ρ k p) := by
  have e : ∀ a i : Int, ¬ (a = 83 ∧ (i = 5 ∨ i = 9)) → rx_bad ρ k p a i = ρ a i := fun a i g => rx_bad_o ρ k p g
  exact rs_ok_of h (e _ _ (by omega)) (fun i => e _ _ (by omega)) (fun i => e _ _ (by omega)) (fun i => e _ _ (by omega))
section FA
variable {E : js_E} {e : Nat} {ρ : js_S} {m n x3 x4 : Int} {ux3 : js_v}
theorem r_206_303F (h : rx_F ρ) (he : 6 ≤ e) : ∃ ρ' : js_S, js_J E e 206 303 [(2, 83), (0, m), (0, n), (0, x3), (0, x4)] [] ρ = js_r0 E ρ' ∧ fw_R ρ ρ' := by
  have hF : rx_F (js_up ρ 83 10 (ρ 83 10 - 1)) := rx_F_up h (by decide) (by decide)
  refine ⟨js_up ρ 83 10 (ρ 83 10 - 1), ?_, fw_10 h⟩
  rw [b_206_303, k_206_306 (by omega) (r_leaveF h (by omega) (by decide) (by decide)), b_206_309, if_pos (rx_F_9 hF)]
theorem r_206_296F (h : rx_F ρ) (he : 6 ≤ e) (hm : 0 ≤ m ∧ m < 400) {z : Int} : ∃ ρ' : js_S, js_J E e 206 296 [(2, 83), (0, m), (0, n), (0, x3), (0, x4)] [(0, z), (0, m), (2, 109)] ρ = js_r0 E ρ' ∧ fw_R ρ ρ' := by
  have hF : rx_F (js_up ρ 109 m z) := rx_F_na h (by decide)
  obtain ⟨ρ', e1, f1⟩ := r_206_303F (E := E) (e := e) (m := m) (n := n) (x3 := x3) (x4 := x4) hF he
  refine ⟨ρ', ?_, fw_trans (fw_na h (by decide)) f1⟩
  rw [b_206_296, js_w_of (x := m) (by omega) (by omega), if_pos hm, k_206_300 (by omega) (r_takeF hF (by omega) (by decide) (by decide)), e1]
theorem r_206_263F (h : rx_F ρ) (he : 12 ≤ e) (hm : 0 ≤ m ∧ m < 400) : ∃ ρ' : js_S, js_J E e 206 263 [(2, 83), (0, m), (0, n), (0, x3), (0, x4)] [] ρ = js_r0 E ρ' ∧ fw_R ρ ρ' := by
  obtain ⟨ρ', e1, f1⟩ := r_206_296F (E := E) (e := e) (m := m) (n := n) (x3 := x3) (x4 := ρ 87 m) (z := 0) h (by omega) hm
  refine ⟨ρ', ?_, f1⟩
  rw [b_206_263, js_w_of (x := m) (by omega) (by omega), if_pos hm, k_206_293 (by omega) (r_218F h (by omega)), e1]
theorem r_206_244F (h : rx_F ρ) (he : 12 ≤ e) (hm : 0 ≤ m ∧ m < 400) {z : Int} : ∃ ρ' : js_S, js_J E e 206 244 [(2, 83), (0, m), (0, n), (0, x3), (0, x4)] [(0, z), (0, m), (2, 108)] ρ = js_r0 E ρ' ∧ fw_R ρ ρ' := by
  have h1 : rx_F (js_up ρ 108 m z) := rx_F_na h (by decide)
  have h2 : rx_F (js_up (js_up ρ 108 m z) 109 m (-1)) := rx_F_na h1 (by decide)
  have f2 : fw_R ρ (js_up (js_up ρ 108 m z) 109 m (-1)) := fw_trans (fw_na h (by decide)) (fw_na h1 (by decide))
  rw [b_206_244, js_w_of (x := m) (by omega) (by omega), if_pos hm, if_pos hm]
  by_cases q : js_w x3 = 0
  · obtain ⟨ρ', e1, f1⟩ := r_206_303F (E := E) (e := e) (m := m) (n := n) (x3 := x3) (x4 := x4) h2 (by omega)
    exact ⟨ρ', by rw [if_pos q, e1], fw_trans f2 f1⟩
  · obtain ⟨ρ', e1, f1⟩ := r_206_263F (E := E) (e := e) (m := m) (n := n) (x3 := x3) (x4 := x4) h2 (by omega) hm
    exact ⟨ρ', by rw [if_neg q, k_206_260 (by omega) (r_takeF h2 (by omega) (by decide) (by decide)), e1], fw_trans f2 f1⟩
theorem r_206_206F (h : rx_F ρ) (he : 12 ≤ e) (hm : 0 ≤ m ∧ m < 400) : ∃ ρ' : js_S, js_J E e 206 206 [(2, 83), (0, m), (0, n), (0, x3), (0, x4)] [] ρ = js_r0 E ρ' ∧ fw_R ρ ρ' := by
  have n9 : ¬ js_w (ρ 83 9) = 0 := by have := rx_F_9 h; omega
  obtain ⟨ρ', e1, f1⟩ := r_206_244F (E := E) (e := e) (m := m) (n := n) (x3 := x3) (x4 := x4) (z := -1) h he hm
  have e2 : js_J E e 206 235 [(2, 83), (0, m), (0, n), (0, x3), (0, x4)] [] ρ = js_r0 E ρ' := by rw [b_206_235, k_206_241 (by omega) (r_212F h), e1]
  refine ⟨ρ', ?_, f1⟩
  rw [b_206_206]
  by_cases q : js_w (m + n) < js_w x4
  · rw [if_pos q, e2]
  · rw [if_neg q, if_neg n9, e2]
theorem r_206_195F (h : rx_F ρ) (he : 12 ≤ e) (hm : 0 ≤ m ∧ m < 400) : ∃ ρ' : js_S, js_J E e 206 195 [(2, 83), (0, m), (0, n), (0, x3), (9, 0)] [] ρ = js_r0 E ρ' ∧ fw_R ρ ρ' := by
  have hF : rx_F (js_up ρ 83 10 (ρ 83 10 + 1)) := rx_F_up h (by decide) (by decide)
  obtain ⟨ρ', e1, f1⟩ := r_206_206F (E := E) (e := e) (m := m) (n := n) (x3 := x3) (x4 := m + 1) hF he hm
  refine ⟨ρ', ?_, fw_trans (fw_10 h) f1⟩
  rw [b_206_195, k_206_198 (by omega) (r_openF h (by omega) (by decide) (by decide)), b_206_201, e1]
theorem r_206_183F (h : rx_F ρ) (he : 12 ≤ e) (hm : 0 ≤ m ∧ m < 400) : ∃ ρ' : js_S, js_J E e 206 183 [(2, 83), (0, m), (0, n), (0, x3), (9, 0)] [] ρ = js_r0 E ρ' ∧ fw_R ρ ρ' := by
  have n9 : ¬ js_w (ρ 83 9) = 0 := by have := rx_F_9 h; omega
  rw [b_206_183, if_neg n9]
  exact r_206_195F h he hm
theorem r_206_142F (h : rx_F ρ) (he : 12 ≤ e) (hm : 0 ≤ m ∧ m < 400) : ∃ ρ' : js_S, js_J E e 206 142 [(2, 83), (0, m), (0, n), ux3, (9, 0)] [] ρ = js_r0 E ρ' ∧ fw_R ρ ρ' := by
  have h1 : rx_F (js_up ρ 91 m n) := rx_F_na h (by decide)
  have h2 : rx_F (js_up (js_up ρ 91 m n) 87 m 2) := rx_F_na h1 (by decide)
  have f2 : fw_R ρ (js_up (js_up ρ 91 m n) 87 m 2) := fw_trans (fw_na h (by decide)) (fw_na h1 (by decide))
  have n5 : ¬ js_w (ρ 83 5) = 58 := by rw [h.2.2]; decide
  obtain ⟨ρ', e1, f1⟩ := r_206_195F (E := E) (e := e) (m := m) (n := n) (x3 := 0) h2 he hm
  refine ⟨ρ', ?_, fw_trans f2 f1⟩
  rw [b_206_142, js_w_of (x := m) (by omega) (by omega), if_pos hm, if_neg n5, b_206_170, if_pos (show js_w 0 = 0 from rfl), e1]
theorem r_206_136F (h : rx_F ρ) (he : 12 ≤ e) (hm : 0 ≤ m ∧ m < 400) : ∃ ρ' : js_S, js_J E e 206 136 [(2, 83), (0, m), (0, n), ux3, (9, 0)] [] ρ = js_r0 E ρ' ∧ fw_R ρ ρ' := by
  have hF : rx_F (js_up ρ 83 10 (ρ 83 10 - 1)) := rx_F_up h (by decide) (by decide)
  obtain ⟨ρ', e1, f1⟩ := r_206_142F (E := E) (e := e) (m := m) (n := n) (ux3 := ux3) hF he hm
  refine ⟨ρ', ?_, fw_trans (fw_10 h) f1⟩
  rw [b_206_136, k_206_139 (by omega) (r_leaveF h (by omega) (by decide) (by decide)), e1]
theorem r_206_33F (h : rx_F ρ) (he : 12 ≤ e) (hm : 0 ≤ m ∧ m < 400) : ∃ ρ' : js_S, js_J E e 206 33 [(2, 83), (0, m), (0, n), ux3, (9, 0)] [] ρ = js_r0 E ρ' ∧ fw_R ρ ρ' := by
  have n9 : ¬ js_w (ρ 83 9) = 0 := by have := rx_F_9 h; omega
  rw [b_206_33, if_neg n9]
  exact r_206_136F h he hm
theorem r_206_115F (h : rx_F ρ) (he : 12 ≤ e) (hm : 0 ≤ m ∧ m < 400) : ∃ ρ' : js_S, js_J E e 206 115 [(2, 83), (0, m), (0, n), (0, x3), (9, 0)] [] ρ = js_r0 E ρ' ∧ fw_R ρ ρ' := by
  have n5 : ¬ js_w (ρ 83 5) = 41 := by rw [h.2.2]; decide
  rw [b_206_115, if_neg n5, b_206_133]
  exact r_206_33F h he hm
theorem r_206_77F (h : rx_F ρ) (he : 12 ≤ e) : ∃ ρ' : js_S, js_J E e 206 77 [(2, 83), (0, m), (0, n), (0, x3), (9, 0)] [] ρ = js_r0 E ρ' ∧ fw_R ρ ρ' := by
  obtain ⟨ρ', e1, f1⟩ := r_typeF (E := E) (d := e - 1) h (by omega)
  refine ⟨ρ', ?_, fw_fm f1⟩
  rw [b_206_77, k_206_78 (by omega) e1, b_206_81, if_pos (rx_F_9 f1.2.1)]
theorem r_206_70F (h : rx_F ρ) (he : 12 ≤ e) {z : Int} : ∃ ρ' : js_S, js_J E e 206 70 [(2, 83), (0, m), (0, n), ux3, (9, 0)] [(0, z)] ρ = js_r0 E ρ' ∧ fw_R ρ ρ' := by
  rw [b_206_70, k_206_74 (by omega) (r_takeF h (by omega) (by decide) (by decide))]
  exact r_206_77F h he
theorem r_206_62F (h : rx_F ρ) (hs : rs_ok ρ) (he : 12 ≤ e) (hm : 0 ≤ m ∧ m < 399) : ∃ ρ' : js_S, js_J E e 206 62 [(2, 83), (0, m), (0, n), ux3, (9, 0)] [] ρ = js_r0 E ρ' ∧ fw_R ρ ρ' := by
  rw [b_206_62, k_206_67 (by omega) (r_tellF h hs (by omega) (by omega) (by omega))]
  exact r_206_70F h he
end FA
/-- a name is told: m is its number, s the class's symbol (p, q: parameters) -/
def gt_R (M b p q m k s : Int) (X : Int → Prop) (σ ρ τ ρ2 : js_S) : Prop := sy_Y M τ ρ2 b p q (fun i => X i ∨ i = m) ∧ fr_R b σ τ ∧ dm_R b m σ τ ∧ js_desc M τ s = some (0, 11, js_sym) ∧ τ (19 + b) m = s ∧ (∃ n : Int, cx_new τ s m k n) ∧ (∀ i : Int, 0 ≤ i → i < m → σ (19 + b) i ≠ s) ∧ (0 ≤ m ∧ m < 400) ∧ ρ2 83 11 = m + 1 ∧ (ρ2 86 m = k ∧ ρ2 87 m = 0 ∧ ρ2 88 m = 0 ∧ ρ2 89 m = 0 ∧ ρ2 91 m = 1 ∧ ρ2 92 m = 0 ∧ ρ2 93 m = ρ 83 26 ∧ ρ2 94 m = 0 ∧ ρ2 96 m = 0 ∧ ρ2 99 m = 0) ∧ (∀ a i : Int, ¬ (a = 83 ∧ (5 ≤ i ∧ i ≤ 8 ∨ i = 11)) → ¬ (86 ≤ a ∧ a ≤ 99 ∧ a ≠ 98 ∧ i = m) → ¬ (a = 98 ∧ 20 * m ≤ i) → ρ2 a i = ρ a i) ∧ τ (7 + b) 1 = m + 1
section FB
variable {E : js_E} {d e : Nat} {b : Int} {σ ρ : js_S} {j : Nat}
theorem y_gtell {p q pp : Int} {X : Int → Prop} (hb : b = 0 ∨ b = 25) (hY1 : sy_Y E.1 σ ρ b p q X) (hR : rd_R σ ρ j) (hd : 8 ≤ d) (he : 3 ≤ e) {k : Int} (hk0 : 0 ≤ k) (hk9 : k ≤ 9) (hp : (pp = -1 ∧ p = q) ∨ (pp = p ∧ q = ρ 83 11 ∧ 0 ≤ p ∧ p ≤ q)) (hq : q ≤ ρ 83 11) : (∃ (τ ρ2 : js_S) (s : Int) (j2 : Nat), js_J E d 35 0 [(2, 7 + b), (0, k), (0, 0), (2, 1), (9, 0), (9, 0)] [] σ = js_r E (2, s) τ ∧ js_J E e 198 0 [(2, 83), (0, k), (0, pp), (9, 0), (9, 0)] [] ρ = js_r E (0, ρ 83 11) ρ2 ∧ rd_R τ ρ2 j2 ∧ j < j2 ∧ gt_R E.1 b p q (ρ 83 11) k s X σ ρ τ ρ2) ∨ (∃ ρ2 : js_S, js_J E d 35 0 [(2, 7 + b), (0, k), (0, 0), (2, 1), (9, 0), (9, 0)] [] σ = th_P E σ (ρ2 83 9) ∧ js_J E e 198 0 [(2, 83), (0, k), (0, pp), (9, 0), (9, 0)] [] ρ = js_r E (0, 0) ρ2 ∧ rx_F ρ2 ∧ tf_R ρ ρ2) := by
  have hok1 := hR.2.2.1
  have hs1 := hY1.1
  have hm0 := hs1.1
  have rt := r_tell (E := E) (d := e) (k := k) (p := pp) hok1 hs1 he (by omega) (by omega)
  by_cases q1 : rx_tf ρ pp = 0
  · refine Or.inl ?_
    obtain ⟨τ, s, j2, e2, hR2, hY2, ht, hj2⟩ := y_tell (E := E) (d := d) (k := k) (pp := pp) hb hY1 hR hd hk0 hk9 hp hq q1
    rw [if_pos q1] at rt
    have m11 : rx_next (rx_told ρ k) 83 11 = ρ 83 11 + 1 := by rw [rx_next_o _ (by omega), rx_told_11]
    have hm4 : ρ 83 11 < 400 := by
      have := hY2.1.2.1
      rw [m11] at this
      omega
    have fr2 := fr_R_told hb hm0 hm4 ht
    obtain ⟨d1, d2, d3, d4, d5, d7, d8, d9, d10, d11, d12, d13⟩ := ht
    have hge := js_sym_ge d1
    have sne : ∀ i : Int, 0 ≤ i → i < ρ 83 11 → σ (19 + b) i ≠ s := fun i g1 g2 hh => by
      have a := hY1.2.2.2.2.2.1 i g1 g2
      have a0 := js_sym_lt a.1 (js_sym_ge a.1)
      rcases d4 with h | ⟨h, h'⟩
      · rcases hY1.2.2.2.1 (ρ 83 11) hm0 hm4 with h2 | h2
        · omega
        · have := a.2.1
          rw [hh, h, h2.2] at this
          omega
      · omega
    have dn2 : dm_R b (ρ 83 11) σ τ := ⟨fun a i g1 g2 g3 g4 g6 => d7 a i (by omega) (by omega) (by omega) (by omega) g6 (by omega) (by omega), fun i g1 g2 => by
      have a := js_sym_ge (hY1.2.2.2.2.2.1 i g1 g2).1
      exact ⟨d7 _ _ (by omega) (by omega) (by omega) (by omega) (by omega) (by omega) (by omega), fun k => d7 _ _ (sne i g1 g2) (by omega) (by omega) (by omega) (by omega) (by omega) (by omega)⟩⟩
    have u : ∀ a i : Int, ¬ (a = 83 ∧ (5 ≤ i ∧ i ≤ 8 ∨ i = 11)) → ¬ (86 ≤ a ∧ a ≤ 99 ∧ a ≠ 98 ∧ i = ρ 83 11) → ¬ (a = 98 ∧ 20 * ρ 83 11 ≤ i) → rx_next (rx_told ρ k) a i = ρ a i := fun a i g1 g2 g3 => by
      rw [rx_next_o _ (by omega)]
      by_cases q : a = 98
      · rw [q, rx_told_98, if_neg (by omega)]
      · exact rx_told_o ρ k (by omega) (by omega)
    refine ⟨τ, rx_next (rx_told ρ k), s, j2, e2, rt, hR2, hj2, hY2, fr2, dn2, d1, d3, ⟨_, d2⟩, sne, ⟨hm0, hm4⟩, m11, ⟨?_, ?_, ?_, ?_, ?_, ?_, ?_, ?_, ?_, ?_⟩, u, d5⟩
    · rw [rx_next_o _ (by omega), rx_told_86]
    · rw [rx_next_o _ (by omega), rx_told_87]
    · rw [rx_next_o _ (by omega), rx_told_88]
    · rw [rx_next_o _ (by omega), rx_told_89]
    · rw [rx_next_o _ (by omega), rx_told_91]
    · rw [rx_next_o _ (by omega), rx_told_92]
    · rw [rx_next_o _ (by omega), rx_told_93]
    · rw [rx_next_o _ (by omega), rx_told_94]
    · rw [rx_next_o _ (by omega), rx_told_96]
    · rw [rx_next_o _ (by omega), rx_told_99]
  · have e2 := y_tell_T (E := E) (d := d) (k := k) (pp := pp) hb hY1 hR hd hp q1
    have hin := rx_tf_in ρ pp
    have hF := rx_bad1 hok1 (k := rx_tf ρ pp) (by omega) (by omega)
    rw [if_neg q1] at rt
    refine Or.inr ⟨_, ?_, rt, hF.1, tf_R_bad _ _ _⟩
    rw [e2, hF.2]
    rfl
end FB
