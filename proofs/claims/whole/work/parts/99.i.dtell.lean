/-! part 99.i: a declaration's name in step; ports of the reference with a fault -/
/-- it goes on with the same fault, over symbols too -/
def fs_R (ρ ρ' : js_S) : Prop := rf_R ρ ρ' ∧ rx_F ρ' ∧ ρ' 83 9 = ρ 83 9 ∧ ρ' 83 11 = ρ 83 11
theorem fs_R_refl {ρ : js_S} (h : rx_F ρ) : fs_R ρ ρ := ⟨fun _ _ _ _ => rfl, h, rfl, rfl⟩
theorem fs_R_trans {σ σ' τ : js_S} (h : fs_R σ σ') (h2 : fs_R σ' τ) : fs_R σ τ := ⟨rf_R_trans h.1 h2.1, h2.2.1, h2.2.2.1.trans h.2.2.1, h2.2.2.2.trans h.2.2.2⟩
theorem fs_R_fm {ρ ρ' : js_S} (h : fm_R ρ ρ') : fs_R ρ ρ' := ⟨rf_R_tf h.1, h.2.1, h.2.2, h.1 _ _ (by omega)⟩
theorem fs_R_lm {n : Int} {ρ ρ' : js_S} (h : lm_R n ρ ρ') : fs_R ρ ρ' := ⟨fun a i g1 g2 => h.1 a i (by omega) (by omega), h.2.1, h.2.2, h.1 _ _ (by omega) (by omega)⟩
theorem rx_F_na {ρ : js_S} {a i v : Int} (h : rx_F ρ) (ha : a ≠ 83) : rx_F (js_up ρ a i v) := by
  unfold rx_F at h ⊢
  rw [js_up_na _ (by omega), js_up_na _ (by omega)]
  exact h
section PF
variable {E : js_E} {d e : Nat} {σ ρ : js_S} {b : Int}
theorem r_p217F (h : rx_F ρ) {x1 x2 : Int} : js_J E e 197 217 [(2, 83), (0, x1), (0, x2)] [] ρ = js_r0 E ρ := by
  have f1 := h.1
  have f2 := h.2.1
  rw [b_197_217, js_w_of (x := ρ 83 9) (by omega) (by omega), if_neg (by omega)]
theorem r_p211F (h : rx_F ρ) (he : 4 ≤ e) {x1 x2 : Int} : js_J E e 197 211 [(2, 83), (0, x1), (0, x2)] [] ρ = js_r0 E ρ := by
  rw [b_197_211, k_197_214 (by omega) (r_takeF h (by omega) (by decide) (by decide)), r_p217F h]
theorem r_p207F (h : rx_F ρ) (he : 4 ≤ e) {x1 x2 : Int} : js_J E e 197 207 [(2, 83), (0, x1), (0, x2)] [] ρ = js_r0 E ρ := by
  rw [b_197_207, k_197_208 (by omega) (r_nextF h.1 h.2.1), r_p211F h he]
theorem r_p198F (h : rx_F ρ) (he : 4 ≤ e) {x1 x2 : Int} (h0 : 0 ≤ x2) (h4 : x2 < 400) : ∃ ρ' : js_S, js_J E e 197 198 [(2, 83), (0, x1), (0, x2)] [] ρ = js_r0 E ρ' ∧ fs_R ρ ρ' := by
  have a1 := fm_R_up (k := 29) (x := ρ 83 6) h (by decide) (by decide)
  have hF2 : rx_F (js_up (js_up ρ 83 29 (ρ 83 6)) 94 x2 (js_up ρ 83 29 (ρ 83 6) 83 28)) := rx_F_na a1.2.1 (by decide)
  refine ⟨_, ?_, fs_R_trans (fs_R_fm a1) ⟨fun a i g1 g2 => js_up_na _ (by omega), hF2, js_up_na _ (by decide), js_up_na _ (by decide)⟩⟩
  rw [b_197_198, k_197_199 (by omega) (r_constantF h (by omega)), b_197_202, k_197_204 (by omega) (r_fitsF a1.2.1 h0 h4), r_p207F hF2 he]
theorem r_p185F (h : rx_F ρ) (he : 4 ≤ e) {x1 x2 : Int} (h0 : 0 ≤ x2) (h4 : x2 < 400) : ∃ ρ' : js_S, js_J E e 197 185 [(2, 83), (0, x1), (0, x2)] [] ρ = js_r0 E ρ' ∧ fs_R ρ ρ' := by
  rw [b_197_185]
  by_cases q : js_w x1 = 302
  · rw [if_pos q, r_p211F h he]
    exact ⟨ρ, rfl, fs_R_refl h⟩
  · rw [if_neg q, k_197_195 (by omega) (r_takeF h (by omega) (by decide) (by decide))]
    exact r_p198F h he h0 h4
theorem r_p173F (h : rx_F ρ) (he : 4 ≤ e) {x1 x2 : Int} (h0 : 0 ≤ x2) (h4 : x2 < 400) : ∃ ρ' : js_S, js_J E e 197 173 [(2, 83), (0, x1), (0, x2)] [] ρ = js_r0 E ρ' ∧ fs_R ρ ρ' := by
  have f1 := h.1
  have f2 := h.2.1
  rw [b_197_173, js_w_of (x := ρ 83 9) (by omega) (by omega), if_neg (by omega)]
  exact r_p185F h he h0 h4
theorem r_p169F (h : rx_F ρ) (he : 6 ≤ e) {x1 x2 : Int} (h0 : 0 ≤ x2) (h4 : x2 < 400) : ∃ ρ' : js_S, js_J E e 197 169 [(2, 83), (0, x1), (0, x2)] [] ρ = js_r0 E ρ' ∧ fs_R ρ ρ' := by
  obtain ⟨ρ1, e1, f1⟩ := r_typeF (E := E) (d := e - 1) h (by omega)
  obtain ⟨ρ2, e2, f2⟩ := r_p173F (E := E) (e := e) (x1 := x1) f1.2.1 (by omega) h0 h4
  refine ⟨ρ2, ?_, fs_R_trans (fs_R_fm f1) f2⟩
  rw [b_197_169, k_197_170 (by omega) e1, e2]
theorem r_p163F (h : rx_F ρ) (he : 6 ≤ e) {x1 x2 : Int} (h0 : 0 ≤ x2) (h4 : x2 < 400) : ∃ ρ' : js_S, js_J E e 197 163 [(2, 83), (0, x1), (0, x2)] [] ρ = js_r0 E ρ' ∧ fs_R ρ ρ' := by
  rw [b_197_163, k_197_166 (by omega) (r_takeF h (by omega) (by decide) (by decide))]
  exact r_p169F h he h0 h4
theorem r_p157F (h : rx_F ρ) (he : 6 ≤ e) {x1 x2 : Int} (h0 : 0 ≤ x2) (h4 : x2 < 400) : ∃ ρ' : js_S, js_J E e 197 157 [(2, 83), (0, x1), (9, 0)] [(0, x2)] ρ = js_r0 E ρ' ∧ fs_R ρ ρ' := by
  rw [b_197_157, k_197_160 (by omega) (r_lengthF h)]
  exact r_p163F h he h0 h4
/-- the name of a declaration is told in both: what holds then -/
def td_R (M b m k s : Int) (σ ρ τ ρ2 : js_S) : Prop := sy_Y M τ ρ2 b 0 0 (fun i => False ∨ i = m) ∧ kx_R ρ2 0 0 (fun i => False ∨ i = m) ∧ fr_R b σ τ ∧ rf_R ρ ρ2 ∧ dn_R b m σ τ ∧ js_desc M τ s = some (0, 11, js_sym) ∧ τ (19 + b) m = s ∧ (∃ n : Int, cx_new τ s m k n) ∧ (∀ i : Int, 0 ≤ i → i < m → σ (19 + b) i ≠ s) ∧ 0 ≤ m ∧ m < 400 ∧ ρ2 83 11 = m + 1 ∧ ρ2 83 26 = -1 ∧ ρ2 86 m = k ∧ ρ2 87 m = 0 ∧ ρ2 91 m = 1 ∧ ρ2 92 m = 0 ∧ ρ2 93 m = -1 ∧ ρ2 94 m = 0 ∧ ρ2 96 m = 0 ∧ (∀ a i : Int, 86 ≤ a → a ≤ 97 → i ≠ m → ρ2 a i = ρ a i) ∧ gf_R ρ ρ2
theorem y_dtell (hb : b = 0 ∨ b = 25) (hD : dc_R E.1 σ ρ b) {j : Nat} (hR : rd_R σ ρ j) (hd : 8 ≤ d) (he : 3 ≤ e) {k : Int} (hk0 : 0 ≤ k) (hk9 : k ≤ 9) : (∃ (τ ρ2 : js_S) (s : Int) (j2 : Nat), js_J E d 35 0 [(2, 7 + b), (0, k), (0, 0), (2, 1), (9, 0), (9, 0)] [] σ = js_r E (2, s) τ ∧ js_J E e 198 0 [(2, 83), (0, k), (0, -1), (9, 0), (9, 0)] [] ρ = js_r E (0, ρ 83 11) ρ2 ∧ rd_R τ ρ2 j2 ∧ j < j2 ∧ td_R E.1 b (ρ 83 11) k s σ ρ τ ρ2) ∨ (∃ ρ2 : js_S, js_J E d 35 0 [(2, 7 + b), (0, k), (0, 0), (2, 1), (9, 0), (9, 0)] [] σ = th_P E σ (ρ2 83 9) ∧ js_J E e 198 0 [(2, 83), (0, k), (0, -1), (9, 0), (9, 0)] [] ρ = js_r E (0, 0) ρ2 ∧ rx_F ρ2 ∧ tf_R ρ ρ2) := by
  obtain ⟨hY1, hk1, i1⟩ := hD
  have hok1 := hR.2.2.1
  have hs1 := hY1.1
  have rt := r_tell (E := E) (d := e) (k := k) (p := -1) hok1 hs1 he (by decide) (by have := hs1.1; omega)
  by_cases q1 : rx_tf ρ (-1) = 0
  · refine Or.inl ?_
    obtain ⟨τ, s, j2, e2, hR2, hY2, ht, hj2⟩ := y_tell (E := E) (d := d) (k := k) (pp := -1) hb hY1 hR hd hk0 hk9 (Or.inl ⟨rfl, rfl⟩) (by have := hs1.1; omega) q1
    rw [if_pos q1] at rt
    have hm0 := hs1.1
    have hm4 : ρ 83 11 < 400 := by
      have := hY2.1.2.1
      rw [rx_next_o _ (by omega), rx_told_11] at this
      omega
    have fr2 := fr_R_told hb hm0 hm4 ht
    have hk2 := kx_R_told (k := k) hk1 hm0
    obtain ⟨d1, d2, d3, d4, d5, d7, d8, d9, d10, d11, d12, d13⟩ := ht
    have hge := js_sym_ge d1
    have sne : ∀ i : Int, 0 ≤ i → i < ρ 83 11 → σ (19 + b) i ≠ s := fun i g1 g2 hh => by
      have a := hY1.2.2.2.2.2.1 i g1 g2
      have a0 := js_sym_lt a.1 (js_sym_ge a.1)
      rcases d4 with h | ⟨h, h'⟩
      · rcases hY1.2.2.2.1 (ρ 83 11) hm0 hm4 with h2 | h2
        · omega
        · have := a.2.1
          rw [hh, h, h2.2] at this
          omega
      · omega
    have dn2 : dn_R b (ρ 83 11) σ τ := ⟨fun a i g1 g2 g3 g4 g5 g6 => d7 a i (by omega) (by omega) (by omega) (by omega) g6 (by omega) (by omega), fun i g1 g2 => by
      have a := js_sym_ge (hY1.2.2.2.2.2.1 i g1 g2).1
      exact ⟨d7 _ _ (by omega) (by omega) (by omega) (by omega) (by omega) (by omega) (by omega), fun k => d7 _ _ (sne i g1 g2) (by omega) (by omega) (by omega) (by omega) (by omega) (by omega)⟩⟩
    refine ⟨τ, _, s, j2, e2, rt, hR2, hj2, hY2, hk2, fr2, rf_R_told ρ k, dn2, d1, d3, ⟨_, d2⟩, sne, hm0, hm4, ?_, ?_, ?_, ?_, ?_, ?_, ?_, ?_, ?_, ?_, ?_⟩
    · rw [rx_next_o _ (by omega), rx_told_11]
    · rw [rx_next_o _ (by omega), rx_told_o ρ k (by omega) (by omega), i1]
    · rw [rx_next_o _ (by omega), rx_told_86]
    · rw [rx_next_o _ (by omega), rx_told_87]
    · rw [rx_next_o _ (by omega), rx_told_91]
    · rw [rx_next_o _ (by omega), rx_told_92]
    · rw [rx_next_o _ (by omega), rx_told_93, i1]
    · rw [rx_next_o _ (by omega), rx_told_94]
    · rw [rx_next_o _ (by omega), rx_told_96]
    · intro a i g1 g2 g3
      rw [rx_next_o _ (by omega), rx_told_o ρ k (by omega) (by omega)]
    · intro a i hh
      rw [rx_next_o _ (by omega), rx_told_o ρ k (by omega) (by omega)]
  · have e2 := y_tell_T (E := E) (d := d) (k := k) (pp := -1) hb hY1 hR hd (Or.inl ⟨rfl, rfl⟩) q1
    have hin := rx_tf_in ρ (-1)
    have hF := rx_bad1 hok1 (k := rx_tf ρ (-1)) (by omega) (by omega)
    rw [if_neg q1] at rt
    refine Or.inr ⟨_, ?_, rt, hF.1, tf_R_bad _ _ _⟩
    rw [e2, hF.2]
    rfl
end PF
