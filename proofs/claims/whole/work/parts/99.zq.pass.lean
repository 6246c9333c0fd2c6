/-! part 99.zq: calls: faults, what is passed, the call itself -/
/-- the TEMPS from t on hold the ranges of a chain -/
def tl_P (σ : js_S) (b : Int) : tr_T → Int → Prop
  | .leaf, _ => True
  | .inner _ _ _ l r, t => σ (17 + b) t = xt_lo l ∧ σ (18 + b) t = xt_hi l ∧ tl_P σ b r (t + 1)
theorem tl_of {σ σ' : js_S} {b : Int} : ∀ (r : tr_T) (t : Int), tl_P σ b r t → (∀ a k : Int, 17 + b ≤ a → a ≤ 18 + b → t ≤ k → σ' a k = σ a k) → tl_P σ' b r t
  | .leaf, _, _, _ => trivial
  | .inner _ _ _ l r, t, h, hf => ⟨by rw [hf _ _ (by omega) (by omega) (by omega)]; exact h.1, by rw [hf _ _ (by omega) (by omega) (by omega)]; exact h.2.1, tl_of r (t + 1) h.2.2 (fun a k h1 h2 h3 => hf a k h1 h2 (by omega))⟩
section PA
variable {E : js_E} {d e : Nat} {b F : Int} {B : Int → Int} {X : Int → Prop} {σ ρ : js_S} {j : Nat}
theorem r_232_145F (h : rx_F ρ) {x1 x2 x3 x4 x5 x6 z : Int} {ux7 : js_v} : js_J E e 232 145 [(2, 83), (0, x1), (0, x2), (0, x3), (0, x4), (0, x5), (0, x6), ux7] [(0, z)] ρ = js_r E (0, 0) ρ := by
  rw [b_232_145, if_pos (rx_F_9 h)]
theorem r_232_250F (h : rx_F ρ) (he : 5 ≤ e) {x1 x2 x3 x4 x5 : Int} {ux6 ux7 : js_v} (h1 : 0 ≤ x1 ∧ x1 < 400) : js_J E e 232 250 [(2, 83), (0, x1), (0, x2), (0, x3), (0, x4), (0, x5), ux6, ux7] [] ρ = js_r E (0, 0) (js_up ρ 83 10 (ρ 83 10 - 1)) := by
  rw [b_232_250, k_232_253 (by omega) (r_leaveF h (by omega) (by decide) (by decide)), b_232_256, js_w_of (x := x1) (by omega) (by omega), if_pos h1, k_232_283 (by omega) (r_nodeF (rx_F_up h (by decide) (by decide))), b_232_286]
theorem r_232_78F (h : rx_F ρ) (he : 5 ≤ e) {x1 x2 x3 x4 x5 : Int} {ux6 ux7 : js_v} (h1 : 0 ≤ x1 ∧ x1 < 400) : js_J E e 232 78 [(2, 83), (0, x1), (0, x2), (0, x3), (0, x4), (0, x5), ux6, ux7] [] ρ = js_r E (0, 0) (js_up ρ 83 10 (ρ 83 10 - 1)) := by
  have n9 : ¬ js_w (ρ 83 9) = 0 := by have := rx_F_9 h; omega
  rw [b_232_78, if_neg n9, b_232_223, if_neg n9, r_232_250F h he h1]
/-- a SYMBOL by its number -/
theorem c_symAt (hb : b = 0 ∨ b = 25) {s : Int} (h0 : 0 ≤ s) (h1 : s < σ (7 + b) 1) (h2 : σ (7 + b) 1 ≤ 400) : js_J E d 67 0 [(2, 7 + b), (0, s)] [] σ = js_r E (2, σ (19 + b) s) σ := by
  rw [b_67_0 hb, js_w_of (x := s) (by omega) (by omega), js_w_of (x := σ (7 + b) 1) (by omega) (by omega), if_neg (by omega), if_pos h1, if_pos (by omega), if_pos (by omega)]
/-- LOAD of a TEMP, STORE of a parameter -/
theorem c_pass (hb : b = 0 ∨ b = 25) (hz : cz_R σ b) (hz2 : σ (8 + b) 6 + 2 < 100000000) (hd : 5 ≤ d) {t x : Int} (ht : 0 ≤ t ∧ t < 1024) (hx : js_desc E.1 σ x = some (0, 11, js_sym)) (h1 : -1 ≤ σ x 11) (h2 : σ x 11 < 1000) (hge : 137 ≤ x) : ∃ (σ1 σ' : js_S), js_J E d 71 0 [(2, 8 + b), (0, t), (2, x), (9, 0)] [] σ = js_r0 E σ' ∧ em_R b σ σ1 1 t 0 (σ (17 + b) t) (σ (18 + b) t) (2 * σ (8 + b) 8 + 2) ∧ em_R b σ1 σ' 2 (σ1 x 5) 0 1 0 (sh_P (σ1 x 11)) := by
  obtain ⟨σ1, e1, h3⟩ := c_put (E := E) (d := d - 1) hb hz (by omega) (x1 := 1) (x2 := t) (x3 := 0) (x4 := σ (17 + b) t) (x5 := σ (18 + b) t) (x6 := 2 * σ (8 + b) 8 + 2)
  have kO := h3.2.2.2
  have s1 : ∀ k : Int, σ1 x k = σ x k := fun k => kO _ _ (by omega) (by omega)
  have hx1 : js_desc E.1 σ1 x = some (0, 11, js_sym) := js_desc_mono hx (by rw [kO _ _ (by omega) (by omega)]; exact Int.le_refl _) (fun _ => s1 _)
  have hz1 : cz_R σ1 b := cz_em hz (by omega) h3
  obtain ⟨σ', e2, h4⟩ := c_put (E := E) (d := d - 1) hb hz1 (by omega) (x1 := 2) (x2 := σ1 x 5) (x3 := 0) (x4 := 1) (x5 := 0) (x6 := sh_P (σ1 x 11))
  refine ⟨σ1, σ', ?_, h3, h4⟩
  rw [b_71_0, js_w_of (x := t) (by omega) (by omega), if_neg (by omega), if_pos ht.2, b_71_16 hb, if_neg (show ¬ js_w 1 = 0 by decide), js_w_of (x := t) (by omega) (by omega), if_pos ht, b_71_35 hb, if_neg (show ¬ js_w 1 = 0 by decide), js_w_of (x := t) (by omega) (by omega), if_pos ht, b_71_49, k_71_50 hb (by omega) (b_70_0 hb), k_71_53 hb (by omega) e1, b_71_56 hx1, k_71_66 (by omega) (c_homeOf hx1 (by rw [s1]; exact h1) (by rw [s1]; exact h2)), k_71_69 hb (by omega) e2, b_71_72]
/-- what passing a chain has done -/
def ps_R (b : Int) (σ σ' : js_S) (s t : Int) (r : tr_T) : Prop := σ' (8 + b) 6 = σ (8 + b) 6 + 2 * xt_na r ∧ σ' (8 + b) 7 = min 400000 (σ (8 + b) 7 + 2 * xt_na r) ∧ (σ' (8 + b) 6 ≤ 8192 → xt_ps (ci_P σ' b (σ (8 + b) 8)) r s t (σ (8 + b) 6)) ∧ (∀ a k : Int, ¬ (a = 8 + b ∧ (k = 6 ∨ k = 7)) → ¬ (9 + b ≤ a ∧ a ≤ 14 + b ∧ σ (8 + b) 6 ≤ k) → σ' a k = σ a k)
theorem c_passes (hb : b = 0 ∨ b = 25) {i len t0 x2 x3 x5 x6 : Int} (hd : 6 ≤ d) (hi : 0 ≤ i ∧ i < ρ 83 11 ∧ i + len < ρ 83 11) (hl : 0 ≤ len ∧ len ≤ 8) (ht : 0 ≤ t0 ∧ t0 + len ≤ 1024) : ∀ (r : tr_T) (σ : js_S) (k : Int) (ux8 : js_v), xs_R E b F B X σ ρ → σ (σ (19 + b) i) 6 = len → cz_R σ b → σ (8 + b) 6 + 2 * xt_na r < 100000000 → 0 ≤ k → k + xt_na r = len → tl_P σ b r (t0 + k) → ∃ (σ' : js_S) (ux : js_v), js_J E d 66 265 [(2, 23 + b), (2, σ (19 + b) i), (0, x2), (0, x3), (0, t0), (0, x5), (0, x6), (0, k), ux8] [] σ = js_J E d 66 331 [(2, 23 + b), (2, σ (19 + b) i), (0, x2), (0, x3), (0, t0), (0, x5), (0, x6), (0, len), ux] [(2, σ (19 + b) i), (2, 8 + b)] (js_up σ' (8 + b) 10 t0) ∧ ps_R b σ σ' (i + 1 + k) (t0 + k) r
  | .leaf, σ, k, ux8, hx, h6, hz, hz2, hk, hkl, htl => by
    have n0 : xt_na .leaf = 0 := rfl
    rw [n0] at hkl
    have hk' : k = len := by omega
    subst hk'
    have hsym := (hx.1.2.2.2.2.2.1 i hi.1 hi.2.1).1
    unfold cz_R at hz
    refine ⟨σ, ux8, ?_, by rw [n0]; omega, by rw [n0]; omega, fun _ => trivial, fun _ _ _ _ => rfl⟩
    rw [b_66_265 hsym hb, h6, if_neg (show ¬ js_w k < js_w k by omega)]
  | .inner z dd v l r, σ, k, ux8, hx, h6, hz, hz2, hk, hkl, htl => by
    have n1 : xt_na (.inner z dd v l r) = 1 + xt_na r := rfl
    have nr := xt_na_0 r
    rw [n1] at hkl hz2
    have h400 := hx.1.1.2.1
    have told := hx.1.2.2.2.2.1
    have hN := hx.1.2.2.2.2.2.1 i hi.1 hi.2.1
    have hsym := hN.1
    have hge := js_sym_ge hsym
    have hP := hx.1.2.2.2.2.2.1 (i + 1 + k) (by omega) (by omega)
    have hgp := js_sym_ge hP.1
    have hu := hx.2.2.2.1 (i + 1 + k) (by omega) (by omega)
    obtain ⟨σ1, σ2, e2, m1, m2⟩ := c_pass (E := E) (d := d - 1) (σ := σ) (t := t0 + k) (x := σ (19 + b) (i + 1 + k)) hb hz (by omega) (by omega) (by omega) hP.1 hu.1 hu.2.1 hgp
    have kO1 := m1.2.2.2
    have kO2 := m2.2.2.2
    have c61 := m1.1
    have c62 := m2.1
    have F01 : ∀ t p : Int, ef_R b (σ (8 + b) 6) t p σ σ1 := fun t p => ef_R_em m1 (Int.le_refl _)
    have F12 : ∀ t p : Int, ef_R b (σ (8 + b) 6 + 1) t p σ1 σ2 := fun t p => ef_R_em m2 (by omega)
    have F02 : ∀ t p : Int, ef_R b (σ (8 + b) 6) t p σ σ2 := fun t p => ef_R_trans (F01 t p) (ef_R_mono (F12 t p) (by omega) (Int.le_refl _) (Int.le_refl _))
    have hx1 := xs_R_ef hb hx (F01 0 0) (eg_R_tf (N := 0) (fun _ _ _ => rfl) : eg_R 0 ρ ρ)
    have hx2 := xs_R_ef hb hx (F02 0 0) (eg_R_tf (N := 0) (fun _ _ _ => rfl) : eg_R 0 ρ ρ)
    have e19 : ∀ s : Int, σ2 (19 + b) s = σ (19 + b) s := fun s => F02 0 0 _ _ (by unfold ef_D; omega)
    have e19' : ∀ s : Int, σ1 (19 + b) s = σ (19 + b) s := fun s => F01 0 0 _ _ (by unfold ef_D; omega)
    have h62 : σ2 (σ2 (19 + b) i) 6 = len := by rw [e19, F02 0 0 _ _ (by unfold ef_D; omega)]; exact h6
    have hz1 : cz_R σ1 b := cz_em hz (by omega) m1
    have hzz : cz_R σ2 b := cz_em hz1 (by omega) m2
    have u8 : σ2 (8 + b) 8 = σ (8 + b) 8 := F02 0 0 _ _ (by unfold ef_D; omega)
    have htl2 : tl_P σ2 b r (t0 + k + 1) := tl_of r _ htl.2.2 (fun a q g1 g2 g3 => by rw [kO2 _ _ (by omega) (by omega), kO1 _ _ (by omega) (by omega)])
    obtain ⟨σ', ux, e3, p6, p7, pc, pO⟩ := c_passes hb hd hi hl ht r σ2 (k + 1) (2, σ (19 + b) (i + 1 + k)) hx2 h62 hzz (by omega) (by omega) (by omega) (by rw [← Int.add_assoc]; exact htl2)
    rw [e19] at e3
    have e0 : σ (σ (19 + b) i) 0 = i := hN.2.1
    have hidx : σ (σ (19 + b) i) 0 + 1 + k = i + 1 + k := by rw [e0]
    refine ⟨σ', ux, ?_, by rw [n1]; omega, ?_, fun hs => ?_, fun a q g1 g2 => ?_⟩
    · rw [b_66_265 hsym hb, h6, js_w_of (x := k) (by omega) (by omega), js_w_of (x := len) (by omega) (by omega), if_pos (show k < len by omega), hidx, k_66_287 hb (by omega) (c_symAt hb (by omega) (by rw [told]; omega) (by omega)), b_66_290, if_neg (show ¬ σ (19 + b) (i + 1 + k) < 0 by omega), b_66_297 hb, k_66_308 hb (by omega) e2, b_66_311, e3]
    · have a7 := m1.2.1
      have b7 := m2.2.1
      rw [n1, p7, b7, a7]
      unfold cz_R at hz
      omega
    · have F2z : ef_R b (σ2 (8 + b) 6) 0 0 σ2 σ' := fun a q g => pO a q (fun hh => g (ef_D8 ⟨hh.1, by omega⟩)) (fun hh => g (ef_D9 ⟨hh.1, hh.2.1, hh.2.2⟩))
      have F1z : ef_R b (σ (8 + b) 6 + 1) 0 0 σ1 σ' := ef_R_trans (F12 0 0) (ef_R_mono F2z (by omega) (Int.le_refl _) (Int.le_refl _))
      have hg1 := xs_hg hx1
      have hg2 := xs_hg hx2
      have i1 := em_ci2 (u := σ (8 + b) 8) m1 (by omega)
      rw [htl.1, htl.2.1] at i1
      have m2' := m2
      rw [show σ1 (σ (19 + b) (i + 1 + k)) 5 = σ1 (σ1 (19 + b) (i + 1 + k)) 5 + 0 by rw [e19', Int.add_zero], show σ1 (σ (19 + b) (i + 1 + k)) 11 = σ1 (σ1 (19 + b) (i + 1 + k)) 11 by rw [e19']] at m2'
      have i2 := em_ci1 (u := σ (8 + b) 8) (x := i + 1 + k) (y := 0) hb m2' (by omega) (by omega) (by rw [hx1.1.2.2.2.2.1]; omega) (by rw [e19']; exact hgp)
      rw [c61] at i2
      have i3 := pc hs
      rw [u8, c62, c61] at i3
      refine ⟨ci_ef hb F1z hg1 (by omega) i1, ci_ef hb F2z hg2 (by omega) i2, ?_⟩
      rw [show σ (8 + b) 6 + 1 + 1 = σ (8 + b) 6 + 2 by omega, show i + 1 + (k + 1) = i + 1 + k + 1 by omega, show t0 + (k + 1) = t0 + k + 1 by omega] at i3
      exact i3
    · rw [pO a q g1 (by omega), kO2 _ _ (by omega) (by omega), kO1 _ _ (by omega) (by omega)]
end PA
