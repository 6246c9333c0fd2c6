/-! part 99.zzzzj: a row is set -/
def grw_P (p a k b lo hi : Int) (τ : js_S) : Prop := ri_P τ p (0, 0, b, 0, 0, lo, hi) ∧ ∀ j : Int, 0 ≤ j → j < k → ri_P τ (p + 1 + j) (2, 1, a, j, 0, 1, 0)
theorem grw_st {p a k b lo hi : Int} {τ τ' : js_S} (h : gyy_R p (p + (1 + k)) τ τ') (hk : 0 ≤ k) (hP : grw_P p a k b lo hi τ) : grw_P p a k b lo hi τ' := ⟨ri_gyy h (Int.le_refl _) (by omega) hP.1, fun j g1 g2 => ri_gyy h (by omega) (by omega) (hP.2 j g1 g2)⟩
section GJ
variable {E : js_E} {B : Int → Int} {S : Int → Prop} {Z K : Int → Int → Prop} {U : Int → Int → Int → Prop} {V : Int → Int → Int → Int → Prop} {ty lo hi a b c : Int} {l r : tr_T}
theorem row_loop {f : Nat} {ρ0 : js_S} {n t : Int} (hf : 2 ≤ f) (ha : 0 ≤ a ∧ a < 400) (hc : ρ0 91 a = c) (h49 : 0 ≤ ρ0 83 49 ∧ ρ0 83 49 + (1 + c) ≤ 100000000) (h54 : 0 ≤ ρ0 83 54) : ∀ (g : Nat) (k : Int) (ρ : js_S), (g : Int) + k = c → 0 ≤ k → gq_S ρ0 (1 + k) 0 (grw_P (ρ0 83 49) a k b lo hi) ρ → ∃ ρ' : js_S, js_J E f 247 273 [(2, 83), (0, n), (0, t), (0, a), (9, 0), (9, 0), (0, k)] [] ρ = js_r E (1, 1 + c) ρ' ∧ gq_S ρ0 (1 + c) 0 (grw_P (ρ0 83 49) a c b lo hi) ρ' := by
  intro g
  induction g with
  | zero =>
    intro k ρ hg hk h
    have ek : k = c := by omega
    subst ek
    have wa : js_w a = a := js_w_of (by omega) (by omega)
    have wk : js_w k = k := js_w_of (by omega) (by omega)
    have e91 : ρ 91 a = k := by rw [h.1.1 _ _ (by omega) (by omega) (by omega)]; exact hc
    refine ⟨ρ, ?_, h⟩
    rw [b_247_273, wa, if_pos ha, e91, wk, if_neg (Int.lt_irrefl _)]
  | succ g ih =>
    intro k ρ hg hk h
    push_cast at hg
    have wa : js_w a = a := js_w_of (by omega) (by omega)
    have wk : js_w k = k := js_w_of (by omega) (by omega)
    have wc : js_w c = c := js_w_of (by omega) (by omega)
    have e91 : ρ 91 a = c := by rw [h.1.1 _ _ (by omega) (by omega) (by omega)]; exact hc
    have b49 := h.1.2.1
    obtain ⟨ρ1, e1, h1⟩ := r_plain (E := E) (f := f - 1) (ρ := ρ) (x1 := 2) (x2 := ρ 90 a + k) (x3 := 0) (by omega) ⟨by omega, by omega⟩
    have s := gq_e (kd := 1) (x := a) (y := k) h (by omega) h1 (by rw [if_neg (by decide), if_pos rfl])
    have e : 1 + k + 1 = 1 + (k + 1) := by omega
    have s' : gq_S ρ0 (1 + (k + 1)) 0 (grw_P (ρ0 83 49) a (k + 1) b lo hi) ρ1 := by
      refine ⟨⟨s.1.1, by rw [← e]; exact s.1.2.1, s.1.2.2⟩, fun hs => ?_, fun τ τ' hy hP => grw_st hy (by omega) hP⟩
      obtain ⟨x1, x2⟩ := s.2.1 hs
      refine ⟨x1.1, fun j g1 g2 => ?_⟩
      by_cases q : j = k
      · rw [q]
        exact ri_at x2 (by omega)
      · exact x1.2 j g1 (by omega)
    obtain ⟨ρ', e2, h2⟩ := ih (k + 1) ρ1 (by omega) (by omega) s'
    refine ⟨ρ', ?_, h2⟩
    rw [b_247_273, wa, if_pos ha, e91, wk, wc, if_pos (show k < c by omega), k_247_296 (by omega) e1, b_247_299, e2]
theorem gst_22 : gst_P E B S Z K U V (tr_n 22 ty lo hi a b c l r) := by
  intro f ρ n t M N hp hf
  obtain ⟨hk, hn, ⟨hw, hg, hr⟩, h52, h49, h54, ht⟩ := hp
  rw [st_nd22] at hn
  rw [st_g22] at hg
  rw [st_w22] at hw
  rw [st_ln22] at h49
  have ed : st_dp (tr_n 22 ty lo hi a b c l r) = 8 := rfl
  rw [ed] at hf
  have mc : max 0 c = c := by omega
  rw [mc] at h49
  obtain ⟨n1, n2, n3, n7, n8⟩ := hn
  have hz := hk.1.2.1 a c hg.2.1
  obtain ⟨ha, hor, h87, hv, hlo, hhi⟩ := hk.2.2 a b lo hi hg.2.2
  have w : js_w n = n := js_w_of (by omega) (by omega)
  have wa : js_w a = a := js_w_of (by omega) (by omega)
  have wb : js_w b = b := js_w_of hv.1 hv.2
  have w87 : js_w (ρ 87 a) = ρ 87 a := js_w_of (by omega) (by omega)
  have hn6 : 0 ≤ n ∧ n < 66000 := by omega
  have s0 := gq_0 (ρ := ρ) h54.1
  obtain ⟨ρ1, e1, h1⟩ := r_emit (E := E) (f := f - 1) (ρ := ρ) (x1 := 0) (x2 := b) (x3 := 0) (x4 := lo) (x6 := hi) ⟨h49.1, by omega⟩
  have s1 := gq_e (kd := 0) (x := b) (y := 0) s0 (by omega) h1 (if_pos rfl).symm
  have s1' : gq_S ρ (1 + 0) 0 (grw_P (ρ 83 49) a 0 b lo hi) ρ1 := by
    refine ⟨⟨s1.1.1, by have := s1.1.2.1; omega, s1.1.2.2⟩, fun hs => ?_, fun τ τ' hy hP => grw_st hy (Int.le_refl _) hP⟩
    obtain ⟨_, x2⟩ := s1.2.1 hs
    exact ⟨ri_at x2 (by omega), fun j g1 g2 => absurd g2 (by omega)⟩
  obtain ⟨ρ2, e2, s2⟩ := row_loop (E := E) (f := f) (n := n) (t := t) (by omega) ha hz.2 ⟨h49.1, by omega⟩ h54.1 c.toNat 0 ρ1 (by omega) (Int.le_refl _) s1'
  have wc : js_w c = c := js_w_of (by omega) (by omega)
  refine ⟨ρ2, 1 + c, ?_, ⟨s2.1.1, by rw [st_ln22, mc]; exact s2.1.2.1, by rw [st_mt22]; exact s2.1.2.2, fun hs => ?_⟩, by rw [st_cn22, st_ln22, mc]; unfold gsc_P; omega⟩
  · rw [b_247_0, w, if_pos hn6, n3, n7, s_247_13_22 (by decide), b_247_205, w, if_pos hn6, wa, if_pos ha, w87, n8, wb]
    rcases hor with ⟨z0, zx, zy⟩ | ⟨z0, zx, zy⟩
    · rw [if_pos z0, b_247_240, wa, if_pos ha, w87, if_pos z0, w, if_pos hn6, n8, wb]
      rw [zx, zy] at e1
      rw [k_247_266 (by omega) e1, b_247_269, e2]
    · have wx : js_w (ρ 88 a) = ρ 88 a := js_w_of (by omega) (by omega)
      have wy : js_w (ρ 89 a) = ρ 89 a := js_w_of (by omega) (by omega)
      rw [if_neg z0, b_247_240, wa, if_pos ha, w87, if_neg z0, wx, wy]
      rw [zx, zy] at e1
      rw [k_247_266 (by omega) e1, b_247_269, e2]
  · rw [st_cd22]
    exact s2.2.1 hs
end GJ
