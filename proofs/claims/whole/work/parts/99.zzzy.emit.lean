/-! part 99.zzzy: the reference emits -/
/-- instruction i of the reference -/
def ri_P (ρ : js_S) (i : Int) (I : xt_I) : Prop := ρ 111 i = I.1 ∧ ρ 112 i = (if I.2.1 = 0 then I.2.2.1 else if I.2.1 = 1 then ρ 90 I.2.2.1 + I.2.2.2.1 else if I.2.1 = 2 then ρ 83 53 + I.2.2.1 else ρ 90 I.2.2.1) ∧ ρ 113 i = I.2.2.2.2.1 ∧ ρ 114 i = I.2.2.2.2.2.1 ∧ ρ 115 i = I.2.2.2.2.2.2
/-- what making code from n on, with the spine from q on, leaves alone -/
def gx_R (n q : Int) (ρ ρ' : js_S) : Prop := ∀ a i : Int, ¬ (a = 83 ∧ (i = 49 ∨ i = 54)) → ¬ (a = 110 ∧ q ≤ i) → ¬ (111 ≤ a ∧ a ≤ 115 ∧ n ≤ i) → ρ' a i = ρ a i
theorem gx_refl (n q : Int) (ρ : js_S) : gx_R n q ρ ρ := fun _ _ _ _ _ => rfl
theorem gx_trans {n q n' q' : Int} {ρ ρ' ρ'' : js_S} (h : gx_R n q ρ ρ') (h2 : gx_R n' q' ρ' ρ'') (hn : n ≤ n') (hq : q ≤ q') : gx_R n q ρ ρ'' := fun a i g1 g2 g3 => (h2 a i g1 (by omega) (by omega)).trans (h a i g1 g2 g3)
theorem ri_gx {n q i : Int} {ρ ρ' : js_S} {I : xt_I} (h : gx_R n q ρ ρ') (hi : i < n) (hI : ri_P ρ i I) : ri_P ρ' i I := by
  obtain ⟨a1, a2, a3, a4, a5⟩ := hI
  have e : ∀ a : Int, 111 ≤ a → a ≤ 115 → ρ' a i = ρ a i := fun a g1 g2 => h a i (by omega) (by omega) (by omega)
  have e90 : ∀ x : Int, ρ' 90 x = ρ 90 x := fun x => h _ _ (by omega) (by omega) (by omega)
  have e53 : ρ' 83 53 = ρ 83 53 := h _ _ (by omega) (by omega) (by omega)
  unfold ri_P
  rw [e 111 (by decide) (by decide), e 112 (by decide) (by decide), e 113 (by decide) (by decide), e 114 (by decide) (by decide), e 115 (by decide) (by decide), e90, e53]
  exact ⟨a1, a2, a3, a4, a5⟩
theorem xr_gx {n q t p : Int} {ρ ρ' : js_S} {e : tr_T} (h : gx_R n q ρ ρ') (hp : p + xt_ln e ≤ n) (hc : xt_cd (ri_P ρ) e t p) : xt_cd (ri_P ρ') e t p := xt_cd_of e t p (fun i I g1 g2 hI => ri_gx h (by omega) hI) hc
/-- one instruction was emitted -/
def gm_R (ρ ρ' : js_S) (op f s lo hi : Int) : Prop := ρ' 83 49 = ρ 83 49 + 1 ∧ (ρ 83 49 < 8192 → ρ' 111 (ρ 83 49) = op ∧ ρ' 112 (ρ 83 49) = f ∧ ρ' 113 (ρ 83 49) = s ∧ ρ' 114 (ρ 83 49) = lo ∧ ρ' 115 (ρ 83 49) = hi) ∧ ∀ a i : Int, ¬ (a = 83 ∧ i = 49) → ¬ (111 ≤ a ∧ a ≤ 115 ∧ i = ρ 83 49) → ρ' a i = ρ a i
theorem gm_gx {ρ ρ' : js_S} {op f s lo hi q : Int} (h : gm_R ρ ρ' op f s lo hi) : gx_R (ρ 83 49) q ρ ρ' := fun a i g1 g2 g3 => h.2.2 a i (by omega) (by omega)
theorem gm_ri {ρ ρ' : js_S} {op f s lo hi k x y : Int} (h : gm_R ρ ρ' op f s lo hi) (hs : ρ 83 49 < 8192) (hf : f = (if k = 0 then x else if k = 1 then ρ 90 x + y else if k = 2 then ρ 83 53 + x else ρ 90 x)) : ri_P ρ' (ρ 83 49) (op, k, x, y, s, lo, hi) := by
  obtain ⟨a1, a2, a3, a4, a5⟩ := h.2.1 hs
  have e90 : ∀ x : Int, ρ' 90 x = ρ 90 x := fun x => h.2.2 _ _ (by omega) (by omega)
  have e53 : ρ' 83 53 = ρ 83 53 := h.2.2 _ _ (by omega) (by omega)
  refine ⟨a1, ?_, a3, a4, a5⟩
  show ρ' 112 (ρ 83 49) = (if k = 0 then x else if k = 1 then ρ' 90 x + y else if k = 2 then ρ' 83 53 + x else ρ' 90 x)
  rw [a2, hf, e90, e53]
section GE
variable {E : js_E} {f : Nat} {ρ : js_S}
theorem r_emit {x1 x2 x3 x4 x6 : Int} (h : 0 ≤ ρ 83 49 ∧ ρ 83 49 ≤ 200000000) : ∃ ρ' : js_S, js_J E f 250 0 [(2, 83), (0, x1), (0, x2), (0, x3), (1, x4), (9, 0), (1, x6), (9, 0)] [] ρ = js_r E (0, ρ 83 49) ρ' ∧ gm_R ρ ρ' x1 x2 x3 x4 x6 := by
  have w : js_w (ρ 83 49) = ρ 83 49 := js_w_of (by omega) (by omega)
  have ev : ∀ x : Int, x + 1 - 1 = x := fun x => by omega
  rw [b_250_0, w]
  by_cases q : ρ 83 49 < 8192
  · rw [if_pos q, if_pos (show 0 ≤ ρ 83 49 ∧ ρ 83 49 < 8192 from ⟨h.1, q⟩), b_250_62]
    have u : ∀ a i : Int, ¬ (111 ≤ a ∧ a ≤ 115 ∧ i = ρ 83 49) → js_up (js_up (js_up (js_up (js_up ρ 111 (ρ 83 49) x1) 112 (ρ 83 49) x2) 113 (ρ 83 49) x3) 114 (ρ 83 49) x4) 115 (ρ 83 49) x6 a i = ρ a i := fun a i g => by rw [js_up_ne _ (by omega), js_up_ne _ (by omega), js_up_ne _ (by omega), js_up_ne _ (by omega), js_up_ne _ (by omega)]
    have u1 : js_up (js_up (js_up (js_up (js_up ρ 111 (ρ 83 49) x1) 112 (ρ 83 49) x2) 113 (ρ 83 49) x3) 114 (ρ 83 49) x4) 115 (ρ 83 49) x6 111 (ρ 83 49) = x1 := by rw [js_up_na _ (by decide), js_up_na _ (by decide), js_up_na _ (by decide), js_up_na _ (by decide), js_up_same]
    have u2 : js_up (js_up (js_up (js_up (js_up ρ 111 (ρ 83 49) x1) 112 (ρ 83 49) x2) 113 (ρ 83 49) x3) 114 (ρ 83 49) x4) 115 (ρ 83 49) x6 112 (ρ 83 49) = x2 := by rw [js_up_na _ (by decide), js_up_na _ (by decide), js_up_na _ (by decide), js_up_same]
    have u3 : js_up (js_up (js_up (js_up (js_up ρ 111 (ρ 83 49) x1) 112 (ρ 83 49) x2) 113 (ρ 83 49) x3) 114 (ρ 83 49) x4) 115 (ρ 83 49) x6 113 (ρ 83 49) = x3 := by rw [js_up_na _ (by decide), js_up_na _ (by decide), js_up_same]
    have u4 : js_up (js_up (js_up (js_up (js_up ρ 111 (ρ 83 49) x1) 112 (ρ 83 49) x2) 113 (ρ 83 49) x3) 114 (ρ 83 49) x4) 115 (ρ 83 49) x6 114 (ρ 83 49) = x4 := by rw [js_up_na _ (by decide), js_up_same]
    have u5 : js_up (js_up (js_up (js_up (js_up ρ 111 (ρ 83 49) x1) 112 (ρ 83 49) x2) 113 (ρ 83 49) x3) 114 (ρ 83 49) x4) 115 (ρ 83 49) x6 115 (ρ 83 49) = x6 := js_up_same _ _ _ _
    have u49 := u 83 49 (by omega)
    generalize js_up (js_up (js_up (js_up (js_up ρ 111 (ρ 83 49) x1) 112 (ρ 83 49) x2) 113 (ρ 83 49) x3) 114 (ρ 83 49) x4) 115 (ρ 83 49) x6 = ρ1 at u u1 u2 u3 u4 u5 u49 ⊢
    rw [u49, ev]
    have k : ∀ a : Int, a ≠ 83 → js_up ρ1 83 49 (ρ 83 49 + 1) a (ρ 83 49) = ρ1 a (ρ 83 49) := fun a g => js_up_ne _ (by omega)
    exact ⟨_, rfl, js_up_same _ _ _ _, fun _ => ⟨by rw [k _ (by decide)]; exact u1, by rw [k _ (by decide)]; exact u2, by rw [k _ (by decide)]; exact u3, by rw [k _ (by decide)]; exact u4, by rw [k _ (by decide)]; exact u5⟩, fun a i g1 g2 => by rw [js_up_ne _ g1, u a i g2]⟩
  · rw [if_neg q, b_250_62, ev]
    exact ⟨_, rfl, js_up_same _ _ _ _, fun hh => absurd hh q, fun a i g1 g2 => js_up_ne _ g1⟩
theorem r_plain {x1 x2 x3 : Int} (hf : 1 ≤ f) (h : 0 ≤ ρ 83 49 ∧ ρ 83 49 ≤ 200000000) : ∃ ρ' : js_S, js_J E f 251 0 [(2, 83), (0, x1), (0, x2), (0, x3)] [] ρ = js_r E (0, ρ 83 49) ρ' ∧ gm_R ρ ρ' x1 x2 x3 1 0 := by
  obtain ⟨ρ', e1, h1⟩ := r_emit (E := E) (f := f - 1) (ρ := ρ) (x1 := x1) (x2 := x2) (x3 := x3) (x4 := 1) (x6 := 0) h
  exact ⟨ρ', by rw [b_251_0, k_251_6 hf e1, b_251_9], h1⟩
/-- a jump lands -/
theorem r_land {i : Int} (h : 0 ≤ i ∧ i ≤ 200000000) : ∃ ρ' : js_S, js_J E f 252 0 [(2, 83), (0, i)] [] ρ = js_r0 E ρ' ∧ (i < 8192 → ρ' 112 i = ρ 83 49) ∧ ∀ a k : Int, ¬ (a = 112 ∧ k = i) → ρ' a k = ρ a k := by
  have w : js_w i = i := js_w_of (by omega) (by omega)
  rw [b_252_0, w]
  by_cases q : i < 8192
  · rw [if_pos q, if_pos (show 0 ≤ i ∧ i < 8192 from ⟨h.1, q⟩)]
    exact ⟨_, rfl, fun _ => js_up_same _ _ _ _, fun a k g => js_up_ne _ g⟩
  · rw [if_neg q]
    exact ⟨_, rfl, fun hh => absurd hh q, fun _ _ _ => rfl⟩
theorem r_temp {t : Int} (ht : 0 ≤ t ∧ t ≤ 100000) (h : 0 ≤ ρ 83 54 ∧ ρ 83 54 ≤ 100000) : ∃ ρ' : js_S, js_J E f 255 0 [(2, 83), (0, t)] [] ρ = js_r E (0, ρ 83 53 + t) ρ' ∧ ρ' 83 54 = max (ρ 83 54) (t + 1) ∧ ∀ a i : Int, ¬ (a = 83 ∧ i = 54) → ρ' a i = ρ a i := by
  have w : js_w t = t := js_w_of (by omega) (by omega)
  have w2 : js_w (ρ 83 54) = ρ 83 54 := js_w_of (by omega) (by omega)
  rw [b_255_0, w, w2]
  by_cases q : t < ρ 83 54
  · rw [if_pos q, b_255_15]
    exact ⟨ρ, rfl, by omega, fun _ _ _ => rfl⟩
  · rw [if_neg q, b_255_15, js_up_ni _ (by decide)]
    exact ⟨_, rfl, by rw [js_up_same]; omega, fun a i g => js_up_ne _ g⟩
theorem r_bound {x : Int} (h : 0 ≤ x ∧ x < 9000000000000000000) : js_J E f 253 0 [(1, x), (9, 0)] [] ρ = js_r E (1, min 1000000000000000 x) ρ := by
  rw [b_253_0, js_l_of (x := x) (by omega) (by omega)]
  by_cases q : 1000000000000000 < x
  · rw [if_pos q, show min 1000000000000000 x = 1000000000000000 by omega]
  · rw [if_neg q, show min 1000000000000000 x = x by omega]
/-- load a TEMP with the range of node n -/
theorem r_load {t n lo hi : Int} (hf : 1 ≤ f) (hn : 0 ≤ n ∧ n < 66000) (hlo : ρ 105 n = lo) (hhi : ρ 106 n = hi) (hr : (-2147483648 ≤ lo ∧ lo < 2147483648) ∧ -2147483648 ≤ hi ∧ hi < 2147483648) (ht : 0 ≤ t ∧ t ≤ 100000) (h4 : 0 ≤ ρ 83 54 ∧ ρ 83 54 ≤ 100000) (h : 0 ≤ ρ 83 49 ∧ ρ 83 49 ≤ 200000000) : ∃ ρ1 ρ' : js_S, js_J E f 256 0 [(2, 83), (0, t), (0, n)] [] ρ = js_r0 E ρ' ∧ (ρ1 83 54 = max (ρ 83 54) (t + 1) ∧ ∀ a i : Int, ¬ (a = 83 ∧ i = 54) → ρ1 a i = ρ a i) ∧ gm_R ρ1 ρ' 1 (ρ 83 53 + t) 0 lo hi := by
  have w : js_w n = n := js_w_of (by omega) (by omega)
  obtain ⟨ρ1, e1, h1, f1⟩ := r_temp (E := E) (f := f - 1) (ρ := ρ) ht h4
  have e49 : ρ1 83 49 = ρ 83 49 := f1 _ _ (by omega)
  have e105 : ρ1 105 n = lo := by rw [f1 _ _ (by omega)]; exact hlo
  have e106 : ρ1 106 n = hi := by rw [f1 _ _ (by omega)]; exact hhi
  obtain ⟨ρ2, e2, h2⟩ := r_emit (E := E) (f := f - 1) (ρ := ρ1) (x1 := 1) (x2 := ρ 83 53 + t) (x3 := 0) (x4 := lo) (x6 := hi) (by rw [e49]; exact h)
  refine ⟨ρ1, ρ2, ?_, ⟨h1, f1⟩, h2⟩
  rw [b_256_0, k_256_4 hf e1, b_256_7, w, if_pos hn, e105, e106, js_w_of hr.1.1 hr.1.2, js_w_of hr.2.1 hr.2.2, k_256_22 hf e2, b_256_25]
end GE
