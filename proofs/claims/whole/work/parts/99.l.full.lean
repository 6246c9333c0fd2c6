/-! part 99.l: a name that there is no room for, in step (tooMany) -/
def rx_tm (ρ : js_S) (p : Int) : Int := if ρ 83 5 ≠ 2 then 1 else if 0 ≤ rx_sy ρ ∨ (0 ≤ p ∧ rx_any ρ (ρ 83 11 - p).toNat p = true) then 2 else 10
section TM
variable {E : js_E} {d e : Nat} {σ ρ : js_S} {b : Int}
theorem r_tm_l (h : rx_ok ρ) (hs : rs_ok ρ) (he : 1 ≤ e) {x1 : Int} : ∀ (n : Nat) (s : Int) (t : Bool), (n : Int) = ρ 83 11 - s → 0 ≤ s → js_J E e 205 33 [(2, 83), (0, x1), (0, rx_b t), (0, s)] [] ρ = js_J E e 205 69 [(2, 83), (0, x1), (0, rx_b (t || rx_any ρ n s)), (0, ρ 83 11)] [] ρ
  | 0, s, t, hn, h0 => by
    have h4 := hs.2.1
    have hsx : s = ρ 83 11 := by push_cast at hn; omega
    rw [b_205_33, js_w_of (x := s) (by omega) (by omega), js_w_of (x := ρ 83 11) (by omega) (by omega), if_neg (by omega), if_neg (by omega), hsx]
    simp [rx_any]
  | n + 1, s, t, hn, h0 => by
    have h4 := hs.2.1
    have hlt : s < ρ 83 11 := by push_cast at hn; omega
    have o3 := h.2.2.2.2.2.1
    have o4 := h.1.2.1
    have ih := fun t' => r_tm_l h hs he (x1 := x1) n (s + 1) t' (by push_cast at hn; omega) (by omega)
    rw [b_205_33, js_w_of (x := s) (by omega) (by omega), js_w_of (x := ρ 83 11) (by omega) (by omega), if_neg (by omega), if_pos hlt]
    cases t
    · rw [if_pos (show js_w (rx_b false) = 0 from rfl), k_205_51 he (r_isNamed hs h.2.1 h.2.2.2.1 h.2.2.2.2.1 (by omega) h0 (by omega)), b_205_54]
      cases hnm : rx_nm ρ s
      · rw [if_pos (show js_w (rx_b false) = 0 from rfl), b_205_62]
        have := ih false
        simp only [rx_any, hnm, Bool.false_or] at this ⊢
        exact this
      · rw [if_neg (show ¬ js_w (rx_b true) = 0 by decide), b_205_57, b_205_62]
        have := ih true
        simp only [rx_any, hnm, Bool.false_or, Bool.true_or] at this ⊢
        exact this
    · rw [if_neg (show ¬ js_w (rx_b true) = 0 by decide), b_205_57, b_205_62]
      have := ih true
      simp only [Bool.true_or] at this ⊢
      exact this
theorem r_tooMany (h : rx_ok ρ) (hs : rs_ok ρ) (he : 2 ≤ e) {p : Int} (hp : -1 ≤ p) (hp2 : p ≤ ρ 83 11) : js_J E e 205 0 [(2, 83), (0, p), (9, 0), (9, 0)] [] ρ = js_r0 E (rx_bad ρ (rx_tm ρ p) (ρ 83 6)) := by
  have h4 := hs.2.1
  have o9 := h.2.2.1
  have o3 := h.2.2.2.2.2.1
  have o4 := h.1.2.1
  have o5 := h.2.2.2.2.2.2.1
  have o6 := h.2.2.2.2.2.2.2.1
  have hin := rx_sy_in hs
  have fin : ∀ (t : Bool) (x3 : Int), js_J E e 205 69 [(2, 83), (0, p), (0, rx_b t), (0, x3)] [] ρ = js_r0 E (rx_bad ρ (if t = true then 2 else 10) (ρ 83 6)) := fun t x3 => by
    rw [b_205_69]
    cases t
    · rw [if_pos (show js_w (rx_b false) = 0 from rfl), b_205_80, k_205_84 (by omega) (r_bad (by omega) (by omega)), b_205_87, if_neg (show ¬ false = true by decide)]
    · rw [if_neg (show ¬ js_w (rx_b true) = 0 by decide), b_205_80, k_205_84 (by omega) (r_bad (by omega) (by omega)), b_205_87, if_pos (show true = true from rfl)]
  have loop : ∀ t : Bool, js_J E e 205 33 [(2, 83), (0, p), (0, rx_b t), (0, p)] [] ρ = js_r0 E (rx_bad ρ (if t = true ∨ (0 ≤ p ∧ rx_any ρ (ρ 83 11 - p).toNat p = true) then 2 else 10) (ρ 83 6)) := fun t => by
    by_cases q : 0 ≤ p
    · rw [r_tm_l h hs (by omega) (ρ 83 11 - p).toNat p t (by omega) q, fin]
      cases t
      · by_cases q2 : rx_any ρ (ρ 83 11 - p).toNat p = true
        · rw [if_pos (show (false || rx_any ρ (ρ 83 11 - p).toNat p) = true by simpa using q2), if_pos (Or.inr ⟨q, q2⟩)]
        · rw [if_neg (show ¬ (false || rx_any ρ (ρ 83 11 - p).toNat p) = true by simpa using q2), if_neg (show ¬ (false = true ∨ (0 ≤ p ∧ rx_any ρ (ρ 83 11 - p).toNat p = true)) from fun hh => hh.elim (fun h => absurd h (by decide)) (fun h => q2 h.2))]
      · rw [if_pos (show (true || rx_any ρ (ρ 83 11 - p).toNat p) = true from rfl), if_pos (Or.inl rfl)]
    · rw [b_205_33, js_w_of (x := p) (by omega) (by omega), if_pos (by omega), fin]
      cases t
      · rw [if_neg (show ¬ false = true by decide), if_neg (show ¬ (false = true ∨ (0 ≤ p ∧ rx_any ρ (ρ 83 11 - p).toNat p = true)) from fun hh => hh.elim (fun h => absurd h (by decide)) (fun h => q h.1))]
      · rw [if_pos (show true = true from rfl), if_pos (Or.inl rfl)]
  rw [b_205_0, js_w_of (x := ρ 83 5) (by omega) (by omega)]
  unfold rx_tm
  by_cases q1 : ρ 83 5 = 2
  · rw [if_pos q1, if_neg (show ¬ ρ 83 5 ≠ 2 from fun hh => hh q1), k_205_19 (by omega) (r_find hs h.2.1 h.2.2.2.1 h.2.2.2.2.1 (by omega) o5 o6 (by omega)), b_205_22, js_w_of (x := rx_sy ρ) (by omega) (by omega)]
    by_cases q2 : rx_sy ρ < 0
    · have := loop false
      rw [if_pos q2, b_205_30]
      refine this.trans ?_
      by_cases q3 : 0 ≤ p ∧ rx_any ρ (ρ 83 11 - p).toNat p = true
      · rw [if_pos (Or.inr q3), if_pos (Or.inr q3)]
      · rw [if_neg (show ¬ (false = true ∨ (0 ≤ p ∧ rx_any ρ (ρ 83 11 - p).toNat p = true)) from fun hh => hh.elim (fun h => absurd h (by decide)) q3), if_neg (show ¬ (0 ≤ rx_sy ρ ∨ (0 ≤ p ∧ rx_any ρ (ρ 83 11 - p).toNat p = true)) from fun hh => hh.elim (fun h => by omega) q3)]
    · have := loop true
      rw [if_neg q2, b_205_30]
      refine this.trans ?_
      rw [if_pos (Or.inl rfl), if_pos (show 0 ≤ rx_sy ρ ∨ (0 ≤ p ∧ rx_any ρ (ρ 83 11 - p).toNat p = true) from Or.inl (by omega))]
  · rw [if_neg q1, if_pos q1, k_205_14 (by omega) (r_bad (by omega) (by omega)), b_205_17]
theorem y_tell_full {p q pp : Int} {X : Int → Prop} (hb : b = 0 ∨ b = 25) (hY : sy_Y E.1 σ ρ b p q X) {j : Nat} (hR : rd_R σ ρ j) (hd : 8 ≤ d) {k : Int} (hp : (pp = -1 ∧ p = q) ∨ (pp = p ∧ q = ρ 83 11 ∧ 0 ≤ p ∧ p ≤ q)) : js_J E d 35 0 [(2, 7 + b), (0, k), (0, 1), (2, 1), (9, 0), (9, 0)] [] σ = th_P E σ (rx_tm ρ pp + 16 * ρ 83 6) := by
  obtain ⟨hV, c7, c8⟩ := rd_V hR
  have m1 := tk_m_in hV
  have i2 : tk_m (ρ 83 5) = 2 ↔ ρ 83 5 = 2 := tk_m_inj hV (show tk_V 2 from Or.inr (Or.inl rfl))
  have hn := hY.2.2.1
  rw [b_35_0, c7, js_w_of (x := tk_m (ρ 83 5)) (by omega) (by omega)]
  unfold rx_tm
  by_cases q1 : ρ 83 5 = 2
  · have hfd := sy_found hY.1 q1 hp
    rw [if_pos (i2.mpr q1), if_neg (show ¬ ρ 83 5 ≠ 2 from fun hh => hh q1), b_35_17, k_35_19 hb (by omega) (y_find hb hY hR q1), b_35_22]
    by_cases q2 : 0 ≤ rx_sy (sy_S ρ p q)
    · have hin := rx_sy_in (rs_ok_S (p := p) (q := q) hY.1)
      have e11 : sy_S ρ p q 83 11 = ρ 83 11 := sy_S_o _ _ _ (by decide)
      rw [e11] at hin
      have hge := js_sym_ge (hY.2.2.2.2.2.1 (rx_sy (sy_S ρ p q)) (by omega) (by omega)).1
      rw [if_neg (show ¬ rx_sy (sy_S ρ p q) < 0 by omega), if_neg (by omega), b_35_25, kt_35_31 (by omega) (c_fail hn (by omega)), c8, if_pos (hfd.mp q2)]
      rfl
    · rw [if_pos (show rx_sy (sy_S ρ p q) < 0 by omega), if_pos (by decide), b_35_34 hb, if_neg (show ¬ js_w 1 = 0 by decide), b_35_48, kt_35_55 (by omega) (c_fail hn (by omega)), c8, if_neg (fun hh => q2 (hfd.mpr hh))]
      rfl
  · rw [if_neg (fun hh => q1 (i2.mp hh)), if_pos q1, kt_35_14 (by omega) (c_fail hn (by omega)), c8]
    rfl
end TM
