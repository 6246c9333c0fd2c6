/-! part 99.zn: a name is found in both, and what stands behind it suits -/
theorem ib_eq {p q : Prop} [Decidable p] [Decidable q] : js_w (if p then 1 else 0) = js_w (if q then 1 else 0) ↔ (p ↔ q) := by
  have w1 : js_w 1 = 1 := by decide
  have w0 : js_w 0 = 0 := by decide
  by_cases hp : p <;> by_cases hq : q
  · rw [if_pos hp, if_pos hq]
    exact ⟨fun _ => ⟨fun _ => hq, fun _ => hp⟩, fun _ => rfl⟩
  · rw [if_pos hp, if_neg hq, w1, w0]
    exact ⟨fun h => absurd h (by decide), fun h => absurd (h.mp hp) hq⟩
  · rw [if_neg hp, if_pos hq, w1, w0]
    exact ⟨fun h => absurd h (by decide), fun h => absurd (h.mpr hq) hp⟩
  · rw [if_neg hp, if_neg hq]
    exact ⟨fun _ => ⟨fun h => absurd h hp, fun h => absurd h hq⟩, fun _ => rfl⟩
theorem ib_eq2 {p : Prop} [Decidable p] {x : Int} (hx : x = 0 ∨ x = 1) : js_w (if p then 1 else 0) = js_w x ↔ (p ↔ x = 1) := by
  have e : x = if x = 1 then 1 else 0 := by
    rcases hx with h | h <;> rw [h] <;> decide
  have k := ib_eq (p := p) (q := x = 1)
  rw [← e] at k
  exact k
/-- kind and row flag suit the next token -/
def su_P (ρ : js_S) (i t : Int) : Prop := (t = 40 ↔ ρ 86 i = 4) ∧ (t = 91 ↔ ρ 92 i = 1)
section OX
variable {E : js_E} {d e : Nat} {b F : Int} {B : Int → Int} {X : Int → Prop} {σ ρ : js_S} {j : Nat}
theorem c_suit (hb : b = 0 ∨ b = 25) (hn : cx_n σ) (hd : 7 ≤ d) {x i p t : Int} (hs : js_desc E.1 σ x = some (0, 11, js_sym)) (h1 : σ x 1 = ρ 86 i) (h12 : σ x 12 = ρ 92 i) (k0 : 0 ≤ ρ 86 i ∧ ρ 86 i ≤ 9) (r0 : ρ 92 i = 0 ∨ ρ 92 i = 1) (ht : σ 1 1 = tk_m t) (hV : tk_V t) : (su_P ρ i t → js_J E d 65 0 [(2, 23 + b), (2, x), (0, p), (9, 0), (9, 0)] [] σ = js_r0 E σ) ∧ (¬ su_P ρ i t → js_J E d 65 0 [(2, 23 + b), (2, x), (0, p), (9, 0), (9, 0)] [] σ = th_P E σ (3 + 16 * p)) := by
  have mi := tk_m_in hV
  have w1 : js_w (σ 1 1) = tk_m t := by rw [ht]; exact js_w_of (by omega) (by omega)
  have e40 : tk_m t = 40 ↔ t = 40 := tk_m_inj (b := 40) hV (by unfold tk_V; omega)
  have e91 : tk_m t = 91 ↔ t = 91 := tk_m_inj (b := 91) hV (by unfold tk_V; omega)
  have s : js_J E d 65 0 [(2, 23 + b), (2, x), (0, p), (9, 0), (9, 0)] [] σ = js_J E d 65 51 [(2, 23 + b), (2, x), (0, p), (0, if t = 40 then 1 else 0), (0, if t = 91 then 1 else 0)] [(0, if ρ 86 i = 4 then 1 else 0), (0, if t = 40 then 1 else 0)] σ := by
    have a : js_J E d 65 0 [(2, 23 + b), (2, x), (0, p), (9, 0), (9, 0)] [] σ = js_J E d 65 17 [(2, 23 + b), (2, x), (0, p), (9, 0), (9, 0)] [(0, if t = 40 then 1 else 0)] σ := by
      rw [b_65_0 hb, w1]
      by_cases q : t = 40
      · rw [if_pos (e40.mpr q), if_pos q]
      · rw [if_neg (fun hh => q (e40.mp hh)), if_neg q]
    have c : ∀ z : Int, js_J E d 65 17 [(2, 23 + b), (2, x), (0, p), (9, 0), (9, 0)] [(0, z)] σ = js_J E d 65 35 [(2, 23 + b), (2, x), (0, p), (0, z), (9, 0)] [(0, if t = 91 then 1 else 0)] σ := fun z => by
      rw [b_65_17 hb, w1]
      by_cases q : t = 91
      · rw [if_pos (e91.mpr q), if_pos q]
      · rw [if_neg (fun hh => q (e91.mp hh)), if_neg q]
    rw [a, c, b_65_35 hs, h1, js_w_of (x := ρ 86 i) (by omega) (by omega)]
    by_cases q : ρ 86 i = 4
    · rw [if_pos q, if_pos q]
    · rw [if_neg q, if_neg q]
  have bad : ∀ x3 x4 : Int, js_J E d 65 63 [(2, 23 + b), (2, x), (0, p), (0, x3), (0, x4)] [] σ = th_P E σ (3 + 16 * p) := fun x3 x4 => by
    rw [b_65_63 hb, kt_65_69 (by omega) (c_fail hn (by omega))]
    rfl
  have i1 := ib_eq (p := t = 40) (q := ρ 86 i = 4)
  have i2 := ib_eq2 (p := t = 91) r0
  rw [s, b_65_51 hs, h12]
  constructor
  · intro h
    rw [if_pos (i1.mpr h.1), if_pos (i2.mpr h.2), b_65_72]
  · intro h
    by_cases q : t = 40 ↔ ρ 86 i = 4
    · rw [if_pos (i1.mpr q), if_neg (fun hh => h ⟨q, i2.mp hh⟩), bad]
    · rw [if_neg (fun hh => q (i1.mp hh)), bad]
theorem r_suit {i c t : Int} (h0 : 0 ≤ i ∧ i < 400) (k0 : 0 ≤ ρ 86 i ∧ ρ 86 i ≤ 9) (k8 : ρ 86 i ≠ 8) (t0 : 0 ≤ ρ 87 i ∧ ρ 87 i < 1000) (r0 : ρ 92 i = 0 ∨ ρ 92 i = 1) (c0 : 0 ≤ c ∧ c ≤ 126) (e40 : c = 40 ↔ t = 40) (e91 : c = 91 ↔ t = 91) : (su_P ρ i t → js_J E e 230 9 [(2, 83), (0, i), (9, 0), (9, 0)] [(0, c)] ρ = if ρ 86 i = 4 then (if ρ 87 i = 2 then js_J E e 230 111 [(2, 83), (0, i), (0, c), (9, 0)] [(0, ρ 83 6), (0, 5), (2, 83)] ρ else js_J E e 230 118 [(2, 83), (0, i), (0, c), (9, 0)] [(0, i), (2, 83)] ρ) else js_J E e 230 123 [(2, 83), (0, i), (0, c), (9, 0)] [(2, 83)] ρ) ∧ (¬ su_P ρ i t → js_J E e 230 9 [(2, 83), (0, i), (9, 0), (9, 0)] [(0, c)] ρ = js_J E e 230 74 [(2, 83), (0, i), (0, c), (9, 0)] [] ρ) := by
  have wi := js_w_of (x := i) (by omega) (by omega)
  have wc := js_w_of (x := c) (by omega) (by omega)
  have wk := js_w_of (x := ρ 86 i) (by omega) (by omega)
  have wt := js_w_of (x := ρ 87 i) (by omega) (by omega)
  have s : js_J E e 230 9 [(2, 83), (0, i), (9, 0), (9, 0)] [(0, c)] ρ = js_J E e 230 51 [(2, 83), (0, i), (0, c), (9, 0)] [(0, if t = 40 then 1 else 0), (0, if ρ 86 i = 4 then 1 else 0)] ρ := by
    have a : js_J E e 230 9 [(2, 83), (0, i), (9, 0), (9, 0)] [(0, c)] ρ = js_J E e 230 40 [(2, 83), (0, i), (0, c), (9, 0)] [(0, if ρ 86 i = 4 then 1 else 0)] ρ := by
      rw [b_230_9, wi, if_neg (show ¬ i < 0 by omega), if_pos h0, wk, if_neg k8]
      by_cases q : ρ 86 i = 4
      · rw [if_pos q, if_pos q]
      · rw [if_neg q, if_neg q]
    rw [a, b_230_40, wc]
    by_cases q : t = 40
    · rw [if_pos (e40.mpr q), if_pos q]
    · rw [if_neg (fun hh => q (e40.mp hh)), if_neg q]
  have s2 : ∀ p : Prop, (if c = 91 then js_J E e 230 71 [(2, 83), (0, i), (0, c), (9, 0)] [(0, 1), (0, ρ 92 i)] ρ else js_J E e 230 71 [(2, 83), (0, i), (0, c), (9, 0)] [(0, 0), (0, ρ 92 i)] ρ) = js_J E e 230 71 [(2, 83), (0, i), (0, c), (9, 0)] [(0, if t = 91 then 1 else 0), (0, ρ 92 i)] ρ := fun _ => by
    by_cases q : t = 91
    · rw [if_pos (e91.mpr q), if_pos q]
    · rw [if_neg (fun hh => q (e91.mp hh)), if_neg q]
  have i1 := ib_eq (p := t = 40) (q := ρ 86 i = 4)
  have i2 := ib_eq2 (p := t = 91) r0
  rw [s, b_230_51, wi, if_pos h0, wc, s2 True]
  constructor
  · intro h
    rw [if_pos (i1.mpr h.1).symm, b_230_71, if_pos (i2.mpr h.2).symm, wi, if_pos h0, wk, wt]
  · intro h
    by_cases q : t = 40 ↔ ρ 86 i = 4
    · rw [if_pos (i1.mpr q).symm, b_230_71, if_neg (fun hh => h ⟨q, i2.mp hh.symm⟩)]
    · rw [if_neg (fun hh => q (i1.mp hh.symm))]
/-- what is known of a name that is found -/
def nm_R (E : js_E) (b : Int) (X : Int → Prop) (σ ρ : js_S) (i : Int) : Prop := (0 ≤ i ∧ i < ρ 83 11 ∧ i < 400) ∧ ¬ X i ∧ ρ 99 i = 1 ∧ ρ 86 i ≠ 8 ∧ (0 ≤ ρ 86 i ∧ ρ 86 i ≤ 9 ∧ 0 ≤ ρ 87 i ∧ ρ 87 i < 1000 ∧ -2000000000 ≤ ρ 94 i ∧ ρ 94 i ≤ 2000000000) ∧ js_desc E.1 σ (σ (19 + b) i) = some (0, 11, js_sym) ∧ sy_F σ ρ b i
theorem y_name (hb : b = 0 ∨ b = 25) (hx : xs_R E b F B X σ ρ) (hR : rd_R σ ρ j) (h5 : ρ 83 5 = 2) (hd : 9 ≤ d) (he : 4 ≤ e) : (∃ ρ' : js_S, js_J E e 230 0 [(2, 83), (9, 0), (9, 0), (9, 0)] [] ρ = js_r E (0, 0) ρ' ∧ xf_P E b σ ρ ρ' (js_J E d 64 0 [(2, 23 + b), (9, 0), (9, 0)] [] σ)) ∨ (∃ (σ1 : js_S) (i c : Int), nm_R E b X σ1 ρ i ∧ rd_R σ1 (rx_next ρ) (j + 1) ∧ tk_fr σ σ1 ∧ su_P ρ i (rx_next ρ 83 5) ∧ js_J E d 64 0 [(2, 23 + b), (9, 0), (9, 0)] [] σ = js_J E d 64 56 [(2, 23 + b), (0, ρ 83 6), (2, σ1 (19 + b) i)] [] σ1 ∧ js_J E e 230 0 [(2, 83), (9, 0), (9, 0), (9, 0)] [] ρ = if ρ 86 i = 4 then (if ρ 87 i = 2 then js_J E e 230 111 [(2, 83), (0, i), (0, c), (9, 0)] [(0, ρ 83 6), (0, 5), (2, 83)] ρ else js_J E e 230 118 [(2, 83), (0, i), (0, c), (9, 0)] [(0, i), (2, 83)] ρ) else js_J E e 230 123 [(2, 83), (0, i), (0, c), (9, 0)] [(2, 83)] ρ) := by
  have ok := hR.2.2.1
  have hY := hx.1
  have y1 := hY.1
  have a1 := ok.2.2.2.1
  have a2 := ok.2.2.2.2.1
  have a3 := ok.2.2.2.2.2.1
  have a4 := ok.1.2.1
  have a5 := ok.2.2.2.2.2.2.1
  have a6 := ok.2.2.2.2.2.2.2.1
  have a9 := ok.2.2.1
  have c8 := (rd_V hR).2.2
  have pl := rd_place hR
  have hs := rx_skip_in (σ := ρ) (rx_n ρ (ρ 83 7)) (ρ 83 7) a3
  have c0 := rx_at_in ok.1 (k := rx_fr ρ (ρ 83 7)) (by unfold rx_fr; omega)
  have e40 := bh_eq (σ := ρ) (k := 40) (Or.inl rfl)
  have e91 := bh_eq (σ := ρ) (k := 91) (Or.inr rfl)
  have fnd := y_find (E := E) (d := d - 1) hb hY hR h5
  have sid := sy_S_id ρ 0
  rw [sid] at fnd
  have rf := r_find (E := E) (d := e - 1) y1 ok.2.1 a1 a2 (by omega) a5 a6 (by omega)
  have hin := rx_sy_in y1
  have hF := rx_bad1 ok (k := 3) (by decide) (by decide)
  rw [b_64_0 hb, c8, k_64_16 hb (by omega) fnd, b_64_19, b_230_0, k_230_1 (by omega) rf, b_230_4, k_230_6 (by omega) (r_behind ok (by omega))]
  generalize rx_at ρ (rx_fr ρ (ρ 83 7)) = c at c0 e40 e91 ⊢
  have rbad : ∀ x1 : Int, js_J E e 230 74 [(2, 83), (0, x1), (0, c), (9, 0)] [] ρ = js_r E (0, 0) (rx_bad ρ 3 (ρ 83 6)) := fun x1 => by
    rw [b_230_74, k_230_80 (by omega) (r_bad (by omega) (by omega)), b_230_83]
  have cbad : ∀ x2 : Int, js_J E d 64 33 [(2, 23 + b), (0, ρ 83 6), (2, x2)] [] σ = th_P E σ (3 + 16 * ρ 83 6) := fun x2 => by
    rw [b_64_33 hb, kt_64_39 (by omega) (c_fail hY.2.2.1 (by omega))]
    rfl
  have fin : xf_P E b σ ρ (rx_bad ρ 3 (ρ 83 6)) (th_P E σ (3 + 16 * ρ 83 6)) := ⟨hF.1, eg_R_tf (tf_R_bad _ _ _), σ, by rw [hF.2], ef_R_refl _ _ _ _ _⟩
  by_cases q1 : rx_sy ρ < 0
  · left
    refine ⟨rx_bad ρ 3 (ρ 83 6), ?_, ?_⟩
    · rw [b_230_9, js_w_of (x := rx_sy ρ) (by omega) (by omega), if_pos q1, rbad]
    · rw [if_pos q1, if_pos (show (-1 : Int) < 0 by decide), cbad]
      exact fin
  · have hvis := sy_vis (p := 0) (q := 0) h5 (by rw [sid]; exact q1)
    rw [sid] at hvis
    have nX : ¬ X (rx_sy ρ) := fun hh => by
      have := hx.2.1.2.1 _ hh
      rw [sid] at this
      exact this hvis
    generalize rx_sy ρ = i at hin q1 hvis nX ⊢
    have hi : 0 ≤ i ∧ i < ρ 83 11 := by omega
    clear hin
    have h400 := y1.2.1
    have hv := hY.2.1 i hi.1 (by omega)
    have hsym := (hY.2.2.2.2.2.1 i hi.1 hi.2).1
    have hf := hY.2.2.2.2.2.2 i hi.1 hi.2 nX
    have hge := js_sym_ge hsym
    have r0 := (hx.2.2.1 i hi.1 hi.2 nX).1
    rw [if_neg q1, if_neg (show ¬ σ (19 + b) i < 0 by omega), b_64_24 hsym hb, hf.1, js_w_of (x := ρ 86 i) (by omega) (by omega)]
    by_cases q8 : ρ 86 i = 8
    · left
      refine ⟨rx_bad ρ 3 (ρ 83 6), ?_, ?_⟩
      · rw [b_230_9, js_w_of (x := i) (by omega) (by omega), if_neg q1, if_pos (show 0 ≤ i ∧ i < 400 by omega), js_w_of (x := ρ 86 i) (by omega) (by omega), if_pos q8, rbad]
      · rw [if_pos q8, cbad]
        exact fin
    · obtain ⟨σ1, j1, n1, hR1, f1, _, hj1⟩ := y_next (E := E) (d := d - 1) hR
      have hj1' := hj1 (by omega)
      subst hj1'
      clear hj1
      have v1 : ∀ k : Int, σ1 (σ (19 + b) i) k = σ (σ (19 + b) i) k := fun k => f1 _ _ (by omega) (by omega)
      have e19 : σ1 (19 + b) i = σ (19 + b) i := f1 _ _ (by omega) (by omega)
      have hY1 := xs_R_ef hb hx (ef_R_tk (b := b) (n := 0) (t := 0) (p := 0) f1) (eg_R_tf (N := 0) (tf_R_next ρ))
      have tkn := rd_V hR1
      have x11 : rx_next ρ 83 11 = ρ 83 11 := rx_next_o _ (by omega)
      have hsym1 : js_desc E.1 σ1 (σ (19 + b) i) = some (0, 11, js_sym) := by
        have := (hY1.1.2.2.2.2.2.1 i hi.1 (by rw [x11]; exact hi.2)).1
        rw [e19] at this
        exact this
      obtain ⟨su1, su2⟩ := c_suit (E := E) (d := d - 1) (σ := σ1) (ρ := ρ) (x := σ (19 + b) i) (i := i) (p := ρ 83 6) (t := rx_next ρ 83 5) hb hY1.1.2.2.1 (by omega) hsym1 (by rw [v1]; exact hf.1) (by rw [v1]; exact hf.2.2.2.2.2.2.2.2) ⟨hv.1, hv.2.1⟩ r0 tkn.2.1 tkn.1
      obtain ⟨ru1, ru2⟩ := r_suit (E := E) (e := e) (ρ := ρ) (i := i) (c := c) (t := rx_next ρ 83 5) (by omega) ⟨hv.1, hv.2.1⟩ q8 ⟨hv.2.2.1, hv.2.2.2.1⟩ r0 c0 e40 e91
      rw [if_neg q8, k_64_47 (by omega) n1, b_64_50]
      by_cases q : su_P ρ i (rx_next ρ 83 5)
      · right
        refine ⟨σ1, i, c, ⟨⟨hi.1, hi.2, by omega⟩, nX, hvis, q8, ⟨hv.1, hv.2.1, hv.2.2.1, hv.2.2.2.1, hv.2.2.2.2.1, hv.2.2.2.2.2.1⟩, by rw [e19]; exact hsym1, ?_⟩, hR1, f1, q, ?_, ru1 q⟩
        · unfold sy_F
          rw [e19, v1, v1, v1, v1, v1, v1, v1, v1, v1]
          exact hf
        · rw [k_64_53 hb (by omega) (su1 q), e19]
      · left
        refine ⟨rx_bad ρ 3 (ρ 83 6), ?_, ?_⟩
        · rw [ru2 q, rbad]
        · rw [kt_64_53 hb (by omega) (su2 q)]
          exact ⟨hF.1, eg_R_tf (tf_R_bad _ _ _), σ1, by rw [hF.2], ef_R_tk f1⟩
end OX
