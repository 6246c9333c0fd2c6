/-! part 96: tell, in step -/
theorem rx_told_86 (ρ : js_S) (k : Int) : rx_told ρ k 86 (ρ 83 11) = k := by
  unfold rx_told
  rw [js_up_na _ (by decide)]
  unfold rx_cn
  rw [if_neg (by omega)]
  unfold rx_t1
  repeat (first | rw [js_up_same] | rw [js_up_na _ (by decide)])
theorem rx_told_87 (ρ : js_S) (k : Int) : rx_told ρ k 87 (ρ 83 11) = 0 := by
  unfold rx_told
  rw [js_up_na _ (by decide)]
  unfold rx_cn
  rw [if_neg (by omega)]
  unfold rx_t1
  repeat (first | rw [js_up_same] | rw [js_up_na _ (by decide)])
theorem rx_told_88 (ρ : js_S) (k : Int) : rx_told ρ k 88 (ρ 83 11) = 0 := by
  unfold rx_told
  rw [js_up_na _ (by decide)]
  unfold rx_cn
  rw [if_neg (by omega)]
  unfold rx_t1
  repeat (first | rw [js_up_same] | rw [js_up_na _ (by decide)])
theorem rx_told_89 (ρ : js_S) (k : Int) : rx_told ρ k 89 (ρ 83 11) = 0 := by
  unfold rx_told
  rw [js_up_na _ (by decide)]
  unfold rx_cn
  rw [if_neg (by omega)]
  unfold rx_t1
  repeat (first | rw [js_up_same] | rw [js_up_na _ (by decide)])
theorem rx_told_90 (ρ : js_S) (k : Int) : rx_told ρ k 90 (ρ 83 11) = -1 := by
  unfold rx_told
  rw [js_up_na _ (by decide)]
  unfold rx_cn
  rw [if_neg (by omega)]
  unfold rx_t1
  repeat (first | rw [js_up_same] | rw [js_up_na _ (by decide)])
theorem rx_told_91 (ρ : js_S) (k : Int) : rx_told ρ k 91 (ρ 83 11) = 1 := by
  unfold rx_told
  rw [js_up_na _ (by decide)]
  unfold rx_cn
  rw [if_neg (by omega)]
  unfold rx_t1
  repeat (first | rw [js_up_same] | rw [js_up_na _ (by decide)])
theorem rx_told_92 (ρ : js_S) (k : Int) : rx_told ρ k 92 (ρ 83 11) = 0 := by
  unfold rx_told
  rw [js_up_na _ (by decide)]
  unfold rx_cn
  rw [if_neg (by omega)]
  unfold rx_t1
  repeat (first | rw [js_up_same] | rw [js_up_na _ (by decide)])
theorem rx_told_93 (ρ : js_S) (k : Int) : rx_told ρ k 93 (ρ 83 11) = ρ 83 26 := by
  unfold rx_told
  rw [js_up_na _ (by decide)]
  unfold rx_cn
  rw [if_neg (by omega)]
  unfold rx_t1
  repeat (first | rw [js_up_same] | rw [js_up_na _ (by decide)])
theorem rx_told_94 (ρ : js_S) (k : Int) : rx_told ρ k 94 (ρ 83 11) = 0 := by
  unfold rx_told
  rw [js_up_na _ (by decide)]
  unfold rx_cn
  rw [if_neg (by omega)]
  unfold rx_t1
  repeat (first | rw [js_up_same] | rw [js_up_na _ (by decide)])
theorem rx_told_95 (ρ : js_S) (k : Int) : rx_told ρ k 95 (ρ 83 11) = 0 := by
  unfold rx_told
  rw [js_up_na _ (by decide)]
  unfold rx_cn
  rw [if_neg (by omega)]
  unfold rx_t1
  repeat (first | rw [js_up_same] | rw [js_up_na _ (by decide)])
theorem rx_told_96 (ρ : js_S) (k : Int) : rx_told ρ k 96 (ρ 83 11) = 0 := by
  unfold rx_told
  rw [js_up_na _ (by decide)]
  unfold rx_cn
  rw [if_neg (by omega)]
  unfold rx_t1
  repeat (first | rw [js_up_same] | rw [js_up_na _ (by decide)])
theorem rx_told_97 (ρ : js_S) (k : Int) : rx_told ρ k 97 (ρ 83 11) = ρ 83 7 - ρ 83 6 := by
  unfold rx_told
  rw [js_up_na _ (by decide)]
  unfold rx_cn
  rw [if_neg (by omega)]
  unfold rx_t1
  repeat (first | rw [js_up_same] | rw [js_up_na _ (by decide)])
theorem rx_told_99 (ρ : js_S) (k : Int) : rx_told ρ k 99 (ρ 83 11) = 0 := by
  unfold rx_told
  rw [js_up_na _ (by decide)]
  unfold rx_cn
  rw [if_neg (by omega)]
  unfold rx_t1
  repeat (first | rw [js_up_same] | rw [js_up_na _ (by decide)])
theorem rx_told_o (ρ : js_S) (k : Int) {a i : Int} (h : ¬ (a = 83 ∧ i = 11)) (h2 : a < 86 ∨ 99 < a ∨ (a ≠ 98 ∧ i ≠ ρ 83 11)) : rx_told ρ k a i = ρ a i := by
  unfold rx_told
  rw [js_up_ne _ h]
  unfold rx_cn
  rw [if_neg (by omega), rx_t1_o ρ k (by omega)]
theorem rx_told_11 (ρ : js_S) (k : Int) : rx_told ρ k 83 11 = ρ 83 11 + 1 := js_up_same _ _ _ _
theorem rx_told_98 (ρ : js_S) (k i : Int) : rx_told ρ k 98 i = if 20 * ρ 83 11 ≤ i ∧ i < 20 * ρ 83 11 + (ρ 83 7 - ρ 83 6) then ρ 84 (ρ 83 6 + (i - 20 * ρ 83 11)) else ρ 98 i := by
  unfold rx_told
  rw [js_up_na _ (by decide)]
  unfold rx_cn
  rw [rx_t1_o ρ k (by omega), rx_t1_o ρ k (by omega)]
  by_cases h : 20 * ρ 83 11 ≤ i ∧ i < 20 * ρ 83 11 + (ρ 83 7 - ρ 83 6)
  · rw [if_pos h, if_pos ⟨rfl, h⟩]
  · rw [if_neg h, if_neg (fun hh => h hh.2), rx_t1_o ρ k (by omega)]
section YT
variable {E : js_E} {d : Nat} {σ ρ : js_S} {b : Int}
theorem y_tell_T {p q pp : Int} {X : Int → Prop} (hb : b = 0 ∨ b = 25) (hY : sy_Y E.1 σ ρ b p q X) {j : Nat} (hR : rd_R σ ρ j) (hd : 8 ≤ d) {k : Int} (hp : (pp = -1 ∧ p = q) ∨ (pp = p ∧ q = ρ 83 11 ∧ 0 ≤ p ∧ p ≤ q)) (hf : rx_tf ρ pp ≠ 0) : js_J E d 35 0 [(2, 7 + b), (0, k), (0, 0), (2, 1), (9, 0), (9, 0)] [] σ = js_t E (σ (-1) 0) (cx_f σ (rx_tf ρ pp) (ρ 83 6)) := by
  have hR' := hR
  have hY' := hY
  obtain ⟨y1, y2, y3, y4, y5, y6, y7⟩ := hY
  obtain ⟨r1, r2, r3, r4, r5, r6⟩ := hR
  obtain ⟨g1, g2, g3, g4, g5, g6, g7, g8, g9⟩ := r3
  obtain ⟨c1, c2, c3, c4, c5, c6, c7, c8, c9, c10⟩ := r2
  have hpj := tk_p_in g1 j
  have hV : tk_V (ρ 83 5) := by rw [c5]; exact rx_lex_V g1 hpj.1 hpj.2
  have hmi := tk_m_in hV
  have hm := y1.1
  have hm2 := y1.2.1
  have hinj := tk_m_inj hV (show tk_V 2 from Or.inr (Or.inl rfl))
  have e2 : tk_m 2 = 2 := by decide
  rw [e2] at hinj
  rw [b_35_0, c7, js_w_of (by omega) (by omega)]
  unfold rx_tf at hf ⊢
  by_cases q1 : ρ 83 5 = 2
  · have q1' : ¬ (ρ 83 5 ≠ 2) := fun hh => hh q1
    have hfd := sy_found y1 q1 hp
    rw [if_neg q1'] at hf ⊢
    rw [if_pos (hinj.mpr q1), b_35_17, k_35_19 hb (by omega) (y_find hb hY' hR' q1), b_35_22]
    by_cases q2 : 0 ≤ rx_sy (sy_S ρ p q)
    · have hin := rx_sy_in (rs_ok_S (p := p) (q := q) y1)
      have e11 : sy_S ρ p q 83 11 = ρ 83 11 := sy_S_o _ _ _ (by decide)
      rw [e11] at hin
      have hsym := (y6 (rx_sy (sy_S ρ p q)) (by omega) (by omega)).1
      have hge := js_sym_ge hsym
      rw [if_neg (show ¬ rx_sy (sy_S ρ p q) < 0 by omega), if_neg (by omega), b_35_25, kt_35_31 (by omega) (c_fail y3 (by omega)), c8]
      rcases hfd.mp q2 with h | h
      · rw [if_pos h]
      · by_cases h3 : 0 ≤ rx_sy ρ
        · rw [if_pos h3]
        · rw [if_neg h3, if_pos h]
    · have h3 : ¬ 0 ≤ rx_sy ρ := fun hh => q2 (hfd.mpr (Or.inl hh))
      have h4 : ¬ (0 ≤ pp ∧ rx_any ρ (ρ 83 11 - pp).toNat pp = true) := fun hh => q2 (hfd.mpr (Or.inr hh))
      rw [if_neg h3, if_neg h4] at hf ⊢
      have h5 : ρ 83 11 = 400 := by
        by_cases hh : ρ 83 11 = 400
        · exact hh
        · rw [if_neg hh] at hf
          exact absurd rfl hf
      have w0 : js_w 0 = 0 := rfl
      rw [if_pos (show rx_sy (sy_S ρ p q) < 0 by omega), if_pos (by decide), b_35_34 hb, w0, if_pos rfl, y5, h5, if_neg (by decide), b_35_48, kt_35_55 (by omega) (c_fail y3 (by omega)), c8, if_pos rfl]
  · rw [if_pos q1, if_neg (fun hh => q1 (hinj.mp hh)), kt_35_14 (by omega) (c_fail y3 (by omega)), c8]
/-- what a told name leaves of the class -/
def cx_told (M : Int) (σ τ : js_S) (b m k n s : Int) : Prop := js_desc M τ s = some (0, 11, js_sym) ∧ cx_new τ s m k n ∧ τ (19 + b) m = s ∧ (s = σ (19 + b) m ∨ (σ (19 + b) m < 0 ∧ s = σ (-1) 0)) ∧ τ (7 + b) 1 = m + 1 ∧ (∀ a i : Int, a ≠ s → a ≠ -1 → ¬ (a = 19 + b ∧ i = m) → ¬ (a = 20 + b ∧ 20 * m ≤ i ∧ i < 20 * m + n) → ¬ (a = 7 + b ∧ i = 1) → ¬ (a = 1 ∧ (i = 1 ∨ i = 2 ∨ i = 3 ∨ i = 11)) → a ≠ 2 → τ a i = σ a i) ∧ σ (-1) 0 ≤ τ (-1) 0 ∧ τ (-1) 0 ≤ σ (-1) 0 + 1 ∧ σ (-1) 1 ≤ τ (-1) 1 ∧ τ (-1) 1 ≤ σ (-1) 1 + 15 ∧ (0 ≤ σ (19 + b) m → τ (-1) 0 = σ (-1) 0 ∧ τ (-1) 1 = σ (-1) 1) ∧ s < τ (-1) 0
theorem y_tell {p q pp : Int} {X : Int → Prop} (hb : b = 0 ∨ b = 25) (hY : sy_Y E.1 σ ρ b p q X) {j : Nat} (hR : rd_R σ ρ j) (hd : 8 ≤ d) {k : Int} (hk0 : 0 ≤ k) (hk9 : k ≤ 9) (hp : (pp = -1 ∧ p = q) ∨ (pp = p ∧ q = ρ 83 11 ∧ 0 ≤ p ∧ p ≤ q)) (hq : q ≤ ρ 83 11) (hf : rx_tf ρ pp = 0) : ∃ (τ : js_S) (s : Int) (j' : Nat), js_J E d 35 0 [(2, 7 + b), (0, k), (0, 0), (2, 1), (9, 0), (9, 0)] [] σ = js_r E (2, s) τ ∧ rd_R τ (rx_next (rx_told ρ k)) j' ∧ sy_Y E.1 τ (rx_next (rx_told ρ k)) b p q (fun i => X i ∨ i = ρ 83 11) ∧ cx_told E.1 σ τ b (ρ 83 11) k (ρ 83 7 - ρ 83 6) s ∧ j < j' := by
  have hR' := hR
  have hY' := hY
  obtain ⟨y1, y2, y3, y4, y5, y6, y7⟩ := hY
  obtain ⟨r1, r2, r3, r4, r5, r6⟩ := hR
  have r3' := r3
  obtain ⟨g1, g2, g3, g4, g5, g6, g7, g8, g9⟩ := r3
  have r2' := r2
  obtain ⟨c1, c2, c3, c4, c5, c6, c7, c8, c9, c10⟩ := r2
  have hm := y1.1
  have hm2 := y1.2.1
  have g0 := g1.2.1
  -- what tell asks holds
  have q1 : ρ 83 5 = 2 := by
    by_cases hh : ρ 83 5 = 2
    · exact hh
    · unfold rx_tf at hf
      rw [if_pos hh] at hf
      cases hf
  have hfd := sy_found y1 q1 hp
  have q2 : ¬ 0 ≤ rx_sy (sy_S ρ p q) ∧ ρ 83 11 ≠ 400 := by
    unfold rx_tf at hf
    rw [if_neg (fun hh => hh q1)] at hf
    by_cases h3 : 0 ≤ rx_sy ρ
    · rw [if_pos h3] at hf
      cases hf
    · rw [if_neg h3] at hf
      by_cases h4 : 0 ≤ pp ∧ rx_any ρ (ρ 83 11 - pp).toNat pp = true
      · rw [if_pos h4] at hf
        cases hf
      · rw [if_neg h4] at hf
        refine ⟨fun hh => (hfd.mp hh).elim h3 h4, fun hh => ?_⟩
        rw [if_pos hh] at hf
        cases hf
  have g9' := g9 q1
  have t2 : σ 1 1 = 2 := by rw [c7, q1]; decide
  have w0 : js_w 0 = 0 := rfl
  have w2 : js_w 2 = 2 := rfl
  have e3 : σ 1 3 = ρ 83 7 - ρ 83 6 := by
    rw [c9]
    unfold tk_c
    rw [if_pos (by omega)]
  obtain ⟨τ, s, e1, f1, f2, f3, f4, f5, f6, f7, f8, f9, f10, f11, f12, f13⟩ := c_tell_58 (E := E) (d := d) (k := k) (x2 := 0) hb y3 y4 (by omega) y5 hm (by omega) e3 (by omega) (by omega) (fun i hi hi2 => by
    rw [c10 (Or.inl q1) i hi hi2]
    exact g2 _ (by omega) (by omega))
  have hge := js_sym_ge f1
  have hslt : s = σ (19 + b) (ρ 83 11) ∨ s = σ (-1) 0 := f4.imp id (fun h => h.2)
  -- the token behind it
  have o83 : ∀ i : Int, i ≠ 11 → rx_told ρ k 83 i = ρ 83 i := fun i hi => rx_told_o ρ k (by omega) (by omega)
  have o84 : ∀ i : Int, rx_told ρ k 84 i = ρ 84 i := fun i => rx_told_o ρ k (by omega) (by omega)
  have hokT : rx_ok (rx_told ρ k) := by
    refine ⟨⟨by rw [o83 _ (by decide)]; exact g1.1, by rw [o83 _ (by decide)]; exact g1.2.1, fun i hi hi2 => ?_⟩, fun i hi hi2 => ?_, by rw [o83 _ (by decide)]; exact g3, by rw [o83 _ (by decide)]; exact g4, by rw [o83 _ (by decide), o83 _ (by decide)]; exact g5, by rw [o83 _ (by decide), o83 _ (by decide)]; exact g6, by rw [o83 _ (by decide)]; exact g7, by rw [o83 _ (by decide)]; exact g8, by rw [o83 _ (by decide), o83 _ (by decide), o83 _ (by decide)]; exact g9⟩
    · rw [o84]
      rw [o83 _ (by decide)] at hi2
      exact g1.2.2 i hi hi2
    · rw [o84]
      exact g2 i hi hi2
  have frτ : ∀ a i : Int, 0 ≤ a → a < 137 → ¬ (a = 19 + b ∧ i = ρ 83 11) → a ≠ 20 + b → ¬ (a = 7 + b ∧ i = 1) → τ a i = σ a i := fun a i h1 h2 h3 h4 h5 => f7 a i (by omega) (by omega) h3 (fun hh => h4 hh.1) h5
  have hTτ : tk_T τ (rx_told ρ k) := tk_T_of r1 (frτ _ _ (by omega) (by omega) (by omega) (by omega) (by omega)) (fun i => frτ _ _ (by omega) (by omega) (by omega) (by omega) (by omega)) (fun i => frτ _ _ (by omega) (by omega) (by omega) (by omega) (by omega)) (fun i => frτ _ _ (by omega) (by omega) (by omega) (by omega) (by omega)) (o83 _ (by decide)) o84
  have hAτ : tk_A τ (rx_told ρ k) j := tk_A_of r2' (fun i _ => frτ _ _ (by omega) (by omega) (by omega) (by omega) (by omega)) (fun i => frτ _ _ (by omega) (by omega) (by omega) (by omega) (by omega)) (fun i h1 h2 => o83 _ (by omega)) o84
  obtain ⟨τ', j', n1, n2, n3, n4, n5, n6⟩ := t_next (E := E) (d := d - 1) hTτ hAτ hokT
  have nx : ∀ {a i : Int}, ¬ (a = 83 ∧ 5 ≤ i ∧ i ≤ 8) → rx_next (rx_told ρ k) a i = rx_told ρ k a i := fun hh => rx_next_o _ hh
  have τs : ∀ a i : Int, ¬ (a = 1 ∧ (i = 1 ∨ i = 2 ∨ i = 3 ∨ i = 11)) → a ≠ 2 → τ' a i = τ a i := n4
  have jj : j < j' := by
    have := n6 (by rw [o83 _ (by decide), q1]; decide)
    omega
  refine ⟨τ', s, j', ?_, ⟨n2, n3, rx_next_ok hokT, ?_, ?_, ?_⟩, ?_, ?_, jj⟩
  · rw [b_35_0, t2, w2, if_pos rfl, b_35_17, k_35_19 hb (by omega) (y_find hb hY' hR' q1), b_35_22, if_pos (show rx_sy (sy_S ρ p q) < 0 by omega), if_pos (by decide), b_35_34 hb, w0, if_pos rfl, y5, js_w_of (by omega) (by omega), if_pos (by omega), e1, k_35_171 (by omega) n1, b_35_174]
  · rw [τs _ _ (by omega) (by omega), frτ _ _ (by omega) (by omega) (by omega) (by omega) (by omega), nx (by omega), o83 _ (by decide), r4]
  · rw [nx (by omega), o83 _ (by decide)]; exact r5
  · rw [nx (by omega), o83 _ (by decide)]; exact r6
  · have m11 : rx_next (rx_told ρ k) 83 11 = ρ 83 11 + 1 := by rw [nx (by omega), rx_told_11]
    have hz := y1.2.2.1
    have hnb := y1.2.2.2.1
    have hvs := y1.2.2.2.2
    have sne : ∀ i : Int, 0 ≤ i → i < ρ 83 11 → σ (19 + b) i ≠ s := fun i hi hi2 hh => by
      have h1 := (y6 i hi hi2)
      have h2 := js_sym_lt h1.1 (js_sym_ge h1.1)
      rcases hslt with h3 | h3
      · rcases y4 (ρ 83 11) hm (by omega) with h4 | h4
        · have := js_sym_ge h1.1
          omega
        · have h5 := h4.2
          rw [← h3, ← hh, h1.2.1] at h5
          omega
      · omega
    have sym' : ∀ x : Int, js_desc E.1 σ x = some (0, 11, js_sym) → x ≠ s → js_desc E.1 τ' x = some (0, 11, js_sym) := fun x hx hxs => by
      have h1 := js_sym_ge hx
      refine js_desc_mono hx (by rw [τs _ _ (by omega) (by omega)]; exact f8) (fun _ => ?_)
      rw [τs _ _ (by omega) (by omega), f7 _ _ hxs (by omega) (by omega) (by omega) (by omega)]
    have fld : ∀ x i : Int, 137 ≤ x → x ≠ s → τ' x i = σ x i := fun x i h1 h2 => by rw [τs _ _ (by omega) (by omega), f7 _ _ h2 (by omega) (by omega) (by omega) (by omega)]
    have sfld : ∀ i : Int, τ' s i = τ s i := fun i => τs _ _ (by omega) (by omega)
    have r19 : ∀ i : Int, i ≠ ρ 83 11 → τ' (19 + b) i = σ (19 + b) i := fun i hi => by rw [τs _ _ (by omega) (by omega), frτ _ _ (by omega) (by omega) (by omega) (by omega) (by omega)]
    have r19m : τ' (19 + b) (ρ 83 11) = s := by rw [τs _ _ (by omega) (by omega)]; exact f3
    have hsym' : js_desc E.1 τ' s = some (0, 11, js_sym) := js_desc_mono f1 (by rw [τs _ _ (by omega) (by omega)]; exact Int.le_refl _) (fun _ => sfld 15)
    refine ⟨⟨by rw [m11]; omega, by rw [m11]; omega, fun i hi hi2 => ?_, fun i x hi hi2 hx hx2 => ?_, fun i hi hi2 => ?_⟩, fun i hi hi2 => ?_, ⟨?_, ?_⟩, fun i hi hi2 => ?_, ?_, fun i hi hi2 => ?_, fun i hi hi2 hX => ?_⟩
    · rw [m11] at hi2
      rw [nx (by omega)]
      by_cases h : i = ρ 83 11
      · rw [h, rx_told_97]; omega
      · rw [rx_told_o ρ k (by omega) (by omega)]; exact hz i hi (by omega)
    · rw [m11] at hi2
      rw [nx (by omega)] at hx2
      rw [nx (by omega), rx_told_98]
      by_cases h : i = ρ 83 11
      · rw [h, rx_told_97] at hx2
        rw [h, if_pos (by omega)]
        exact g2 _ (by omega) (by omega)
      · rw [rx_told_o ρ k (by omega) (by omega)] at hx2
        have hz2 := hz i hi (by omega)
        rw [if_neg (by omega)]
        exact hnb i x hi (by omega) hx hx2
    · rw [m11] at hi2
      rw [nx (by omega)]
      by_cases h : i = ρ 83 11
      · rw [h, rx_told_99]; exact Or.inl rfl
      · rw [rx_told_o ρ k (by omega) (by omega)]; exact hvs i hi (by omega)
    · rw [m11] at hi2
      rw [nx (by omega), nx (by omega), nx (by omega)]
      by_cases h : i = ρ 83 11
      · rw [h, rx_told_86, rx_told_87, rx_told_94]
        refine ⟨by omega, by omega, by omega, by omega, by omega, by omega, fun _ => ?_⟩
        rw [nx (by omega), nx (by omega), rx_told_90, rx_told_95]
        exact ⟨rfl, rfl⟩
      · rw [rx_told_o ρ k (by omega) (by omega), rx_told_o ρ k (by omega) (by omega), rx_told_o ρ k (by omega) (by omega)]
        refine rs_6 (y2 i hi (by omega)) (fun q => ?_)
        rw [m11] at q
        rw [nx (by omega), nx (by omega), rx_told_o ρ k (by omega) (by omega), rx_told_o ρ k (by omega) (by omega)]
        exact (y2 i hi (by omega)).2.2.2.2.2.2 (by omega)
    · rw [τs _ _ (by omega) (by omega)]
      have := y3.1
      omega
    · rw [τs _ _ (by omega) (by omega)]
      have := y3.2
      omega
    · by_cases h : i = ρ 83 11
      · rw [h, r19m, sfld]
        exact Or.inr ⟨hsym', f2.1⟩
      · rw [r19 i h]
        rcases y4 i hi hi2 with h1 | ⟨h1, h2⟩
        · exact Or.inl h1
        · have h3 : σ (19 + b) i ≠ s := fun hh => by
            have h5 := js_sym_lt h1 (js_sym_ge h1)
            rcases hslt with h4 | h4
            · rcases y4 (ρ 83 11) hm (by omega) with h6 | h6
              · have := js_sym_ge h1
                omega
              · have h7 := h6.2
                rw [← h4, ← hh, h2] at h7
                exact h h7
            · omega
          exact Or.inr ⟨sym' _ h1 h3, by rw [fld _ _ (js_sym_ge h1) h3]; exact h2⟩
    · rw [τs _ _ (by omega) (by omega), f5, m11]
    · rw [m11] at hi2
      have oS : ∀ a i2 : Int, a ≠ 99 → ¬ (a = 83) → sy_S (rx_next (rx_told ρ k)) p q a i2 = rx_told ρ k a i2 := fun a i2 h1 h2 => by rw [sy_S_o _ _ _ h1, nx (by omega)]
      by_cases h : i = ρ 83 11
      · have hv : sy_S (rx_next (rx_told ρ k)) p q 99 (ρ 83 11) = 0 := by
          unfold sy_S
          rw [if_neg (by omega), nx (by omega), rx_told_99]
        rw [h]
        refine ⟨by rw [r19m]; exact hsym', by rw [r19m, sfld]; exact f2.1, by rw [r19m, sfld, hv]; exact f2.2.2.2.2.2.2.2.2.2.2.2.2.2.1, by rw [r19m, sfld, oS _ _ (by decide) (by decide), rx_told_97]; exact f2.2.2.2.2.2.2.2.2.2.2.2.2.2.2, fun x hx hx2 => ?_⟩
        rw [oS _ _ (by decide) (by decide), rx_told_97] at hx2
        rw [oS _ _ (by decide) (by decide), rx_told_98, if_pos (by omega), τs _ _ (by omega) (by omega), f6 x hx hx2, c10 (Or.inl q1) x hx hx2]
        congr 1
        omega
      · have hNi := y6 i hi (by omega)
        obtain ⟨a1, a2, a3, a4, a5⟩ := hNi
        have h3 := sne i hi (by omega)
        have hgei := js_sym_ge a1
        have hv : sy_S (rx_next (rx_told ρ k)) p q 99 i = sy_S ρ p q 99 i := by
          unfold sy_S
          by_cases hh : (99 : Int) = 99 ∧ p ≤ i ∧ i < q
          · rw [if_pos hh, if_pos hh]
          · rw [if_neg hh, if_neg hh, nx (by omega), rx_told_o ρ k (by omega) (by omega)]
        have e97 : sy_S ρ p q 97 i = ρ 97 i := sy_S_o _ _ _ (by decide)
        have hzi := hz i hi (by omega)
        refine ⟨by rw [r19 i h]; exact sym' _ a1 h3, by rw [r19 i h, fld _ _ hgei h3]; exact a2, by rw [r19 i h, fld _ _ hgei h3, hv]; exact a3, by rw [r19 i h, fld _ _ hgei h3, oS _ _ (by decide) (by decide), rx_told_o ρ k (by omega) (by omega), ← e97]; exact a4, fun x hx hx2 => ?_⟩
        rw [oS _ _ (by decide) (by decide), rx_told_o ρ k (by omega) (by omega)] at hx2
        have h98 : sy_S ρ p q 98 (20 * i + x) = ρ 98 (20 * i + x) := sy_S_o _ _ _ (by decide)
        rw [oS _ _ (by decide) (by decide), rx_told_98, if_neg (by omega), τs _ _ (by omega) (by omega), f7 _ _ (by omega) (by omega) (by omega) (by omega) (by omega), ← h98]
        exact a5 x hx (by rw [e97]; exact hx2)
    · rw [m11] at hi2
      have h : i ≠ ρ 83 11 := fun hh => hX (Or.inr hh)
      have hFi := y7 i hi (by omega) (fun hh => hX (Or.inl hh))
      have h3 := sne i hi (by omega)
      have hgei := js_sym_ge (y6 i hi (by omega)).1
      unfold sy_F at hFi ⊢
      rw [r19 i h]
      simp only [fld _ _ hgei h3]
      have oo : ∀ a : Int, 86 ≤ a → a ≤ 97 → rx_next (rx_told ρ k) a i = ρ a i := fun a h1 h2 => by rw [nx (by omega), rx_told_o ρ k (by omega) (by omega)]
      rw [oo 86 (by decide) (by decide), oo 87 (by decide) (by decide), oo 88 (by decide) (by decide), oo 89 (by decide) (by decide), oo 91 (by decide) (by decide), oo 93 (by decide) (by decide), oo 94 (by decide) (by decide), oo 96 (by decide) (by decide), oo 92 (by decide) (by decide)]
      exact hFi
  · have sfld : ∀ i : Int, τ' s i = τ s i := fun i => τs _ _ (by omega) (by omega)
    have tm : ∀ i : Int, τ' (-1) i = τ (-1) i := fun i => τs _ _ (by omega) (by omega)
    refine ⟨js_desc_mono f1 (by rw [tm]; exact Int.le_refl _) (fun _ => sfld 15), ?_, by rw [τs _ _ (by omega) (by omega)]; exact f3, f4, by rw [τs _ _ (by omega) (by omega)]; exact f5, fun a i h1 h2 h3 h4 h5 h6 h7 => by rw [τs a i h6 h7]; exact f7 a i h1 h2 h3 h4 h5, by rw [tm]; exact f8, by rw [tm]; exact f9, by rw [tm]; exact f10, by rw [tm]; exact f11, (fun hh => by rw [tm, tm]; exact f12 hh), by rw [tm]; exact f13⟩
    unfold cx_new at f2 ⊢
    simp only [sfld]
    exact f2
end YT
