/-! part 99.m: members of a type, in step -/
theorem sy_Y_gen {M : Int} {σ ρ σ' ρ' : js_S} {b p q p' q' : Int} {X X' : Int → Prop} (hb : b = 0 ∨ b = 25) (hY : sy_Y M σ ρ b p q X) (h1 : ∀ a i : Int, (a = -1 ∨ a = 19 + b ∨ a = 20 + b ∨ (a = 7 + b ∧ i = 1) ∨ (137 ≤ a ∧ (i ≤ 0 ∨ 14 ≤ i))) → σ' a i = σ a i) (h2 : ρ' 83 11 = ρ 83 11) (h3 : ∀ a i : Int, a = 97 ∨ a = 98 → ρ' a i = ρ a i) (hv : ∀ i : Int, 0 ≤ i → i < ρ 83 11 → ρ' 99 i = 0 ∨ ρ' 99 i = 1) (hrv : rs_v ρ') (hvis : ∀ i : Int, 0 ≤ i → i < ρ 83 11 → σ' (σ (19 + b) i) 13 = sy_S ρ' p' q' 99 i) (hF : ∀ i : Int, 0 ≤ i → i < ρ 83 11 → ¬ X' i → sy_F σ' ρ' b i) : sy_Y M σ' ρ' b p' q' X' := by
  obtain ⟨⟨s1, s2, s3, s4, s5⟩, y2, y3, y4, y5, y6, y7⟩ := hY
  have e19 : ∀ i : Int, σ' (19 + b) i = σ (19 + b) i := fun i => h1 _ _ (by omega)
  have dd : ∀ x : Int, js_desc M σ x = some (0, 11, js_sym) → js_desc M σ' x = some (0, 11, js_sym) := fun x hx => js_desc_mono hx (by rw [h1 _ _ (Or.inl rfl)]; exact Int.le_refl _) (fun h7 => h1 _ _ (by omega))
  refine ⟨⟨by rw [h2]; exact s1, by rw [h2]; exact s2, fun i g1 g2 => by rw [h2] at g2; rw [h3 _ _ (Or.inl rfl)]; exact s3 i g1 g2, fun i k g1 g2 g3 g4 => by rw [h2] at g2; rw [h3 _ _ (Or.inl rfl)] at g4; rw [h3 _ _ (Or.inr rfl)]; exact s4 i k g1 g2 g3 g4, fun i g1 g2 => hv i g1 (by rw [h2] at g2; exact g2)⟩, hrv, ⟨by rw [h1 _ _ (Or.inl rfl)]; exact y3.1, by rw [h1 _ _ (Or.inl rfl)]; exact y3.2⟩, fun i hi hi2 => ?_, by rw [h1 _ _ (by omega), h2]; exact y5, fun i hi hi2 => ?_, fun i hi hi2 hx => hF i hi (by rw [h2] at hi2; exact hi2) hx⟩
  · rw [e19]
    rcases y4 i hi hi2 with h | ⟨h, h0⟩
    · exact Or.inl h
    · have ge := js_sym_ge h
      exact Or.inr ⟨dd _ h, by rw [h1 _ _ (by omega)]; exact h0⟩
  · rw [h2] at hi2
    obtain ⟨a1, a2, a3, a4, a5⟩ := y6 i hi hi2
    have ge := js_sym_ge a1
    have e97 : sy_S ρ' p' q' 97 i = sy_S ρ p q 97 i := by rw [sy_S_o _ _ _ (by decide), sy_S_o _ _ _ (by decide), h3 _ _ (Or.inl rfl)]
    refine ⟨by rw [e19]; exact dd _ a1, by rw [e19, h1 _ _ (by omega)]; exact a2, by rw [e19]; exact hvis i hi hi2, by rw [e19, h1 _ _ (by omega), e97]; exact a4, fun k hk hk2 => ?_⟩
    rw [e97] at hk2
    rw [h1 _ _ (by omega), a5 k hk hk2, sy_S_o _ _ _ (by decide), sy_S_o _ _ _ (by decide), h3 _ _ (Or.inr rfl)]
theorem sy_Y_gen2 {M : Int} {σ ρ σ' ρ' : js_S} {b p q p' q' : Int} {X X' : Int → Prop} (hb : b = 0 ∨ b = 25) (hY : sy_Y M σ ρ b p q X) (h1 : ∀ a i : Int, (a = -1 ∨ a = 19 + b ∨ a = 20 + b ∨ (a = 7 + b ∧ i = 1) ∨ (137 ≤ a ∧ (i ≤ 0 ∨ 14 ≤ i))) → σ' a i = σ a i) (h2 : ρ' 83 11 = ρ 83 11) (h3 : ∀ a i : Int, a = 97 ∨ a = 98 → ρ' a i = ρ a i) (hv : ∀ i : Int, 0 ≤ i → i < ρ 83 11 → ρ' 99 i = 0 ∨ ρ' 99 i = 1) (hrv : ∀ i : Int, 0 ≤ i → i < ρ 83 11 → 0 ≤ ρ' 86 i ∧ ρ' 86 i ≤ 9 ∧ 0 ≤ ρ' 87 i ∧ ρ' 87 i < 1000 ∧ -2000000000 ≤ ρ' 94 i ∧ ρ' 94 i ≤ 2000000000 ∧ rs_z ρ' i) (hvis : ∀ i : Int, 0 ≤ i → i < ρ 83 11 → σ' (σ (19 + b) i) 13 = sy_S ρ' p' q' 99 i) (hF : ∀ i : Int, 0 ≤ i → i < ρ 83 11 → ¬ X' i → sy_F σ' ρ' b i) : sy_Y M σ' ρ' b p' q' X' :=
  sy_Y_gen hb hY h1 h2 h3 hv (fun i g1 g2 => hrv i g1 (by rw [h2] at g2; exact g2)) hvis hF
/-- two symbols are two cells -/
theorem sy_Y_ne {M : Int} {σ ρ : js_S} {b p q : Int} {X : Int → Prop} (hY : sy_Y M σ ρ b p q X) {i k : Int} (hi : 0 ≤ i) (hi2 : i < ρ 83 11) (hk : 0 ≤ k) (hk2 : k < ρ 83 11) (h : i ≠ k) : σ (19 + b) i ≠ σ (19 + b) k := fun hh => by
  have a := (hY.2.2.2.2.2.1 i hi hi2).2.1
  have c := (hY.2.2.2.2.2.1 k hk hk2).2.1
  rw [hh, c] at a
  exact h a.symm
def mb_c (σ : js_S) (s n : Int) : Prop := σ s 1 = 8 ∧ σ s 5 = -1 ∧ σ s 6 = n ∧ σ s 7 = -1 ∧ σ s 8 = 0 ∧ σ s 9 = 0 ∧ σ s 10 = 0 ∧ σ s 11 = -1 ∧ σ s 12 = 0
def mb_r (ρ : js_S) (m : Int) : Prop := ρ 86 m = 8 ∧ ρ 87 m = 3 + m ∧ ρ 88 m = 0 ∧ ρ 92 m = 0 ∧ ρ 93 m = -1 ∧ ρ 94 m = 0 ∧ ρ 96 m = 0
/-- while members are told: n of them -/
def mb_I (M b m s n : Int) (σ0 ρ0 σ ρ : js_S) : Prop := sy_Y M σ ρ b 0 0 (fun i => i = m) ∧ (0 ≤ m ∧ 0 ≤ n ∧ n ≤ 64 ∧ ρ 83 11 = m + 1 + n ∧ ρ 83 26 = -1 ∧ σ (19 + b) m = s) ∧ mb_c σ s n ∧ (0 < n → σ s 2 = 3 + m ∧ σ s 3 = 0 ∧ σ s 4 = n - 1 ∧ ρ 89 m = n - 1 ∧ ρ 91 m = n) ∧ mb_r ρ m ∧ fr_R b σ0 σ ∧ rf_R ρ0 ρ ∧ dn_R b m σ0 σ ∧ (∀ i : Int, m < i → i < m + 1 + n → (ρ 86 i = 9 ∧ ρ 87 i = 3 + m ∧ ρ 92 i = 0) ∧ σ (σ (19 + b) i) 5 = -1 ∧ σ (σ (19 + b) i) 9 = 0 ∧ σ (σ (19 + b) i) 11 = -1) ∧ (∀ a i : Int, 86 ≤ a → a ≤ 97 → i < m → ρ a i = ρ0 a i) ∧ gf_R ρ0 ρ
theorem mb_I_tk {M b m s n : Int} {σ0 ρ0 σ3 ρ3 σ4 : js_S} (hb : b = 0 ∨ b = 25) (h : mb_I M b m s n σ0 ρ0 σ3 ρ3) (f4 : tk_fr σ3 σ4) : mb_I M b m s n σ0 ρ0 σ4 (rx_next ρ3) := by
  have tf4 := tf_R_next ρ3
  obtain ⟨i1, ⟨i2, i3, i4, i5, i6, i7⟩, i8, i9, i10, i11, i12, i13, i14, i15, i16⟩ := h
  have hsd := (i1.2.2.2.2.2.1 m i2 (by omega)).1
  rw [i7] at hsd
  have hsge := js_sym_ge hsd
  have t : ∀ a i : Int, 83 < a → rx_next ρ3 a i = ρ3 a i := fun a i h => tf4 _ _ (by omega)
  have c : ∀ a i : Int, 2 < a → σ4 a i = σ3 a i := fun a i h => f4 _ _ (by omega) (by omega)
  refine ⟨sy_Y_cf hb i1 (cf_R_fr f4) tf4, ⟨i2, i3, i4, by rw [tf4 _ _ (by omega)]; exact i5, by rw [tf4 _ _ (by omega)]; exact i6, by rw [c _ _ (by omega)]; exact i7⟩, ?_, fun h => ?_, ?_, fr_R_trans i11 (fr_R_tk hb f4), rf_R_trans i12 (rf_R_tf tf4), ⟨fun a i h1 h2 h3 h4 h5 h6 => ?_, fun i h1 h2 => ⟨?_, fun k => ?_⟩⟩, fun i h1 h2 => ?_, fun a i h1 h2 h3 => by rw [t _ _ (by omega)]; exact i15 a i h1 h2 h3, fun a i hh => by rw [tf4 _ _ (by omega)]; exact i16 a i hh⟩
  · unfold mb_c at i8 ⊢
    simp only [c s _ (by omega)]
    exact i8
  · simp only [c s _ (by omega), t 89 _ (by decide), t 91 _ (by decide)]
    exact i9 h
  · unfold mb_r at i10 ⊢
    rw [t 86 _ (by decide), t 87 _ (by decide), t 88 _ (by decide), t 92 _ (by decide), t 93 _ (by decide), t 94 _ (by decide), t 96 _ (by decide)]
    exact i10
  · rw [c _ _ (by omega)]
    exact i13.1 a i h1 h2 h3 h4 h5 h6
  · rw [c _ _ (by omega)]
    exact (i13.2 i h1 h2).1
  · have e1 := i13.2 i h1 h2
    have ge := js_sym_ge (i1.2.2.2.2.2.1 i h1 (by omega)).1
    rw [e1.1] at ge
    rw [c _ _ (by omega)]
    exact e1.2 k
  · have ge := js_sym_ge (i1.2.2.2.2.2.1 i (by omega) (by omega)).1
    rw [t 86 _ (by decide), t 87 _ (by decide), t 92 _ (by decide), c (19 + b) _ (by omega), c _ _ (by omega), c _ _ (by omega), c _ _ (by omega)]
    exact i14 i h1 h2
section MB
variable {E : js_E} {d e : Nat} {σ ρ σ0 ρ0 : js_S} {b : Int}
set_option maxHeartbeats 4000000 in
/-- one member -/
theorem y_mstep {m s n : Int} (hb : b = 0 ∨ b = 25) (hI : mb_I E.1 b m s n σ0 ρ0 σ ρ) (hn : n < 64) {j : Nat} (hR : rd_R σ ρ j) (hd : 9 ≤ d) (he : 6 ≤ e) {ux5 ux4 : js_v} : (∃ (σ' ρ' : js_S) (j' : Nat) (y x5 x4 : Int), (y = 0 ∨ y = 1) ∧ js_J E d 44 84 [(2, 6 + b), (2, s), (0, 3 + m), (0, 1), (0, n), ux5] [(0, 0), (0, 9), (2, 7 + b)] σ = js_J E d 44 53 [(2, 6 + b), (2, s), (0, 3 + m), (0, y), (0, n + 1), (2, x5)] [] σ' ∧ js_J E e 204 64 [(2, 83), (0, m), (0, n), (0, 1), ux4] [] ρ = js_J E e 204 42 [(2, 83), (0, m), (0, n + 1), (0, y), (0, x4)] [] ρ' ∧ rd_R σ' ρ' j' ∧ j < j' ∧ mb_I E.1 b m s (n + 1) σ0 ρ0 σ' ρ') ∨ (∃ ρ' : js_S, js_J E e 204 64 [(2, 83), (0, m), (0, n), (0, 1), ux4] [] ρ = js_r0 E ρ' ∧ rf_R ρ0 ρ' ∧ dt_P E b σ0 ρ' (js_J E d 44 84 [(2, 6 + b), (2, s), (0, 3 + m), (0, 1), (0, n), ux5] [(0, 0), (0, 9), (2, 7 + b)] σ)) := by
  obtain ⟨hY, ⟨m0, n0, n64, m11, r26, p19⟩, hc, hpos, hr, hfr, hrf, hdn, hmem, hold, hgf⟩ := hI
  clear hpos
  have c6 := hc.2.2.1
  have hok := hR.2.2.1
  have hs := hY.1
  have rt := r_tell (E := E) (d := e - 1) (k := 9) (p := -1) hok hs (by omega) (by decide) (by omega)
  have hsd := (hY.2.2.2.2.2.1 m m0 (by omega))
  unfold sy_N at hsd
  rw [p19] at hsd
  have hsge := js_sym_ge hsd.1
  have hslt := js_sym_lt hsd.1 hsge
  rw [b_44_84 hb, b_204_64]
  by_cases q1 : rx_tf ρ (-1) = 0
  · obtain ⟨τ, z, j2, e2, hR2, hY2, ht, hj2⟩ := y_tell (E := E) (d := d - 1) (k := 9) (pp := -1) hb hY hR (by omega) (by decide) (by decide) (Or.inl ⟨rfl, rfl⟩) (by omega) q1
    rw [if_pos q1] at rt
    have hm4 : ρ 83 11 < 400 := by
      have := hY2.1.2.1
      rw [rx_next_o _ (by omega), rx_told_11] at this
      omega
    have fr2 := fr_R_told hb (by omega) hm4 ht
    obtain ⟨d1, d2, d3, d4, d5, d7, d8, d9, d10, d11, d12, d13⟩ := ht
    have hzge := js_sym_ge d1
    have o2 : ∀ a i : Int, ¬ (a = 83 ∧ (5 ≤ i ∧ i ≤ 8 ∨ i = 11)) → (a < 86 ∨ 99 < a ∨ (a ≠ 98 ∧ i ≠ m + 1 + n)) → rx_next (rx_told ρ 9) a i = ρ a i := fun a i g1 g2 => by rw [rx_next_o _ (by omega), rx_told_o ρ 9 (by omega) (by omega)]
    have z11 : rx_next (rx_told ρ 9) 83 11 = m + 1 + n + 1 := by rw [rx_next_o _ (by omega), rx_told_11, m11]
    have z86 : rx_next (rx_told ρ 9) 86 (m + 1 + n) = 9 := by rw [rx_next_o _ (by omega), ← m11, rx_told_86]
    have z91 : rx_next (rx_told ρ 9) 91 (m + 1 + n) = 1 := by rw [rx_next_o _ (by omega), ← m11, rx_told_91]
    have z92 : rx_next (rx_told ρ 9) 92 (m + 1 + n) = 0 := by rw [rx_next_o _ (by omega), ← m11, rx_told_92]
    have z93 : rx_next (rx_told ρ 9) 93 (m + 1 + n) = -1 := by rw [rx_next_o _ (by omega), ← m11, rx_told_93, r26]
    have z96 : rx_next (rx_told ρ 9) 96 (m + 1 + n) = 0 := by rw [rx_next_o _ (by omega), ← m11, rx_told_96]
    clear d12 d4
    rw [m11] at d3 d7 hm4 rt
    have rfo : rf_R ρ (rx_next (rx_told ρ 9)) := rf_R_told ρ 9
    have h9 := hR2.2.2.1.2.2.1
    obtain ⟨hV, t7, t8⟩ := rd_V hR2
    have hmi := tk_m_in hV
    have h5a := hR2.2.2.1.2.2.2.2.2.2.1
    have h5b := hR2.2.2.1.2.2.2.2.2.2.2.1
    rw [k_204_68 (by omega) rt, k_44_88 hb (by omega) e2]
    generalize rx_next (rx_told ρ 9) = ρ2 at hR2 hY2 o2 z11 z86 z91 z92 z93 z96 rfo h9 hV t7 t8 hmi h5a h5b ⊢
    -- the cells of type and member
    have p2m : τ (19 + b) m = s := by rw [d7 _ _ (by omega) (by omega) (by omega) (by omega) (by omega) (by omega) (by omega)]; exact p19
    have hzs : z ≠ s := by
      have := sy_Y_ne hY2 (i := m + 1 + n) (k := m) (by omega) (by omega) m0 (by omega) (by omega)
      rw [d3, p2m] at this
      exact this
    have ts : ∀ i : Int, τ s i = σ s i := fun i => d7 _ _ (fun hh => hzs hh.symm) (by omega) (by omega) (by omega) (by omega) (by omega) (by omega)
    have x2 : js_desc E.1 τ s = some (0, 11, js_sym) := by
      have := (hY2.2.2.2.2.2.1 m m0 (by omega)).1
      rw [p2m] at this
      exact this
    have w1 : js_desc E.1 (js_up τ z 8 n) z = some (0, 11, js_sym) := by rw [js_desc_up (by omega) (fun _ => by decide)]; exact d1
    have w2 : js_desc E.1 (js_up (js_up (js_up (js_up τ z 8 n) z 2 (3 + m)) z 3 n) z 4 n) z = some (0, 11, js_sym) := by rw [js_desc_up (by omega) (fun _ => by decide), js_desc_up (by omega) (fun _ => by decide), js_desc_up (by omega) (fun _ => by decide)]; exact w1
    have w3 : js_desc E.1 (js_up (js_up (js_up (js_up (js_up τ z 8 n) z 2 (3 + m)) z 3 n) z 4 n) z 13 1) s = some (0, 11, js_sym) := by rw [js_desc_up (by omega) (fun _ => by decide), js_desc_up (by omega) (fun _ => by decide), js_desc_up (by omega) (fun _ => by decide), js_desc_up (by omega) (fun _ => by decide), js_desc_up (by omega) (fun _ => by decide)]; exact x2
    have ez8 : js_up (js_up (js_up (js_up τ z 8 n) z 2 (3 + m)) z 3 n) z 4 n z 8 = n := by rw [js_up_ni _ (by decide), js_up_ni _ (by decide), js_up_ni _ (by decide), js_up_same]
    have w4 : js_desc E.1 (js_up (js_up (js_up (js_up (js_up (js_up (js_up (js_up τ z 8 n) z 2 (3 + m)) z 3 n) z 4 n) z 13 1) s 2 (3 + m)) s 3 0) s 4 n) s = some (0, 11, js_sym) := by rw [js_desc_up (by omega) (fun _ => by decide), js_desc_up (by omega) (fun _ => by decide), js_desc_up (by omega) (fun _ => by decide)]; exact w3
    rw [b_44_91 x2 d1, ts 6, c6, k_44_115 w1 (by omega) (b_43_0 w1), b_44_118 w2, ez8, k_44_132 w3 (by omega) (b_43_0 w3), b_44_135 w4 hb]
    -- the class's store behind it
    have u6 : js_up (js_up (js_up (js_up (js_up (js_up (js_up (js_up τ z 8 n) z 2 (3 + m)) z 3 n) z 4 n) z 13 1) s 2 (3 + m)) s 3 0) s 4 n s 6 = n := by
      rw [js_up_ni _ (by decide), js_up_ni _ (by decide), js_up_ni _ (by decide), js_up_na _ (fun hh => hzs hh.symm), js_up_na _ (fun hh => hzs hh.symm), js_up_na _ (fun hh => hzs hh.symm), js_up_na _ (fun hh => hzs hh.symm), js_up_na _ (fun hh => hzs hh.symm), ts, c6]
    rw [u6]
    have g : ∀ a i : Int, a ≠ z → a ≠ s → js_up (js_up (js_up (js_up (js_up (js_up (js_up (js_up (js_up τ z 8 n) z 2 (3 + m)) z 3 n) z 4 n) z 13 1) s 2 (3 + m)) s 3 0) s 4 n) s 6 (n + 1) a i = τ a i := fun a i h1 h2 => by
      rw [js_up_na _ h2, js_up_na _ h2, js_up_na _ h2, js_up_na _ h2, js_up_na _ h1, js_up_na _ h1, js_up_na _ h1, js_up_na _ h1, js_up_na _ h1]
    have gz : ∀ i : Int, js_up (js_up (js_up (js_up (js_up (js_up (js_up (js_up (js_up τ z 8 n) z 2 (3 + m)) z 3 n) z 4 n) z 13 1) s 2 (3 + m)) s 3 0) s 4 n) s 6 (n + 1) z i = if i = 13 then 1 else if i = 4 then n else if i = 3 then n else if i = 2 then 3 + m else if i = 8 then n else τ z i := fun i => by
      rw [js_up_na _ hzs, js_up_na _ hzs, js_up_na _ hzs, js_up_na _ hzs]
      simp only [js_up, true_and]
    have gs : ∀ i : Int, js_up (js_up (js_up (js_up (js_up (js_up (js_up (js_up (js_up τ z 8 n) z 2 (3 + m)) z 3 n) z 4 n) z 13 1) s 2 (3 + m)) s 3 0) s 4 n) s 6 (n + 1) s i = if i = 6 then n + 1 else if i = 4 then n else if i = 3 then 0 else if i = 2 then 3 + m else σ s i := fun i => by
      have hsz : s ≠ z := fun hh => hzs hh.symm
      simp only [js_up, true_and, hsz, false_and, if_false, ts]
    have g1 : js_up (js_up (js_up (js_up (js_up (js_up (js_up (js_up τ z 8 n) z 2 (3 + m)) z 3 n) z 4 n) z 13 1) s 2 (3 + m)) s 3 0) s 4 n 1 1 = τ 1 1 := by
      rw [js_up_na _ (by omega), js_up_na _ (by omega), js_up_na _ (by omega), js_up_na _ (by omega), js_up_na _ (by omega), js_up_na _ (by omega), js_up_na _ (by omega), js_up_na _ (by omega)]
    rw [g1, t7, js_w_of (x := tk_m (ρ2 83 5)) (by omega) (by omega)]
    generalize js_up (js_up (js_up (js_up (js_up (js_up (js_up (js_up (js_up τ z 8 n) z 2 (3 + m)) z 3 n) z 4 n) z 13 1) s 2 (3 + m)) s 3 0) s 4 n) s 6 (n + 1) = σ3 at g gz gs ⊢
    -- the reference's
    rw [b_204_71, h9, if_neg (show ¬ 0 < js_w 0 by decide), js_w_of (x := m + 1 + n) (by omega) (by omega), if_pos (show 0 ≤ m + 1 + n ∧ m + 1 + n < 400 by omega), js_w_of (x := m) (by omega) (by omega), if_pos (show 0 ≤ m ∧ m < 400 by omega), js_w_of (x := ρ2 83 5) (by omega) (by omega), js_iand11]
    have kA : ∀ a i : Int, (a < 87 ∨ 99 < a ∨ (94 < a ∧ a < 99) ∨ (91 < a ∧ a < 94) ∨ a = 90) → js_up (js_up (js_up (js_up (js_up (js_up (js_up ρ2 87 (m + 1 + n) (3 + m)) 88 (m + 1 + n) n) 89 (m + 1 + n) n) 94 (m + 1 + n) n) 99 (m + 1 + n) 1) 91 m (n + 1)) 89 m (n + 1 - 1) a i = ρ2 a i := fun a i h => by
      rw [js_up_na _ (by omega), js_up_na _ (by omega), js_up_na _ (by omega), js_up_na _ (by omega), js_up_na _ (by omega), js_up_na _ (by omega), js_up_na _ (by omega)]
    have kI : ∀ a i : Int, i ≠ m → i ≠ m + 1 + n → js_up (js_up (js_up (js_up (js_up (js_up (js_up ρ2 87 (m + 1 + n) (3 + m)) 88 (m + 1 + n) n) 89 (m + 1 + n) n) 94 (m + 1 + n) n) 99 (m + 1 + n) 1) 91 m (n + 1)) 89 m (n + 1 - 1) a i = ρ2 a i := fun a i h1 h2 => by
      rw [js_up_ni _ h1, js_up_ni _ h1, js_up_ni _ h2, js_up_ni _ h2, js_up_ni _ h2, js_up_ni _ h2, js_up_ni _ h2]
    have km : ∀ a : Int, js_up (js_up (js_up (js_up (js_up (js_up (js_up ρ2 87 (m + 1 + n) (3 + m)) 88 (m + 1 + n) n) 89 (m + 1 + n) n) 94 (m + 1 + n) n) 99 (m + 1 + n) 1) 91 m (n + 1)) 89 m (n + 1 - 1) a m = if a = 89 then n else if a = 91 then n + 1 else ρ2 a m := fun a => by
      have : ¬ (m = m + 1 + n) := by omega
      have e1 : n + 1 - 1 = n := by omega
      simp only [js_up, this, and_false, and_true, if_false, e1]
    have kz : ∀ a : Int, js_up (js_up (js_up (js_up (js_up (js_up (js_up ρ2 87 (m + 1 + n) (3 + m)) 88 (m + 1 + n) n) 89 (m + 1 + n) n) 94 (m + 1 + n) n) 99 (m + 1 + n) 1) 91 m (n + 1)) 89 m (n + 1 - 1) a (m + 1 + n) = if a = 99 then 1 else if a = 94 then n else if a = 89 then n else if a = 88 then n else if a = 87 then 3 + m else ρ2 a (m + 1 + n) := fun a => by
      have : ¬ (m + 1 + n = m) := by omega
      simp only [js_up, this, and_false, and_true, if_false]
    generalize js_up (js_up (js_up (js_up (js_up (js_up (js_up ρ2 87 (m + 1 + n) (3 + m)) 88 (m + 1 + n) n) 89 (m + 1 + n) n) 94 (m + 1 + n) n) 99 (m + 1 + n) 1) 91 m (n + 1)) 89 m (n + 1 - 1) = ρ3 at kA kI km kz ⊢
    have k11 : ρ3 83 11 = m + 1 + (n + 1) := by rw [kA _ _ (by decide), z11]; omega
    have hR3 : rd_R σ3 ρ3 j2 := rd_R_of hR2 (fun i _ => g _ _ (by omega) (by omega)) (fun a i _ _ => g _ _ (by omega) (by omega)) (fun i _ _ => kA _ _ (by decide)) (fun i => kA _ _ (by decide))
    have e19 : ∀ i : Int, σ3 (19 + b) i = τ (19 + b) i := fun i => g _ _ (by omega) (by omega)
    have oth : ∀ i : Int, 0 ≤ i → i < m + 1 + n + 1 → i ≠ m → i ≠ m + 1 + n → τ (19 + b) i ≠ z ∧ τ (19 + b) i ≠ s := fun i h1 h2 h3 h4 => by
      have a1 := sy_Y_ne hY2 (i := i) (k := m + 1 + n) h1 (by omega) (by omega) (by omega) h4
      have a2 := sy_Y_ne hY2 (i := i) (k := m) h1 (by omega) m0 (by omega) h3
      rw [d3] at a1
      rw [p2m] at a2
      exact ⟨a1, a2⟩
    have hrv2 := hY2.2.1
    have hY3 : sy_Y E.1 σ3 ρ3 b 0 0 (fun i => i = m) := by
      refine sy_Y_gen2 hb hY2 (fun a i h => ?_) (by rw [k11, z11]; omega) (fun a i h => kA _ _ (by omega)) (fun i h1 h2 => ?_) (fun i h1 h2 => ?_) (fun i h1 h2 => ?_) (fun i h1 h2 hx => ?_)
      · by_cases a1 : a = z
        · rw [a1, gz, if_neg (by omega), if_neg (by omega), if_neg (by omega), if_neg (by omega), if_neg (by omega)]
        · by_cases a2 : a = s
          · rw [a2, gs, if_neg (by omega), if_neg (by omega), if_neg (by omega), if_neg (by omega), ts]
          · exact g a i a1 a2
      · by_cases a1 : i = m + 1 + n
        · rw [a1, kz, if_pos rfl]
          exact Or.inr rfl
        · by_cases a2 : i = m
          · rw [a2, km, if_neg (by decide), if_neg (by decide)]
            exact hY2.1.2.2.2.2 m m0 (by omega)
          · rw [kI _ _ a2 a1]
            exact hY2.1.2.2.2.2 i h1 h2
      · by_cases a1 : i = m + 1 + n
        · rw [a1, kz 86, kz 87, kz 94, if_neg (by decide), if_neg (by decide), if_neg (by decide), if_neg (by decide), if_neg (by decide), if_neg (by decide), if_neg (by decide), if_neg (by decide), if_neg (by decide), if_pos rfl, if_neg (by decide), if_pos rfl, z86]
          exact ⟨by omega, by omega, by omega, by omega, by omega, by omega, rs_z_of (hrv2 (m + 1 + n) (by omega) (by omega)).2.2.2.2.2.2 (by rw [k11, z11]; omega) (kA _ _ (by decide)) (kA _ _ (by decide))⟩
        · by_cases a2 : i = m
          · rw [a2, km 86, km 87, km 94, if_neg (by decide), if_neg (by decide), if_neg (by decide), if_neg (by decide), if_neg (by decide), if_neg (by decide)]
            exact rs_6 (hrv2 m m0 (by omega)) (rs_z_of (hrv2 m m0 (by omega)).2.2.2.2.2.2 (by rw [k11, z11]; omega) (kA _ _ (by decide)) (kA _ _ (by decide)))
          · rw [kI 86 _ a2 a1, kI 87 _ a2 a1, kI 94 _ a2 a1]
            exact rs_6 (hrv2 i h1 h2) (rs_z_of (hrv2 i h1 h2).2.2.2.2.2.2 (by rw [k11, z11]; omega) (kA _ _ (by decide)) (kA _ _ (by decide)))
      · rw [sy_S_id]
        have hN := (hY2.2.2.2.2.2.1 i h1 h2).2.2.1
        rw [sy_S_id] at hN
        by_cases a1 : i = m + 1 + n
        · rw [a1, d3, gz, if_pos rfl, kz, if_pos rfl]
        · by_cases a2 : i = m
          · rw [a2, p2m] at hN
            rw [a2, p2m, gs, if_neg (by decide), if_neg (by decide), if_neg (by decide), if_neg (by decide), km, if_neg (by decide), if_neg (by decide), ← ts]
            exact hN
          · have ot := oth i h1 (by omega) a2 a1
            rw [g _ _ ot.1 ot.2, kI _ _ a2 a1]
            exact hN
      · by_cases a1 : i = m + 1 + n
        · unfold sy_F
          rw [a1, e19, d3]
          obtain ⟨v0, v1, v2, v3, v4, v5, v6, v7, v8, v9, v10, v11, v12, v13, v14⟩ := d2
          simp only [gz, kz]
          simp [v1, v6, v7, v10, v12, z86, z91, z92, z93, z96]
        · have ot := oth i h1 (by omega) hx a1
          have hFi := hY2.2.2.2.2.2.2 i h1 h2 (fun hh => hh.elim hx (fun h => a1 (by rw [h, m11])))
          unfold sy_F at hFi ⊢
          rw [e19]
          simp only [g _ _ ot.1 ot.2]
          rw [kI 86 _ hx a1, kI 87 _ hx a1, kI 88 _ hx a1, kI 89 _ hx a1, kI 91 _ hx a1, kI 92 _ hx a1, kI 93 _ hx a1, kI 94 _ hx a1, kI 96 _ hx a1]
          exact hFi
    have fr3 : fr_R b τ σ3 := fr_R_of hb (fun a i h1 h2 h3 h4 => by
      have a1 : a ≠ z := by
        rcases h4 (m + 1 + n) (by omega) (by omega) with h | h
        · omega
        · exact fun hh => h (by rw [d3, hh])
      have a2 : a ≠ s := by
        rcases h4 m m0 (by omega) with h | h
        · omega
        · exact fun hh => h (by rw [p2m, hh])
      exact g a i a1 a2)
    have hI3 : mb_I E.1 b m s (n + 1) σ0 ρ0 σ3 ρ3 := by
      have o3 : ∀ a i : Int, i < m → 86 ≤ a → a ≤ 97 → ρ3 a i = ρ a i := fun a i h1 h2 h3 => by
        rw [kI _ _ (by omega) (by omega), o2 _ _ (by omega) (by omega)]
      refine ⟨hY3, ⟨m0, by omega, by omega, k11, by rw [kA _ _ (by decide), o2 _ _ (by decide) (Or.inl (by decide))]; exact r26, by rw [e19]; exact p2m⟩, ?_, fun _ => ?_, ?_, fr_R_trans hfr (fr_R_trans fr2 fr3), rf_R_trans hrf (rf_R_trans rfo (fun a i g1 g2 => kA _ _ (by omega))), ⟨fun a i h1 h2 h3 h4 h5 h6 => ?_, fun i h1 h2 => ?_⟩, fun i h1 h2 => ?_, fun a i h1 h2 h3 => by rw [o3 a i h3 h1 h2]; exact hold a i h1 h2 h3, fun a i hh => by rw [kA _ _ (by omega), o2 _ _ (by omega) (by omega)]; exact hgf a i hh⟩
      · unfold mb_c at hc ⊢
        obtain ⟨c1, c5, c6, c7, c8, c9, c10, c11, c12⟩ := hc
        simp only [gs]
        simp [c1, c5, c7, c8, c9, c10, c11, c12]
      · simp only [gs, km]
        simp
      · unfold mb_r at hr ⊢
        rw [km 86, km 87, km 88, km 92, km 93, km 94, km 96, if_neg (by decide), if_neg (by decide), if_neg (by decide), if_neg (by decide), if_neg (by decide), if_neg (by decide), if_neg (by decide), if_neg (by decide), if_neg (by decide), if_neg (by decide), if_neg (by decide), if_neg (by decide), if_neg (by decide), if_neg (by decide), o2 86 _ (by omega) (by omega), o2 87 _ (by omega) (by omega), o2 88 _ (by omega) (by omega), o2 92 _ (by omega) (by omega), o2 93 _ (by omega) (by omega), o2 94 _ (by omega) (by omega), o2 96 _ (by omega) (by omega)]
        exact hr
      · rw [g _ _ (by omega) (by omega), d7 _ _ (by omega) (by omega) (by omega) (by omega) (by omega) (by omega) (by omega)]
        exact hdn.1 a i h1 h2 h3 h4 h5 h6
      · have e1 := (hdn.2 i h1 h2)
        have ot := oth i h1 (by omega) (by omega) (by omega)
        have t19 : τ (19 + b) i = σ (19 + b) i := d7 _ _ (by omega) (by omega) (by omega) (by omega) (by omega) (by omega) (by omega)
        have ge := js_sym_ge (hY.2.2.2.2.2.1 i h1 (by omega)).1
        refine ⟨by rw [e19, t19]; exact e1.1, fun k => ?_⟩
        rw [t19] at ot
        have e2 := e1.2 k
        rw [← e1.1] at e2 ⊢
        rw [g _ _ ot.1 ot.2, d7 _ _ ot.1 (by omega) (by omega) (by omega) (by omega) (by omega) (by omega)]
        exact e2
      · by_cases a1 : i = m + 1 + n
        · rw [a1, e19, d3, kz 86, kz 87, kz 92]
          obtain ⟨v0, v1, v2, v3, v4, v5, v6, v7, v8, v9, v10, v11, v12, v13, v14⟩ := d2
          simp only [gz]
          simp [z86, z92, v5, v9, v11]
        · have hh := hmem i h1 (by omega)
          have ot := oth i (by omega) (by omega) (by omega) a1
          have t19 : τ (19 + b) i = σ (19 + b) i := d7 _ _ (by omega) (by omega) (by omega) (by omega) (by omega) (by omega) (by omega)
          have ge := js_sym_ge (hY.2.2.2.2.2.1 i (by omega) (by omega)).1
          rw [e19, g _ _ ot.1 ot.2, g _ _ ot.1 ot.2, g _ _ ot.1 ot.2, kA 86 _ (by decide), kI 87 _ (by omega) (by omega), kA 92 _ (by decide), o2 86 _ (by omega) (by omega), o2 87 _ (by omega) (by omega), o2 92 _ (by omega) (by omega)]
          rw [t19] at ot ⊢
          rw [d7 _ _ ot.1 (by omega) (by omega) (by omega) (by omega) (by omega) (by omega), d7 _ _ ot.1 (by omega) (by omega) (by omega) (by omega) (by omega) (by omega), d7 _ _ ot.1 (by omega) (by omega) (by omega) (by omega) (by omega) (by omega)]
          exact hh
    have i44 : tk_m (ρ2 83 5) = 44 ↔ ρ2 83 5 = 44 := tk_m_inj hV (show tk_V 44 by unfold tk_V; omega)
    refine Or.inl ?_
    by_cases q5 : ρ2 83 5 = 44
    · obtain ⟨σ4, j4, e4, hR4, f4, hj4, hj4'⟩ := y_next (E := E) (d := d - 1) hR3
      have k5 : ρ3 83 5 = 44 := by rw [kA _ _ (by decide)]; exact q5
      have t44 := i44.mpr q5
      clear i44 hj4'
      refine ⟨σ4, rx_next ρ3, j4, 1, z, m + 1 + n, Or.inr rfl, ?_, ?_, hR4, by omega, ?_⟩
      · rw [if_pos t44, b_44_162 hb, if_neg (show ¬ js_w 1 = 0 by decide), k_44_171 (by omega) e4, b_44_174]
      · rw [if_pos q5, b_204_156, if_neg (show ¬ js_w 1 = 0 by decide), k_204_162 (by omega) (r_next' hR3.2.2.1 (by omega)), b_204_165]
      · exact mb_I_tk hb hI3 f4
    · refine ⟨σ3, ρ3, j2, 0, z, m + 1 + n, Or.inl rfl, ?_, ?_, hR3, by omega, hI3⟩
      · rw [if_neg (fun hh => q5 (i44.mp hh)), b_44_162 hb, if_pos (show js_w 0 = 0 from rfl), b_44_174]
      · rw [if_neg q5, b_204_156, if_pos (show js_w 0 = 0 from rfl), b_204_165]
  · have e2 := y_tell_T (E := E) (d := d - 1) (k := 9) (pp := -1) hb hY hR (by omega) (Or.inl ⟨rfl, rfl⟩) q1
    have hin := rx_tf_in ρ (-1)
    have hF := rx_bad1 hok (k := rx_tf ρ (-1)) (by omega) (by omega)
    have f1 := hF.1.1
    have f2 := hF.1.2.1
    rw [if_neg q1] at rt
    have tb := tf_R_bad ρ (rx_tf ρ (-1)) (ρ 83 6)
    refine Or.inr ⟨_, ?_, rf_R_trans hrf (rf_R_tf tb), hF.1, ?_, ?_, σ, ?_, hfr, hY.2.2.2.1, hY.2.2.1⟩
    · rw [k_204_68 (by omega) rt, b_204_71, js_w_of (x := rx_bad ρ (rx_tf ρ (-1)) (ρ 83 6) 83 9) (by omega) (by omega), if_pos f1]
    · rw [tb _ _ (by omega)]
      exact hs.1
    · rw [tb _ _ (by omega)]
      exact hs.2.1
    · rw [kt_44_88 hb (by omega) e2, hF.2]
      rfl
end MB
