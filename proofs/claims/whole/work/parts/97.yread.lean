/-! part 97: Constants.read in step -/
theorem rd_R_of {σ ρ σ' ρ' : js_S} {j : Nat} (h : rd_R σ ρ j) (h1 : ∀ i : Int, (i = 1 ∨ i = 2 ∨ i = 3 ∨ i = 5 ∨ i = 10 ∨ i = 11) → σ' 1 i = σ 1 i) (h2 : ∀ a i : Int, 2 ≤ a → a ≤ 5 → σ' a i = σ a i) (h3 : ∀ i : Int, 4 ≤ i → i ≤ 10 → ρ' 83 i = ρ 83 i) (h4 : ∀ i : Int, ρ' 84 i = ρ 84 i) : rd_R σ' ρ' j := by
  obtain ⟨r1, r2, r3, r4, r5, r6⟩ := h
  refine ⟨tk_T_of r1 (h1 10 (by omega)) (fun i => h2 _ i (by decide) (by decide)) (fun i => h2 _ i (by decide) (by decide)) (fun i => h2 _ i (by decide) (by decide)) (h3 4 (by decide) (by decide)) h4, tk_A_of r2 (fun i hi => h1 i (by omega)) (fun i => h2 _ i (by decide) (by decide)) (fun i hi hi2 => h3 i hi (by omega)) h4, ?_, by rw [h1 5 (by omega), h3 10 (by decide) (by decide)]; exact r4, by rw [h3 10 (by decide) (by decide)]; exact r5, by rw [h3 10 (by decide) (by decide)]; exact r6⟩
  obtain ⟨⟨t1, t2, t3⟩, g2, g3, g4, g5, g6, g7, g8, g9⟩ := r3
  have e4 := h3 4 (by decide) (by decide)
  have e5 := h3 5 (by decide) (by decide)
  have e6 := h3 6 (by decide) (by decide)
  have e7 := h3 7 (by decide) (by decide)
  have e9 := h3 9 (by decide) (by decide)
  exact ⟨⟨by rw [e4]; exact t1, by rw [e4]; exact t2, fun i hi hi2 => by rw [h4]; exact t3 i hi (by rw [← e4]; exact hi2)⟩, fun i hi hi2 => by rw [h4]; exact g2 i hi hi2, by rw [e9]; exact g3, by rw [e6]; exact g4, by rw [e6, e7]; exact g5, by rw [e7, e4]; exact g6, by rw [e5]; exact g7, by rw [e5]; exact g8, by rw [e5, e6, e7]; exact g9⟩
theorem sy_Y_of {M : Int} {σ ρ σ' ρ' : js_S} {b p q : Int} {X : Int → Prop} (h : sy_Y M σ ρ b p q X) (h1 : ∀ a i : Int, (a = -1 ∨ a = 19 + b ∨ a = 20 + b ∨ (a = 7 + b ∧ i = 1) ∨ 137 ≤ a) → σ' a i = σ a i) (h2 : ρ' 83 11 = ρ 83 11) (h3 : ∀ a i : Int, 86 ≤ a → a ≤ 99 → ρ' a i = ρ a i) : sy_Y M σ' ρ' b p q X := by
  obtain ⟨y1, y2, y3, y4, y5, y6, y7⟩ := h
  have hm : ∀ i : Int, σ' (-1) i = σ (-1) i := fun i => h1 _ _ (Or.inl rfl)
  have h19 : ∀ i : Int, σ' (19 + b) i = σ (19 + b) i := fun i => h1 _ _ (by omega)
  have h20 : ∀ i : Int, σ' (20 + b) i = σ (20 + b) i := fun i => h1 _ _ (by omega)
  have hs : ∀ s i : Int, 137 ≤ s → σ' s i = σ s i := fun s i hh => h1 _ _ (by omega)
  have hd : ∀ s : Int, js_desc M σ s = some (0, 11, js_sym) → js_desc M σ' s = some (0, 11, js_sym) := fun s hh => js_desc_mono hh (by rw [hm]; exact Int.le_refl _) (fun h7 => hs _ _ h7)
  have hS : ∀ a i : Int, 86 ≤ a → a ≤ 99 → sy_S ρ' p q a i = sy_S ρ p q a i := fun a i g1 g2 => by
    unfold sy_S
    rw [h3 a i g1 g2]
  refine ⟨rs_ok_of y1 h2 (fun i => h3 _ i (by decide) (by decide)) (fun i => h3 _ i (by decide) (by decide)) (fun i => h3 _ i (by decide) (by decide)), rs_v_of y2 (fun i => h3 _ i (by decide) (by decide)) (fun i => h3 _ i (by decide) (by decide)) (fun i => h3 _ i (by decide) (by decide)) h2 (fun i => h3 _ i (by decide) (by decide)) (fun i => h3 _ i (by decide) (by decide)), ⟨by rw [hm]; exact y3.1, by rw [hm]; exact y3.2⟩, fun i hi hi2 => ?_, by rw [h1 (7 + b) 1 (by omega), h2]; exact y5, fun i hi hi2 => ?_, fun i hi hi2 hx => ?_⟩
  · rw [h19]
    rcases y4 i hi hi2 with g | ⟨g1, g2⟩
    · exact Or.inl g
    · exact Or.inr ⟨hd _ g1, by rw [hs _ _ (js_sym_ge g1)]; exact g2⟩
  · rw [h2] at hi2
    obtain ⟨a1, a2, a3, a4, a5⟩ := y6 i hi hi2
    have ge := js_sym_ge a1
    refine ⟨by rw [h19]; exact hd _ a1, by rw [h19, hs _ _ ge]; exact a2, by rw [h19, hs _ _ ge, hS 99 i (by decide) (by decide)]; exact a3, by rw [h19, hs _ _ ge, hS 97 i (by decide) (by decide)]; exact a4, fun k hk hk2 => ?_⟩
    rw [hS 97 i (by decide) (by decide)] at hk2
    rw [h20, hS 98 _ (by decide) (by decide)]
    exact a5 k hk hk2
  · rw [h2] at hi2
    have ge := js_sym_ge (y6 i hi hi2).1
    have hF := y7 i hi hi2 hx
    unfold sy_F at hF ⊢
    rw [h19]
    simp only [hs _ _ ge]
    rw [h3 86 i (by decide) (by decide), h3 87 i (by decide) (by decide), h3 88 i (by decide) (by decide), h3 89 i (by decide) (by decide), h3 91 i (by decide) (by decide), h3 93 i (by decide) (by decide), h3 94 i (by decide) (by decide), h3 96 i (by decide) (by decide), h3 92 i (by decide) (by decide)]
    exact hF
theorem y_next {E : js_E} {d : Nat} {σ ρ : js_S} {j : Nat} (h : rd_R σ ρ j) : ∃ (σ' : js_S) (j' : Nat), js_J E d 33 0 [(2, 1), (9, 0)] [] σ = js_r0 E σ' ∧ rd_R σ' (rx_next ρ) j' ∧ tk_fr σ σ' ∧ j ≤ j' ∧ (ρ 83 5 ≠ 1 → j' = j + 1) := by
  obtain ⟨r1, r2, r3, r4, r5, r6⟩ := h
  obtain ⟨σ', j', e1, e2, e3, e4, e5, e6⟩ := t_next (E := E) (d := d) r1 r2 r3
  refine ⟨σ', j', e1, ⟨e2, e3, rx_next_ok r3, ?_, ?_, ?_⟩, e4, e5, e6⟩
  · rw [e4 1 5 (by omega) (by decide), rx_next_o _ (by omega)]
    exact r4
  · rw [rx_next_o _ (by omega)]
    exact r5
  · rw [rx_next_o _ (by omega)]
    exact r6
theorem rx_fs_vis (σ : js_S) : ∀ (n : Nat) (s : Int), 0 ≤ s → 0 ≤ rx_fs σ n s → σ 99 (rx_fs σ n s) = 1
  | 0, s, hs, h => by simp [rx_fs] at h
  | n + 1, s, hs, h => by
    simp only [rx_fs] at h ⊢
    by_cases g : σ 99 s = 1 ∧ rx_nm σ s = true
    · rw [if_pos g]
      exact g.1
    · rw [if_neg g] at h ⊢
      exact rx_fs_vis σ n (s + 1) (by omega) h
theorem rx_nm_S (ρ : js_S) (p q s : Int) : rx_nm (sy_S ρ p q) s = rx_nm ρ s := by
  have hne : ∀ (n : Nat) (k : Int), rx_ne (sy_S ρ p q) s n k = rx_ne ρ s n k := by
    intro n
    induction n with
    | zero => intro k; rfl
    | succ n ih2 =>
      intro k
      simp only [rx_ne, ih2]
      rw [sy_S_o _ _ _ (by decide), sy_S_o _ _ _ (by decide), sy_S_o _ _ _ (by decide)]
  unfold rx_nm
  rw [hne, sy_S_o _ _ _ (by decide), sy_S_o _ _ _ (by decide), sy_S_o _ _ _ (by decide)]
theorem rx_fs_two (ρ : js_S) (p q : Int) : ∀ (n : Nat) (s : Int), 0 ≤ s → rx_fs (sy_S ρ p q) n s = rx_fs ρ n s ∨ ((rx_fs (sy_S ρ p q) n s < 0 ∨ p ≤ rx_fs (sy_S ρ p q) n s) ∧ (rx_fs ρ n s < 0 ∨ p ≤ rx_fs ρ n s))
  | 0, s, hs => Or.inl rfl
  | n + 1, s, hs => by
    by_cases g : p ≤ s
    · have h1 := rx_fs_in (sy_S ρ p q) (n + 1) s hs
      have h2 := rx_fs_in ρ (n + 1) s hs
      exact Or.inr ⟨by omega, by omega⟩
    · have e : sy_S ρ p q 99 s = ρ 99 s := if_neg (by omega)
      have ih := rx_fs_two ρ p q n (s + 1) (by omega)
      simp only [rx_fs]
      rw [rx_nm_S, e]
      by_cases g2 : ρ 99 s = 1 ∧ rx_nm ρ s = true
      · rw [if_pos g2, if_pos g2]
        exact Or.inl rfl
      · rw [if_neg g2, if_neg g2]
        exact ih
/-- what C leaves alone of the class -/
def cf_R (b : Int) (σ σ' : js_S) : Prop := ∀ a i : Int, ¬ (a = 1 ∧ (i = 1 ∨ i = 2 ∨ i = 3 ∨ i = 11)) → a ≠ 2 → ¬ (a = 21 + b ∧ 0 ≤ i ∧ i ≤ 2) → σ' a i = σ a i
/-- from p on there are parameters alone; what is not told to the end isn't visible; what types tell of themselves -/
def kx_R (ρ : js_S) (p q : Int) (X : Int → Prop) : Prop := (p = q ∨ ∀ i : Int, p ≤ i → i < ρ 83 11 → ρ 86 i = 5) ∧ (∀ i : Int, X i → sy_S ρ p q 99 i ≠ 1) ∧ ∀ i : Int, 0 ≤ i → i < ρ 83 11 → ¬ X i → ρ 86 i = 8 → ρ 87 i = 3 + i ∧ ρ 89 i = ρ 91 i - 1 ∧ 1 ≤ ρ 91 i ∧ ρ 91 i ≤ 64
theorem kx_R_of {ρ ρ' : js_S} {p q : Int} {X : Int → Prop} (h : kx_R ρ p q X) (h2 : ρ' 83 11 = ρ 83 11) (h3 : ∀ a i : Int, 86 ≤ a → a ≤ 99 → ρ' a i = ρ a i) : kx_R ρ' p q X := by
  refine ⟨?_, fun i hi => ?_, fun i hi hi2 hx h8 => ?_⟩
  · rcases h.1 with g | g
    · exact Or.inl g
    · refine Or.inr (fun i hi hi2 => ?_)
      rw [h2] at hi2
      rw [h3 _ _ (by decide) (by decide)]
      exact g i hi hi2
  · have := h.2.1 i hi
    unfold sy_S at this ⊢
    rw [h3 _ _ (by decide) (by decide)]
    exact this
  · rw [h2] at hi2
    rw [h3 _ _ (by decide) (by decide)] at h8
    rw [h3 87 i (by decide) (by decide), h3 89 i (by decide) (by decide), h3 91 i (by decide) (by decide)]
    exact h.2.2 i hi hi2 hx h8
/-- the same symbol, or no other than parameters -/
theorem sy_two {ρ : js_S} {p q : Int} {X : Int → Prop} (y1 : rs_ok ρ) (hk : kx_R ρ p q X) (q2 : ρ 83 5 = 2) : rx_sy (sy_S ρ p q) = rx_sy ρ ∨ ((0 ≤ rx_sy (sy_S ρ p q) → ρ 86 (rx_sy (sy_S ρ p q)) = 5) ∧ (0 ≤ rx_sy ρ → ρ 86 (rx_sy ρ) = 5)) := by
  have hin := rx_sy_in (rs_ok_S (p := p) (q := q) y1)
  have hin2 := rx_sy_in y1
  have e11 : sy_S ρ p q 83 11 = ρ 83 11 := sy_S_o _ _ _ (by decide)
  have e5 : sy_S ρ p q 83 5 = ρ 83 5 := sy_S_o _ _ _ (by decide)
  rw [e11] at hin
  have tw : rx_sy (sy_S ρ p q) = rx_sy ρ ∨ ((rx_sy (sy_S ρ p q) < 0 ∨ p ≤ rx_sy (sy_S ρ p q)) ∧ (rx_sy ρ < 0 ∨ p ≤ rx_sy ρ)) := by
    unfold rx_sy
    rw [e5, e11, if_pos q2, if_pos q2]
    exact rx_fs_two ρ p q _ 0 (by omega)
  rcases hk.1 with h | h
  · rw [h, sy_S_id]
    exact Or.inl rfl
  · rcases tw with h1 | ⟨h1, h2⟩
    · exact Or.inl h1
    · exact Or.inr ⟨fun hh => h _ (by omega) (by omega), fun hh => h _ (by omega) (by omega)⟩
theorem sy_vis {ρ : js_S} {p q : Int} (q2 : ρ 83 5 = 2) (q3 : ¬ rx_sy (sy_S ρ p q) < 0) : sy_S ρ p q 99 (rx_sy (sy_S ρ p q)) = 1 := by
  have e11 : sy_S ρ p q 83 11 = ρ 83 11 := sy_S_o _ _ _ (by decide)
  have e5 : sy_S ρ p q 83 5 = ρ 83 5 := sy_S_o _ _ _ (by decide)
  have hh : rx_sy (sy_S ρ p q) = rx_fs (sy_S ρ p q) (ρ 83 11).toNat 0 := by
    conv => lhs; unfold rx_sy
    rw [e5, e11, if_pos q2]
  rw [hh]
  rw [hh] at q3
  exact rx_fs_vis _ _ 0 (by omega) (by omega)
section YR
variable {E : js_E} {d : Nat} {σ ρ : js_S} {b : Int}
theorem y_const_2 {p q : Int} {X : Int → Prop} (hb : b = 0 ∨ b = 25) (hY : sy_Y E.1 σ ρ b p q X) {j : Nat} (hR : rd_R σ ρ j) (hd : 8 ≤ d) (hk : kx_R ρ p q X) (m : Bool) {x1 : Int} : ∃ u3 u4 : js_v, js_J E d 41 40 [(2, 21 + b), (0, x1), (0, rx_b m), (9, 0), (9, 0)] [] σ = if rx_ck ρ m ≠ 0 then js_t E (σ (-1) 0) (cx_f σ (rx_ck ρ m) (ρ 83 6)) else js_J E d 41 252 [(2, 21 + b), (0, x1), (0, rx_b m), u3, u4] [] (js_up (js_up σ (21 + b) 0 (rx_ct ρ)) (21 + b) 1 (rx_cv ρ)) := by
  have hR' := hR
  have hY' := hY
  obtain ⟨y1, y2, y3, y4, y5, y6, y7⟩ := hY
  obtain ⟨r1, r2, r3, r4, r5, r6⟩ := hR
  have r3' := r3
  obtain ⟨g1, g2, g3, g4, g5, g6, g7, g8, g9⟩ := r3
  obtain ⟨c1, c2, c3, c4, c5, c6, c7, c8, c9, c10⟩ := r2
  have hpj := tk_p_in g1 j
  have hV : tk_V (ρ 83 5) := by rw [c5]; exact rx_lex_V g1 hpj.1 hpj.2
  have hmi := tk_m_in hV
  have i2 : tk_m (ρ 83 5) = 2 ↔ ρ 83 5 = 2 := tk_m_inj hV (show tk_V 2 from Or.inr (Or.inl rfl))
  have i3 : tk_m (ρ 83 5) = 3 ↔ ρ 83 5 = 3 := tk_m_inj hV (show tk_V 3 from Or.inr (Or.inr (Or.inl rfl)))
  have i6 : tk_m (ρ 83 5) = 216 ↔ ρ 83 5 = 316 := tk_m_inj hV (show tk_V 316 by unfold tk_V; omega)
  have i7 : tk_m (ρ 83 5) = 217 ↔ ρ 83 5 = 317 := tk_m_inj hV (show tk_V 317 by unfold tk_V; omega)
  have w0 : js_w 0 = 0 := rfl
  have w1 : ¬ js_w 1 = 0 := by decide
  rw [b_41_40 hb, c7, js_w_of (x := tk_m (ρ 83 5)) (by omega) (by omega)]
  have bad1 : js_J E d 41 237 [(2, 21 + b), (0, x1), (0, rx_b m), (9, 0), (9, 0)] [] σ = js_t E (σ (-1) 0) (cx_f σ 1 (ρ 83 6)) := by
    rw [b_41_237 hb, kt_41_249 (by omega) (c_fail y3 (by omega)), c8]
  by_cases q1 : ρ 83 5 = 3
  · refine ⟨(9, 0), (9, 0), ?_⟩
    have eck : rx_ck ρ m = 0 := by unfold rx_ck; rw [if_pos q1]
    have ect : rx_ct ρ = 0 := by unfold rx_ct; rw [if_pos q1]
    have ecv : rx_cv ρ = ρ 83 8 := by unfold rx_cv; rw [if_pos q1]
    have hR2 : rd_R (js_up σ (21 + b) 0 0) ρ j := rd_R_of hR' (fun i _ => js_up_na _ (by omega)) (fun a i _ _ => js_up_na _ (by omega)) (fun i _ _ => rfl) (fun i => rfl)
    rw [if_pos (i3.mpr q1), k_41_61 (by omega) (c_number hR2.1 hR2.2.1 hR2.2.2.1 q1), b_41_64 hb, if_neg (show ¬ rx_ck ρ m ≠ 0 from fun hh => hh eck), ect, ecv]
  · rw [if_neg (fun hh => q1 (i3.mp hh))]
    by_cases q2 : ρ 83 5 = 2
    · have eck : rx_ck ρ m = if rx_sy ρ < 0 then 3 else if ρ 86 (rx_sy ρ) = 0 ∨ ρ 86 (rx_sy ρ) = 9 then 0 else 3 := by
        unfold rx_ck
        rw [if_neg q1, if_neg (by omega), if_pos q2]
      rw [if_pos (i2.mpr q2), k_41_89 hb (by omega) (y_find hb hY' hR' q2), b_41_92]
      have badn : ∀ z0 : Int, js_J E d 41 117 [(2, 21 + b), (0, x1), (0, rx_b m), (2, z0), (9, 0)] [] σ = js_t E (σ (-1) 0) (cx_f σ 3 (ρ 83 6)) := fun z0 => by
        rw [b_41_117, b_41_118 hb, if_pos w0, kt_41_137 (by omega) (c_fail y3 (by omega)), c8]
      have hin := rx_sy_in (rs_ok_S (p := p) (q := q) y1)
      have hin2 := rx_sy_in y1
      have e11 : sy_S ρ p q 83 11 = ρ 83 11 := sy_S_o _ _ _ (by decide)
      have e5 : sy_S ρ p q 83 5 = ρ 83 5 := sy_S_o _ _ _ (by decide)
      rw [e11] at hin
      have h400 := y1.2.1
      have h0 := y1.1
      have tw2 := sy_two y1 hk q2
      by_cases q3 : rx_sy (sy_S ρ p q) < 0
      · refine ⟨(9, 0), (9, 0), ?_⟩
        have ek : rx_ck ρ m = 3 := by
          rw [eck]
          rcases tw2 with h | ⟨h1, h2⟩
          · rw [if_pos (by omega)]
          · by_cases h3 : rx_sy ρ < 0
            · rw [if_pos h3]
            · have := h2 (by omega)
              rw [if_neg h3, if_neg (by omega)]
        rw [if_pos q3, if_pos (by decide), badn, ek, if_pos (show (3 : Int) ≠ 0 by decide)]
      · have hin3 : rx_sy (sy_S ρ p q) < ρ 83 11 := by omega
        obtain ⟨a1, a2, a3, a4, a5⟩ := y6 (rx_sy (sy_S ρ p q)) (by omega) hin3
        have hge := js_sym_ge a1
        have hvis := sy_vis q2 q3
        have hF := y7 _ (by omega) hin3 (fun hh => hk.2.1 _ hh hvis)
        obtain ⟨f1, f2, f3, f4, f5, f6, f7, f8, f9⟩ := hF
        have hv := y2 (rx_sy (sy_S ρ p q)) (by omega) (by omega)
        rw [if_neg q3, if_neg (by omega), b_41_97 a1, f1, js_w_of (x := ρ 86 (rx_sy (sy_S ρ p q))) (by omega) (by omega)]
        refine ⟨(2, σ (19 + b) (rx_sy (sy_S ρ p q))), (0, 1), ?_⟩
        by_cases q4 : ρ 86 (rx_sy (sy_S ρ p q)) = 0 ∨ ρ 86 (rx_sy (sy_S ρ p q)) = 9
        · have es : rx_sy (sy_S ρ p q) = rx_sy ρ := by
            rcases tw2 with h | ⟨h1, h2⟩
            · exact h
            · have := h1 (by omega)
              omega
          have good : js_J E d 41 113 [(2, 21 + b), (0, x1), (0, rx_b m), (2, σ (19 + b) (rx_sy (sy_S ρ p q))), (9, 0)] [] σ = js_J E d 41 252 [(2, 21 + b), (0, x1), (0, rx_b m), (2, σ (19 + b) (rx_sy (sy_S ρ p q))), (0, 1)] [] (js_up (js_up σ (21 + b) 0 (ρ 87 (rx_sy ρ))) (21 + b) 1 (ρ 94 (rx_sy ρ))) := by
            rw [b_41_113, b_41_118 hb, if_neg w1, b_41_140 a1, if_neg w1, b_41_154 hb a1, if_neg w1, b_41_171 hb, f2, f7, es]
          have ek : rx_ck ρ m = 0 := by
            rw [eck, ← es, if_neg q3, if_pos q4]
          have ect : rx_ct ρ = ρ 87 (rx_sy ρ) := by
            unfold rx_ct
            rw [if_neg q1, if_neg (by omega)]
          have ecv : rx_cv ρ = ρ 94 (rx_sy ρ) := by
            unfold rx_cv
            rw [if_neg q1, if_neg (by omega), if_neg (by omega)]
          rw [if_neg (show ¬ rx_ck ρ m ≠ 0 from fun hh => hh ek), ect, ecv, good]
          by_cases q5 : ρ 86 (rx_sy (sy_S ρ p q)) = 0
          · rw [if_pos q5]
          · rw [if_neg q5, if_pos (by omega)]
        · have ek : rx_ck ρ m = 3 := by
            rw [eck]
            rcases tw2 with h | ⟨h1, h2⟩
            · rw [← h, if_neg q3, if_neg q4]
            · by_cases h3 : rx_sy ρ < 0
              · rw [if_pos h3]
              · have := h2 (by omega)
                rw [if_neg h3, if_neg (by omega)]
          rw [if_neg (show ¬ ρ 86 (rx_sy (sy_S ρ p q)) = 0 by omega), if_neg (show ¬ ρ 86 (rx_sy (sy_S ρ p q)) = 9 by omega), badn, ek, if_pos (show (3 : Int) ≠ 0 by decide)]
    · rw [if_neg (fun hh => q2 (i2.mp hh))]
      refine ⟨(9, 0), (9, 0), ?_⟩
      by_cases q3 : m = false ∧ (ρ 83 5 = 316 ∨ ρ 83 5 = 317)
      · have ek : rx_ck ρ m = 0 := by
          unfold rx_ck
          rw [if_neg q1, if_pos q3]
        have ect : rx_ct ρ = 1 := by
          unfold rx_ct
          rw [if_neg q1, if_pos q3.2]
        have hm0 : js_w (rx_b m) = 0 := by rw [q3.1]; rfl
        have good : js_J E d 41 207 [(2, 21 + b), (0, x1), (0, rx_b m), (9, 0), (9, 0)] [] σ = js_J E d 41 252 [(2, 21 + b), (0, x1), (0, rx_b m), (9, 0), (9, 0)] [] (js_up (js_up σ (21 + b) 0 1) (21 + b) 1 (rx_cv ρ)) := by
          rw [b_41_207 hb, c7, js_w_of (x := tk_m (ρ 83 5)) (by omega) (by omega)]
          unfold rx_cv
          rw [if_neg q1]
          by_cases q4 : ρ 83 5 = 316
          · rw [if_pos (i6.mpr q4), if_pos q4, b_41_231 hb]
          · rw [if_neg (fun hh => q4 (i6.mp hh)), if_neg q4, if_pos (by omega), b_41_231 hb]
        rw [if_neg (show ¬ rx_ck ρ m ≠ 0 from fun hh => hh ek), ect, if_pos hm0, good]
        by_cases q4 : ρ 83 5 = 316
        · rw [if_pos (i6.mpr q4)]
        · rw [if_neg (fun hh => q4 (i6.mp hh)), if_pos (i7.mpr (by omega))]
      · have ek : rx_ck ρ m = 1 := by
          unfold rx_ck
          rw [if_neg q1, if_neg q3, if_neg q2]
        rw [ek, if_pos (show (1 : Int) ≠ 0 by decide), bad1]
        by_cases q4 : js_w (rx_b m) = 0
        · have q5 := (rx_b_w m).mp q4
          rw [if_pos q4, if_neg (fun hh => q3 ⟨q5, Or.inl (i6.mp hh)⟩), if_neg (fun hh => q3 ⟨q5, Or.inr (i7.mp hh)⟩)]
        · rw [if_neg q4]
theorem y_const_3 (hb : b = 0 ∨ b = 25) (hn : cx_n σ) (hd : 8 ≤ d) (m : Bool) {x1 ty va : Int} {u3 u4 : js_v} (hx : -1 ≤ x1) (hx2 : x1 < 1000) (h0 : 0 ≤ ty) (h1 : ty < 1000) : js_J E d 41 252 [(2, 21 + b), (0, x1), (0, rx_b m), u3, u4] [] (js_up (js_up σ (21 + b) 0 ty) (21 + b) 1 va) = if (m = true ∧ ty ≠ 0) ∨ (x1 ≠ -1 ∧ ty ≠ x1) then js_t E (σ (-1) 0) (cx_f (js_up (js_up σ (21 + b) 0 ty) (21 + b) 1 va) 5 (σ (21 + b) 2)) else js_J E d 41 312 [(2, 21 + b), (0, x1), (0, rx_b m), u3, u4] [(2, 1)] (js_up (js_up σ (21 + b) 0 ty) (21 + b) 1 (if m = true then -va else va)) := by
  have eτ0 : js_up (js_up σ (21 + b) 0 ty) (21 + b) 1 va (21 + b) 0 = ty := (js_up_ni _ (by decide)).trans (js_up_same _ _ _ _)
  have eτ1 : js_up (js_up σ (21 + b) 0 ty) (21 + b) 1 va (21 + b) 1 = va := js_up_same _ _ _ _
  have eτ2 : js_up (js_up σ (21 + b) 0 ty) (21 + b) 1 va (21 + b) 2 = σ (21 + b) 2 := (js_up_ni _ (by decide)).trans (js_up_ni _ (by decide))
  have eτm : ∀ i : Int, js_up (js_up σ (21 + b) 0 ty) (21 + b) 1 va (-1) i = σ (-1) i := fun i => (js_up_na _ (by omega)).trans (js_up_na _ (by omega))
  have hn' : cx_n (js_up (js_up σ (21 + b) 0 ty) (21 + b) 1 va) := ⟨by rw [eτm]; exact hn.1, by rw [eτm]; exact hn.2⟩
  have bad : js_J E d 41 276 [(2, 21 + b), (0, x1), (0, rx_b m), u3, u4] [] (js_up (js_up σ (21 + b) 0 ty) (21 + b) 1 va) = js_t E (σ (-1) 0) (cx_f (js_up (js_up σ (21 + b) 0 ty) (21 + b) 1 va) 5 (σ (21 + b) 2)) := by
    rw [b_41_276 hb, kt_41_285 (by omega) (c_fail hn' (by omega)), eτ2, eτm]
  have good : js_J E d 41 288 [(2, 21 + b), (0, x1), (0, rx_b m), u3, u4] [] (js_up (js_up σ (21 + b) 0 ty) (21 + b) 1 va) = js_J E d 41 312 [(2, 21 + b), (0, x1), (0, rx_b m), u3, u4] [(2, 1)] (js_up (js_up σ (21 + b) 0 ty) (21 + b) 1 (if m = true then -va else va)) := by
    rw [b_41_288 hb, eτ1]
    cases m
    · have w : js_w (rx_b false) = 0 := rfl
      rw [if_pos w, b_41_305 hb, js_up_xx, if_neg (show ¬ false = true by decide)]
    · have w : ¬ js_w (rx_b true) = 0 := by decide
      rw [if_neg w, b_41_305 hb, js_up_xx, if_pos (show true = true from rfl)]
  have mid : js_J E d 41 263 [(2, 21 + b), (0, x1), (0, rx_b m), u3, u4] [] (js_up (js_up σ (21 + b) 0 ty) (21 + b) 1 va) = if x1 ≠ -1 ∧ ty ≠ x1 then js_t E (σ (-1) 0) (cx_f (js_up (js_up σ (21 + b) 0 ty) (21 + b) 1 va) 5 (σ (21 + b) 2)) else js_J E d 41 312 [(2, 21 + b), (0, x1), (0, rx_b m), u3, u4] [(2, 1)] (js_up (js_up σ (21 + b) 0 ty) (21 + b) 1 (if m = true then -va else va)) := by
    rw [b_41_263 hb, eτ0, js_w_of (x := x1) (by omega) (by omega), js_w_of (x := ty) (by omega) (by omega), good, bad]
    by_cases q1 : x1 = -1
    · rw [if_pos q1, if_neg (show ¬ (x1 ≠ -1 ∧ ty ≠ x1) from fun hh => hh.1 q1)]
    · rw [if_neg q1]
      by_cases q2 : ty = x1
      · rw [if_pos q2, if_neg (show ¬ (x1 ≠ -1 ∧ ty ≠ x1) from fun hh => hh.2 q2)]
      · rw [if_neg q2, if_pos ⟨q1, q2⟩]
  rw [b_41_252 hb, eτ0, js_w_of (x := ty) (by omega) (by omega), mid, bad]
  cases m
  · have w : js_w (rx_b false) = 0 := rfl
    rw [if_pos w]
    by_cases q2 : x1 ≠ -1 ∧ ty ≠ x1
    · rw [if_pos q2, if_pos (Or.inr q2)]
    · rw [if_neg q2, if_neg (show ¬ ((false = true ∧ ty ≠ 0) ∨ (x1 ≠ -1 ∧ ty ≠ x1)) from fun hh => hh.elim (fun h => absurd h.1 (by decide)) q2)]
  · have w : ¬ js_w (rx_b true) = 0 := by decide
    rw [if_neg w]
    by_cases q1 : ty = 0
    · rw [if_pos q1]
      by_cases q2 : x1 ≠ -1 ∧ ty ≠ x1
      · rw [if_pos q2, if_pos (Or.inr q2)]
      · rw [if_neg q2, if_neg (show ¬ ((true = true ∧ ty ≠ 0) ∨ (x1 ≠ -1 ∧ ty ≠ x1)) from fun hh => hh.elim (fun h => h.2 q1) q2)]
    · rw [if_neg q1, if_pos (Or.inl ⟨rfl, q1⟩)]
end YR
