/-! part 99.zzzzzzz: begin: the row of tokens is that which the reference will read -/
section TB
variable {E : js_E} {d : Nat} {σ ρ : js_S} {k : Int}
/-- tokens 0 to m are in the row; k is where the class goes on -/
def tb_I (σ0 ρ : js_S) (m : Nat) (k : Int) (σ : js_S) : Prop := (∀ a i : Int, a ≠ 4 → a ≠ 5 → ¬ (a = 1 ∧ i = 10) → σ a i = σ0 a i) ∧ σ 1 10 = m ∧ (m : Int) ≤ k ∧ (0 ≤ k ∧ k ≤ ρ 83 4) ∧ rx_fr ρ (tk_p ρ m) = rx_fr ρ k ∧ ∀ j : Nat, j < m → js_iand (σ 4 j) 255 = tk_m (rx_lex ρ (tk_p ρ j)).2.1 ∧ σ 5 j = 32 * rx_fr ρ (tk_p ρ j) + tk_c ((rx_lex ρ (tk_p ρ j)).1 - rx_fr ρ (tk_p ρ j)) ∧ (rx_lex ρ (tk_p ρ j)).2.1 ≠ 1
theorem tq_of {σ0 : js_S} (h : tq_R σ0 ρ) (f : ∀ a i : Int, a ≠ 4 → a ≠ 5 → ¬ (a = 1 ∧ i = 10) → σ a i = σ0 a i) : tq_R σ ρ :=
  ⟨by rw [f _ _ (by decide) (by decide) (by decide)]; exact h.1, fun i i1 i2 => by rw [f _ _ (by decide) (by decide) (by omega)]; exact h.2.1 i i1 i2, h.2.2⟩
theorem tk_m4 {v : Int} (h : tk_V v) : tk_m v ≠ 4 ∧ 0 ≤ tk_m v ∧ tk_m v ≤ 221 := by
  have i := tk_m_in h
  refine ⟨?_, i⟩
  unfold tk_V at h
  unfold tk_m
  repeat' split
  all_goals omega
theorem tb_put {σ0 : js_S} {m : Nat} (h : tq_R σ0 ρ) (I : tb_I σ0 ρ m k σ) (h1 : k < ρ 83 4) (hw : rx_bw ρ k = false) : tb_I σ0 ρ (m + 1) (bt_k ρ k) (js_up (js_up (js_up σ 4 m (js_i2b (js_i2b (tk_m (rx_lex ρ k).2.1)))) 5 m (32 * k + tk_c (bt_k ρ k - k))) 1 10 ((m : Int) + 1)) := by
  obtain ⟨f, i2, i3, i4, i5, i6⟩ := I
  have hq := tq_of h f
  obtain ⟨e1, e2, e3⟩ := lex_end hq i4.1 h1 hw
  have le := lex_fr i5
  have V := rx_lex_V h.2.2.1 (p := k) i4.1 (by omega)
  have t4 := tk_m4 V
  have li := rx_lex_in h.2.2.1 (p := k) i4.1 (by omega)
  have bc := by_cls ⟨(tk_m (rx_lex ρ k).2.1).toNat, by omega⟩
  simp only [Int.toNat_of_nonneg t4.2.1] at bc
  refine ⟨fun a i g1 g2 g3 => ?_, by rw [js_up_same]; push_cast; rfl, by push_cast; omega, ⟨by omega, by rw [e1]; exact li.2.2.1⟩, ?_, fun j hj => ?_⟩
  · rw [js_up_ne _ g3, js_up_na _ g2, js_up_na _ g1]
    exact f a i g1 g2 g3
  · show rx_fr ρ (rx_lex ρ (tk_p ρ m)).1 = _
    rw [le, e1]
  · rw [js_up_na _ (by decide), js_up_na _ (by decide), js_up_na (b := 5) _ (by decide)]
    by_cases q : j = m
    · rw [q, js_up_same, js_up_same, i5, le, bc, e2, ← e1]
      refine ⟨rfl, rfl, ?_⟩
      have ne : ¬ ρ 83 4 ≤ k := by omega
      intro g
      have en := rx_lex_end i4.1 (by omega) h.2.2.1 g
      rw [e2] at en
      omega
    · rw [js_up_ni _ (by omega), js_up_ni _ (by omega)]
      exact i6 j (by omega)
theorem c_addk {x1 x2 x3 : Int} {m : Nat} (hm : σ 1 10 = m) (hm2 : m < 8193) (h1 : 0 ≤ x1 ∧ x1 ≤ 221) (h4 : x1 ≠ 4) (h3 : 0 ≤ x3 ∧ x3 < 100000) (hd : 4 ≤ d) : js_J E d 32 0 [(2, 1), (0, x1), (0, x2), (0, x3)] [] σ = js_r0 E (js_up (js_up (js_up σ 4 m (js_i2b (js_i2b x1))) 5 m (32 * x2 + tk_c x3)) 1 10 ((m : Int) + 1)) := by
  have w1 : js_w x1 = x1 := js_w_of (by omega) (by omega)
  have w3 : js_w x3 = x3 := js_w_of (by omega) (by omega)
  have wm : js_w (m : Int) = m := js_w_of (by omega) (by omega)
  have e : (if x3 < js_w 31 then x3 else 31) = tk_c x3 := rfl
  rw [b_32_0 hd, w1, if_neg h4, hm, wm, if_pos (show (m : Int) < 8193 by omega), if_pos (show 0 ≤ (m : Int) ∧ (m : Int) < 8193 by omega), w3, e]
theorem c_toks {σ0 : js_S} (h : tq_R σ0 ρ) (hd : 8 ≤ d) : ∀ (g m : Nat) (k x2 : Int) (u : js_v) (σ : js_S), ρ 83 4 - k ≤ g → 0 ≤ x2 ∧ x2 ≤ k → tb_I σ0 ρ m k σ → ∃ (m' : Nat) (x' : Int) (u' : js_v) (σ' : js_S), js_J E d 22 47 [(2, 1), (0, k), (0, x2), u] [] σ = js_J E d 22 89 [(2, 1), (0, ρ 83 4), (0, x'), u'] [] σ' ∧ tb_I σ0 ρ m' (ρ 83 4) σ' := by
  intro g
  induction g with
  | zero =>
    intro m k x2 u σ hg hx I
    have h8 := h.2.2.2
    have hk := I.2.2.2.1
    have e : k = ρ 83 4 := by omega
    have s0 : σ 1 0 = ρ 83 4 := (tq_of h I.1).1
    have w2 : js_w x2 = x2 := js_w_of (by omega) (by omega)
    refine ⟨m, x2, u, σ, ?_, by rw [← e]; exact I⟩
    rw [b_22_47, w2, if_pos (show x2 < 65536 by omega), s0, e, if_neg (Int.lt_irrefl _)]
  | succ g ih =>
    intro m k x2 u σ hg hx I
    have h8 := h.2.2.2
    have hk := I.2.2.2.1
    have hq := tq_of h I.1
    have s0 : σ 1 0 = ρ 83 4 := hq.1
    have w2 : js_w x2 = x2 := js_w_of (by omega) (by omega)
    have wk : js_w k = k := js_w_of (by omega) (by omega)
    have wn : js_w (ρ 83 4) = ρ 83 4 := js_w_of (by omega) (by omega)
    by_cases lt : k < ρ 83 4
    · have c0 : js_J E d 22 47 [(2, 1), (0, k), (0, x2), u] [] σ = js_J E d 22 78 [(2, 1), (0, k), (0, x2), (0, bt_k ρ k)] [(0, bt_k ρ k - k), (0, k), (0, if rx_bw ρ k = true then 4 else tk_m (rx_lex ρ k).2.1), (2, 1)] σ := by
        rw [b_22_47, w2, if_pos (show x2 < 65536 by omega), s0, wk, wn, if_pos lt, k_22_63 (by omega) (c_behind hq hk.1 lt (by omega)), b_22_66, k_22_71 (by omega) (c_kind hq hk.1 lt (by omega)), b_22_74]
      by_cases qw : rx_bw ρ k = true
      · have nx : k < bt_k ρ k ∧ bt_k ρ k ≤ ρ 83 4 ∧ rx_fr ρ k = rx_fr ρ (bt_k ρ k) := by
          by_cases qc : rx_cmt ρ k = true
          · have hc := qc
            unfold rx_cmt at hc
            simp only [Bool.and_eq_true, decide_eq_true_eq] at hc
            have e : bt_k ρ k = rx_nls ρ (k + 1) := by
              unfold bt_k
              rw [if_neg (by rw [hc.1]; decide), if_neg (by rw [hc.1]; decide), if_pos qc]
            have e2 : rx_nls ρ k = rx_nls ρ (k + 1) := rn_s lt (by rw [hc.1]; decide)
            have ni := rx_nls_in (σ := ρ) (p := k + 1) (by omega)
            rw [e, ← e2]
            exact ⟨by rw [e2]; omega, by rw [e2]; exact ni.2, fr_cm lt qc⟩
          · have qb : rx_bl (rx_at ρ k) = true := by
              unfold rx_bw at qw
              rw [Bool.or_eq_true] at qw
              exact qw.resolve_right qc
            have cc : rx_at ρ k = 32 ∨ rx_at ρ k = 10 := by
              unfold rx_bl at qb
              simpa using qb
            have e : bt_k ρ k = k + 1 := by
              have t : tk_2 (rx_at ρ k) (rx_at ρ (k + 1)) = 1 := by
                rw [tk_2_1]
                unfold rx_m2
                rcases cc with c | c
                · rw [c]; simp
                · rw [c]; simp
              unfold bt_k
              rw [if_neg (by rcases cc with c | c <;> rw [c] <;> decide), if_neg (by rcases cc with c | c <;> rw [c] <;> decide), if_neg qc, if_pos t]
            rw [e]
            exact ⟨by omega, by omega, fr_bl lt qb⟩
        have I' : tb_I σ0 ρ m (bt_k ρ k) σ := ⟨I.1, I.2.1, by have := I.2.2.1; omega, ⟨by omega, nx.2.1⟩, by rw [← nx.2.2]; exact I.2.2.2.2.1, I.2.2.2.2.2⟩
        obtain ⟨m', x', u', σ', e1, e2⟩ := ih m (bt_k ρ k) (x2 + 1) (0, bt_k ρ k) σ (by push_cast at hg; omega) (by omega) I'
        refine ⟨m', x', u', σ', ?_, e2⟩
        rw [c0, if_pos qw, k_22_78 (by omega) (by rw [b_32_0 (by omega), if_pos (show js_w 4 = 4 by decide)]), b_22_81, e1]
      · have qw' : rx_bw ρ k = false := by simpa using qw
        have p := tb_put h I lt qw'
        obtain ⟨_, _, gt⟩ := lex_end hq hk.1 lt qw'
        have t4 := tk_m4 (rx_lex_V h.2.2.1 (p := k) hk.1 (by omega))
        have pb := p.2.2.2.1
        have mk := I.2.2.1
        obtain ⟨m', x', u', σ', e1, e2⟩ := ih (m + 1) (bt_k ρ k) (x2 + 1) (0, bt_k ρ k) _ (by push_cast at hg; omega) (by omega) p
        refine ⟨m', x', u', σ', ?_, e2⟩
        rw [c0, if_neg qw, k_22_78 (by omega) (c_addk I.2.1 (by omega) t4.2 t4.1 (by omega) (by omega)), b_22_81, e1]
    · have e : k = ρ 83 4 := by omega
      refine ⟨m, x2, u, σ, ?_, by rw [← e]; exact I⟩
      rw [b_22_47, w2, if_pos (show x2 < 65536 by omega), s0, e, if_neg (Int.lt_irrefl _)]
/-- begin, in step with the reference's first next -/
theorem y_begins (h : tq_R σ ρ) (hby : rx_by ρ) (h7 : ρ 83 7 = 0) (hd : 9 ≤ d) : ∃ σ' : js_S, js_J E d 22 0 [(2, 1), (9, 0), (9, 0), (9, 0)] [] σ = js_r0 E σ' ∧ tk_T σ' (rx_next ρ) ∧ tk_A σ' (rx_next ρ) 0 ∧ (σ' 1 5 = 0 ∧ σ' 1 6 = 0) ∧ ∀ a i : Int, ¬ (a = 1 ∧ (1 ≤ i ∧ i ≤ 11)) → ¬ (a = 2 ∨ a = 4 ∨ a = 5) → σ' a i = σ a i := by
  have h8 := h.2.2.2
  have hs := h.2.2.1.1
  have ws : js_w (ρ 83 4) = ρ 83 4 := js_w_of (by omega) (by omega)
  have I0 : tb_I (js_up σ 1 10 0) ρ 0 0 (js_up σ 1 10 0) := ⟨fun _ _ _ _ _ => rfl, js_up_same _ _ _ _, Int.le_refl _, ⟨Int.le_refl _, hs⟩, rfl, fun j hj => absurd hj (Nat.not_lt_zero _)⟩
  have hq0 : tq_R (js_up σ 1 10 0) ρ := ⟨by rw [js_up_ni _ (by decide)]; exact h.1, fun i i1 i2 => by rw [js_up_na _ (by decide)]; exact h.2.1 i i1 i2, h.2.2⟩
  obtain ⟨m, x', u', σ1, e1, I1⟩ := c_toks (E := E) (d := d) hq0 (by omega) (ρ 83 4).toNat 0 0 0 (9, 0) (js_up σ 1 10 0) (by omega) ⟨Int.le_refl _, Int.le_refl _⟩ I0
  obtain ⟨f1, m1, m2, m3, m4, m5⟩ := I1
  have s10 : σ1 1 0 = ρ 83 4 := by rw [f1 _ _ (by decide) (by decide) (by decide)]; exact hq0.1
  have sz := rx_lex_size (σ := ρ)
  have lz := lex_fr m4
  have ca := c_addk (E := E) (d := d - 1) (σ := σ1) (x1 := 0) (x2 := σ1 1 0) (x3 := 0) m1 (by omega) (by decide) (by decide) (by decide) (by omega)
  generalize hσ2 : js_up (js_up (js_up σ1 4 m (js_i2b (js_i2b 0))) 5 m (32 * σ1 1 0 + tk_c 0)) 1 10 ((m : Int) + 1) = σ2 at ca
  have g2 : ∀ a i : Int, ¬ ((a = 4 ∨ a = 5) ∧ i = m) → ¬ (a = 1 ∧ i = 10) → σ2 a i = σ1 a i := fun a i q1 q2 => by rw [← hσ2, js_up_ne _ q2, js_up_ne _ (by omega), js_up_ne _ (by omega)]
  have t4 : σ2 4 m = 0 := by rw [← hσ2, js_up_na _ (by decide), js_up_na _ (by decide), js_up_same]; decide
  have t5 : σ2 5 m = 32 * ρ 83 4 := by rw [← hσ2, js_up_na _ (by decide), js_up_same, s10]; show 32 * ρ 83 4 + 0 = _; omega
  have t10 : σ2 1 10 = (m : Int) + 1 := by rw [← hσ2, js_up_same]
  have hT2 : tk_T σ2 ρ := by
    refine ⟨by rw [t10]; omega, by rw [t10]; omega, h8, fun i i1 i2 => ?_, fun j hj => ?_⟩
    · rw [g2 _ _ (by omega) (by omega), f1 _ _ (by decide) (by decide) (by omega), js_up_na _ (by decide)]
      exact h.2.1 i i1 i2
    · rw [t10] at hj ⊢
      by_cases q : j = m
      · rw [q, t4, t5, m4, lz, sz.1, sz.2.1, sz.2.2]
        refine ⟨by decide, ?_, by omega⟩
        rw [Int.sub_self]
        show _ = 32 * ρ 83 4 + 0
        omega
      · obtain ⟨n1, n2, n3⟩ := m5 j (by omega)
        rw [g2 _ _ (by omega) (by omega), g2 _ _ (by omega) (by omega)]
        exact ⟨n1, n2, ⟨fun q2 => absurd q2 n3, fun q2 => by omega⟩⟩
  have z : ∀ a i : Int, ¬ (a = 1 ∧ (i = 5 ∨ i = 6 ∨ i = 11)) → js_up (js_up (js_up σ2 1 5 0) 1 6 0) 1 11 (-1) a i = σ2 a i := fun a i q => by rw [js_up_ne _ (by omega), js_up_ne _ (by omega), js_up_ne _ (by omega)]
  have hT3 : tk_T (js_up (js_up (js_up σ2 1 5 0) 1 6 0) 1 11 (-1)) ρ := tk_T_of hT2 (z _ _ (by omega)) (fun i => z _ _ (by omega)) (fun i => z _ _ (by omega)) (fun i => z _ _ (by omega)) rfl (fun _ => rfl)
  obtain ⟨σ4, e4, T4, A4, F4⟩ := t_first (E := E) (d := d - 1) hT3 (js_up_same _ _ _ _) h7 h.2.2.1 hby
  refine ⟨σ4, ?_, T4, A4, ⟨?_, ?_⟩, fun a i q1 q2 => ?_⟩
  · have e1' : js_J E d 22 47 [(2, 1), (0, 0), (0, 0), (9, 0)] [] (js_up σ 1 10 0) = _ := e1
    rw [b_22_0, h.1, ws, if_pos (show ρ 83 4 < js_w 8193 by rw [show js_w 8193 = 8193 by decide]; omega), e1', b_22_89, k_22_96 (by omega) ca, b_22_99, k_22_115 (by omega) e4, b_22_118]
  · rw [F4 _ _ (by decide) (by decide), js_up_ni _ (by decide), js_up_ni _ (by decide), js_up_same]
  · rw [F4 _ _ (by decide) (by decide), js_up_ni _ (by decide), js_up_same]
  · rw [F4 a i (by omega) (by omega), z a i (by omega), g2 a i (by omega) (by omega), f1 a i (by omega) (by omega) (by omega), js_up_ne _ (by omega)]
end TB
