/-! part 99.zzzzzzp: calls that only ask: symbol, name, code, count -/
/-- a call in both: the same answer, and both stand as they should -/
def LO (E : js_E) (n : Int) (dc yc : Nat) (lc : List js_v) (dr yr : Nat) (lr : List js_v) (σ ρ : js_S) : Prop := ∃ (σ' ρ' : js_S) (v w : Int), js_J E dc yc 0 lc [] σ = js_r E (0, v) σ' ∧ js_J E dr yr 0 lr [] ρ = js_r E (0, w) ρ' ∧ js_w v = js_w w ∧ LQ E (n + 1) σ' ρ' ∧ (∀ a i : Int, 83 ≤ a → a ≤ 135 → σ' a i = σ a i) ∧ (∀ a i : Int, ¬ (83 ≤ a ∧ a ≤ 135) → ρ' a i = ρ a i)
section OA
variable {E : js_E} {n b x1 x2 : Int} {d e : Nat} {T : Nat} {N : Int} {σ ρ : js_S}
theorem lo_mk {dc yc dr yr : Nat} {lc lr : List js_v} {v w : Int} {z : Int} (h : LQ E n σ ρ) (hc : js_J E dc yc 0 lc [] σ = js_r E (0, v) σ) (hr : js_J E dr yr 0 lr [] ρ = js_r E (0, w) (js_up ρ 83 0 z)) (hv : js_w v = js_w w) : LO E n dc yc lc dr yr lr σ ρ :=
  ⟨σ, js_up ρ 83 0 z, v, w, hc, hr, hv, lq_mv h (by omega) (fun _ _ _ _ _ _ => rfl) ⟨Int.le_refl _, by omega⟩ ⟨Int.le_refl _, by omega⟩ (fun i g => js_up_ni _ (by omega)) (fun a i g1 g2 => js_up_na _ (by omega)), fun _ _ _ _ => rfl, fun a i g => js_up_na _ (by omega)⟩
theorem c_at0 (hb : b = 0 ∨ b = 25) (h : σ (7 + b) 1 = 0) : js_J E d 67 0 [(2, 7 + b), (0, x1)] [] σ = js_r E (2, -1) σ := by
  rw [b_67_0 hb, h]
  by_cases t : js_w x1 < 0
  · rw [if_pos t]
  · rw [if_neg t, if_neg (show ¬ js_w x1 < js_w 0 from t)]
theorem c_has0 (hb : b = 0 ∨ b = 25) (h : σ (8 + b) 6 = 0) : js_J E d 92 0 [(2, 8 + b), (0, x1)] [] σ = js_r E (0, 0) σ := by
  rw [b_92_0 hb, h]
  by_cases t : js_w x1 < 0
  · rw [if_pos t]
  · rw [if_neg t, if_neg (show ¬ js_w x1 < js_w 0 from t)]
theorem lo_symbol (h : LQ E n σ ρ) (h1 : -2147483648 ≤ x1 ∧ x1 < 2147483648) (h2 : -2147483648 ≤ x2 ∧ x2 < 2147483648) (hd : 2 ≤ d) : LO E n d 123 [(2, 0), (0, x1), (0, x2), (9, 0)] e 291 [(2, 83), (0, x1), (0, x2)] σ ρ := by
  have h' := h
  obtain ⟨_, _, b, ⟨hb, ⟨h4, _, _⟩, _⟩, hl⟩ := h'
  rcases hl with h0 | ⟨_, Fu, ac, zc, N, T, hm, _, _⟩
  · obtain ⟨_, ⟨a3, a4⟩, _⟩ := h0
    refine lo_mk (v := -1) (w := -1) (z := 0) h ?_ ?_ rfl
    · rw [b_123_0 hb h4, k_123_8 hb (by omega) (c_at0 hb a3), b_123_11, if_pos (show (-1 : Int) < 0 by decide), b_123_25]
    · rw [b_291_0, a4]
      by_cases t : js_w x1 < 0
      · rw [if_pos t]
      · rw [if_neg t, if_neg (show ¬ js_w x1 < js_w 0 from t)]
  · obtain ⟨v, e1, e2⟩ := y_symbol (E := E) (d := d) (e := e) hb h4 hm.1.1.2.1 h1 h2 hd
    exact lo_mk (v := v) (w := v) h e1 e2 rfl
theorem y_nameq (hb : b = 0 ∨ b = 25) (h4 : σ 0 4 = 6 + b) (hp : pr_R E b T N σ ρ) (hN : lq_N T ρ) (hH : sy_H E.1 σ b) (h1 : -2147483648 ≤ x1 ∧ x1 < 2147483648) (h2 : -2147483648 ≤ x2 ∧ x2 < 2147483648) (hd : 3 ≤ d) : ∃ v : Int, js_J E d 125 0 [(2, 0), (0, x1), (0, x2)] [] σ = js_r E (0, v) σ ∧ js_J E e 292 0 [(2, 83), (0, x1), (0, x2)] [] ρ = js_r E (0, v) (js_up ρ 83 0 0) := by
  have hT := hp.1.1.1
  have w1 : js_w x1 = x1 := js_w_of h1.1 h1.2
  have w2 : js_w x2 = x2 := js_w_of h2.1 h2.2
  have wT : js_w (T : Int) = T := js_w_of (by omega) (by omega)
  by_cases q : 0 ≤ x1 ∧ x1 < T
  · obtain ⟨⟨s0, sg⟩, _, _, s14, sn⟩ := hp.2.2.1 x1 q.1 q.2
    have n1 := (hN x1 q.1 q.2).1
    have f0 : σ (σ (19 + b) x1) 0 = x1 := by
      rcases hH x1 q.1 (by omega) with g | g
      · omega
      · exact g.2
    have cA : js_J E (d - 1 - 1) 67 0 [(2, 7 + b), (0, x1)] [] σ = js_r E (2, σ (19 + b) x1) σ := c_symAt hb q.1 (by rw [hp.1.1.2.2]; exact q.2) (by rw [hp.1.1.2.2]; omega)
    have c0 : ∀ v : Int, js_J E (d - 1) 126 10 [(2, 7 + b), (0, x1), (0, x2), (2, σ (19 + b) x1)] [] σ = js_r E (0, v) σ → js_J E d 125 0 [(2, 0), (0, x1), (0, x2)] [] σ = js_r E (0, v) σ := fun v g => by
      rw [b_125_0 hb h4, k_125_9 hb (by omega) (by rw [b_126_0, k_126_2 hb (by omega) cA, b_126_5, if_neg (show ¬ σ (19 + b) x1 < 0 by omega)]; exact g), b_125_12]
    have w97 : js_w (ρ 97 x1) = ρ 97 x1 := js_w_of (by omega) (by omega)
    have r0 : ∀ A : Option (Outcome × ip_W), (if x2 < 0 then js_r E (0, -1) (js_up ρ 83 0 0) else (if x2 < ρ 97 x1 then (if 0 ≤ js_w (20 * x1 + x2) ∧ js_w (20 * x1 + x2) < 8000 then js_r E (0, ρ 98 (js_w (20 * x1 + x2))) (js_up ρ 83 0 0) else none) else js_r E (0, -1) (js_up ρ 83 0 0))) = A → js_J E e 292 0 [(2, 83), (0, x1), (0, x2)] [] ρ = A := fun A g => by
      rw [b_292_0, w1, if_neg (show ¬ x1 < 0 by omega), hp.1.1.2.1, wT, if_pos q.2, w2, if_pos (show 0 ≤ x1 ∧ x1 < 400 by omega), w97]
      exact g
    by_cases q2 : x2 < 0
    · exact ⟨-1, c0 _ (by rw [b_126_10 s0 hb, w2, if_pos q2]), r0 _ (by rw [if_pos q2])⟩
    · by_cases q3 : x2 < ρ 97 x1
      · have wi : js_w (20 * x1 + x2) = 20 * x1 + x2 := js_w_of (by omega) (by omega)
        have ix : x1 * 20 + x2 = 20 * x1 + x2 := by omega
        have bd : 0 ≤ 20 * x1 + x2 ∧ 20 * x1 + x2 < 8000 := by omega
        exact ⟨ρ 98 (20 * x1 + x2), c0 _ (by rw [b_126_10 s0 hb, w2, if_neg q2, s14, w97, if_pos q3, f0, ix, wi, if_pos bd, sn x2 (by omega) q3]), r0 _ (by rw [if_neg q2, if_pos q3, wi, if_pos bd])⟩
      · exact ⟨-1, c0 _ (by rw [b_126_10 s0 hb, w2, if_neg q2, s14, w97, if_neg q3]), r0 _ (by rw [if_neg q2, if_neg q3])⟩
  · have cA : js_J E (d - 1 - 1) 67 0 [(2, 7 + b), (0, x1)] [] σ = js_r E (2, -1) σ := by
      rw [b_67_0 hb, w1, hp.1.1.2.2, wT]
      by_cases t : x1 < 0
      · rw [if_pos t]
      · rw [if_neg t, if_neg (show ¬ x1 < T by omega)]
    refine ⟨-1, by rw [b_125_0 hb h4, k_125_9 hb (by omega) (by rw [b_126_0, k_126_2 hb (by omega) cA, b_126_5, if_pos (show (-1 : Int) < 0 by decide)]), b_125_12], ?_⟩
    rw [b_292_0, w1, hp.1.1.2.1, wT]
    by_cases t : x1 < 0
    · rw [if_pos t]
    · rw [if_neg t, if_neg (show ¬ x1 < T by omega)]
theorem lo_name (h : LQ E n σ ρ) (h1 : -2147483648 ≤ x1 ∧ x1 < 2147483648) (h2 : -2147483648 ≤ x2 ∧ x2 < 2147483648) (hd : 3 ≤ d) : LO E n d 125 [(2, 0), (0, x1), (0, x2)] e 292 [(2, 83), (0, x1), (0, x2)] σ ρ := by
  have h' := h
  obtain ⟨_, hH, b, ⟨hb, ⟨h4, _, _⟩, _⟩, hl⟩ := h'
  rcases hl with h0 | ⟨_, Fu, ac, zc, N, T, hm, hN, _⟩
  · obtain ⟨_, ⟨a3, a4⟩, _⟩ := h0
    refine lo_mk (v := -1) (w := -1) (z := 0) h ?_ ?_ rfl
    · rw [b_125_0 hb h4, k_125_9 hb (by omega) (by rw [b_126_0, k_126_2 hb (by omega) (c_at0 hb a3), b_126_5, if_pos (show (-1 : Int) < 0 by decide)]), b_125_12]
    · rw [b_292_0, a4]
      by_cases t : js_w x1 < 0
      · rw [if_pos t]
      · rw [if_neg t, if_neg (show ¬ js_w x1 < js_w 0 from t)]
  · have hS : sy_H E.1 σ b := by
      rcases hb with q | q
      · rw [q]; exact hH.2.1.1
      · rw [q]; exact hH.2.1.2
    obtain ⟨v, e1, e2⟩ := y_nameq (E := E) (d := d) (e := e) hb h4 hm.1.1.2.1 hN hS h1 h2 hd
    exact lo_mk (v := v) (w := v) h e1 e2 rfl
theorem lo_code (h : LQ E n σ ρ) (h1 : -2147483648 ≤ x1 ∧ x1 < 2147483648) (h2 : -2147483648 ≤ x2 ∧ x2 < 2147483648) (hd : 2 ≤ d) : LO E n d 127 [(2, 0), (0, x1), (0, x2), (9, 0)] e 293 [(2, 83), (0, x1), (0, x2)] σ ρ := by
  have h' := h
  obtain ⟨_, _, b, ⟨hb, ⟨h4, _, _⟩, _⟩, hl⟩ := h'
  rcases hl with h0 | ⟨_, Fu, ac, zc, N, T, hm, _, _⟩
  · obtain ⟨_, _, ⟨a5, a6⟩, _⟩ := h0
    refine lo_mk (v := -1) (w := -1) (z := 0) h ?_ ?_ rfl
    · rw [b_127_0 hb h4, k_127_13 hb (by omega) (c_has0 hb a5), b_127_16, if_pos (show js_w 0 = 0 from rfl)]
    · rw [b_293_0, a6]
      by_cases t : js_w x1 < 0
      · rw [if_pos t]
      · rw [if_neg t, if_neg (show ¬ js_w x1 < js_w 0 from t)]
  · obtain ⟨v, e1, e2⟩ := y_code (E := E) (d := d) (e := e) hb h4 hm.1.1.2.1 h1 h2 hd
    exact lo_mk (v := v) (w := v) h e1 e2 rfl
theorem lo_count (h : LQ E n σ ρ) (h1 : -2147483648 ≤ x1 ∧ x1 < 2147483648) (hd : 2 ≤ d) : LO E n d 169 [(2, 0), (0, x1)] e 298 [(2, 83), (0, x1)] σ ρ := by
  have h' := h
  obtain ⟨hT, _, b, ⟨hb, ⟨h4, _, h56⟩, _⟩, hl⟩ := h'
  rcases hl with h0 | ⟨⟨l1, l2, _⟩, Fu, ac, zc, N, T, hm, _, _⟩
  · obtain ⟨⟨a1, a2⟩, _⟩ := h0
    by_cases t : js_w x1 = 0
    · exact lo_mk (v := ρ 83 2) (w := ρ 83 2) (z := 0) h (by rw [b_169_0 hb h56, if_pos t, hT.1.1]) (by rw [b_298_0, if_pos t]) rfl
    · exact lo_mk (v := -1) (w := -1) (z := 0) h (by rw [b_169_0 hb h56, if_neg t, a1, if_pos (show js_w 0 = 0 from rfl)]) (by rw [b_298_0, if_neg t, a2, if_pos (show js_w 0 = 0 from rfl)]) rfl
  · obtain ⟨v, e1, e2⟩ := y_counts (E := E) (d := d) (e := e) hb hm l2 l1 hT.1.1 h1 hd
    exact lo_mk (v := v) (w := v) h e1 e2 rfl
end OA
