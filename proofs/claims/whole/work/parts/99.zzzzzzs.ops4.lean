/-! part 99.zzzzzzs: calls that may throw, all others -/
theorem js_r0_r {E : js_E} {v : js_v} {σ τ : js_S} (h : js_r0 E σ = js_r0 E τ) : js_r E v σ = js_r E v τ := by
  unfold js_r0 at h
  unfold js_r
  simp only [Option.some.injEq, Prod.mk.injEq, true_and] at h
  rw [h]
section OD
variable {E : js_E} {n b x1 x2 C : Int} {d e : Nat} {T : Nat} {N ac zc : Int} {Fu : Int → Int → Int → Prop} {σ ρ σ' ρ' : js_S}
theorem lx_cell (h : LQ E n σ ρ) (h1 : -2147483648 ≤ x1 ∧ x1 < 2147483648) (h2 : -2147483648 ≤ x2 ∧ x2 < 2147483648) (hd : 8 ≤ d) : LX E n d 305 [(2, 0), (0, x1), (0, x2), (2, 136), (9, 0)] e 283 [(2, 83), (0, x1), (0, x2), (9, 0)] 1 (fun w => js_l w) σ ρ := by
  have h' := h
  obtain ⟨_, hH, b, ⟨hb, ⟨h4, _, h56⟩, _⟩, hl⟩ := h'
  have w1 : js_w x1 = x1 := js_w_of h1.1 h1.2
  have w2 : js_w x2 = x2 := js_w_of h2.1 h2.2
  have thr : js_J E (d - 1) 183 16 [(2, 0), (0, x1), (0, x2)] [] σ = js_t E (σ (-1) 0) (js_ne σ 18) := b_183_16 (by omega) hH.1.1 hH.1.2
  have rr : js_J E e 283 32 [(2, 83), (0, x1), (0, x2), (9, 0)] [] ρ = js_r E (1, 0) (js_up ρ 83 0 1) := by
    rw [b_283_32, b_283_33, if_pos (show js_w 0 = 0 from rfl), b_283_44, if_pos (show js_w 0 = 0 from rfl)]
  have no : js_J E (d - 1) 183 0 [(2, 0), (0, x1), (0, x2)] [] σ = js_t E (σ (-1) 0) (js_ne σ 18) → js_J E e 283 0 [(2, 83), (0, x1), (0, x2), (9, 0)] [] ρ = js_r E (1, 0) (js_up ρ 83 0 1) → LX E n d 305 [(2, 0), (0, x1), (0, x2), (2, 136), (9, 0)] e 283 [(2, 83), (0, x1), (0, x2), (9, 0)] 1 (fun w => js_l w) σ ρ := fun g1 g2 => lx_throw (c := 18) (k := 1) h (by decide) (by rw [b_305_0, kc_305_5_18 (by omega) g1 (js_ne_d hH.1.1 (by decide)), b_305_12]) ⟨0, g2⟩
  rcases hl with h0 | ⟨⟨l1, l2, _⟩, Fu, ac, zc, N, T, hm, _, _⟩
  · obtain ⟨⟨a1, a2⟩, _⟩ := h0
    refine no ?_ (by rw [b_283_0, a2, if_pos (show js_w 0 = 0 from rfl), rr])
    rw [b_183_0, w2]
    by_cases t : x2 < 0
    · rw [if_pos t, thr]
    · rw [if_neg t, k_183_10 (by omega) (by rw [b_137_0 hb h56, a1, if_pos (show js_w 0 = 0 from rfl)]), b_183_13, if_pos (show js_w 0 = 0 from rfl), thr]
  · have hp := hm.1.1.2.1
    have hN := hp.1.2.1
    have wN : js_w N = N := js_w_of (by omega) (by omega)
    by_cases q : (0 ≤ x1 ∧ x1 ≤ 1) ∧ 0 ≤ x2 ∧ x2 < N
    · obtain ⟨v, w, e1, e2, e3⟩ := y_cell (E := E) (d := d - 1) (e := e) hb hm l2 l1 q (by omega)
      exact lx_ok (v := v) (w := w) h (by rw [b_305_0, k_305_5 (by omega) e1, b_305_8, if_pos w01]; rfl) e2 e3 (js_up_same _ _ _ _) (fun a i g => js_up_ne _ (by omega))
    · refine no ?_ ?_
      · rw [b_183_0, w2]
        by_cases t : x2 < 0
        · rw [if_pos t, thr]
        · have c0 : js_J E (d - 1 - 1) 137 0 [(2, 56), (0, x1), (0, x2)] [] σ = js_r E (0, 0) σ := by
            rw [b_137_0 hb h56, l1, if_neg (show ¬ js_w 1 = 0 by decide), w1, w2, hp.1.2.2.2, wN]
            by_cases u : x1 < 0
            · rw [if_pos u]
            · rw [if_neg u]
              by_cases u2 : 1 < x1
              · rw [if_pos u2]
              · rw [if_neg u2, if_neg (show ¬ x2 < -2 by omega), if_neg (show ¬ x2 < N by omega)]
          rw [if_neg t, k_183_10 (by omega) c0, b_183_13, if_pos (show js_w 0 = 0 from rfl), thr]
      · rw [b_283_0, l2, if_neg (show ¬ js_w 1 = 0 by decide), w1, w2, hp.1.2.2.1, wN]
        by_cases u : x1 < 0
        · rw [if_pos u, rr]
        · rw [if_neg u]
          by_cases u2 : x1 < 2
          · rw [if_pos u2]
            by_cases u3 : x2 < 0
            · rw [if_pos u3, rr]
            · rw [if_neg u3, if_neg (show ¬ x2 < N by omega), rr]
          · rw [if_neg u2, rr]
theorem lx_register (h : LQ E n σ ρ) (h1 : -2147483648 ≤ x1 ∧ x1 < 2147483648) (h2 : -2147483648 ≤ x2 ∧ x2 < 2147483648) (hd : 8 ≤ d) : LX E n d 306 [(2, 0), (0, x1), (0, x2), (2, 136), (9, 0)] e 284 [(2, 83), (0, x1), (0, x2), (9, 0)] 1 (fun w => js_l w) σ ρ := by
  have h' := h
  obtain ⟨_, hH, b, ⟨hb, ⟨h4, _, h56⟩, _⟩, hl⟩ := h'
  have w1 : js_w x1 = x1 := js_w_of h1.1 h1.2
  have w2 : js_w x2 = x2 := js_w_of h2.1 h2.2
  by_cases q : (0 ≤ x1 ∧ x1 ≤ 1) ∧ 0 ≤ x2 ∧ x2 ≤ 3
  · have ok : ∀ v w : Int, js_J E (d - 1) 184 0 [(2, 0), (0, x1), (0, x2), (9, 0), (9, 0)] [] σ = js_r E (1, v) σ → js_J E e 284 0 [(2, 83), (0, x1), (0, x2), (9, 0)] [] ρ = js_r E (1, w) (js_up ρ 83 0 0) → js_l v = js_l w → LX E n d 306 [(2, 0), (0, x1), (0, x2), (2, 136), (9, 0)] e 284 [(2, 83), (0, x1), (0, x2), (9, 0)] 1 (fun w => js_l w) σ ρ := fun v w e1 e2 e3 =>
      lx_ok (v := v) (w := w) h (by rw [b_306_0, k_306_5 (by omega) e1, b_306_8, if_pos w01]; rfl) e2 e3 (js_up_same _ _ _ _) (fun a i g => js_up_ne _ (by omega))
    rcases hl with h0 | ⟨⟨l1, l2, _⟩, Fu, ac, zc, N, T, hm, _, _⟩
    · obtain ⟨_, _, _, _, ⟨a8, a9⟩, ⟨c1, c2⟩, c3, c4⟩ := h0
      have w3 : js_w (x1 + 1) = x1 + 1 := js_w_of (by omega) (by omega)
      have nr : ¬ js_w 0 = x1 + 1 := by
        have : js_w 0 = 0 := rfl
        omega
      have z : ∀ a i : Int, ¬ (a = 83 ∧ i = 0) → js_up ρ 83 0 0 a i = ρ a i := fun a i g => js_up_ne _ g
      have er0 : js_J E e 284 0 [(2, 83), (0, x1), (0, x2), (9, 0)] [] ρ = js_J E e 284 51 [(2, 83), (0, x1), (0, x2), (9, 0)] [(0, 0)] (js_up ρ 83 0 0) := by
        rw [b_284_0, w1, if_neg (show ¬ x1 < 0 by omega), if_neg (show ¬ 1 < x1 by omega), w2, if_neg (show ¬ x2 < 0 by omega), if_neg (show ¬ 3 < x2 by omega), b_284_24, if_neg (show ¬ 0 < js_w 0 by decide), w3, a9, if_neg nr]
      have hq : ∃ o : Int, js_isC E.1 (59 + 3 * x1) o ∧ js_l (σ (59 + 3 * x1) 0) = js_l (ρ 121 x1) ∧ js_l (σ (59 + 3 * x1) 1) = js_l (ρ 122 x1) := by
        by_cases q : x1 = 0
        · subst q
          exact ⟨1, js_c1 (r := 0) (Or.inl rfl), c1, c2⟩
        · have q3 : x1 = 1 := by omega
          subst q3
          exact ⟨58659, js_c2 (r := 0) (Or.inl rfl), c3, c4⟩
      obtain ⟨o, hC, hA, hB⟩ := hq
      have ec0 : js_J E (d - 1) 184 0 [(2, 0), (0, x1), (0, x2), (9, 0), (9, 0)] [] σ = (if x2 < 2 then (if x2 = 0 then js_r E (1, σ (59 + 3 * x1) 0) σ else js_r E (1, σ (59 + 3 * x1) 1) σ) else js_J E (d - 1) 184 82 [(2, 0), (0, x1), (0, x2), (2, 59 + 3 * x1), (9, 0)] [(0, 0)] σ) := by
        rw [b_184_0, w1, if_neg (show ¬ x1 < 0 by omega), if_neg (show ¬ 1 < x1 by omega), w2, if_neg (show ¬ x2 < 0 by omega), if_neg (show ¬ 3 < x2 by omega), k_184_36 (by omega) (c_of0 q.1), b_184_39 hC, w2, a8, w3, if_neg nr]
      have c2' : 0 ≤ x1 ∧ x1 < 2 := by omega
      by_cases t0 : x2 = 0
      · exact ok _ _ (by rw [ec0, if_pos (show x2 < 2 by omega), if_pos t0]) (by rw [er0, b_284_51, w2, if_pos t0, w1, if_pos c2', z _ _ (by omega)]) hA
      by_cases t1 : x2 = 1
      · exact ok _ _ (by rw [ec0, if_pos (show x2 < 2 by omega), if_neg t0]) (by rw [er0, b_284_51, w2, if_neg t0, if_pos t1, w1, if_pos c2', z _ _ (by omega)]) hB
      by_cases t2 : x2 = 2
      · exact ok (-1) (-1) (by rw [ec0, if_neg (show ¬ x2 < 2 by omega), b_184_82 hC, w2, if_pos t2, if_pos (show js_w 0 = 0 from rfl)]) (by rw [er0, b_284_51, w2, if_neg t0, if_neg t1, if_pos t2, if_pos (show js_w 0 = 0 from rfl)]) rfl
      · exact ok 0 0 (by rw [ec0, if_neg (show ¬ x2 < 2 by omega), b_184_82 hC, w2, if_neg t2, if_pos (show js_w 0 = 0 from rfl)]) (by rw [er0, b_284_51, w2, if_neg t0, if_neg t1, if_neg t2, if_pos (show js_w 0 = 0 from rfl)]) rfl
    · obtain ⟨v, w, e1, e2, e3⟩ := y_register (E := E) (d := d - 1) (e := e) hm q (by omega)
      exact ok v w e1 e2 e3
  · have th : js_J E (d - 1) 184 0 [(2, 0), (0, x1), (0, x2), (9, 0), (9, 0)] [] σ = js_t E (σ (-1) 0) (js_ne σ 18) := by
      have g : js_J E (d - 1) 184 18 [(2, 0), (0, x1), (0, x2), (9, 0), (9, 0)] [] σ = js_t E (σ (-1) 0) (js_ne σ 18) := b_184_18 (by omega) hH.1.1 hH.1.2
      rw [b_184_0, w1, w2, g]
      by_cases u : x1 < 0
      · rw [if_pos u]
      · rw [if_neg u]
        by_cases u2 : 1 < x1
        · rw [if_pos u2]
        · rw [if_neg u2]
          by_cases u3 : x2 < 0
          · rw [if_pos u3]
          · rw [if_neg u3, if_pos (show 3 < x2 by omega)]
    have g : js_J E e 284 19 [(2, 83), (0, x1), (0, x2), (9, 0)] [(2, 83)] ρ = js_r E (1, 0) (js_up ρ 83 0 1) := by
      rw [b_284_19, b_284_24, if_pos (show 0 < js_w 1 by decide)]
    refine lx_throw (c := 18) (k := 1) h (by decide) (by rw [b_306_0, kc_306_5_18 (by omega) th (js_ne_d hH.1.1 (by decide)), b_306_12]) ⟨0, ?_⟩
    rw [b_284_0, w1, w2, g]
    by_cases u : x1 < 0
    · rw [if_pos u]
    · rw [if_neg u]
      by_cases u2 : 1 < x1
      · rw [if_pos u2]
      · rw [if_neg u2]
        by_cases u3 : x2 < 0
        · rw [if_pos u3]
        · rw [if_neg u3, if_pos (show 3 < x2 by omega)]
end OD
