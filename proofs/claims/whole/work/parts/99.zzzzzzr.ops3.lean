/-! part 99.zzzzzzr: calls that may throw: range, cell, register, output, past, steps, cycle -/
/-- a call that may throw, in both: the same is thrown; the same answer, if nothing is -/
def LX (E : js_E) (n : Int) (dc yc : Nat) (lc : List js_v) (dr yr : Nat) (lr : List js_v) (t : Nat) (L : Int → Int) (σ ρ : js_S) : Prop := ∃ (σ' ρ' : js_S) (k w : Int), js_J E dc yc 0 lc [] σ = js_r E (0, k) σ' ∧ js_J E dr yr 0 lr [] ρ = js_r E (t, w) ρ' ∧ (ρ' 83 0 = k ∧ (js_w k = 0 → js_l (σ' 136 0) = L w)) ∧ LQ E (n + 1) σ' ρ' ∧ (∀ a i : Int, 83 ≤ a → a ≤ 135 → σ' a i = σ a i) ∧ (∀ a i : Int, ¬ (83 ≤ a ∧ a ≤ 135) → ρ' a i = ρ a i)
section NE
variable {σ : js_S} {c : Int}
theorem js_ne_o {a i : Int} (h : a ≠ σ (-1) 0) (h2 : a ≠ -1) : js_ne σ c a i = σ a i := by
  unfold js_ne
  rw [if_neg h, if_neg (fun q => h2 q.1), if_neg (fun q => h2 q.1)]
theorem js_ne_0 (h : 137 ≤ σ (-1) 0) : js_ne σ c (-1) 0 = σ (-1) 0 + 1 := by
  unfold js_ne
  rw [if_neg (by omega), if_pos ⟨rfl, rfl⟩]
theorem js_ne_1 (h : 137 ≤ σ (-1) 0) : js_ne σ c (-1) 1 = σ (-1) 1 + 6 := by
  unfold js_ne
  rw [if_neg (by omega), if_neg (fun q => absurd q.2 (by decide)), if_pos ⟨rfl, rfl⟩]
theorem js_ne_d {M : Int} (h : 137 ≤ σ (-1) 0) (hc : c ≠ 11) : js_desc M (js_ne σ c) (σ (-1) 0) = some (0, c, []) := by
  have e : js_ne σ c (σ (-1) 0) 15 = c := by
    unfold js_ne
    rw [if_pos rfl, if_pos rfl]
  unfold js_desc
  rw [if_pos (by omega), if_neg (by omega), js_ne_0 h, if_pos (by omega), e, if_neg hc]
end NE
section OC
variable {E : js_E} {n b x1 x2 C : Int} {d e : Nat} {T : Nat} {N ac zc : Int} {Fu : Int → Int → Int → Prop} {σ ρ σ' ρ' : js_S}
theorem lx_throw {dc yc dr yr t : Nat} {lc lr : List js_v} {L : Int → Int} {c k : Int} (h : LQ E n σ ρ) (hk : js_w k ≠ 0) (hc : js_J E dc yc 0 lc [] σ = js_r E (0, k) (js_ne σ c)) (hr : ∃ w : Int, js_J E dr yr 0 lr [] ρ = js_r E (t, w) (js_up ρ 83 0 k)) : LX E n dc yc lc dr yr lr t L σ ρ := by
  obtain ⟨w, hr⟩ := hr
  have hn := h.2.1.1.1
  refine ⟨js_ne σ c, js_up ρ 83 0 k, k, w, hc, hr, ⟨js_up_same _ _ _ _, fun q => absurd q hk⟩, lq_mv h (by omega) (fun a i g1 g2 g3 g4 => js_ne_o (by omega) (by omega)) ⟨by rw [js_ne_0 hn]; omega, by rw [js_ne_0 hn]; omega⟩ ⟨by rw [js_ne_1 hn]; omega, by rw [js_ne_1 hn]; omega⟩ (fun i g => js_up_ni _ (by omega)) (fun a i g1 g2 => js_up_na _ (by omega)), fun a i g1 g2 => js_ne_o (by omega) (by omega), fun a i g => js_up_na _ (by omega)⟩
theorem lx_ok {dc yc dr yr t : Nat} {lc lr : List js_v} {L : Int → Int} {v w : Int} (h : LQ E n σ ρ) (hc : js_J E dc yc 0 lc [] σ = js_r E (0, 0) (js_up σ 136 0 v)) (hr : js_J E dr yr 0 lr [] ρ = js_r E (t, w) ρ') (hv : js_l v = L w) (h0 : ρ' 83 0 = 0) (f : ∀ a i : Int, ¬ (a = 83 ∧ (i = 0 ∨ i = 90)) → ρ' a i = ρ a i) : LX E n dc yc lc dr yr lr t L σ ρ := by
  refine ⟨js_up σ 136 0 v, ρ', 0, w, hc, hr, ⟨h0, fun _ => by rw [js_up_same]; exact hv⟩, lq_mv h (by omega) (fun a i g1 g2 g3 g4 => js_up_na _ (by omega)) ⟨by rw [js_up_na _ (by decide)]; exact Int.le_refl _, by rw [js_up_na _ (by decide)]; omega⟩ ⟨by rw [js_up_na _ (by decide)]; exact Int.le_refl _, by rw [js_up_na _ (by decide)]; omega⟩ (fun i g => f _ _ (by omega)) (fun a i g1 g2 => f _ _ (by omega)), fun a i g1 g2 => js_up_na _ (by omega), fun a i g => f a i (by omega)⟩
theorem w01 : 0 ≤ js_w 0 ∧ js_w 0 < 1 := by decide
theorem c_hasC (hb : b = 0 ∨ b = 25) (hC : σ (8 + b) 6 = C) (h0 : 0 ≤ C ∧ C ≤ 8192) (h1 : -2147483648 ≤ x1 ∧ x1 < 2147483648) : js_J E d 92 0 [(2, 8 + b), (0, x1)] [] σ = js_r E (0, if 0 ≤ x1 ∧ x1 < C then 1 else 0) σ := by
  have w1 : js_w x1 = x1 := js_w_of h1.1 h1.2
  have wC : js_w C = C := js_w_of (by omega) (by omega)
  rw [b_92_0 hb, w1, hC, wC]
  by_cases t : x1 < 0
  · rw [if_pos t, if_neg (show ¬ (0 ≤ x1 ∧ x1 < C) by omega)]
  · by_cases u : x1 < C
    · rw [if_neg t, if_pos u, if_pos (show x1 < 8192 by omega), if_pos (show 0 ≤ x1 ∧ x1 < C by omega)]
    · rw [if_neg t, if_neg u, if_neg (show ¬ (0 ≤ x1 ∧ x1 < C) by omega)]
theorem lx_range (h : LQ E n σ ρ) (h1 : -2147483648 ≤ x1 ∧ x1 < 2147483648) (h2 : -2147483648 ≤ x2 ∧ x2 < 2147483648) (hd : 8 ≤ d) : LX E n d 300 [(2, 0), (0, x1), (0, x2), (2, 136), (9, 0)] e 294 [(2, 83), (0, x1), (0, x2)] 1 (fun w => js_l w) σ ρ := by
  have h' := h
  obtain ⟨_, hH, b, ⟨hb, ⟨h4, _, _⟩, _⟩, hl⟩ := h'
  have w1 : js_w x1 = x1 := js_w_of h1.1 h1.2
  have w2 : js_w x2 = x2 := js_w_of h2.1 h2.2
  have hC : σ (8 + b) 6 = ρ 83 49 ∧ (0 ≤ ρ 83 49 ∧ ρ 83 49 ≤ 8192) ∧ lq_G ρ ∧ ∀ p : Int, 0 ≤ p → p < ρ 83 49 → ce_P b σ ρ p := by
    rcases hl with h0 | ⟨_, Fu, ac, zc, N, T, hm, _, hG⟩
    · obtain ⟨_, _, ⟨a5, a6⟩, _⟩ := h0
      exact ⟨by rw [a5, a6], by omega, fun p q1 q2 => by omega, fun p q1 q2 => by omega⟩
    · have hp := hm.1.1.2.1
      exact ⟨hp.2.1.1.2.2, ⟨hp.2.1.1.1, hp.2.1.1.2.1⟩, hG, hp.2.2.2.1⟩
  obtain ⟨c1, c2, hG, hce⟩ := hC
  have wC : js_w (ρ 83 49) = ρ 83 49 := js_w_of (by omega) (by omega)
  have cA := c_hasC (E := E) (d := d - 1 - 1) hb c1 c2 h1
  by_cases q : 0 ≤ x1 ∧ x1 < ρ 83 49
  · rw [if_pos q] at cA
    by_cases q2 : 0 ≤ x2 ∧ x2 ≤ 1
    · have i8 : 0 ≤ x1 ∧ x1 < 8192 := by omega
      obtain ⟨_, _, _, e4, e5⟩ := hce x1 q.1 q.2
      have g := (hG x1 q.1 q.2).2
      have wl : js_w (ρ 114 x1) = ρ 114 x1 := js_w_of g.1.1 g.1.2
      have wh : js_w (ρ 115 x1) = ρ 115 x1 := js_w_of g.2.1 g.2.2
      have cc : ∀ v : Int, js_J E (d - 1) 172 0 [(2, 0), (0, x1), (0, x2), (9, 0)] [] σ = js_r E (1, v) σ → js_J E d 300 0 [(2, 0), (0, x1), (0, x2), (2, 136), (9, 0)] [] σ = js_r E (0, 0) (js_up σ 136 0 v) := fun v g => by
        rw [b_300_0, k_300_5 (by omega) g, b_300_8, if_pos w01]
        rfl
      by_cases t : x2 = 0
      · refine lx_ok (v := ρ 114 x1) (w := ρ 114 x1) (ρ' := js_up ρ 83 0 0) h (cc _ ?_) ?_ rfl (js_up_same _ _ _ _) (fun a i g => js_up_ne _ (by omega))
        · rw [b_172_0 hb h4, k_172_13 hb (by omega) cA, b_172_16 hb, if_neg (show ¬ js_w 1 = 0 by decide), w2, if_neg (show ¬ x2 < 0 by omega), if_neg (show ¬ 1 < x2 by omega), if_pos t, w1, if_pos i8, e4, wl]
        · rw [b_294_0, w1, if_neg (show ¬ x1 < 0 by omega), wC, if_pos q.2, w2, if_neg (show ¬ x2 < 0 by omega), if_neg (show ¬ 1 < x2 by omega), b_294_27, if_neg (show ¬ 0 < js_w 0 by decide), w2, if_pos t, w1, if_pos i8]
      · refine lx_ok (v := ρ 115 x1) (w := ρ 115 x1) (ρ' := js_up ρ 83 0 0) h (cc _ ?_) ?_ rfl (js_up_same _ _ _ _) (fun a i g => js_up_ne _ (by omega))
        · rw [b_172_0 hb h4, k_172_13 hb (by omega) cA, b_172_16 hb, if_neg (show ¬ js_w 1 = 0 by decide), w2, if_neg (show ¬ x2 < 0 by omega), if_neg (show ¬ 1 < x2 by omega), if_neg t, w1, if_pos i8, e5, wh]
        · rw [b_294_0, w1, if_neg (show ¬ x1 < 0 by omega), wC, if_pos q.2, w2, if_neg (show ¬ x2 < 0 by omega), if_neg (show ¬ 1 < x2 by omega), b_294_27, if_neg (show ¬ 0 < js_w 0 by decide), w2, if_neg t, w1, if_pos i8]
    · have th : js_J E (d - 1) 172 0 [(2, 0), (0, x1), (0, x2), (9, 0)] [] σ = js_t E (σ (-1) 0) (js_ne σ 18) := by
        rw [b_172_0 hb h4, k_172_13 hb (by omega) cA, b_172_16 hb, if_neg (show ¬ js_w 1 = 0 by decide), w2]
        by_cases t : x2 < 0
        · rw [if_pos t, b_172_28 (by omega) hH.1.1 hH.1.2]
        · rw [if_neg t, if_pos (show 1 < x2 by omega), b_172_28 (by omega) hH.1.1 hH.1.2]
      refine lx_throw (c := 18) (k := 1) h (by decide) (by rw [b_300_0, kc_300_5_18 (by omega) th (js_ne_d hH.1.1 (by decide)), b_300_12]) ⟨0, ?_⟩
      rw [b_294_0, w1, if_neg (show ¬ x1 < 0 by omega), wC, if_pos q.2, w2]
      by_cases t : x2 < 0
      · rw [if_pos t, b_294_22, b_294_27, if_pos (show 0 < js_w 1 by decide)]
      · rw [if_neg t, if_pos (show 1 < x2 by omega), b_294_22, b_294_27, if_pos (show 0 < js_w 1 by decide)]
  · rw [if_neg q] at cA
    have th : js_J E (d - 1) 172 0 [(2, 0), (0, x1), (0, x2), (9, 0)] [] σ = js_t E (σ (-1) 0) (js_ne σ 18) := by
      rw [b_172_0 hb h4, k_172_13 hb (by omega) cA, b_172_16 hb, if_pos (show js_w 0 = 0 from rfl), b_172_28 (by omega) hH.1.1 hH.1.2]
    refine lx_throw (c := 18) (k := 1) h (by decide) (by rw [b_300_0, kc_300_5_18 (by omega) th (js_ne_d hH.1.1 (by decide)), b_300_12]) ⟨0, ?_⟩
    rw [b_294_0, w1, wC]
    by_cases t : x1 < 0
    · rw [if_pos t, b_294_22, b_294_27, if_pos (show 0 < js_w 1 by decide)]
    · rw [if_neg t, if_neg (show ¬ x1 < ρ 83 49 by omega), b_294_22, b_294_27, if_pos (show 0 < js_w 1 by decide)]
end OC
