/-! part 99.zzzzza: cells and code of both, settled: the same -/
section CE
variable {E : js_E} {b : Int} {B : Int → Int} {Bf : Int → Int → Int} {U : Int → Int} {fb fr : Int → tr_T} {r : tr_T} {σ ρ : js_S} {j : Nat}
/-- cells of the class's units -/
theorem un_eq (h : pg_R E b B Bf U fb fr r σ ρ j) : ∀ n : Nat, (n : Int) ≤ ρ 83 11 → un_b σ b (po_a ρ (ρ 83 11).toNat) (fn_u ρ n).toNat = un_c ρ fb fr n
  | 0, _ => rfl
  | n + 1, hn => by
    have ih := un_eq h n (by push_cast at hn; omega)
    have f0 := (fn_u_0 (ρ := ρ) n).1
    by_cases q : ρ 86 n = 4
    · have f1 := fn_u_new (ρ := ρ) q
      have hf := (h.2.2.1 n (by omega) (by push_cast at hn; omega) q).1
      have tn : (n : Int).toNat = n := by omega
      have hU : U n = fn_u ρ n := by
        have := hf.1.2.1
        rw [tn] at this
        exact this
      have s15 := hf.2.2.2.2.1.1
      have s16 := hf.2.2.2.2.1.2.1
      rw [hU] at s15 s16
      have ft : ((fn_u ρ n).toNat : Int) = fn_u ρ n := by omega
      have e1 : (fn_u ρ (n + 1)).toNat = (fn_u ρ n).toNat + 1 := by omega
      rw [e1]
      show un_b σ b (po_a ρ (ρ 83 11).toNat) (fn_u ρ n).toNat + σ (15 + b) ((fn_u ρ n).toNat : Nat) + σ (16 + b) ((fn_u ρ n).toNat : Nat) = un_c ρ fb fr n + (if ρ 86 n = 4 then lo_c ρ n (ρ 83 11).toNat + max 0 (max (st_mt (fb n) 0) (xt_mt (fr n) 0)) else 0)
      rw [ih, ft, s15, s16, if_pos q]
      omega
    · have f1 : fn_u ρ (n + 1) = fn_u ρ n := by
        show fn_u ρ n + (if ρ 86 n = 4 then 1 else 0) = _
        rw [if_neg q, Int.add_zero]
      rw [f1, ih]
      show un_c ρ fb fr n = un_c ρ fb fr n + (if ρ 86 n = 4 then lo_c ρ n (ρ 83 11).toNat + max 0 (max (st_mt (fb n) 0) (xt_mt (fr n) 0)) else 0)
      rw [if_neg q, Int.add_zero]
/-- an INSTRUCTION of both -/
def ce_P (b : Int) (σ ρ : js_S) (p : Int) : Prop := σ (9 + b) p = ρ 111 p ∧ σ (10 + b) p = ρ 112 p ∧ σ (11 + b) p = ρ 113 p ∧ σ (12 + b) p = ρ 114 p ∧ σ (13 + b) p = ρ 115 p
/-- a SYMBOL's cell in the class: its unit's first cell and its own -/
def cl_A (b : Int) (σ σ1 : js_S) (A : Int → Int) (x : Int) : Prop := σ (σ (19 + b) x) 11 = -1 ∧ σ (σ (19 + b) x) 5 = A x ∨ (0 ≤ σ (σ (19 + b) x) 11 ∧ σ (σ (19 + b) x) 11 < 401) ∧ σ (σ (19 + b) x) 5 + σ1 (15 + b) (σ (σ (19 + b) x) 11) = A x
theorem ca_eq {σ1 σ2 ρ' : js_S} {u p tb : Int} {I : xt_I} {A : Int → Int} {S1 K1 : Int → Prop} (hb : b = 0 ∨ b = 25) (hc : ci_P σ b u p I) (hk : rk_P A tb ρ' p I) (hg : xg_I S1 K1 I) (hS : ∀ x : Int, S1 x → cl_A b σ σ1 A x) (hK : ∀ x : Int, K1 x → σ (σ (19 + b) x) 5 = A x) (hu : 0 ≤ u ∧ u < 401) (h16 : σ1 (16 + b) u = tb) (hO : ∀ a : Int, 9 + b ≤ a → a ≤ 14 + b → σ1 a p = σ a p) (h2 : σ2 (10 + b) p = rl_f σ1 b p) (hO2 : ∀ a : Int, a ≠ 10 + b → σ2 a p = σ1 a p) : ce_P b σ2 ρ' p := by
  obtain ⟨c1, c2, c3, c4, c5⟩ := hc
  obtain ⟨k1, k2, k3, k4, k5⟩ := hk
  refine ⟨?_, ?_, ?_, ?_, ?_⟩
  · rw [hO2 _ (by omega), hO _ (by omega) (by omega), c1, k1]
  · rw [h2, k2]
    have o10 := hO (10 + b) (by omega) (by omega)
    have o14 := hO (14 + b) (by omega) (by omega)
    unfold rl_f
    rw [o10, o14]
    by_cases q0 : I.2.1 = 0
    · rw [if_pos q0] at c5 ⊢
      rw [c5.2, if_neg (show ¬ (0 < js_w 0 ∧ (js_w 0 - 1) / 2 < 401) by decide), c5.1]
    by_cases q1 : I.2.1 = 1
    · rw [if_neg q0, if_pos q1] at c5 ⊢
      obtain ⟨_, d1, d2⟩ := c5
      rw [d2, d1]
      rcases hS _ (hg.1 q1) with ⟨a1, a2⟩ | ⟨a1, a2⟩
      · rw [a1, a2, show sh_P (-1) = 0 by decide, if_neg (show ¬ (0 < js_w 0 ∧ (js_w 0 - 1) / 2 < 401) by decide)]
      · generalize σ (σ (19 + b) I.2.2.1) 11 = v at a1 a2 ⊢
        have sv : sh_P v = 2 * v + 1 := by
          unfold sh_P
          rw [if_neg (by omega)]
        have wv : js_w (2 * v + 1) = 2 * v + 1 := js_w_of (by omega) (by omega)
        rw [sv, wv, if_pos (show 0 < 2 * v + 1 ∧ (2 * v + 1 - 1) / 2 < 401 by omega), if_pos (show (2 * v + 1) % 2 = 1 by omega), show (2 * v + 1 - 1) / 2 = v by omega]
        omega
    by_cases q2 : I.2.1 = 2
    · rw [if_neg q0, if_neg q1, if_pos q2] at c5 ⊢
      have wv : js_w (2 * u + 2) = 2 * u + 2 := js_w_of (by omega) (by omega)
      rw [c5.2, c5.1, wv, if_pos (show 0 < 2 * u + 2 ∧ (2 * u + 2 - 1) / 2 < 401 by omega), if_neg (show ¬ (2 * u + 2) % 2 = 1 by omega), show (2 * u + 2 - 1) / 2 = u by omega, h16]
      omega
    · rw [if_neg q0, if_neg q1, if_neg q2] at c5 ⊢
      rw [c5.2.2, c5.2.1, if_neg (show ¬ (0 < js_w 0 ∧ (js_w 0 - 1) / 2 < 401) by decide)]
      exact hK _ (hg.2 ⟨q0, q1, q2⟩)
  · rw [hO2 _ (by omega), hO _ (by omega) (by omega), c2, k3]
  · rw [hO2 _ (by omega), hO _ (by omega) (by omega), c3, k4]
  · rw [hO2 _ (by omega), hO _ (by omega) (by omega), c4, k5]
/-- every place of the funs' code lies in a fun's code -/
theorem fn_in {p : Int} : ∀ n : Nat, 0 ≤ p → p < fn_p ρ fb fr n → ∃ i : Nat, i < n ∧ ρ 86 i = 4 ∧ fn_p ρ fb fr i ≤ p ∧ p < fn_p ρ fb fr i + st_ln (fb i) + xt_ln (fr i) + 1
  | 0, h0, h => by
    have : fn_p ρ fb fr 0 = 0 := rfl
    omega
  | n + 1, h0, h => by
    by_cases q : p < fn_p ρ fb fr n
    · obtain ⟨i, h1, h2⟩ := fn_in n h0 q
      exact ⟨i, by omega, h2⟩
    · have e : fn_p ρ fb fr (n + 1) = fn_p ρ fb fr n + (if ρ 86 n = 4 then st_ln (fb n) + xt_ln (fr n) + 1 else 0) := rfl
      rw [e] at h
      by_cases q4 : ρ 86 n = 4
      · rw [if_pos q4] at h
        exact ⟨n, by omega, q4, by omega, by omega⟩
      · rw [if_neg q4] at h
        omega
/-- cells of all SYMBOLS that have any -/
theorem cl_all {σ1 : js_S} {N : Nat} (hb : b = 0 ∨ b = 25) (h : pg_R E b B Bf U fb fr r σ ρ j) (hN : (N : Int) = fn_u ρ (ρ 83 11).toNat + 1) (h400 : N ≤ 401) (hs : us_R b (po_a ρ (ρ 83 11).toNat) N σ σ1) (x : Int) (g1 : 0 ≤ x) (g2 : x < ρ 83 11) (g3 : 1 ≤ ρ 86 x ∧ ρ 86 x ≤ 7) : cl_A b σ σ1 (ac_A ρ fb fr) x := by
  have tx : ((x.toNat : Nat) : Int) = x := by omega
  unfold cl_A ac_A
  by_cases q1 : ρ 86 x ≤ 3
  · have a := h.2.2.2.1.1 x g1 g2 ⟨g3.1, q1⟩
    exact Or.inl ⟨a.2, by rw [a.1, if_pos ⟨g3.1, q1⟩]⟩
  by_cases q4 : ρ 86 x = 4
  · have a := (h.2.2.1 x g1 g2 q4).1.1
    exact Or.inl ⟨a.2.2, by rw [a.1, if_neg (by omega), if_pos q4]⟩
  have a := h.2.1 x g1 g2 ⟨by omega, g3.2⟩
  refine Or.inr ?_
  rw [if_neg (by omega), if_neg q4, a.2.1, a.2.2]
  rcases a.1 with q | ⟨q1, q2, q3⟩
  · have u1 := h.2.2.2.2.2.1.1.1
    have e := un_eq h (ρ 83 11).toNat (by omega)
    have f0 := (fn_u_0 (ρ := ρ) (ρ 83 11).toNat).1
    rw [q, u1, if_pos (by decide)]
    have k := (hs.1 (fn_u ρ (ρ 83 11).toNat) f0 (by omega)).1
    rw [k, e]
    exact ⟨⟨f0, by omega⟩, by omega⟩
  · have hf := (h.2.2.1 (ρ 93 x) q1 (by omega) q3).1.1.2.1
    have ti : (((ρ 93 x).toNat : Nat) : Int) = ρ 93 x := by omega
    have e := un_eq h (ρ 93 x).toNat (by omega)
    have f0 := (fn_u_0 (ρ := ρ) (ρ 93 x).toNat).1
    have fl := fn_u_lt (ρ := ρ) (i := (ρ 93 x).toNat) (by rw [ti]; exact q3) (ρ 83 11).toNat (by omega)
    rw [hf, if_neg (by omega)]
    have k := (hs.1 (fn_u ρ (ρ 93 x).toNat) f0 (by omega)).1
    rw [k, e]
    exact ⟨⟨f0, by omega⟩, by omega⟩
end CE
