/-! part 99.zzzzq: the reference: one ARM of a case -/
theorem ri_fr {τ τ' : js_S} {i : Int} {I : xt_I} (h : ri_P τ i I) (h1 : ∀ a : Int, 111 ≤ a → a ≤ 115 → τ' a i = τ a i) (h2 : ∀ k : Int, τ' 90 k = τ 90 k) (h3 : τ' 83 53 = τ 83 53) : ri_P τ' i I := by
  obtain ⟨a1, a2, a3, a4, a5⟩ := h
  unfold ri_P
  rw [h1 111 (by decide) (by decide), h1 112 (by decide) (by decide), h1 113 (by decide) (by decide), h1 114 (by decide) (by decide), h1 115 (by decide) (by decide), h2, h3]
  exact ⟨a1, a2, a3, a4, a5⟩
theorem ri_fx {τ τ' : js_S} {i op s lo hi x0 x : Int} (h : ri_P τ i (op, 0, x0, 0, s, lo, hi)) (h1 : ∀ a : Int, 111 ≤ a → a ≤ 115 → a ≠ 112 → τ' a i = τ a i) (h2 : τ' 112 i = x) : ri_P τ' i (op, 0, x, 0, s, lo, hi) := by
  obtain ⟨a1, a2, a3, a4, a5⟩ := h
  unfold ri_P
  rw [h1 111 (by decide) (by decide) (by decide), h1 113 (by decide) (by decide) (by decide), h1 114 (by decide) (by decide) (by decide), h1 115 (by decide) (by decide) (by decide), h2]
  exact ⟨a1, (if_pos rfl).symm, a3, a4, a5⟩
/-- the tests of an ARM from place p on; their jumps go to x -/
def ga_C (ty lo hi b c t p x : Int) (τ : js_S) : Prop := ri_P τ p (0, 0, lo, 0, 0, lo, lo) ∧ ri_P τ (p + 1) (3, 0, 0, 0, 0, 1, 0) ∧ ri_P τ (p + 2) (1, 2, t, 0, 0, b, c) ∧ ri_P τ (p + 3) (if ty = 1 then 16 else 17, 0, 0, 0, 0, 0, 1) ∧ ri_P τ (p + 4) (25, 0, x, 0, 0, 1, 0) ∧ (ty = 1 → ri_P τ (p + 5) (0, 0, hi, 0, 0, hi, hi) ∧ ri_P τ (p + 5 + 1) (3, 0, 0, 0, 0, 1, 0) ∧ ri_P τ (p + 5 + 2) (1, 2, t, 0, 0, b, c) ∧ ri_P τ (p + 5 + 3) (14, 0, 0, 0, 0, 0, 1) ∧ ri_P τ (p + 5 + 4) (25, 0, x, 0, 0, 1, 0))
theorem ga_land {ty lo hi b c t p x x0 W : Int} {τ τ' : js_S} (h : ga_C ty lo hi b c t p x0 τ) (hW : W = if ty = 1 then 10 else 5) (hO : ∀ a i : Int, 111 ≤ a → a ≤ 115 → p ≤ i → i < p + W → ¬ (a = 112 ∧ (i = p + 4 ∨ ty = 1 ∧ i = p + 9)) → τ' a i = τ a i) (h90 : ∀ k : Int, τ' 90 k = τ 90 k) (h53 : τ' 83 53 = τ 83 53) (h4 : τ' 112 (p + 4) = x) (h9 : ty = 1 → τ' 112 (p + 9) = x) : ga_C ty lo hi b c t p x τ' := by
  obtain ⟨a1, a2, a3, a4, a5, a6⟩ := h
  have w5 : 5 ≤ W := by
    rw [hW]
    split <;> omega
  refine ⟨ri_fr a1 (fun a g1 g2 => hO a p g1 g2 (by omega) (by omega) (by omega)) h90 h53, ri_fr a2 (fun a g1 g2 => hO a _ g1 g2 (by omega) (by omega) (by omega)) h90 h53, ri_fr a3 (fun a g1 g2 => hO a _ g1 g2 (by omega) (by omega) (by omega)) h90 h53, ri_fr a4 (fun a g1 g2 => hO a _ g1 g2 (by omega) (by omega) (by omega)) h90 h53, ri_fx a5 (fun a g1 g2 g3 => hO a _ g1 g2 (by omega) (by omega) (by omega)) h4, fun q => ?_⟩
  obtain ⟨b1, b2, b3, b4, b5⟩ := a6 q
  rw [if_pos q] at hW
  have h9' := h9 q
  rw [show p + 9 = p + 5 + 4 by omega] at h9'
  exact ⟨ri_fr b1 (fun a g1 g2 => hO a _ g1 g2 (by omega) (by omega) (by omega)) h90 h53, ri_fr b2 (fun a g1 g2 => hO a _ g1 g2 (by omega) (by omega) (by omega)) h90 h53, ri_fr b3 (fun a g1 g2 => hO a _ g1 g2 (by omega) (by omega) (by omega)) h90 h53, ri_fr b4 (fun a g1 g2 => hO a _ g1 g2 (by omega) (by omega) (by omega)) h90 h53, ri_fx b5 (fun a g1 g2 g3 => hO a _ g1 g2 (by omega) (by omega) (by omega)) h9'⟩
section GQ
variable {E : js_E} {f : Nat} {ρ : js_S}
/-- a test: five instructions, the last a jump that is open -/
def gte_R (t v op lo hi : Int) (ρ ρ' : js_S) : Prop := (gx_R (ρ 83 49) (ρ 83 52) ρ ρ' ∧ ρ' 83 49 = ρ 83 49 + 5 ∧ ρ' 83 54 = max (ρ 83 54) (t + 1)) ∧ (ρ' 83 49 ≤ 8192 → ri_P ρ' (ρ 83 49) (0, 0, v, 0, 0, v, v) ∧ ri_P ρ' (ρ 83 49 + 1) (3, 0, 0, 0, 0, 1, 0) ∧ ri_P ρ' (ρ 83 49 + 2) (1, 2, t, 0, 0, lo, hi) ∧ ri_P ρ' (ρ 83 49 + 3) (op, 0, 0, 0, 0, 0, 1) ∧ ri_P ρ' (ρ 83 49 + 4) (25, 0, 0, 0, 0, 1, 0))
theorem r_tst {v op e t lo hi : Int} (hf : 2 ≤ f) (hv : -2147483648 ≤ v ∧ v < 2147483648) (he : 0 ≤ e ∧ e < 66000) (hlo : ρ 105 e = lo) (hhi : ρ 106 e = hi) (hr : (-2147483648 ≤ lo ∧ lo < 2147483648) ∧ -2147483648 ≤ hi ∧ hi < 2147483648) (ht : 0 ≤ t ∧ t ≤ 1024) (h54 : 0 ≤ ρ 83 54 ∧ ρ 83 54 ≤ 1024) (h49 : 0 ≤ ρ 83 49 ∧ ρ 83 49 ≤ 100000000) : ∃ ρ5 : js_S, js_J E f 258 0 [(2, 83), (0, v), (0, op), (0, e), (0, t), (0, 0)] [] ρ = js_r E (1, 5) ρ5 ∧ gte_R t v op lo hi ρ ρ5 := by
  obtain ⟨ρ4, ρ5, er, ⟨⟨X, b4, m4⟩, P4, _⟩, h5⟩ := r_test (E := E) (f := f) (ρ := ρ) (v := v) (op := op) (e := e) (t := t) hf hv he hlo hhi hr ht h54 h49
  have b5 := h5.1
  have y := gy_gm h5
  refine ⟨ρ5, er, ⟨gx_trans X (gm_gx h5) (by omega) (Int.le_refl _), by omega, by rw [h5.2.2 _ _ (by omega) (by omega)]; exact m4⟩, fun hs => ?_⟩
  obtain ⟨p1, p2, p3, p4⟩ := P4 (by omega)
  exact ⟨ri_gy y (by omega) p1, ri_gy y (by omega) p2, ri_gy y (by omega) p3, ri_gy y (by omega) p4, ri_at (gm_ri (k := 0) (x := 0) (y := 0) h5 (by omega) (if_pos rfl).symm) (by omega)⟩
theorem gar_t0 {n t x1 x3 x4 x6 x8 lo hi b c : Int} {u10 u11 u12 u13 : js_v} (hf : 3 ≤ f) (hn : 0 ≤ n ∧ n < 66000) (h101 : ρ 101 n = 0) (h105 : ρ 105 n = lo) (hlo : -2147483648 ≤ lo ∧ lo < 2147483648) (he : 0 ≤ x3 ∧ x3 < 66000) (hb : ρ 105 x3 = b) (hc : ρ 106 x3 = c) (hr : (-2147483648 ≤ b ∧ b < 2147483648) ∧ -2147483648 ≤ c ∧ c < 2147483648) (ht : 0 ≤ t ∧ t ≤ 1024) (h54 : 0 ≤ ρ 83 54 ∧ ρ 83 54 ≤ 1024) (h49 : 0 ≤ ρ 83 49 ∧ ρ 83 49 ≤ 100000000) : ∃ ρ1 : js_S, js_J E f 257 43 [(2, 83), (0, x1), (0, t), (0, x3), (1, x4), (9, 0), (1, x6), (9, 0), (0, x8), (0, n), u10, u11, u12, u13, (9, 0)] [] ρ = js_J E f 257 142 [(2, 83), (0, x1), (0, t), (0, x3), (1, x4 + 5), (9, 0), (1, x6), (9, 0), (0, x8), (0, n), (0, 0), (0, ρ 83 49 + 4), (0, -1), u13, (9, 0)] [] ρ1 ∧ (gx_R (ρ 83 49) (ρ 83 52) ρ ρ1 ∧ ρ1 83 49 = ρ 83 49 + 5 ∧ ρ1 83 54 = max (ρ 83 54) (t + 1)) ∧ (ρ1 83 49 ≤ 8192 → ga_C 0 lo hi b c t (ρ 83 49) 0 ρ1) := by
  have w : js_w n = n := js_w_of (by omega) (by omega)
  obtain ⟨ρ1, e1, ⟨X, b1, m1⟩, P1⟩ := r_tst (E := E) (f := f - 1) (ρ := ρ) (v := lo) (op := 17) (e := x3) (t := t) (by omega) hlo he hb hc hr ht h54 h49
  have e49 : ρ1 83 49 - 1 = ρ 83 49 + 4 := by omega
  refine ⟨ρ1, ?_, ⟨X, b1, m1⟩, fun hs => ?_⟩
  · rw [b_257_43, w, if_neg (show ¬ n < 0 by omega), if_pos hn, h101, if_neg (show ¬ js_w 0 = 1 by decide), b_257_64, w, if_pos hn, if_pos (show js_w 0 = 0 from rfl), h105, b_257_88, k_257_91 (by omega) e1, b_257_94, if_pos (show js_w 0 = 0 from rfl), e49]
  · obtain ⟨p1, p2, p3, p4, p5⟩ := P1 hs
    exact ⟨p1, p2, p3, p4, p5, fun h => absurd h (by decide)⟩
theorem gar_t1 {n t x1 x3 x4 x6 x8 lo hi b c : Int} {u10 u11 u12 u13 : js_v} (hf : 3 ≤ f) (hn : 0 ≤ n ∧ n < 66000) (h101 : ρ 101 n = 1) (h105 : ρ 105 n = lo) (h106 : ρ 106 n = hi) (hlo : -2147483648 ≤ lo ∧ lo < 2147483648) (hhi : -2147483648 ≤ hi ∧ hi < 2147483648) (he : 0 ≤ x3 ∧ x3 < 66000) (hb : ρ 105 x3 = b) (hc : ρ 106 x3 = c) (hr : (-2147483648 ≤ b ∧ b < 2147483648) ∧ -2147483648 ≤ c ∧ c < 2147483648) (ht : 0 ≤ t ∧ t < 1024) (h54 : 0 ≤ ρ 83 54 ∧ ρ 83 54 ≤ 1024) (h49 : 0 ≤ ρ 83 49 ∧ ρ 83 49 + 5 ≤ 100000000) : ∃ ρ1 : js_S, js_J E f 257 43 [(2, 83), (0, x1), (0, t), (0, x3), (1, x4), (9, 0), (1, x6), (9, 0), (0, x8), (0, n), u10, u11, u12, u13, (9, 0)] [] ρ = js_J E f 257 142 [(2, 83), (0, x1), (0, t), (0, x3), (1, x4 + 10), (9, 0), (1, x6), (9, 0), (0, x8), (0, n), (0, 1), (0, ρ 83 49 + 4), (0, ρ 83 49 + 9), u13, (9, 0)] [] ρ1 ∧ (gx_R (ρ 83 49) (ρ 83 52) ρ ρ1 ∧ ρ1 83 49 = ρ 83 49 + 10 ∧ ρ1 83 54 = max (ρ 83 54) (t + 1)) ∧ (ρ1 83 49 ≤ 8192 → ga_C 1 lo hi b c t (ρ 83 49) 0 ρ1) := by
  have w : js_w n = n := js_w_of (by omega) (by omega)
  obtain ⟨ρ1, e1, ⟨X1, b1, m1⟩, P1⟩ := r_tst (E := E) (f := f - 1) (ρ := ρ) (v := lo) (op := 16) (e := x3) (t := t) (by omega) hlo he hb hc hr ⟨ht.1, by omega⟩ h54 ⟨h49.1, by omega⟩
  have q1 : ρ1 83 52 = ρ 83 52 := X1 _ _ (by omega) (by omega) (by omega)
  obtain ⟨ρ2, e2, ⟨X2, b2, m2⟩, P2⟩ := r_tst (E := E) (f := f - 1) (ρ := ρ1) (v := hi) (op := 14) (e := x3) (t := t) (by omega) hhi he (by rw [X1 _ _ (by omega) (by omega) (by omega)]; exact hb) (by rw [X1 _ _ (by omega) (by omega) (by omega)]; exact hc) hr ⟨ht.1, by omega⟩ ⟨by omega, by omega⟩ ⟨by omega, by omega⟩
  have e49 : ρ1 83 49 - 1 = ρ 83 49 + 4 := by omega
  have e49' : ρ2 83 49 - 1 = ρ 83 49 + 9 := by omega
  have e106 : ρ1 106 n = hi := by rw [X1 _ _ (by omega) (by omega) (by omega)]; exact h106
  rw [q1] at X2
  refine ⟨ρ2, ?_, ⟨gx_trans X1 X2 (by omega) (Int.le_refl _), by omega, by omega⟩, fun hs => ?_⟩
  · rw [b_257_43, w, if_neg (show ¬ n < 0 by omega), if_pos hn, h101, if_pos (show js_w 1 = 1 by decide), b_257_64, w, if_pos hn, if_neg (show ¬ js_w 1 = 0 by decide), h105, b_257_88, k_257_91 (by omega) e1, b_257_94, if_neg (show ¬ js_w 1 = 0 by decide), w, if_pos hn, e106, k_257_128 (by omega) e2, b_257_131, e49, e49', show x4 + 5 + 5 = x4 + 10 by omega]
  · obtain ⟨p1, p2, p3, p4, p5⟩ := P1 (by omega)
    obtain ⟨r1, r2, r3, r4, r5⟩ := P2 hs
    rw [b1] at r1 r2 r3 r4 r5
    have y : gy_R (ρ1 83 49) ρ1 ρ2 := gy_gx X2
    exact ⟨ri_gy y (by omega) p1, ri_gy y (by omega) p2, ri_gy y (by omega) p3, ri_gy y (by omega) p4, ri_gy y (by omega) p5, fun _ => ⟨r1, r2, r3, r4, r5⟩⟩
/-- the jumps of an ARM's tests land -/
theorem gar_l {n t x1 x3 x4 x6 x8 x13 ty p x12 : Int} (hf : 2 ≤ f) (hn : 0 ≤ n ∧ n < 66000) (hty : ty = 0 ∨ ty = 1) (hp : 0 ≤ p ∧ p ≤ 100000000) (hx : x12 = if ty = 1 then p + 9 else -1) : ∃ ρ' : js_S, js_J E f 257 186 [(2, 83), (0, x1), (0, t), (0, x3), (1, x4), (9, 0), (1, x6), (9, 0), (0, x8), (0, n), (0, ty), (0, p + 4), (0, x12), (1, x13), (9, 0)] [(0, p + 4), (2, 83)] ρ = js_J E f 257 43 [(2, 83), (0, x1), (0, t), (0, x3), (1, x4), (9, 0), (1, x6), (9, 0), (0, x8), (0, ρ 107 n), (0, ty), (0, p + 4), (0, x12), (1, x13), (9, 0)] [] ρ' ∧ (∀ a i : Int, ¬ (a = 112 ∧ (i = p + 4 ∨ ty = 1 ∧ i = p + 9)) → ρ' a i = ρ a i) ∧ (p + 4 < 8192 → ρ' 112 (p + 4) = ρ 83 49) ∧ (ty = 1 → p + 9 < 8192 → ρ' 112 (p + 9) = ρ 83 49) := by
  have w : js_w n = n := js_w_of (by omega) (by omega)
  obtain ⟨ρ1, e1, l1, f1⟩ := r_land (E := E) (f := f - 1) (ρ := ρ) (i := p + 4) ⟨by omega, by omega⟩
  have h107 : ρ1 107 n = ρ 107 n := f1 _ _ (by omega)
  rcases hty with h | h
  · subst h
    rw [if_neg (by decide)] at hx
    subst hx
    refine ⟨ρ1, ?_, fun a i g => f1 a i (by omega), l1, fun h => absurd h (by decide)⟩
    rw [k_257_186 (by omega) e1, b_257_189, if_pos (show js_w (-1) < 0 by decide), b_257_200, w, if_pos hn, h107]
  · subst h
    rw [if_pos rfl] at hx
    subst hx
    obtain ⟨ρ2, e2, l2, f2⟩ := r_land (E := E) (f := f - 1) (ρ := ρ1) (i := p + 9) ⟨by omega, by omega⟩
    have w9 : js_w (p + 9) = p + 9 := js_w_of (by omega) (by omega)
    have e49 : ρ1 83 49 = ρ 83 49 := f1 _ _ (by omega)
    rw [e49] at l2
    refine ⟨ρ2, ?_, fun a i g => by rw [f2 a i (by omega), f1 a i (by omega)], fun h => by rw [f2 _ _ (by omega)]; exact l1 h, fun _ => l2⟩
    rw [k_257_186 (by omega) e1, b_257_189, w9, if_neg (show ¬ p + 9 < 0 by omega), k_257_197 (by omega) e2, b_257_200, w, if_pos hn, f2 _ _ (by omega), h107]
end GQ
