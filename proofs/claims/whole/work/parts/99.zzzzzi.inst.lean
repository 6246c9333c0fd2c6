/-! part 99.zzzzzi: one INSTRUCTION, done by both: what is known of it (printed by gen99zzzzzi) -/
theorem js_l_mod (x : Int) : js_l x = (x + 9223372036854775808) % 18446744073709551616 - 9223372036854775808 := by
  unfold js_l
  rw [Int64.toInt_ofInt]
  show Int.bmod x 18446744073709551616 = _
  rw [Int.bmod_def]
  split <;> omega
theorem js_l_iff {x y : Int} : js_l x = js_l y ↔ x % 18446744073709551616 = y % 18446744073709551616 := by
  rw [js_l_mod, js_l_mod]
  omega
theorem lq_add {x y x' y' : Int} (h1 : js_l x = js_l x') (h2 : js_l y = js_l y') : js_l (x + y) = js_l (x' + y') := by
  rw [js_l_iff] at *
  omega
theorem lq_sub {x y x' y' : Int} (h1 : js_l x = js_l x') (h2 : js_l y = js_l y') : js_l (x - y) = js_l (x' - y') := by
  rw [js_l_iff] at *
  omega
theorem lq_neg {x x' : Int} (h1 : js_l x = js_l x') : js_l (-x) = js_l (-x') := by
  rw [js_l_iff] at *
  omega
theorem lq_mul {x y x' y' : Int} (h1 : js_l x = js_l x') (h2 : js_l y = js_l y') : js_l (x * y) = js_l (x' * y') := by
  rw [js_l_iff] at *
  rw [Int.mul_emod, h1, h2, ← Int.mul_emod]
/-- an address: only the long's number counts -/
theorem js_w_l {y v k : Int} (h : js_l v = k) (h1 : -2147483648 ≤ y + k) (h2 : y + k < 2147483648) : js_w (y + v) = y + k := by
  rw [js_l_mod] at h
  rw [js_w_mod]
  omega
theorem js_w_l0 {v k : Int} (h : js_l v = k) (h1 : -2147483648 ≤ k) (h2 : k < 2147483648) : js_w v = k := by
  rw [js_l_mod] at h
  rw [js_w_mod]
  omega
/-- the stack of a copy: at place pc of a unit of level l, with n places to come back to; Fu of the funs (from, to, level), the cycle from ac to zc -/
def ms_P (Fu : Int → Int → Int → Prop) (ac zc : Int) (bk : Int → Int) : Nat → Int → Int → Prop
  | 0, pc, l => l = 17 ∧ ac ≤ pc ∧ pc < zc
  | n + 1, pc, l => (∃ a z : Int, Fu a z l ∧ a ≤ pc ∧ pc < z) ∧ 1 ≤ l ∧ ∃ l2 : Int, l < l2 ∧ ms_P Fu ac zc bk n (bk n) l2
/-- the INSTRUCTION at p of a unit from a to z of level l is as it should be; N CELLs -/
def wm_P (Fu : Int → Int → Int → Prop) (N : Int) (ρ : js_S) (a z l p : Int) : Prop := (ρ 111 p = 0 ∨ ρ 111 p = 3 ∨ 6 ≤ ρ 111 p ∧ ρ 111 p ≤ 23 ∨ ρ 111 p = 30) ∧ p + 1 < z ∨ (24 ≤ ρ 111 p ∧ ρ 111 p ≤ 26) ∧ p + 1 < z ∧ a ≤ ρ 112 p ∧ ρ 112 p < z ∨ (ρ 111 p = 1 ∨ ρ 111 p = 2) ∧ p + 1 < z ∧ 0 ≤ ρ 112 p ∧ ρ 112 p < N ∨ (ρ 111 p = 4 ∨ ρ 111 p = 5) ∧ p + 1 < z ∧ 0 ≤ ρ 112 p ∧ 0 ≤ ρ 113 p ∧ ρ 112 p + ρ 113 p ≤ N ∨ ρ 111 p = 27 ∧ p + 1 < z ∧ (∃ z' l' : Int, Fu (ρ 112 p) z' l' ∧ ρ 112 p < z' ∧ 1 ≤ l' ∧ l' < l) ∨ ρ 111 p = 28 ∧ l ≤ 16 ∨ ρ 111 p = 29 ∧ l = 17
/-- all INSTRUCTIONS are as they should be -/
def wc_P (Fu : Int → Int → Int → Prop) (ac zc N : Int) (ρ : js_S) : Prop := (∀ a z l : Int, Fu a z l → ∀ p : Int, a ≤ p → p < z → (0 ≤ p ∧ p < ρ 83 49) ∧ wm_P Fu N ρ a z l p) ∧ ∀ p : Int, ac ≤ p → p < zc → (0 ≤ p ∧ p < ρ 83 49) ∧ wm_P Fu N ρ ac zc 17 p
section MS
variable {Fu : Int → Int → Int → Prop} {ac zc : Int} {bk bk' : Int → Int}
theorem ms_lv : ∀ (n : Nat) (p l : Int), ms_P Fu ac zc bk n p l → 1 ≤ l ∧ l + n ≤ 17 ∧ (n = 0 → l = 17)
  | 0, p, l, h => by
    have := h.1
    exact ⟨by omega, by omega, fun _ => this⟩
  | n + 1, p, l, h => by
    obtain ⟨_, h1, l2, h2, h3⟩ := h
    have := ms_lv n _ l2 h3
    exact ⟨h1, by push_cast; omega, fun hh => by omega⟩
theorem ms_bk : ∀ (n : Nat) (p l : Int), (∀ k : Int, 0 ≤ k → k < n → bk' k = bk k) → ms_P Fu ac zc bk n p l → ms_P Fu ac zc bk' n p l
  | 0, p, l, _, h => h
  | n + 1, p, l, hk, h => by
    obtain ⟨h0, h1, l2, h2, h3⟩ := h
    refine ⟨h0, h1, l2, h2, ?_⟩
    rw [hk n (by omega) (by push_cast; omega)]
    exact ms_bk n _ l2 (fun k k1 k2 => hk k k1 (by push_cast; omega)) h3
/-- the unit that runs -/
theorem ms_un {N : Int} {ρ : js_S} (hw : wc_P Fu ac zc N ρ) : ∀ (n : Nat) (p l : Int), ms_P Fu ac zc bk n p l → ∃ a z : Int, (a ≤ p ∧ p < z) ∧ ((0 ≤ p ∧ p < ρ 83 49) ∧ wm_P Fu N ρ a z l p) ∧ ∀ q : Int, a ≤ q → q < z → ms_P Fu ac zc bk n q l
  | 0, p, l, h => by
    obtain ⟨hl, h1, h2⟩ := h
    subst hl
    exact ⟨ac, zc, ⟨h1, h2⟩, hw.2 p h1 h2, fun q q1 q2 => ⟨rfl, q1, q2⟩⟩
  | n + 1, p, l, h => by
    obtain ⟨⟨a, z, hf, h1, h2⟩, h3⟩ := h
    exact ⟨a, z, ⟨h1, h2⟩, hw.1 a z l hf p h1 h2, fun q q1 q2 => ⟨⟨a, z, hf, q1, q2⟩, h3⟩⟩
end MS
/-- A, B and the CELLs of a copy hold the same -/
def cq_R (N x0 c : Int) (σ ρ : js_S) : Prop := js_l (σ x0 0) = js_l (ρ 121 c) ∧ js_l (σ x0 1) = js_l (ρ 122 c) ∧ ∀ k : Int, 0 ≤ k → k < N → js_l (σ (x0 + 2) k) = js_l (ρ 120 (4096 * c + k))
/-- the copy stands at p in both -/
def md_R (Fu : Int → Int → Int → Prop) (ac zc x0 c p : Int) (σ ρ : js_S) : Prop := σ x0 2 = p ∧ σ x0 3 = ρ 124 c ∧ (∀ k : Int, 0 ≤ k → k < ρ 124 c → σ (x0 + 1) k = ρ 123 (32 * c + k)) ∧ ∃ (n : Nat) (l : Int), ρ 124 c = n ∧ ms_P Fu ac zc (fun k => ρ 123 (32 * c + k)) n p l
def yc_F (x0 : Int) (σ σ' : js_S) : Prop := ∀ a i : Int, ¬ (a = x0 ∧ 0 ≤ i ∧ i ≤ 3) → a ≠ x0 + 1 → a ≠ x0 + 2 → σ' a i = σ a i
def yr_F (N c : Int) (ρ ρ' : js_S) : Prop := ∀ a i : Int, ¬ (a = 83 ∧ i = 78) → ¬ ((a = 121 ∨ a = 122 ∨ a = 124) ∧ i = c) → ¬ (a = 120 ∧ 4096 * c ≤ i ∧ i < 4096 * c + N) → ¬ (a = 123 ∧ 32 * c ≤ i ∧ i < 32 * c + 16) → ρ' a i = ρ a i
noncomputable def yc_J (E : js_E) (d : Nat) (b x0 p f op : Int) (σ : js_S) := js_J E d 147 39 [(2, x0), (2, 8 + b), (0, p), (0, f), (0, op)] [(0, op)] σ
noncomputable def yr_J (E : js_E) (e : Nat) (c op f s X : Int) (ρ : js_S) := js_J E e 270 41 [(2, 83), (0, c), (0, op), (0, f), (0, s), (1, ρ 121 c), (9, 0), (1, ρ 122 c), (9, 0), (0, 4096 * c), (1, X), (9, 0), (9, 0)] [(0, op)] ρ
/-- the INSTRUCTION is done by both -/
def yi_R (E : js_E) (d e : Nat) (Fu : Int → Int → Int → Prop) (ac zc N b x0 c p op f s X : Int) (σ ρ : js_S) : Prop := ∃ (σ' ρ' : js_S) (v w : Int), yc_J E d b x0 p f op σ = js_r E (0, v) σ' ∧ yr_J E e c op f s X ρ = js_r E (0, w) ρ' ∧ yc_F x0 σ σ' ∧ yr_F N c ρ ρ' ∧ cq_R N x0 c σ' ρ' ∧ (v = 2 ∧ w = 0 ∨ v = 1 ∧ w = 1 ∧ op = 29 ∨ v = 0 ∧ w = 1 ∧ op ≠ 29 ∧ md_R Fu ac zc x0 c (ρ' 83 78) σ' ρ')
section YI
variable {E : js_E} {d e : Nat} {Fu : Int → Int → Int → Prop} {ac zc N b x0 o c p op f s X va vb : Int} {σ ρ σ' ρ' : js_S}
/-- it traps -/
theorem yi_T (hq : cq_R N x0 c σ ρ) (e1 : yc_J E d b x0 p f op σ = js_r E (0, 2) σ) (e2 : yr_J E e c op f s X ρ = js_r E (0, 0) ρ) : yi_R E d e Fu ac zc N b x0 c p op f s X σ ρ := ⟨σ, ρ, 2, 0, e1, e2, fun _ _ _ _ _ => rfl, fun _ _ _ _ _ _ => rfl, hq, Or.inl ⟨rfl, rfl⟩⟩
/-- nothing changes -/
theorem yi_0 (hq : cq_R N x0 c σ ρ) (h78 : ρ 83 78 = p + 1) (hm : md_R Fu ac zc x0 c (p + 1) σ ρ) (hop : op ≠ 29) (e1 : yc_J E d b x0 p f op σ = js_r E (0, 0) σ) (e2 : yr_J E e c op f s X ρ = js_r E (0, 1) ρ) : yi_R E d e Fu ac zc N b x0 c p op f s X σ ρ := ⟨σ, ρ, 0, 1, e1, e2, fun _ _ _ _ _ => rfl, fun _ _ _ _ _ _ => rfl, hq, Or.inr (Or.inr ⟨rfl, rfl, hop, by rw [h78]; exact hm⟩)⟩
/-- A is set -/
theorem yi_A (hx : 59 ≤ x0) (hq : cq_R N x0 c σ ρ) (h78 : ρ 83 78 = p + 1) (hm : md_R Fu ac zc x0 c (p + 1) σ ρ) (hop : op ≠ 29) (e1 : yc_J E d b x0 p f op σ = js_r E (0, 0) (js_up σ x0 0 va)) (e2 : yr_J E e c op f s X ρ = js_r E (0, 1) (js_up ρ 121 c vb)) (hv : js_l va = js_l vb) : yi_R E d e Fu ac zc N b x0 c p op f s X σ ρ := by
  refine ⟨_, _, 0, 1, e1, e2, fun a i g1 g2 g3 => js_up_ne _ (by omega), fun a i g1 g2 g3 g4 => js_up_ne _ (by omega), ⟨?_, ?_, fun k k1 k2 => ?_⟩, Or.inr (Or.inr ⟨rfl, rfl, hop, ?_⟩)⟩
  · rw [js_up_same, js_up_same]
    exact hv
  · rw [js_up_ni _ (by decide), js_up_na _ (by decide)]
    exact hq.2.1
  · rw [js_up_na _ (by omega), js_up_na _ (by decide)]
    exact hq.2.2 k k1 k2
  · obtain ⟨m1, m2, m3, n, l, m4, m5⟩ := hm
    rw [js_up_na _ (by decide), h78]
    refine ⟨by rw [js_up_ni _ (by decide)]; exact m1, by rw [js_up_ni _ (by decide), js_up_na _ (by decide)]; exact m2, fun k k1 k2 => ?_, n, l, by rw [js_up_na _ (by decide)]; exact m4, ?_⟩
    · rw [js_up_na _ (by decide)] at k2
      rw [js_up_na _ (by omega), js_up_na _ (by decide)]
      exact m3 k k1 k2
    · exact ms_bk n _ _ (fun k _ _ => js_up_na _ (by decide)) m5
/-- B is set -/
theorem yi_B (hx : 59 ≤ x0) (hq : cq_R N x0 c σ ρ) (h78 : ρ 83 78 = p + 1) (hm : md_R Fu ac zc x0 c (p + 1) σ ρ) (hop : op ≠ 29) (e1 : yc_J E d b x0 p f op σ = js_r E (0, 0) (js_up σ x0 1 va)) (e2 : yr_J E e c op f s X ρ = js_r E (0, 1) (js_up ρ 122 c vb)) (hv : js_l va = js_l vb) : yi_R E d e Fu ac zc N b x0 c p op f s X σ ρ := by
  refine ⟨_, _, 0, 1, e1, e2, fun a i g1 g2 g3 => js_up_ne _ (by omega), fun a i g1 g2 g3 g4 => js_up_ne _ (by omega), ⟨?_, ?_, fun k k1 k2 => ?_⟩, Or.inr (Or.inr ⟨rfl, rfl, hop, ?_⟩)⟩
  · rw [js_up_ni _ (by decide), js_up_na _ (by decide)]
    exact hq.1
  · rw [js_up_same, js_up_same]
    exact hv
  · rw [js_up_na _ (by omega), js_up_na _ (by decide)]
    exact hq.2.2 k k1 k2
  · obtain ⟨m1, m2, m3, n, l, m4, m5⟩ := hm
    rw [js_up_na _ (by decide), h78]
    refine ⟨by rw [js_up_ni _ (by decide)]; exact m1, by rw [js_up_ni _ (by decide), js_up_na _ (by decide)]; exact m2, fun k k1 k2 => ?_, n, l, by rw [js_up_na _ (by decide)]; exact m4, ?_⟩
    · rw [js_up_na _ (by decide)] at k2
      rw [js_up_na _ (by omega), js_up_na _ (by decide)]
      exact m3 k k1 k2
    · exact ms_bk n _ _ (fun k _ _ => js_up_na _ (by decide)) m5
/-- a CELL is set -/
theorem yi_C {k : Int} (hx : 59 ≤ x0) (hc : c = 0 ∨ c = 1) (hk : 0 ≤ k ∧ k < N) (hq : cq_R N x0 c σ ρ) (h78 : ρ 83 78 = p + 1) (hm : md_R Fu ac zc x0 c (p + 1) σ ρ) (hop : op ≠ 29) (e1 : yc_J E d b x0 p f op σ = js_r E (0, 0) (js_up σ (x0 + 2) k va)) (e2 : yr_J E e c op f s X ρ = js_r E (0, 1) (js_up ρ 120 (4096 * c + k) vb)) (hv : js_l va = js_l vb) : yi_R E d e Fu ac zc N b x0 c p op f s X σ ρ := by
  refine ⟨_, _, 0, 1, e1, e2, fun a i g1 g2 g3 => js_up_na _ g3, fun a i g1 g2 g3 g4 => js_up_ne _ (by omega), ⟨?_, ?_, fun j k1 k2 => ?_⟩, Or.inr (Or.inr ⟨rfl, rfl, hop, ?_⟩)⟩
  · rw [js_up_na _ (by omega), js_up_na _ (by decide)]
    exact hq.1
  · rw [js_up_na _ (by omega), js_up_na _ (by decide)]
    exact hq.2.1
  · by_cases q : j = k
    · rw [q, js_up_same, js_up_same]
      exact hv
    · rw [js_up_ni _ q, js_up_ni _ (by omega)]
      exact hq.2.2 j k1 k2
  · obtain ⟨m1, m2, m3, n, l, m4, m5⟩ := hm
    rw [js_up_na _ (by decide), h78]
    refine ⟨by rw [js_up_na _ (by omega)]; exact m1, by rw [js_up_na _ (by omega), js_up_na _ (by decide)]; exact m2, fun k k1 k2 => ?_, n, l, by rw [js_up_na _ (by decide)]; exact m4, ?_⟩
    · rw [js_up_na _ (by decide)] at k2
      rw [js_up_na _ (by omega), js_up_na _ (by decide)]
      exact m3 k k1 k2
    · exact ms_bk n _ _ (fun k _ _ => js_up_na _ (by decide)) m5
/-- it jumps -/
theorem yi_J {q : Int} (hx : 59 ≤ x0) (hq : cq_R N x0 c σ ρ) (hm : md_R Fu ac zc x0 c (p + 1) σ ρ) (hj : ∃ (n : Nat) (l : Int), ρ 124 c = n ∧ ms_P Fu ac zc (fun k => ρ 123 (32 * c + k)) n q l) (hop : op ≠ 29) (e1 : yc_J E d b x0 p f op σ = js_r E (0, 0) (js_up σ x0 2 q)) (e2 : yr_J E e c op f s X ρ = js_r E (0, 1) (js_up ρ 83 78 q)) : yi_R E d e Fu ac zc N b x0 c p op f s X σ ρ := by
  refine ⟨_, _, 0, 1, e1, e2, fun a i g1 g2 g3 => js_up_ne _ (by omega), fun a i g1 g2 g3 g4 => js_up_ne _ (by omega), ⟨?_, ?_, fun k k1 k2 => ?_⟩, Or.inr (Or.inr ⟨rfl, rfl, hop, ?_⟩)⟩
  · rw [js_up_ni _ (by decide), js_up_na _ (by decide)]
    exact hq.1
  · rw [js_up_ni _ (by decide), js_up_na _ (by decide)]
    exact hq.2.1
  · rw [js_up_na _ (by omega), js_up_na _ (by decide)]
    exact hq.2.2 k k1 k2
  · obtain ⟨m1, m2, m3, _⟩ := hm
    obtain ⟨n, l, m4, m5⟩ := hj
    rw [js_up_same]
    refine ⟨js_up_same _ _ _ _, by rw [js_up_ni _ (by decide), js_up_na _ (by decide)]; exact m2, fun k k1 k2 => ?_, n, l, by rw [js_up_na _ (by decide)]; exact m4, ?_⟩
    · rw [js_up_na _ (by decide)] at k2
      rw [js_up_na _ (by omega), js_up_na _ (by decide)]
      exact m3 k k1 k2
    · exact ms_bk n _ _ (fun k _ _ => js_up_na _ (by decide)) m5
theorem c_wk6 {v : Int} {σ2 : js_S} (hC : js_isC E.1 x0 o) (hd : 1 ≤ d) (h : js_J E (d - 1) 155 0 [(2, x0), (0, 6)] [] σ = js_r E (0, v) σ2) : yc_J E d b x0 p f 6 σ = js_r E (0, v) σ2 := by
  unfold yc_J
  rw [s_147_39_6 (show js_w 6 = 6 by decide), b_147_257, if_pos (show js_w 6 < 24 by decide), k_147_277 hC hd h, b_147_280]
theorem c_wk7 {v : Int} {σ2 : js_S} (hC : js_isC E.1 x0 o) (hd : 1 ≤ d) (h : js_J E (d - 1) 155 0 [(2, x0), (0, 7)] [] σ = js_r E (0, v) σ2) : yc_J E d b x0 p f 7 σ = js_r E (0, v) σ2 := by
  unfold yc_J
  rw [s_147_39_7 (show js_w 7 = 7 by decide), b_147_257, if_pos (show js_w 7 < 24 by decide), k_147_277 hC hd h, b_147_280]
theorem c_wk8 {v : Int} {σ2 : js_S} (hC : js_isC E.1 x0 o) (hd : 1 ≤ d) (h : js_J E (d - 1) 155 0 [(2, x0), (0, 8)] [] σ = js_r E (0, v) σ2) : yc_J E d b x0 p f 8 σ = js_r E (0, v) σ2 := by
  unfold yc_J
  rw [s_147_39_8 (show js_w 8 = 8 by decide), b_147_257, if_pos (show js_w 8 < 24 by decide), k_147_277 hC hd h, b_147_280]
theorem c_wk9 {v : Int} {σ2 : js_S} (hC : js_isC E.1 x0 o) (hd : 1 ≤ d) (h : js_J E (d - 1) 155 0 [(2, x0), (0, 9)] [] σ = js_r E (0, v) σ2) : yc_J E d b x0 p f 9 σ = js_r E (0, v) σ2 := by
  unfold yc_J
  rw [s_147_39_9 (show js_w 9 = 9 by decide), b_147_257, if_pos (show js_w 9 < 24 by decide), k_147_277 hC hd h, b_147_280]
theorem c_wk10 {v : Int} {σ2 : js_S} (hC : js_isC E.1 x0 o) (hd : 1 ≤ d) (h : js_J E (d - 1) 155 0 [(2, x0), (0, 10)] [] σ = js_r E (0, v) σ2) : yc_J E d b x0 p f 10 σ = js_r E (0, v) σ2 := by
  unfold yc_J
  rw [s_147_39_10 (show js_w 10 = 10 by decide), b_147_257, if_pos (show js_w 10 < 24 by decide), k_147_277 hC hd h, b_147_280]
theorem c_wk11 {v : Int} {σ2 : js_S} (hC : js_isC E.1 x0 o) (hd : 1 ≤ d) (h : js_J E (d - 1) 155 0 [(2, x0), (0, 11)] [] σ = js_r E (0, v) σ2) : yc_J E d b x0 p f 11 σ = js_r E (0, v) σ2 := by
  unfold yc_J
  rw [s_147_39_11 (show js_w 11 = 11 by decide), b_147_257, if_pos (show js_w 11 < 24 by decide), k_147_277 hC hd h, b_147_280]
theorem c_wk12 {v : Int} {σ2 : js_S} (hC : js_isC E.1 x0 o) (hd : 1 ≤ d) (h : js_J E (d - 1) 155 0 [(2, x0), (0, 12)] [] σ = js_r E (0, v) σ2) : yc_J E d b x0 p f 12 σ = js_r E (0, v) σ2 := by
  unfold yc_J
  rw [s_147_39_12 (show js_w 12 = 12 by decide), b_147_257, if_pos (show js_w 12 < 24 by decide), k_147_277 hC hd h, b_147_280]
theorem c_wk13 {v : Int} {σ2 : js_S} (hC : js_isC E.1 x0 o) (hd : 1 ≤ d) (h : js_J E (d - 1) 155 0 [(2, x0), (0, 13)] [] σ = js_r E (0, v) σ2) : yc_J E d b x0 p f 13 σ = js_r E (0, v) σ2 := by
  unfold yc_J
  rw [s_147_39_13 (show js_w 13 = 13 by decide), b_147_257, if_pos (show js_w 13 < 24 by decide), k_147_277 hC hd h, b_147_280]
theorem c_wk14 {v : Int} {σ2 : js_S} (hC : js_isC E.1 x0 o) (hd : 1 ≤ d) (h : js_J E (d - 1) 155 0 [(2, x0), (0, 14)] [] σ = js_r E (0, v) σ2) : yc_J E d b x0 p f 14 σ = js_r E (0, v) σ2 := by
  unfold yc_J
  rw [s_147_39_14 (show js_w 14 = 14 by decide), b_147_257, if_pos (show js_w 14 < 24 by decide), k_147_277 hC hd h, b_147_280]
theorem c_wk15 {v : Int} {σ2 : js_S} (hC : js_isC E.1 x0 o) (hd : 1 ≤ d) (h : js_J E (d - 1) 155 0 [(2, x0), (0, 15)] [] σ = js_r E (0, v) σ2) : yc_J E d b x0 p f 15 σ = js_r E (0, v) σ2 := by
  unfold yc_J
  rw [s_147_39_15 (show js_w 15 = 15 by decide), b_147_257, if_pos (show js_w 15 < 24 by decide), k_147_277 hC hd h, b_147_280]
theorem c_wk16 {v : Int} {σ2 : js_S} (hC : js_isC E.1 x0 o) (hd : 1 ≤ d) (h : js_J E (d - 1) 155 0 [(2, x0), (0, 16)] [] σ = js_r E (0, v) σ2) : yc_J E d b x0 p f 16 σ = js_r E (0, v) σ2 := by
  unfold yc_J
  rw [s_147_39_16 (show js_w 16 = 16 by decide), b_147_257, if_pos (show js_w 16 < 24 by decide), k_147_277 hC hd h, b_147_280]
theorem c_wk17 {v : Int} {σ2 : js_S} (hC : js_isC E.1 x0 o) (hd : 1 ≤ d) (h : js_J E (d - 1) 155 0 [(2, x0), (0, 17)] [] σ = js_r E (0, v) σ2) : yc_J E d b x0 p f 17 σ = js_r E (0, v) σ2 := by
  unfold yc_J
  rw [s_147_39_17 (show js_w 17 = 17 by decide), b_147_257, if_pos (show js_w 17 < 24 by decide), k_147_277 hC hd h, b_147_280]
theorem c_wk18 {v : Int} {σ2 : js_S} (hC : js_isC E.1 x0 o) (hd : 1 ≤ d) (h : js_J E (d - 1) 155 0 [(2, x0), (0, 18)] [] σ = js_r E (0, v) σ2) : yc_J E d b x0 p f 18 σ = js_r E (0, v) σ2 := by
  unfold yc_J
  rw [s_147_39_18 (show js_w 18 = 18 by decide), b_147_257, if_pos (show js_w 18 < 24 by decide), k_147_277 hC hd h, b_147_280]
theorem c_wk19 {v : Int} {σ2 : js_S} (hC : js_isC E.1 x0 o) (hd : 1 ≤ d) (h : js_J E (d - 1) 155 0 [(2, x0), (0, 19)] [] σ = js_r E (0, v) σ2) : yc_J E d b x0 p f 19 σ = js_r E (0, v) σ2 := by
  unfold yc_J
  rw [s_147_39_19 (show js_w 19 = 19 by decide), b_147_257, if_pos (show js_w 19 < 24 by decide), k_147_277 hC hd h, b_147_280]
theorem c_wk20 {v : Int} {σ2 : js_S} (hC : js_isC E.1 x0 o) (hd : 1 ≤ d) (h : js_J E (d - 1) 155 0 [(2, x0), (0, 20)] [] σ = js_r E (0, v) σ2) : yc_J E d b x0 p f 20 σ = js_r E (0, v) σ2 := by
  unfold yc_J
  rw [s_147_39_20 (show js_w 20 = 20 by decide), b_147_257, if_pos (show js_w 20 < 24 by decide), k_147_277 hC hd h, b_147_280]
theorem c_wk21 {v : Int} {σ2 : js_S} (hC : js_isC E.1 x0 o) (hd : 1 ≤ d) (h : js_J E (d - 1) 155 0 [(2, x0), (0, 21)] [] σ = js_r E (0, v) σ2) : yc_J E d b x0 p f 21 σ = js_r E (0, v) σ2 := by
  unfold yc_J
  rw [s_147_39_21 (show js_w 21 = 21 by decide), b_147_257, if_pos (show js_w 21 < 24 by decide), k_147_277 hC hd h, b_147_280]
theorem r_truth {z : Int} (hc : c = 0 ∨ c = 1) (hz : z = 0 ∨ z = 1) : js_J E e 272 0 [(2, 83), (0, c), (0, z)] [] ρ = js_r E (1, if z = 0 then 0 else (if c = 0 then 1 else 58659)) ρ := by
  rw [b_272_0]
  rcases hz with q | q
  · rw [q, if_pos (show js_w 0 = 0 from rfl), if_pos rfl]
  · rw [q, if_neg (show ¬ js_w 1 = 0 by decide), if_neg (show ¬ (1 : Int) = 0 by decide)]
    rcases hc with r | r
    · rw [r, if_pos (show js_w 0 = 0 from rfl), if_pos rfl]
    · rw [r, if_neg (show ¬ js_w 1 = 0 by decide), if_neg (show ¬ (1 : Int) = 0 by decide)]
theorem c_truth {z : Int} (hC : js_isC E.1 x0 o) (hd : 1 ≤ d) (hz : z = 0 ∨ z = 1) (h : js_J E (d - 1) 158 0 [(2, x0), (0, op)] [] σ = js_r E (0, z) σ) : js_J E d 155 199 [(2, x0), (0, op)] [] σ = js_r E (0, 0) (js_up σ x0 0 (if z = 0 then 0 else o)) := by
  rw [b_155_199, k_155_202 hC hd h, b_155_205 hC]
  rcases hz with q | q
  · rw [q, if_pos (show js_w 0 = 0 from rfl), b_155_216 hC, if_pos rfl]
  · rw [q, if_neg (show ¬ js_w 1 = 0 by decide), b_155_216 hC, if_neg (show ¬ (1 : Int) = 0 by decide)]
theorem hc_o (hc : c = 0 ∧ o = 1 ∨ c = 1 ∧ o = 58659) : (c = 0 ∨ c = 1) ∧ js_w c = c ∧ (0 ≤ c ∧ c < 2) ∧ (if c = 0 then 1 else 58659) = o ∧ js_l o = o ∧ o ≠ 0 := by
  rcases hc with q | q
  · rw [q.1, q.2]
    exact ⟨Or.inl rfl, by decide, by decide, rfl, by decide, by decide⟩
  · rw [q.1, q.2]
    exact ⟨Or.inr rfl, by decide, by decide, rfl, by decide, by decide⟩
theorem yi_13 (hx : 59 ≤ x0 ∧ x0 ≤ 76) (hC : js_isC E.1 x0 o) (hc : c = 0 ∧ o = 1 ∨ c = 1 ∧ o = 58659) (hd : 10 ≤ d) (he : 10 ≤ e) (hq : cq_R N x0 c σ ρ) (h78 : ρ 83 78 = p + 1) (hm : md_R Fu ac zc x0 c (p + 1) σ ρ) : yi_R E d e Fu ac zc N b x0 c p 13 f s X σ ρ := by
  obtain ⟨hc1, wc, c2, ho, _, _⟩ := hc_o hc
  have qa := hq.1
  have qb := hq.2.1
  have go : ∀ z : Int, (z = 0 ∨ z = 1) → js_J E (d - 1 - 1) 158 0 [(2, x0), (0, 13)] [] σ = js_r E (0, z) σ → js_J E e 270 483 [(2, 83), (0, c), (0, 13), (0, f), (0, s), (1, ρ 121 c), (9, 0), (1, ρ 122 c), (9, 0), (0, 4096 * c), (1, X), (9, 0), (9, 0)] [] ρ = js_J E e 270 503 [(2, 83), (0, c), (0, 13), (0, f), (0, s), (1, ρ 121 c), (9, 0), (1, ρ 122 c), (9, 0), (0, 4096 * c), (1, X), (9, 0), (9, 0)] [(0, z), (0, c), (2, 83), (0, c), (2, 121)] ρ → yi_R E d e Fu ac zc N b x0 c p 13 f s X σ ρ := fun z hz h1 h2 => by
    have e1 : yc_J E d b x0 p f 13 σ = js_r E (0, 0) (js_up σ x0 0 (if z = 0 then 0 else o)) := c_wk13 hC (by omega) (by rw [b_155_0, s_155_1_13 (show js_w 13 = 13 by decide), c_truth hC (by omega) hz h1])
    have e2 : yr_J E e c 13 f s X ρ = js_r E (0, 1) (js_up ρ 121 c (if z = 0 then 0 else o)) := by
      unfold yr_J
      rw [s_270_41_13 (show js_w 13 = 13 by decide), h2, k_270_503 (by omega) (r_truth hc1 hz), b_270_506, wc, if_pos c2, b_270_891, ho]
    exact yi_A hx.1 hq h78 hm (by decide) e1 e2 rfl
  by_cases t : js_l (ρ 121 c) < js_l (ρ 122 c)
  · exact go 1 (by decide) (by rw [b_158_0, s_158_1_13 (show js_w 13 = 13 by decide), b_158_40 hC, qa, qb, if_pos t]) (by rw [b_270_483, if_pos t])
  · exact go 0 (by decide) (by rw [b_158_0, s_158_1_13 (show js_w 13 = 13 by decide), b_158_40 hC, qa, qb, if_neg t]) (by rw [b_270_483, if_neg t])
theorem yi_14 (hx : 59 ≤ x0 ∧ x0 ≤ 76) (hC : js_isC E.1 x0 o) (hc : c = 0 ∧ o = 1 ∨ c = 1 ∧ o = 58659) (hd : 10 ≤ d) (he : 10 ≤ e) (hq : cq_R N x0 c σ ρ) (h78 : ρ 83 78 = p + 1) (hm : md_R Fu ac zc x0 c (p + 1) σ ρ) : yi_R E d e Fu ac zc N b x0 c p 14 f s X σ ρ := by
  obtain ⟨hc1, wc, c2, ho, _, _⟩ := hc_o hc
  have qa := hq.1
  have qb := hq.2.1
  have go : ∀ z : Int, (z = 0 ∨ z = 1) → js_J E (d - 1 - 1) 158 0 [(2, x0), (0, 14)] [] σ = js_r E (0, z) σ → js_J E e 270 510 [(2, 83), (0, c), (0, 14), (0, f), (0, s), (1, ρ 121 c), (9, 0), (1, ρ 122 c), (9, 0), (0, 4096 * c), (1, X), (9, 0), (9, 0)] [] ρ = js_J E e 270 530 [(2, 83), (0, c), (0, 14), (0, f), (0, s), (1, ρ 121 c), (9, 0), (1, ρ 122 c), (9, 0), (0, 4096 * c), (1, X), (9, 0), (9, 0)] [(0, z), (0, c), (2, 83), (0, c), (2, 121)] ρ → yi_R E d e Fu ac zc N b x0 c p 14 f s X σ ρ := fun z hz h1 h2 => by
    have e1 : yc_J E d b x0 p f 14 σ = js_r E (0, 0) (js_up σ x0 0 (if z = 0 then 0 else o)) := c_wk14 hC (by omega) (by rw [b_155_0, s_155_1_14 (show js_w 14 = 14 by decide), c_truth hC (by omega) hz h1])
    have e2 : yr_J E e c 14 f s X ρ = js_r E (0, 1) (js_up ρ 121 c (if z = 0 then 0 else o)) := by
      unfold yr_J
      rw [s_270_41_14 (show js_w 14 = 14 by decide), h2, k_270_530 (by omega) (r_truth hc1 hz), b_270_533, wc, if_pos c2, b_270_891, ho]
    exact yi_A hx.1 hq h78 hm (by decide) e1 e2 rfl
  by_cases t : js_l (ρ 122 c) < js_l (ρ 121 c)
  · exact go 0 (by decide) (by rw [b_158_0, s_158_1_14 (show js_w 14 = 14 by decide), b_158_58 hC, qa, qb, if_pos t]) (by rw [b_270_510, if_pos t])
  · exact go 1 (by decide) (by rw [b_158_0, s_158_1_14 (show js_w 14 = 14 by decide), b_158_58 hC, qa, qb, if_neg t]) (by rw [b_270_510, if_neg t])
theorem yi_15 (hx : 59 ≤ x0 ∧ x0 ≤ 76) (hC : js_isC E.1 x0 o) (hc : c = 0 ∧ o = 1 ∨ c = 1 ∧ o = 58659) (hd : 10 ≤ d) (he : 10 ≤ e) (hq : cq_R N x0 c σ ρ) (h78 : ρ 83 78 = p + 1) (hm : md_R Fu ac zc x0 c (p + 1) σ ρ) : yi_R E d e Fu ac zc N b x0 c p 15 f s X σ ρ := by
  obtain ⟨hc1, wc, c2, ho, _, _⟩ := hc_o hc
  have qa := hq.1
  have qb := hq.2.1
  have go : ∀ z : Int, (z = 0 ∨ z = 1) → js_J E (d - 1 - 1) 158 0 [(2, x0), (0, 15)] [] σ = js_r E (0, z) σ → js_J E e 270 537 [(2, 83), (0, c), (0, 15), (0, f), (0, s), (1, ρ 121 c), (9, 0), (1, ρ 122 c), (9, 0), (0, 4096 * c), (1, X), (9, 0), (9, 0)] [] ρ = js_J E e 270 557 [(2, 83), (0, c), (0, 15), (0, f), (0, s), (1, ρ 121 c), (9, 0), (1, ρ 122 c), (9, 0), (0, 4096 * c), (1, X), (9, 0), (9, 0)] [(0, z), (0, c), (2, 83), (0, c), (2, 121)] ρ → yi_R E d e Fu ac zc N b x0 c p 15 f s X σ ρ := fun z hz h1 h2 => by
    have e1 : yc_J E d b x0 p f 15 σ = js_r E (0, 0) (js_up σ x0 0 (if z = 0 then 0 else o)) := c_wk15 hC (by omega) (by rw [b_155_0, s_155_1_15 (show js_w 15 = 15 by decide), c_truth hC (by omega) hz h1])
    have e2 : yr_J E e c 15 f s X ρ = js_r E (0, 1) (js_up ρ 121 c (if z = 0 then 0 else o)) := by
      unfold yr_J
      rw [s_270_41_15 (show js_w 15 = 15 by decide), h2, k_270_557 (by omega) (r_truth hc1 hz), b_270_560, wc, if_pos c2, b_270_891, ho]
    exact yi_A hx.1 hq h78 hm (by decide) e1 e2 rfl
  by_cases t : js_l (ρ 122 c) < js_l (ρ 121 c)
  · exact go 1 (by decide) (by rw [b_158_0, s_158_1_15 (show js_w 15 = 15 by decide), b_158_76 hC, qa, qb, if_pos t]) (by rw [b_270_537, if_pos t])
  · exact go 0 (by decide) (by rw [b_158_0, s_158_1_15 (show js_w 15 = 15 by decide), b_158_76 hC, qa, qb, if_neg t]) (by rw [b_270_537, if_neg t])
theorem yi_16 (hx : 59 ≤ x0 ∧ x0 ≤ 76) (hC : js_isC E.1 x0 o) (hc : c = 0 ∧ o = 1 ∨ c = 1 ∧ o = 58659) (hd : 10 ≤ d) (he : 10 ≤ e) (hq : cq_R N x0 c σ ρ) (h78 : ρ 83 78 = p + 1) (hm : md_R Fu ac zc x0 c (p + 1) σ ρ) : yi_R E d e Fu ac zc N b x0 c p 16 f s X σ ρ := by
  obtain ⟨hc1, wc, c2, ho, _, _⟩ := hc_o hc
  have qa := hq.1
  have qb := hq.2.1
  have go : ∀ z : Int, (z = 0 ∨ z = 1) → js_J E (d - 1 - 1) 158 0 [(2, x0), (0, 16)] [] σ = js_r E (0, z) σ → js_J E e 270 564 [(2, 83), (0, c), (0, 16), (0, f), (0, s), (1, ρ 121 c), (9, 0), (1, ρ 122 c), (9, 0), (0, 4096 * c), (1, X), (9, 0), (9, 0)] [] ρ = js_J E e 270 584 [(2, 83), (0, c), (0, 16), (0, f), (0, s), (1, ρ 121 c), (9, 0), (1, ρ 122 c), (9, 0), (0, 4096 * c), (1, X), (9, 0), (9, 0)] [(0, z), (0, c), (2, 83), (0, c), (2, 121)] ρ → yi_R E d e Fu ac zc N b x0 c p 16 f s X σ ρ := fun z hz h1 h2 => by
    have e1 : yc_J E d b x0 p f 16 σ = js_r E (0, 0) (js_up σ x0 0 (if z = 0 then 0 else o)) := c_wk16 hC (by omega) (by rw [b_155_0, s_155_1_16 (show js_w 16 = 16 by decide), c_truth hC (by omega) hz h1])
    have e2 : yr_J E e c 16 f s X ρ = js_r E (0, 1) (js_up ρ 121 c (if z = 0 then 0 else o)) := by
      unfold yr_J
      rw [s_270_41_16 (show js_w 16 = 16 by decide), h2, k_270_584 (by omega) (r_truth hc1 hz), b_270_587, wc, if_pos c2, b_270_891, ho]
    exact yi_A hx.1 hq h78 hm (by decide) e1 e2 rfl
  by_cases t : js_l (ρ 121 c) < js_l (ρ 122 c)
  · exact go 0 (by decide) (by rw [b_158_0, s_158_1_16 (show js_w 16 = 16 by decide), b_158_94 hC, qa, qb, if_pos t]) (by rw [b_270_564, if_pos t])
  · exact go 1 (by decide) (by rw [b_158_0, s_158_1_16 (show js_w 16 = 16 by decide), b_158_94 hC, qa, qb, if_neg t]) (by rw [b_270_564, if_neg t])
theorem yi_17 (hx : 59 ≤ x0 ∧ x0 ≤ 76) (hC : js_isC E.1 x0 o) (hc : c = 0 ∧ o = 1 ∨ c = 1 ∧ o = 58659) (hd : 10 ≤ d) (he : 10 ≤ e) (hq : cq_R N x0 c σ ρ) (h78 : ρ 83 78 = p + 1) (hm : md_R Fu ac zc x0 c (p + 1) σ ρ) : yi_R E d e Fu ac zc N b x0 c p 17 f s X σ ρ := by
  obtain ⟨hc1, wc, c2, ho, _, _⟩ := hc_o hc
  have qa := hq.1
  have qb := hq.2.1
  have go : ∀ z : Int, (z = 0 ∨ z = 1) → js_J E (d - 1 - 1) 158 0 [(2, x0), (0, 17)] [] σ = js_r E (0, z) σ → js_J E e 270 591 [(2, 83), (0, c), (0, 17), (0, f), (0, s), (1, ρ 121 c), (9, 0), (1, ρ 122 c), (9, 0), (0, 4096 * c), (1, X), (9, 0), (9, 0)] [] ρ = js_J E e 270 611 [(2, 83), (0, c), (0, 17), (0, f), (0, s), (1, ρ 121 c), (9, 0), (1, ρ 122 c), (9, 0), (0, 4096 * c), (1, X), (9, 0), (9, 0)] [(0, z), (0, c), (2, 83), (0, c), (2, 121)] ρ → yi_R E d e Fu ac zc N b x0 c p 17 f s X σ ρ := fun z hz h1 h2 => by
    have e1 : yc_J E d b x0 p f 17 σ = js_r E (0, 0) (js_up σ x0 0 (if z = 0 then 0 else o)) := c_wk17 hC (by omega) (by rw [b_155_0, s_155_1_17 (show js_w 17 = 17 by decide), c_truth hC (by omega) hz h1])
    have e2 : yr_J E e c 17 f s X ρ = js_r E (0, 1) (js_up ρ 121 c (if z = 0 then 0 else o)) := by
      unfold yr_J
      rw [s_270_41_17 (show js_w 17 = 17 by decide), h2, k_270_611 (by omega) (r_truth hc1 hz), b_270_614, wc, if_pos c2, b_270_891, ho]
    exact yi_A hx.1 hq h78 hm (by decide) e1 e2 rfl
  by_cases t : js_l (ρ 121 c) = js_l (ρ 122 c)
  · exact go 1 (by decide) (by rw [b_158_0, s_158_1_17 (show js_w 17 = 17 by decide), b_158_112 hC, qa, qb, if_pos t]) (by rw [b_270_591, if_pos t])
  · exact go 0 (by decide) (by rw [b_158_0, s_158_1_17 (show js_w 17 = 17 by decide), b_158_112 hC, qa, qb, if_neg t]) (by rw [b_270_591, if_neg t])
theorem yi_18 (hx : 59 ≤ x0 ∧ x0 ≤ 76) (hC : js_isC E.1 x0 o) (hc : c = 0 ∧ o = 1 ∨ c = 1 ∧ o = 58659) (hd : 10 ≤ d) (he : 10 ≤ e) (hq : cq_R N x0 c σ ρ) (h78 : ρ 83 78 = p + 1) (hm : md_R Fu ac zc x0 c (p + 1) σ ρ) : yi_R E d e Fu ac zc N b x0 c p 18 f s X σ ρ := by
  obtain ⟨hc1, wc, c2, ho, _, _⟩ := hc_o hc
  have qa := hq.1
  have qb := hq.2.1
  have go : ∀ z : Int, (z = 0 ∨ z = 1) → js_J E (d - 1 - 1) 158 0 [(2, x0), (0, 18)] [] σ = js_r E (0, z) σ → js_J E e 270 618 [(2, 83), (0, c), (0, 18), (0, f), (0, s), (1, ρ 121 c), (9, 0), (1, ρ 122 c), (9, 0), (0, 4096 * c), (1, X), (9, 0), (9, 0)] [] ρ = js_J E e 270 638 [(2, 83), (0, c), (0, 18), (0, f), (0, s), (1, ρ 121 c), (9, 0), (1, ρ 122 c), (9, 0), (0, 4096 * c), (1, X), (9, 0), (9, 0)] [(0, z), (0, c), (2, 83), (0, c), (2, 121)] ρ → yi_R E d e Fu ac zc N b x0 c p 18 f s X σ ρ := fun z hz h1 h2 => by
    have e1 : yc_J E d b x0 p f 18 σ = js_r E (0, 0) (js_up σ x0 0 (if z = 0 then 0 else o)) := c_wk18 hC (by omega) (by rw [b_155_0, s_155_1_18 (show js_w 18 = 18 by decide), c_truth hC (by omega) hz h1])
    have e2 : yr_J E e c 18 f s X ρ = js_r E (0, 1) (js_up ρ 121 c (if z = 0 then 0 else o)) := by
      unfold yr_J
      rw [s_270_41_18 (show js_w 18 = 18 by decide), h2, k_270_638 (by omega) (r_truth hc1 hz), b_270_641, wc, if_pos c2, b_270_891, ho]
    exact yi_A hx.1 hq h78 hm (by decide) e1 e2 rfl
  by_cases t : js_l (ρ 121 c) = js_l (ρ 122 c)
  · exact go 0 (by decide) (by rw [b_158_0, s_158_1_18 (show js_w 18 = 18 by decide), b_158_130 hC, qa, qb, if_pos t]) (by rw [b_270_618, if_pos t])
  · exact go 1 (by decide) (by rw [b_158_0, s_158_1_18 (show js_w 18 = 18 by decide), b_158_130 hC, qa, qb, if_neg t]) (by rw [b_270_618, if_neg t])
theorem yi_21 (hx : 59 ≤ x0 ∧ x0 ≤ 76) (hC : js_isC E.1 x0 o) (hc : c = 0 ∧ o = 1 ∨ c = 1 ∧ o = 58659) (hd : 10 ≤ d) (he : 10 ≤ e) (hq : cq_R N x0 c σ ρ) (h78 : ρ 83 78 = p + 1) (hm : md_R Fu ac zc x0 c (p + 1) σ ρ) : yi_R E d e Fu ac zc N b x0 c p 21 f s X σ ρ := by
  obtain ⟨hc1, wc, c2, ho, _, _⟩ := hc_o hc
  have qa := hq.1
  have qb := hq.2.1
  have go : ∀ z : Int, (z = 0 ∨ z = 1) → js_J E (d - 1 - 1) 158 0 [(2, x0), (0, 21)] [] σ = js_r E (0, z) σ → js_J E e 270 681 [(2, 83), (0, c), (0, 21), (0, f), (0, s), (1, ρ 121 c), (9, 0), (1, ρ 122 c), (9, 0), (0, 4096 * c), (1, X), (9, 0), (9, 0)] [] ρ = js_J E e 270 700 [(2, 83), (0, c), (0, 21), (0, f), (0, s), (1, ρ 121 c), (9, 0), (1, ρ 122 c), (9, 0), (0, 4096 * c), (1, X), (9, 0), (9, 0)] [(0, z), (0, c), (2, 83), (0, c), (2, 121)] ρ → yi_R E d e Fu ac zc N b x0 c p 21 f s X σ ρ := fun z hz h1 h2 => by
    have e1 : yc_J E d b x0 p f 21 σ = js_r E (0, 0) (js_up σ x0 0 (if z = 0 then 0 else o)) := c_wk21 hC (by omega) (by rw [b_155_0, s_155_1_d (show js_w 21 < 6 ∨ 20 < js_w 21 by decide), c_truth hC (by omega) hz h1])
    have e2 : yr_J E e c 21 f s X ρ = js_r E (0, 1) (js_up ρ 121 c (if z = 0 then 0 else o)) := by
      unfold yr_J
      rw [s_270_41_21 (show js_w 21 = 21 by decide), h2, k_270_700 (by omega) (r_truth hc1 hz), b_270_703, wc, if_pos c2, b_270_891, ho]
    exact yi_A hx.1 hq h78 hm (by decide) e1 e2 rfl
  by_cases t : js_l (ρ 121 c) = 0
  · exact go 1 (by decide) (by rw [b_158_0, s_158_1_d (show js_w 21 < 13 ∨ 18 < js_w 21 by decide), b_158_148 hC, qa, if_pos t]) (by rw [b_270_681, if_pos t])
  · exact go 0 (by decide) (by rw [b_158_0, s_158_1_d (show js_w 21 < 13 ∨ 18 < js_w 21 by decide), b_158_148 hC, qa, if_neg t]) (by rw [b_270_681, if_neg t])
theorem yi_6 (hx : 59 ≤ x0 ∧ x0 ≤ 76) (hC : js_isC E.1 x0 o) (hc : c = 0 ∧ o = 1 ∨ c = 1 ∧ o = 58659) (hd : 10 ≤ d) (he : 10 ≤ e) (hq : cq_R N x0 c σ ρ) (h78 : ρ 83 78 = p + 1) (hm : md_R Fu ac zc x0 c (p + 1) σ ρ) : yi_R E d e Fu ac zc N b x0 c p 6 f s X σ ρ := by
  obtain ⟨hc1, wc, c2, ho, _, _⟩ := hc_o hc
  have e1 : yc_J E d b x0 p f 6 σ = js_r E (0, 0) (js_up σ x0 0 (σ x0 0 + σ x0 1)) := c_wk6 hC (by omega) (by rw [b_155_0, s_155_1_6 (show js_w 6 = 6 by decide), b_155_76 hC])
  have e2 : yr_J E e c 6 f s X ρ = js_r E (0, 1) (js_up ρ 121 c (ρ 121 c + ρ 122 c)) := by
    unfold yr_J
    rw [s_270_41_6 (show js_w 6 = 6 by decide), b_270_308, wc, if_pos c2, b_270_891]
  exact yi_A hx.1 hq h78 hm (by decide) e1 e2 (lq_add hq.1 hq.2.1)
theorem yi_7 (hx : 59 ≤ x0 ∧ x0 ≤ 76) (hC : js_isC E.1 x0 o) (hc : c = 0 ∧ o = 1 ∨ c = 1 ∧ o = 58659) (hd : 10 ≤ d) (he : 10 ≤ e) (hq : cq_R N x0 c σ ρ) (h78 : ρ 83 78 = p + 1) (hm : md_R Fu ac zc x0 c (p + 1) σ ρ) : yi_R E d e Fu ac zc N b x0 c p 7 f s X σ ρ := by
  obtain ⟨hc1, wc, c2, ho, _, _⟩ := hc_o hc
  have e1 : yc_J E d b x0 p f 7 σ = js_r E (0, 0) (js_up σ x0 0 (σ x0 0 - σ x0 1)) := c_wk7 hC (by omega) (by rw [b_155_0, s_155_1_7 (show js_w 7 = 7 by decide), b_155_91 hC])
  have e2 : yr_J E e c 7 f s X ρ = js_r E (0, 1) (js_up ρ 121 c (ρ 121 c - ρ 122 c)) := by
    unfold yr_J
    rw [s_270_41_7 (show js_w 7 = 7 by decide), b_270_322, wc, if_pos c2, b_270_891]
  exact yi_A hx.1 hq h78 hm (by decide) e1 e2 (lq_sub hq.1 hq.2.1)
theorem yi_19 (hx : 59 ≤ x0 ∧ x0 ≤ 76) (hC : js_isC E.1 x0 o) (hc : c = 0 ∧ o = 1 ∨ c = 1 ∧ o = 58659) (hd : 10 ≤ d) (he : 10 ≤ e) (hq : cq_R N x0 c σ ρ) (h78 : ρ 83 78 = p + 1) (hm : md_R Fu ac zc x0 c (p + 1) σ ρ) : yi_R E d e Fu ac zc N b x0 c p 19 f s X σ ρ := by
  obtain ⟨hc1, wc, c2, ho, _, _⟩ := hc_o hc
  have e1 : yc_J E d b x0 p f 19 σ = js_r E (0, 0) (js_up σ x0 0 (-(σ x0 0))) := c_wk19 hC (by omega) (by rw [b_155_0, s_155_1_19 (show js_w 19 = 19 by decide), b_155_161 hC])
  have e2 : yr_J E e c 19 f s X ρ = js_r E (0, 1) (js_up ρ 121 c (-(ρ 121 c))) := by
    unfold yr_J
    rw [s_270_41_19 (show js_w 19 = 19 by decide), b_270_645, wc, if_pos c2, b_270_891]
  exact yi_A hx.1 hq h78 hm (by decide) e1 e2 (lq_neg hq.1)
theorem yi_11 (hx : 59 ≤ x0 ∧ x0 ≤ 76) (hC : js_isC E.1 x0 o) (hc : c = 0 ∧ o = 1 ∨ c = 1 ∧ o = 58659) (hd : 10 ≤ d) (he : 10 ≤ e) (hq : cq_R N x0 c σ ρ) (h78 : ρ 83 78 = p + 1) (hm : md_R Fu ac zc x0 c (p + 1) σ ρ) : yi_R E d e Fu ac zc N b x0 c p 11 f s X σ ρ := by
  obtain ⟨hc1, wc, c2, ho, _, _⟩ := hc_o hc
  have e1 : yc_J E d b x0 p f 11 σ = js_r E (0, 0) (js_up σ x0 0 (if js_l (σ x0 1) < js_l (σ x0 0) then (σ x0 1) else (σ x0 0))) := c_wk11 hC (by omega) (by rw [b_155_0, s_155_1_11 (show js_w 11 = 11 by decide), b_155_127 (by omega) hC])
  have e2 : yr_J E e c 11 f s X ρ = js_r E (0, 1) (js_up ρ 121 c (if js_l (ρ 122 c) < js_l (ρ 121 c) then ρ 122 c else ρ 121 c)) := by
    unfold yr_J
    rw [s_270_41_11 (show js_w 11 = 11 by decide), b_270_451 (by omega), wc, if_pos c2, b_270_891]
  exact yi_A hx.1 hq h78 hm (by decide) e1 e2 (by rw [hq.1, hq.2.1]; split <;> first | exact hq.1 | exact hq.2.1)
theorem yi_12 (hx : 59 ≤ x0 ∧ x0 ≤ 76) (hC : js_isC E.1 x0 o) (hc : c = 0 ∧ o = 1 ∨ c = 1 ∧ o = 58659) (hd : 10 ≤ d) (he : 10 ≤ e) (hq : cq_R N x0 c σ ρ) (h78 : ρ 83 78 = p + 1) (hm : md_R Fu ac zc x0 c (p + 1) σ ρ) : yi_R E d e Fu ac zc N b x0 c p 12 f s X σ ρ := by
  obtain ⟨hc1, wc, c2, ho, _, _⟩ := hc_o hc
  have e1 : yc_J E d b x0 p f 12 σ = js_r E (0, 0) (js_up σ x0 0 (if js_l (σ x0 1) < js_l (σ x0 0) then (σ x0 0) else (σ x0 1))) := c_wk12 hC (by omega) (by rw [b_155_0, s_155_1_12 (show js_w 12 = 12 by decide), b_155_144 (by omega) hC])
  have e2 : yr_J E e c 12 f s X ρ = js_r E (0, 1) (js_up ρ 121 c (if js_l (ρ 122 c) < js_l (ρ 121 c) then ρ 121 c else ρ 122 c)) := by
    unfold yr_J
    rw [s_270_41_12 (show js_w 12 = 12 by decide), b_270_467 (by omega), wc, if_pos c2, b_270_891]
  exact yi_A hx.1 hq h78 hm (by decide) e1 e2 (by rw [hq.1, hq.2.1]; split <;> first | exact hq.1 | exact hq.2.1)
theorem yi_20 (hx : 59 ≤ x0 ∧ x0 ≤ 76) (hC : js_isC E.1 x0 o) (hc : c = 0 ∧ o = 1 ∨ c = 1 ∧ o = 58659) (hd : 10 ≤ d) (he : 10 ≤ e) (hq : cq_R N x0 c σ ρ) (h78 : ρ 83 78 = p + 1) (hm : md_R Fu ac zc x0 c (p + 1) σ ρ) : yi_R E d e Fu ac zc N b x0 c p 20 f s X σ ρ := by
  obtain ⟨hc1, wc, c2, ho, _, _⟩ := hc_o hc
  have qa := hq.1
  by_cases t : js_l (ρ 121 c) < 0
  · have e1 : yc_J E d b x0 p f 20 σ = js_r E (0, 0) (js_up σ x0 0 (-(σ x0 0))) := c_wk20 hC (by omega) (by rw [b_155_0, s_155_1_20 (show js_w 20 = 20 by decide), b_155_172 hC, qa, if_pos t, b_155_194 hC])
    have e2 : yr_J E e c 20 f s X ρ = js_r E (0, 1) (js_up ρ 121 c (-(ρ 121 c))) := by
      unfold yr_J
      rw [s_270_41_20 (show js_w 20 = 20 by decide), b_270_657, if_pos t, b_270_677, wc, if_pos c2, b_270_891]
    exact yi_A hx.1 hq h78 hm (by decide) e1 e2 (lq_neg hq.1)
  · have e1 : yc_J E d b x0 p f 20 σ = js_r E (0, 0) (js_up σ x0 0 (σ x0 0)) := c_wk20 hC (by omega) (by rw [b_155_0, s_155_1_20 (show js_w 20 = 20 by decide), b_155_172 hC, qa, if_neg t, b_155_194 hC])
    have e2 : yr_J E e c 20 f s X ρ = js_r E (0, 1) (js_up ρ 121 c (ρ 121 c)) := by
      unfold yr_J
      rw [s_270_41_20 (show js_w 20 = 20 by decide), b_270_657, if_neg t, b_270_677, wc, if_pos c2, b_270_891]
    exact yi_A hx.1 hq h78 hm (by decide) e1 e2 hq.1
theorem yi_00 (hx : 59 ≤ x0 ∧ x0 ≤ 76) (hC : js_isC E.1 x0 o) (hc : c = 0 ∧ o = 1 ∨ c = 1 ∧ o = 58659) (hd : 10 ≤ d) (he : 10 ≤ e) (hq : cq_R N x0 c σ ρ) (h78 : ρ 83 78 = p + 1) (hm : md_R Fu ac zc x0 c (p + 1) σ ρ) (hX : X = js_w f * o) : yi_R E d e Fu ac zc N b x0 c p 0 f s X σ ρ := by
  obtain ⟨hc1, wc, c2, ho, _, _⟩ := hc_o hc
  have e1 : yc_J E d b x0 p f 0 σ = js_r E (0, 0) (js_up σ x0 0 (js_w f * o)) := by
    unfold yc_J
    rw [s_147_39_0 (show js_w 0 = 0 from rfl), b_147_148 hC]
  have e2 : yr_J E e c 0 f s X ρ = js_r E (0, 1) (js_up ρ 121 c X) := by
    unfold yr_J
    rw [s_270_41_0 (show js_w 0 = 0 from rfl), b_270_180, wc, if_pos c2, b_270_891]
  exact yi_A hx.1 hq h78 hm (by decide) e1 e2 (by rw [hX])
theorem yi_3 (hx : 59 ≤ x0 ∧ x0 ≤ 76) (hC : js_isC E.1 x0 o) (hc : c = 0 ∧ o = 1 ∨ c = 1 ∧ o = 58659) (hd : 10 ≤ d) (he : 10 ≤ e) (hq : cq_R N x0 c σ ρ) (h78 : ρ 83 78 = p + 1) (hm : md_R Fu ac zc x0 c (p + 1) σ ρ) : yi_R E d e Fu ac zc N b x0 c p 3 f s X σ ρ := by
  obtain ⟨hc1, wc, c2, ho, _, _⟩ := hc_o hc
  have e1 : yc_J E d b x0 p f 3 σ = js_r E (0, 0) (js_up σ x0 1 (σ x0 0)) := by
    unfold yc_J
    rw [s_147_39_3 (show js_w 3 = 3 by decide), b_147_183 hC]
  have e2 : yr_J E e c 3 f s X ρ = js_r E (0, 1) (js_up ρ 122 c (ρ 121 c)) := by
    unfold yr_J
    rw [s_270_41_3 (show js_w 3 = 3 by decide), b_270_223, wc, if_pos c2, b_270_891]
  exact yi_B hx.1 hq h78 hm (by decide) e1 e2 hq.1
theorem yi_22 (hx : 59 ≤ x0 ∧ x0 ≤ 76) (hC : js_isC E.1 x0 o) (hc : c = 0 ∧ o = 1 ∨ c = 1 ∧ o = 58659) (hd : 10 ≤ d) (he : 10 ≤ e) (hq : cq_R N x0 c σ ρ) (h78 : ρ 83 78 = p + 1) (hm : md_R Fu ac zc x0 c (p + 1) σ ρ) (hX : X = js_w f * o) : yi_R E d e Fu ac zc N b x0 c p 22 f s X σ ρ := by
  obtain ⟨hc1, wc, c2, ho, _, _⟩ := hc_o hc
  have qa := hq.1
  have e1 : yc_J E d b x0 p f 22 σ = js_r E (0, 0) (js_up σ x0 0 (if js_l X < js_l (σ x0 0) then (σ x0 0) else (X))) := by
    unfold yc_J
    rw [s_147_39_22 (show js_w 22 = 22 by decide), b_147_217 (by omega) hC, hX]
  have e2 : ∃ vb : Int, yr_J E e c 22 f s X ρ = js_r E (0, 1) (js_up ρ 121 c vb) ∧ js_l (if js_l X < js_l (σ x0 0) then (σ x0 0) else (X)) = js_l vb := by
    unfold yr_J
    rw [s_270_41_22 (show js_w 22 = 22 by decide), b_270_707, qa]
    by_cases t : js_l (ρ 121 c) < js_l X
    · refine ⟨X, by rw [if_pos t, b_270_727, wc, if_pos c2, b_270_891], ?_⟩
      rw [if_neg (by omega)]
    · refine ⟨ρ 121 c, by rw [if_neg t, b_270_727, wc, if_pos c2, b_270_891], ?_⟩
      by_cases t2 : js_l X < js_l (ρ 121 c)
      · rw [if_pos t2]
        exact qa
      · rw [if_neg t2]
        omega
  obtain ⟨vb, e2, hv⟩ := e2
  exact yi_A hx.1 hq h78 hm (by decide) e1 e2 hv
theorem yi_23 (hx : 59 ≤ x0 ∧ x0 ≤ 76) (hC : js_isC E.1 x0 o) (hc : c = 0 ∧ o = 1 ∨ c = 1 ∧ o = 58659) (hd : 10 ≤ d) (he : 10 ≤ e) (hq : cq_R N x0 c σ ρ) (h78 : ρ 83 78 = p + 1) (hm : md_R Fu ac zc x0 c (p + 1) σ ρ) (hX : X = js_w f * o) : yi_R E d e Fu ac zc N b x0 c p 23 f s X σ ρ := by
  obtain ⟨hc1, wc, c2, ho, _, _⟩ := hc_o hc
  have qa := hq.1
  have e1 : yc_J E d b x0 p f 23 σ = js_r E (0, 0) (js_up σ x0 0 (if js_l X < js_l (σ x0 0) then (X) else (σ x0 0))) := by
    unfold yc_J
    rw [s_147_39_23 (show js_w 23 = 23 by decide), b_147_237 (by omega) hC, hX]
  have e2 : ∃ vb : Int, yr_J E e c 23 f s X ρ = js_r E (0, 1) (js_up ρ 121 c vb) ∧ js_l (if js_l X < js_l (σ x0 0) then (X) else (σ x0 0)) = js_l vb := by
    unfold yr_J
    rw [s_270_41_23 (show js_w 23 = 23 by decide), b_270_731, qa]
    by_cases t : js_l X < js_l (ρ 121 c)
    · refine ⟨X, by rw [if_pos t, b_270_751, wc, if_pos c2, b_270_891], ?_⟩
      rw [if_pos t]
    · refine ⟨ρ 121 c, by rw [if_neg t, b_270_751, wc, if_pos c2, b_270_891], ?_⟩
      rw [if_neg t]
      exact qa
  obtain ⟨vb, e2, hv⟩ := e2
  exact yi_A hx.1 hq h78 hm (by decide) e1 e2 hv
theorem yi_30 (hx : 59 ≤ x0 ∧ x0 ≤ 76) (hC : js_isC E.1 x0 o) (hc : c = 0 ∧ o = 1 ∨ c = 1 ∧ o = 58659) (hd : 10 ≤ d) (he : 10 ≤ e) (hq : cq_R N x0 c σ ρ) (h78 : ρ 83 78 = p + 1) (hm : md_R Fu ac zc x0 c (p + 1) σ ρ) : yi_R E d e Fu ac zc N b x0 c p 30 f s X σ ρ := by
  have qa := hq.1
  have c0 : ∀ v : Int, js_J E (d - 1) 152 106 [(2, x0), (0, 30), (0, f)] [] σ = js_r E (0, v) σ → yc_J E d b x0 p f 30 σ = js_r E (0, v) σ := fun v h => by
    unfold yc_J
    rw [s_147_39_d (show js_w 30 < 0 ∨ 23 < js_w 30 by decide), b_147_257, if_neg (show ¬ js_w 30 < 24 by decide), k_147_268 hC (by omega) (by rw [b_152_0, s_152_1_d (show js_w 30 < 24 ∨ 29 < js_w 30 by decide)]; exact h), b_147_271, b_147_280]
  have r0 : yr_J E e c 30 f s X ρ = (if js_l (ρ 121 c) = 0 then js_r E (0, 0) ρ else js_r E (0, 1) ρ) := by
    unfold yr_J
    rw [s_270_41_30 (show js_w 30 = 30 by decide), b_270_878]
  by_cases t : js_l (ρ 121 c) = 0
  · exact yi_T hq (c0 2 (by rw [b_152_106 hC, qa, if_pos t])) (by rw [r0, if_pos t])
  · exact yi_0 hq h78 hm (by decide) (c0 0 (by rw [b_152_106 hC, qa, if_neg t])) (by rw [r0, if_neg t])
theorem yi_8 (hx : 59 ≤ x0 ∧ x0 ≤ 76) (hC : js_isC E.1 x0 o) (hc : c = 0 ∧ o = 1 ∨ c = 1 ∧ o = 58659) (hd : 10 ≤ d) (he : 10 ≤ e) (hq : cq_R N x0 c σ ρ) (h78 : ρ 83 78 = p + 1) (hm : md_R Fu ac zc x0 c (p + 1) σ ρ) : yi_R E d e Fu ac zc N b x0 c p 8 f s X σ ρ := by
  obtain ⟨hc1, wc, c2, ho, hl, hn⟩ := hc_o hc
  have qm := lq_mul hq.1 hq.2.1
  have c1 : ∀ (v : Int) (σ2 : js_S), js_J E (d - 1 - 1) 156 0 [(2, x0), (9, 0), (9, 0)] [] σ = js_r E (0, v) σ2 → yc_J E d b x0 p f 8 σ = js_r E (0, v) σ2 := fun v σ2 h => c_wk8 hC (by omega) (by rw [b_155_0, s_155_1_8 (show js_w 8 = 8 by decide), b_155_106, k_155_107 hC (by omega) h, b_155_110])
  have c3 : js_J E (d - 1 - 1) 156 0 [(2, x0), (9, 0), (9, 0)] [] σ = (if js_l ((js_l (ρ 121 c * ρ 122 c)).tmod o) = 0 then js_r E (0, 0) (js_up σ x0 0 ((js_l (ρ 121 c * ρ 122 c)).tdiv o)) else js_r E (0, 2) σ) := by
    rw [b_156_0 hC, hl, if_neg hn, if_neg hn, if_neg hn, qm]
  rcases hc with ⟨q, q2⟩ | ⟨q, q2⟩
  · rw [q2, Int.tmod_one, Int.tdiv_one, if_pos (show js_l 0 = 0 by decide)] at c3
    have e2 : yr_J E e c 8 f s X ρ = js_r E (0, 1) (js_up ρ 121 c (ρ 121 c * ρ 122 c)) := by
      unfold yr_J
      rw [s_270_41_8 (show js_w 8 = 8 by decide), b_270_336, wc, if_neg (show ¬ c = 1 by omega), b_270_357, wc, if_neg (show ¬ c = 1 by omega), b_270_384, wc, if_pos c2, b_270_891]
    exact yi_A hx.1 hq h78 hm (by decide) (c1 _ _ c3) e2 (js_l_l _)
  · rw [q2] at c3
    have r0 : yr_J E e c 8 f s X ρ = (if js_l ((js_l (ρ 121 c * ρ 122 c)).tmod 58659) = 0 then js_r E (0, 1) (js_up ρ 121 c ((js_l (ρ 121 c * ρ 122 c)).tdiv 58659)) else js_r E (0, 0) ρ) := by
      unfold yr_J
      rw [s_270_41_8 (show js_w 8 = 8 by decide), b_270_336, wc, if_pos q, b_270_357, wc, if_pos q, b_270_384, wc, if_pos c2, b_270_891]
    by_cases t : js_l ((js_l (ρ 121 c * ρ 122 c)).tmod 58659) = 0
    · rw [if_pos t] at c3 r0
      exact yi_A hx.1 hq h78 hm (by decide) (c1 _ _ c3) r0 rfl
    · rw [if_neg t] at c3 r0
      exact yi_T hq (c1 _ _ c3) r0
theorem yi_9 (hx : 59 ≤ x0 ∧ x0 ≤ 76) (hC : js_isC E.1 x0 o) (hc : c = 0 ∧ o = 1 ∨ c = 1 ∧ o = 58659) (hd : 10 ≤ d) (he : 10 ≤ e) (hq : cq_R N x0 c σ ρ) (h78 : ρ 83 78 = p + 1) (hm : md_R Fu ac zc x0 c (p + 1) σ ρ) : yi_R E d e Fu ac zc N b x0 c p 9 f s X σ ρ := by
  obtain ⟨hc1, wc, c2, ho, hl, hn⟩ := hc_o hc
  have qa := hq.1
  have qb := hq.2.1
  have c1 : ∀ (v : Int) (σ2 : js_S), js_J E (d - 1 - 1) 157 0 [(2, x0), (0, 1)] [] σ = js_r E (0, v) σ2 → yc_J E d b x0 p f 9 σ = js_r E (0, v) σ2 := fun v σ2 h => c_wk9 hC (by omega) (by rw [b_155_0, s_155_1_9 (show js_w 9 = 9 by decide), b_155_111, if_pos (show js_w 9 = 9 by decide), k_155_123 hC (by omega) h, b_155_126])
  by_cases t : js_l (ρ 122 c) = 0
  · exact yi_T hq (c1 2 σ (by rw [b_157_0 hC, qb, if_pos t])) (by unfold yr_J; rw [s_270_41_9 (show js_w 9 = 9 by decide), b_270_388, if_pos t])
  · have e1 := c1 0 (js_up σ x0 0 (o * ((js_l (ρ 121 c)).tdiv (js_l (ρ 122 c))))) (by rw [b_157_0 hC, qb, if_neg t, if_neg (show ¬ js_w 1 = 0 by decide), if_neg t, qa, b_157_42 hC])
    rcases hc with ⟨q, q2⟩ | ⟨q, q2⟩
    · rw [q2, Int.one_mul] at e1
      exact yi_A hx.1 hq h78 hm (by decide) e1 (by unfold yr_J; rw [s_270_41_9 (show js_w 9 = 9 by decide), b_270_388, if_neg t, wc, if_neg (show ¬ c = 1 by omega), if_neg t, b_270_424, wc, if_pos c2, b_270_891]) rfl
    · rw [q2] at e1
      exact yi_A hx.1 hq h78 hm (by decide) e1 (by unfold yr_J; rw [s_270_41_9 (show js_w 9 = 9 by decide), b_270_388, if_neg t, wc, if_pos q, if_neg t, b_270_424, wc, if_pos c2, b_270_891]) rfl
theorem yi_10 (hx : 59 ≤ x0 ∧ x0 ≤ 76) (hC : js_isC E.1 x0 o) (hc : c = 0 ∧ o = 1 ∨ c = 1 ∧ o = 58659) (hd : 10 ≤ d) (he : 10 ≤ e) (hq : cq_R N x0 c σ ρ) (h78 : ρ 83 78 = p + 1) (hm : md_R Fu ac zc x0 c (p + 1) σ ρ) : yi_R E d e Fu ac zc N b x0 c p 10 f s X σ ρ := by
  obtain ⟨hc1, wc, c2, ho, hl, hn⟩ := hc_o hc
  have qa := hq.1
  have qb := hq.2.1
  have c1 : ∀ (v : Int) (σ2 : js_S), js_J E (d - 1 - 1) 157 0 [(2, x0), (0, 0)] [] σ = js_r E (0, v) σ2 → yc_J E d b x0 p f 10 σ = js_r E (0, v) σ2 := fun v σ2 h => c_wk10 hC (by omega) (by rw [b_155_0, s_155_1_10 (show js_w 10 = 10 by decide), b_155_111, if_neg (show ¬ js_w 10 = 9 by decide), k_155_123 hC (by omega) h, b_155_126])
  by_cases t : js_l (ρ 122 c) = 0
  · exact yi_T hq (c1 2 σ (by rw [b_157_0 hC, qb, if_pos t])) (by unfold yr_J; rw [s_270_41_10 (show js_w 10 = 10 by decide), b_270_428, if_pos t])
  · have e1 := c1 0 (js_up σ x0 0 ((js_l (ρ 121 c)).tmod (js_l (ρ 122 c)))) (by rw [b_157_0 hC, qb, if_neg t, if_pos (show js_w 0 = 0 from rfl), if_neg t, qa, b_157_42 hC])
    exact yi_A hx.1 hq h78 hm (by decide) e1 (by unfold yr_J; rw [s_270_41_10 (show js_w 10 = 10 by decide), b_270_428, if_neg t, if_neg t, wc, if_pos c2, b_270_891]) rfl
end YI
