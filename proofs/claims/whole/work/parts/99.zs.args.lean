/-! part 99.zs: the arguments of a call: what stands between them; too many of them -/
/-- what reading arguments leaves alone of the reference: N nodes were there before, the next of L is set -/
def eh_R (N L : Int) (ρ ρ' : js_S) : Prop := ∀ a i : Int, ¬ (a = 83 ∧ (5 ≤ i ∧ i ≤ 10 ∨ 27 ≤ i ∧ i ≤ 33 ∨ 42 ≤ i ∧ i ≤ 44)) → ¬ (100 ≤ a ∧ a ≤ 107 ∧ N ≤ i) → ¬ (a = 107 ∧ i = L ∧ 0 ≤ L) → ρ' a i = ρ a i
theorem eg_R_eh {N L M : Int} {ρ ρ' : js_S} (h : eh_R N L ρ ρ') (h1 : M ≤ N) (h2 : 0 ≤ L → M ≤ L) : eg_R M ρ ρ' := fun a i g1 g2 => h a i g1 (by omega) (fun hh => g2 ⟨by omega, by omega, by have := h2 hh.2.2; omega⟩)
/-- the next of L set, if there is an L -/
def lk_S (ρ : js_S) (L n : Int) : js_S := if L < 0 then ρ else js_up ρ 107 L n
theorem lk_o {ρ : js_S} {L n a i : Int} (h : ¬ (a = 107 ∧ i = L ∧ 0 ≤ L)) : lk_S ρ L n a i = ρ a i := by
  unfold lk_S
  split
  · rfl
  · exact js_up_ne _ (by omega)
theorem lk_7 {ρ : js_S} {L n : Int} (h : 0 ≤ L) : lk_S ρ L n 107 L = n := by
  unfold lk_S
  rw [if_neg (by omega)]
  exact js_up_same _ _ _ _
theorem eg_R_lk {ρ : js_S} {L n N : Int} (h : 0 ≤ L → N ≤ L) : eg_R N ρ (lk_S ρ L n) := fun a i g1 g2 => lk_o (fun hh => g2 ⟨by omega, by omega, by have := h hh.2.2; omega⟩)
/-- both have the same fault within the arguments -/
def xa_P (E : js_E) (b N : Int) (σ ρ : js_S) (Rc Rr : Option (Outcome × ip_W)) : Prop := ∃ (ρ' : js_S) (v : Int), Rr = js_r E (0, v) ρ' ∧ rx_F ρ' ∧ eg_R N ρ ρ' ∧ ∃ σ' : js_S, Rc = th_P E σ' (ρ' 83 9) ∧ ef_R b (σ (8 + b) 6) (σ (8 + b) 10) (σ (23 + b) 15) σ σ'
theorem xa_up {E : js_E} {b N : Int} {σ ρ σ1 ρ1 : js_S} {Rc Rr : Option (Outcome × ip_W)} (h1 : ef_R b (σ (8 + b) 6) (σ (8 + b) 10) (σ (23 + b) 15) σ σ1) (h2 : eg_R N ρ ρ1) (hs : σ (8 + b) 6 ≤ σ1 (8 + b) 6) (ht : σ (8 + b) 10 ≤ σ1 (8 + b) 10) (hp : σ (23 + b) 15 ≤ σ1 (23 + b) 15) (h : xa_P E b N σ1 ρ1 Rc Rr) : xa_P E b N σ ρ Rc Rr := by
  obtain ⟨ρ', v, f1, f2, f3, σ', f4, f5⟩ := h
  exact ⟨ρ', v, f1, f2, eg_R_trans h2 f3 (Int.le_refl _), σ', f4, ef_R_trans h1 (ef_R_mono f5 hs ht hp)⟩
section QA
variable {E : js_E} {d e : Nat} {b F : Int} {B : Int → Int} {X : Int → Prop} {σ ρ : js_S} {j : Nat}
/-- ) begins no e in the class -/
theorem c_61_41 (hb : b = 0 ∨ b = 25) (hn : cx_n σ) (hd : 12 ≤ d) (h1 : σ 1 1 = 41) : js_J E d 61 0 [(2, 23 + b), (9, 0), (9, 0), (9, 0), (9, 0), (9, 0), (9, 0)] [] σ = th_P E σ (1 + 16 * σ 1 2) := by
  have c62 : js_J E (d - 1) 62 0 [(2, 23 + b), (9, 0)] [] σ = js_r0 E σ := by
    rw [b_62_0, b_62_2 hb, h1, if_pos (show js_w 0 < 1000000 by decide), if_neg (show ¬ js_w 41 = 45 by decide), if_neg (show ¬ js_w 41 = 33 by decide)]
  have c79 : js_J E (d - 1) 79 0 [(2, 23 + b), (9, 0)] [] σ = th_P E σ (1 + 16 * σ 1 2) := by
    rw [b_79_0 hb, h1, s_79_9_d (by decide), b_79_236 hb, kt_79_248 (by omega) (c_fail hn (by omega))]
    rfl
  rw [b_61_0 hb, b_61_18, if_pos (show js_w 0 < 1000000 by decide), if_neg (show ¬ js_w 1 = 0 by decide), k_61_30 hb (by omega) c62, b_61_33 hb, h1, if_neg (show ¬ js_w 41 = 2 by decide), kt_61_52 hb (by omega) c79]
/-- behind an argument: ) or , or a fault -/
theorem y_sep {N i k x1 x2 x3 x4 x6 x8 y2 y3 y4 y5 y6 y7 : Int} (hb : b = 0 ∨ b = 25) (hx : xs_R E b F B X σ ρ) (hR : rd_R σ ρ j) (hd : 13 ≤ d) (he : 9 ≤ e) (hi : 0 ≤ i ∧ i < 400) (hk : 0 ≤ k ∧ k ≤ 9000) (hs : js_desc E.1 σ x1 = some (0, 11, js_sym)) : (ρ 83 5 = 41 ∧ js_J E d 66 176 [(2, 23 + b), (2, x1), (0, x2), (0, x3), (0, x4), (0, k), (0, x6), (0, k), (2, x8)] [] σ = js_J E d 66 216 [(2, 23 + b), (2, x1), (0, x2), (0, x3), (0, x4), (0, k + 1), (0, 0), (0, k + 1), (2, x8)] [] σ ∧ js_J E e 232 180 [(2, 83), (0, i), (0, y2), (0, y3), (0, y4), (0, y5), (0, y6), (0, y7)] [] ρ = js_J E e 232 223 [(2, 83), (0, i), (0, y2), (0, y3), (0, y4), (0, y7), (0, y6), (0, y7)] [] ρ) ∨ (∃ σ' : js_S, js_J E d 66 176 [(2, 23 + b), (2, x1), (0, x2), (0, x3), (0, x4), (0, k), (0, x6), (0, k), (2, x8)] [] σ = js_J E d 66 102 [(2, 23 + b), (2, x1), (0, x2), (0, x3), (0, x4), (0, k + 1), (0, 1), (0, k + 1), (2, x8)] [(2, 23 + b)] σ' ∧ js_J E e 232 180 [(2, 83), (0, i), (0, y2), (0, y3), (0, y4), (0, y5), (0, y6), (0, y7)] [] ρ = js_J E e 232 78 [(2, 83), (0, i), (0, y2), (0, y3), (0, y4), (0, y7), (0, y6), (0, y7)] [] (rx_next ρ) ∧ rd_R σ' (rx_next ρ) (j + 1) ∧ tk_fr σ σ' ∧ rx_next ρ 83 5 ≠ 41) ∨ xa_P E b N σ ρ (js_J E d 66 176 [(2, 23 + b), (2, x1), (0, x2), (0, x3), (0, x4), (0, k), (0, x6), (0, k), (2, x8)] [] σ) (js_J E e 232 180 [(2, 83), (0, i), (0, y2), (0, y3), (0, y4), (0, y5), (0, y6), (0, y7)] [] ρ) := by
  obtain ⟨hV, c7, c8⟩ := rd_V hR
  have mi := tk_m_in hV
  have ok := hR.2.2.1
  have o9 := ok.2.2.1
  have w1 : js_w (σ 1 1) = tk_m (ρ 83 5) := by rw [c7]; exact js_w_of (by omega) (by omega)
  have w5 : js_w (ρ 83 5) = ρ 83 5 := js_w_of (by have := ok.2.2.2.2.2.2.1; omega) (by have := ok.2.2.2.2.2.2.2.1; omega)
  have i44 : tk_m (ρ 83 5) = 44 ↔ ρ 83 5 = 44 := tk_m_inj (b := 44) hV (by unfold tk_V; omega)
  have i41 : tk_m (ρ 83 5) = 41 ↔ ρ 83 5 = 41 := tk_m_inj (b := 41) hV (by unfold tk_V; omega)
  have wk : js_w (k + 1) = k + 1 := js_w_of (by omega) (by omega)
  have p1 : og_R ρ (rx_next ρ) := fun a i g => rx_next_o _ (by omega)
  rw [b_66_176 hb, w1, b_232_180, w5]
  by_cases q41 : ρ 83 5 = 41
  · have q44 : ¬ tk_m (ρ 83 5) = 44 := fun hh => by
      have := i44.mp hh
      omega
    refine Or.inl ⟨q41, ?_, ?_⟩
    · rw [if_neg q44, b_66_196 hb, if_pos (show js_w 0 = 0 from rfl), b_66_210, b_66_89, wk, if_pos (show k + 1 < 1000000 by omega), if_pos (show js_w 0 = 0 from rfl)]
    · rw [if_pos q41, b_232_78, o9, if_pos (show js_w 0 = 0 from rfl), w5, if_pos q41]
  · by_cases q44 : ρ 83 5 = 44
    · obtain ⟨σ1, j1, ec, hR1, f1, hj1, hj1'⟩ := y_next (E := E) (d := d - 1) hR
      have hj1e := hj1' (by omega)
      subst hj1e
      have tk44 : js_J E (e - 1) 202 0 [(2, 83), (0, 44)] [] ρ = js_r0 E (rx_next ρ) := by
        rw [r_take ok (by omega) (by decide) (by decide), if_pos q44]
      have ok1 := hR1.2.2.1
      have w51 : js_w (rx_next ρ 83 5) = rx_next ρ 83 5 := js_w_of (by have := ok1.2.2.2.2.2.2.1; omega) (by have := ok1.2.2.2.2.2.2.2.1; omega)
      rw [if_pos (show tk_m (ρ 83 5) = 44 from i44.mpr q44), b_66_196 hb, if_neg (show ¬ js_w 1 = 0 by decide), k_66_207 (by omega) ec, b_66_210, b_66_89, wk, if_pos (show k + 1 < 1000000 by omega), if_neg (show ¬ js_w 1 = 0 by decide), if_neg q41, k_232_199 (by omega) tk44, b_232_202, w51]
      by_cases q : rx_next ρ 83 5 = 41
      · have hF := rx_bad1 ok1 (k := 1) (by decide) (by decide)
        obtain ⟨_, d7, d8⟩ := rd_V hR1
        have d41 : σ1 1 1 = 41 := by rw [d7, q]; decide
        have hx1 := xs_R_ef hb hx (ef_R_tk (b := b) (n := 0) (t := 0) (p := 0) f1) (eg_R_og (N := 0) p1)
        rw [if_pos q, k_232_217 (by omega) (r_bad (by have := ok1.2.2.1; omega) (by have := ok1.2.2.1; omega)), b_232_220, r_232_78F hF.1 (by omega) hi, kt_66_102 hb (by omega) (c_61_41 hb hx1.1.2.2.1 (by omega) d41)]
        refine Or.inr (Or.inr ⟨js_up (rx_bad (rx_next ρ) 1 (rx_next ρ 83 6)) 83 10 (rx_bad (rx_next ρ) 1 (rx_next ρ 83 6) 83 10 - 1), 0, rfl, rx_F_up hF.1 (by decide) (by decide), ?_, σ1, ?_, ef_R_tk f1⟩)
        · exact eg_R_trans (N' := N) (eg_R_trans (N' := N) (eg_R_og p1) (eg_R_tf (tf_R_bad _ _ _)) (Int.le_refl _)) (eg_R_up (by omega)) (Int.le_refl _)
        · rw [js_up_ni _ (by decide), hF.2, d8]
      · rw [if_neg q, b_232_220]
        exact Or.inr (Or.inl ⟨σ1, rfl, rfl, hR1, f1, q⟩)
    · have hF := rx_bad1 ok (k := 1) (by decide) (by decide)
      have tkb : js_J E (e - 1) 202 0 [(2, 83), (0, 44)] [] ρ = js_r0 E (rx_bad ρ 1 (ρ 83 6)) := by
        rw [r_take ok (by omega) (by decide) (by decide), if_neg q44]
      have n41 : σ 1 1 ≠ 41 := fun hh => q41 (i41.mp (c7.symm.trans hh))
      rw [if_neg (show ¬ tk_m (ρ 83 5) = 44 from fun hh => q44 (i44.mp hh)), b_66_196 hb, if_pos (show js_w 0 = 0 from rfl), b_66_210, b_66_89, wk, if_pos (show k + 1 < 1000000 by omega), if_pos (show js_w 0 = 0 from rfl), b_66_216 hb hs, w1, if_neg (show ¬ tk_m (ρ 83 5) = 41 from fun hh => q41 (i41.mp hh)), b_66_253 hb, kt_66_259 (by omega) (c_closeT hx.1.2.2.1 (by omega) n41 (by omega) (by omega) (by decide) (by decide)), if_neg q41, k_232_199 (by omega) tkb, b_232_202, rx_F_5 hF.1, if_neg (show ¬ (0 : Int) = 41 by decide), b_232_220, r_232_78F hF.1 (by omega) hi]
      refine Or.inr (Or.inr ⟨js_up (rx_bad ρ 1 (ρ 83 6)) 83 10 (rx_bad ρ 1 (ρ 83 6) 83 10 - 1), 0, rfl, rx_F_up hF.1 (by decide) (by decide), ?_, σ, ?_, ef_R_refl _ _ _ _ _⟩)
      · exact eg_R_trans (N' := N) (eg_R_tf (tf_R_bad _ _ _)) (eg_R_up (by omega)) (Int.le_refl _)
      · rw [js_up_ni _ (by decide), hF.2, ← c8]
        rfl
/-- ) stands, but not as many as there are parameters were given -/
theorem y_count {N i K len x1 x2 x3 x4 x6 x7 y2 y4 y5 : Int} {ux8 ux6 ux7 : js_v} (hb : b = 0 ∨ b = 25) (hx : xs_R E b F B X σ ρ) (hR : rd_R σ ρ j) (hd : 8 ≤ d) (he : 6 ≤ e) (hi : 0 ≤ i ∧ i < 400) (hK : 0 ≤ K ∧ K ≤ 9001) (hl : 0 ≤ len ∧ len ≤ 8) (hne : K ≠ len) (h5 : ρ 83 5 = 41) (hs : js_desc E.1 σ x1 = some (0, 11, js_sym)) (h6 : σ x1 6 = len) (h91 : ρ 91 i = len) : xa_P E b N σ ρ (js_J E d 66 216 [(2, 23 + b), (2, x1), (0, x2), (0, x3), (0, x4), (0, K), (0, x6), (0, x7), ux8] [] σ) (js_J E e 232 223 [(2, 83), (0, i), (0, y2), (0, K), (0, y4), (0, y5), ux6, ux7] [] ρ) := by
  obtain ⟨hV, c7, c8⟩ := rd_V hR
  have ok := hR.2.2.1
  have o9 := ok.2.2.1
  have w1 : js_w (σ 1 1) = 41 := by rw [c7, h5]; decide
  have hF := rx_bad1 ok (k := 9) (by decide) (by decide)
  rw [b_66_216 hb hs, w1, if_pos (show (41 : Int) = 41 from rfl), h6, js_w_of (x := K) (by omega) (by omega), js_w_of (x := len) (by omega) (by omega), if_neg hne, kt_66_250 (by omega) (c_fail hx.1.2.2.1 (by omega))]
  rw [b_232_223, o9, if_pos (show js_w 0 = 0 from rfl), js_w_of (x := i) (by omega) (by omega), if_pos hi, h91, js_w_of (x := K) (by omega) (by omega), js_w_of (x := len) (by omega) (by omega), if_neg hne, k_232_247 (by omega) (r_bad (by omega) (by omega)), r_232_250F hF.1 (by omega) hi]
  refine ⟨js_up (rx_bad ρ 9 (ρ 83 6)) 83 10 (rx_bad ρ 9 (ρ 83 6) 83 10 - 1), 0, rfl, rx_F_up hF.1 (by decide) (by decide), ?_, σ, ?_, ef_R_refl _ _ _ _ _⟩
  · exact eg_R_trans (N' := N) (eg_R_tf (tf_R_bad _ _ _)) (eg_R_up (by omega)) (Int.le_refl _)
  · rw [js_up_ni _ (by decide), hF.2, ← c8]
    rfl
/-- the reference links an argument to the one before -/
theorem r_link {x1 x2 x3 x4 L x6 n : Int} {ux7 : js_v} (h9 : ρ 83 9 = 0) (hL : -1 ≤ L ∧ L < 66000) : js_J E e 232 145 [(2, 83), (0, x1), (0, x2), (0, x3), (0, x4), (0, L), (0, x6), ux7] [(0, n)] ρ = js_J E e 232 180 [(2, 83), (0, x1), (0, x2), (0, x3 + 1), (0, if L < 0 then n else x4), (0, L), (0, x6), (0, n)] [] (lk_S ρ L n) := by
  rw [b_232_145, h9, if_neg (show ¬ 0 < js_w 0 by decide), js_w_of (x := L) (by omega) (by omega)]
  unfold lk_S
  by_cases q : L < 0
  · rw [if_pos q, if_pos q, if_pos q]
  · rw [if_neg q, if_neg q, if_neg q, if_pos (show 0 ≤ L ∧ L < 66000 by omega)]
theorem xn_lk {L n : Int} (h : xn_R b σ ρ j) : xn_R b σ (lk_S ρ L n) j := by
  unfold xn_R at h ⊢
  rw [lk_o (by omega), lk_o (by omega)]
  exact h
theorem rd_lk {L n : Int} (h : rd_R σ ρ j) : rd_R σ (lk_S ρ L n) j := rd_R_of h (fun _ _ => rfl) (fun _ _ _ _ => rfl) (fun i _ _ => lk_o (by omega)) (fun i => lk_o (by omega))
/-- too many are given: both end with a fault -/
theorem y_more {J0 : Nat} {N i len s x2 x3 x4 y2 : Int} (hb : b = 0 ∨ b = 25) (hE : xe_P E b F B X J0) (hi : 0 ≤ i ∧ i < 400) (hl : 0 ≤ len ∧ len ≤ 8) : ∀ (G : Nat) (σ ρ : js_S) (j : Nat) (k L y4 : Int) (ux8 ux6 ux7 : js_v), 8200 ≤ G + j → J0 ≤ j → xs_R E b F B X σ ρ → xn_R b σ ρ j → rd_R σ ρ j → ρ 83 5 ≠ 41 → σ (8 + b) 10 ≤ 12 * ρ 83 10 → σ (23 + b) 15 ≤ 6 * ρ 83 10 → 4 * (65 - ρ 83 10) + 26 ≤ (d : Int) → 12 * (65 - ρ 83 10) + 26 ≤ (e : Int) → len ≤ k → k ≤ j → js_desc E.1 σ s = some (0, 11, js_sym) → σ s 6 = len → ρ 91 i = len → N ≤ ρ 83 33 → (0 ≤ L → N ≤ L) → -1 ≤ L → L < ρ 83 33 → xa_P E b N σ ρ (js_J E d 66 102 [(2, 23 + b), (2, s), (0, x2), (0, x3), (0, x4), (0, k), (0, 1), (0, k), ux8] [(2, 23 + b)] σ) (js_J E e 232 78 [(2, 83), (0, i), (0, y2), (0, k), (0, y4), (0, L), ux6, ux7] [] ρ)
  | 0, σ, ρ, j, k, L, y4, ux8, ux6, ux7, hG, _, _, _, hR, _, _, _, _, _, _, _, _, _, _, _, _, _, _ => by
    have := rd_j hR
    omega
  | G + 1, σ, ρ, j, k, L, y4, ux8, ux6, ux7, hG, hJ, hx, hn, hR, h41, ht, hp, hd, he, hk, hkj, hs, h6, h91, hN, hLN, hL0, hL1 => by
    have hj := rd_j hR
    have ok := hR.2.2.1
    have o9 := ok.2.2.1
    have D1 := hR.2.2.2.2.2
    have hnod := hn.2.2.2.2.1
    have hge := js_sym_ge hs
    have w5 : js_w (ρ 83 5) = ρ 83 5 := js_w_of (by have := ok.2.2.2.2.2.2.1; omega) (by have := ok.2.2.2.2.2.2.2.1; omega)
    rw [b_232_78, o9, if_pos (show js_w 0 = 0 from rfl), w5, if_neg h41, js_w_of (x := i) (by omega) (by omega), if_pos hi, h91, js_w_of (x := k) (by omega) (by omega), js_w_of (x := len) (by omega) (by omega), if_neg (show ¬ k < len by omega)]
    rcases hE (d - 1) (e - 1) σ ρ j hJ hx hn hR ht hp (by omega) (by omega) with ⟨σ1, ρ1, j1, n, l, er, ec, h1, _⟩ | ⟨ρ', v, er, hf⟩
    · have r1 := h1.1.1
      have hj1 := rd_j r1
      have q1 := h1.1.2.1
      have dp1 := h1.1.2.2.1
      have F01 := h1.1.2.2.2.1
      have G01 := h1.1.2.2.2.2.1
      have m1 := h1.1.2.2.2.2.2.1
      have y15 := h1.2.2.1.1.2.2.2
      have c10 := h1.2.2.1.2.1.1
      have c6 := h1.2.2.1.2.1.2.1
      have ll := xt_ln_0 l
      have hn1 := xn_next hn h1
      have hx1 := xs_R_ef hb hx F01 G01
      have nd := xt_nd_in h1.2.2.2.1 h1.2.2.2.2.1.1
      have nN := h1.2.2.2.2.2.2.2.2.1
      have s1 : ∀ q : Int, σ1 s q = σ s q := fun q => F01 _ _ (by unfold ef_D; omega)
      have hs1 : js_desc E.1 σ1 s = some (0, 11, js_sym) := js_desc_mono hs (by rw [F01 _ _ (by unfold ef_D; omega)]; exact Int.le_refl _) (fun _ => s1 _)
      have h61 : σ1 s 6 = len := by rw [s1]; exact h6
      have o91 : ρ1 83 9 = 0 := r1.2.2.1.2.2.1
      have G1 : eg_R N ρ ρ1 := eg_R_trans (eg_R_refl N ρ) G01 hN
      have G12 : eg_R N ρ1 (lk_S ρ1 L n) := eg_R_lk hLN
      have G02 : eg_R N ρ (lk_S ρ1 L n) := eg_R_trans G1 G12 (Int.le_refl _)
      have hx2 := xs_R_ef hb hx F01 G02
      have e91 : lk_S ρ1 L n 91 i = len := by rw [lk_o (by omega), G01 _ _ (by omega) (by omega)]; exact h91
      have e10 : lk_S ρ1 L n 83 10 = ρ 83 10 := by rw [lk_o (by omega), dp1]
      have e33 : lk_S ρ1 L n 83 33 = ρ1 83 33 := lk_o (by omega)
      rw [k_66_102 hb (by omega) ec, b_66_105 hs1 hb, h61, js_w_of (x := k) (by omega) (by omega), js_w_of (x := len) (by omega) (by omega), if_neg (show ¬ k < len by omega), b_66_134, if_pos (show (-1 : Int) < 0 by decide), k_232_142 (by omega) er, r_link o91 (by omega)]
      rcases y_sep (E := E) (d := d) (e := e) (N := N) (i := i) (k := k) (x1 := s) (x2 := x2) (x3 := x3) (x4 := x4) (x6 := 1) (x8 := -1) (y2 := y2) (y3 := k + 1) (y4 := if L < 0 then n else y4) (y5 := L) (y6 := i + 1 + k) (y7 := n) hb hx2 (rd_lk (L := L) (n := n) r1) (by omega) (by omega) hi (by omega) hs1 with ⟨q41, ec2, er2⟩ | ⟨σ3, ec2, er2, hR3, f3, q41⟩ | hf
      · rw [ec2, er2]
        exact xa_up F01 G02 (by omega) (by omega) (by omega) (y_count hb hx2 (rd_lk r1) (by omega) (by omega) hi (by omega) hl (by omega) q41 hs1 h61 e91)
      · rw [ec2, er2]
        have p3 : og_R (lk_S ρ1 L n) (rx_next (lk_S ρ1 L n)) := fun a i g => rx_next_o _ (by omega)
        have v : ∀ q : Int, σ3 (8 + b) q = σ1 (8 + b) q := fun q => f3 _ _ (by omega) (by omega)
        have v6 := v 6
        have v10 := v 10
        have v15 : σ3 (23 + b) 15 = σ1 (23 + b) 15 := f3 _ _ (by omega) (by omega)
        have u10 : rx_next (lk_S ρ1 L n) 83 10 = ρ 83 10 := by rw [rx_next_o _ (by omega), e10]
        have u33 : rx_next (lk_S ρ1 L n) 83 33 = ρ1 83 33 := by rw [rx_next_o _ (by omega), e33]
        have u44 : rx_next (lk_S ρ1 L n) 83 44 = ρ1 83 44 := by rw [rx_next_o _ (by omega), lk_o (by omega)]
        have F03 : ef_R b (σ (8 + b) 6) (σ (8 + b) 10) (σ (23 + b) 15) σ σ3 := ef_R_trans F01 (ef_R_tk f3)
        have G03 : eg_R N ρ (rx_next (lk_S ρ1 L n)) := eg_R_trans G02 (eg_R_og p3) (Int.le_refl _)
        have hx3 := xs_R_ef hb hx F03 G03
        have hn3 : xn_R b σ3 (rx_next (lk_S ρ1 L n)) (j1 + 1) := by
          have v7 := v 7
          have v11 := v 11
          have v12 := v 12
          unfold xn_R at hn1 ⊢
          push_cast
          omega
        have s3 : ∀ q : Int, σ3 s q = σ1 s q := fun q => f3 _ _ (by omega) (by omega)
        have hs3 : js_desc E.1 σ3 s = some (0, 11, js_sym) := js_desc_mono hs1 (by rw [f3 _ _ (by omega) (by omega)]; exact Int.le_refl _) (fun _ => s3 _)
        exact xa_up F03 G03 (by omega) (by omega) (by omega) (y_more hb hE hi hl G σ3 (rx_next (lk_S ρ1 L n)) (j1 + 1) (k + 1) n (if L < 0 then n else y4) (2, -1) (0, i + 1 + k) (0, n) (by omega) (by omega) hx3 hn3 hR3 q41 (by omega) (by omega) (by omega) (by omega) (by omega) (by push_cast; omega) hs3 (by rw [s3]; exact h61) (by rw [rx_next_o _ (by omega)]; exact e91) (by omega) (fun _ => by omega) (by omega) (by omega))
      · exact xa_up F01 G02 (by omega) (by omega) (by omega) hf
    · obtain ⟨hF, hg, σ', hc, hff⟩ := hf
      rw [kt_66_102 hb (by omega) hc, k_232_142 (by omega) er, r_232_145F hF]
      exact ⟨ρ', 0, rfl, hF, eg_R_trans (eg_R_refl N ρ) hg hN, σ', rfl, hff⟩
end QA
