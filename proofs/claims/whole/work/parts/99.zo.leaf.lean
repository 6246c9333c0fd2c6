/-! part 99.zo: consts, members and cells in step -/
def vl_lo (ρ : js_S) (i : Int) : Int := if ρ 87 i = 0 then ρ 94 i else 0
def vl_hi (ρ : js_S) (i : Int) : Int := if ρ 87 i = 0 then ρ 94 i else if ρ 87 i = 1 then 1 else ρ 91 (ρ 87 i - 3) - 1
section OY
variable {E : js_E} {d e : Nat} {b F : Int} {B : Int → Int} {X : Int → Prop} {σ ρ : js_S} {j : Nat}
theorem vl_in {i : Int} (hx : xs_R E b F B X σ ρ) (hi : 0 ≤ i ∧ i < ρ 83 11) (nX : ¬ X i) (hv : -2000000000 ≤ ρ 94 i ∧ ρ 94 i ≤ 2000000000) (hk : ρ 86 i = 0 ∨ ρ 86 i = 9) : (-2000000000 ≤ vl_lo ρ i ∧ vl_lo ρ i ≤ vl_hi ρ i ∧ vl_hi ρ i ≤ 2000000000) ∧ ty_b (ρ 87 i) (vl_lo ρ i) (vl_hi ρ i) := by
  obtain ⟨g1, g2⟩ := (hx.2.2.1 i hi.1 hi.2 nX).2.1 hk
  unfold vl_lo vl_hi
  rcases g2 with h | h | ⟨h1, h2, h3, h4⟩
  · rw [if_pos h, if_pos h]
    exact ⟨⟨hv.1, Int.le_refl _, hv.2⟩, by omega, fun hh => by omega⟩
  · rw [if_neg (show ¬ ρ 87 i = 0 by omega), if_neg (show ¬ ρ 87 i = 0 by omega), if_pos h]
    exact ⟨⟨by decide, by decide, by decide⟩, by omega, fun hh => ⟨rfl, rfl⟩⟩
  · have k := hx.2.1.2.2 (ρ 87 i - 3) (by omega) h2 h4 h3
    rw [if_neg (show ¬ ρ 87 i = 0 by omega), if_neg (show ¬ ρ 87 i = 0 by omega), if_neg (show ¬ ρ 87 i = 1 by omega)]
    exact ⟨⟨by decide, by omega, by omega⟩, by omega, fun hh => by omega⟩
/-- highOf in the class -/
theorem c_high {i : Int} (hb : b = 0 ∨ b = 25) (hx : xs_R E b F B X σ ρ) (hi : 0 ≤ i ∧ i < ρ 83 11) (nX : ¬ X i) (ht : 0 ≤ ρ 87 i ∧ ρ 87 i < 1000) (hk : ρ 86 i = 0 ∨ ρ 86 i = 9) : js_J E d 58 0 [(2, 7 + b), (0, ρ 87 i), (0, ρ 94 i), (9, 0)] [] σ = js_r E (0, vl_hi ρ i) σ := by
  obtain ⟨g1, g2⟩ := (hx.2.2.1 i hi.1 hi.2 nX).2.1 hk
  have h400 := hx.1.1.2.1
  rw [b_58_0 hb, js_w_of (x := ρ 87 i) (by omega) (by omega), js_w_of (x := ρ 87 i - 3) (by omega) (by omega)]
  unfold vl_hi
  rcases g2 with h | h | ⟨h1, h2, h3, h4⟩
  · rw [if_pos h, if_pos h]
  · rw [if_neg (show ¬ ρ 87 i = 0 by omega), if_pos (show ρ 87 i - 3 < 0 by omega), if_neg (show ¬ ρ 87 i = 0 by omega), if_pos h]
  · have k := hx.2.1.2.2 (ρ 87 i - 3) (by omega) h2 h4 h3
    have hsym := (hx.1.2.2.2.2.2.1 (ρ 87 i - 3) (by omega) h2).1
    have hge := js_sym_ge hsym
    have hf := hx.1.2.2.2.2.2.2 (ρ 87 i - 3) (by omega) h2 h4
    rw [if_neg (show ¬ ρ 87 i = 0 by omega), if_neg (show ¬ ρ 87 i - 3 < 0 by omega), hx.1.2.2.2.2.1, js_w_of (x := ρ 83 11) (by omega) (by omega), if_pos h2, if_pos (show 0 ≤ ρ 87 i - 3 ∧ ρ 87 i - 3 < 400 by omega), if_neg (show ¬ σ (19 + b) (ρ 87 i - 3) < 0 by omega), b_58_31 hb, js_w_of (x := ρ 87 i - 3) (by omega) (by omega), if_pos (show 0 ≤ ρ 87 i - 3 ∧ ρ 87 i - 3 < 400 by omega), b_58_37 hsym, hf.2.2.2.1, if_neg (show ¬ ρ 87 i = 0 by omega), if_neg (show ¬ ρ 87 i = 1 by omega), k.2.1]
/-- a const or a member -/
theorem y_nm_val {σ1 : js_S} {i c : Int} (hp : σ (23 + b) 15 ≤ 6 * ρ 83 10 + 5) (hb : b = 0 ∨ b = 25) (hx : xs_R E b F B X σ ρ) (hn : xn_R b σ ρ j) (hR : rd_R σ ρ j) (hnm : nm_R E b X σ1 ρ i) (hR1 : rd_R σ1 (rx_next ρ) (j + 1)) (f1 : tk_fr σ σ1) (hk : ρ 86 i = 0 ∨ ρ 86 i = 9) (hd : 9 ≤ d) (he : 4 ≤ e) : xo_P E b F B σ ρ j (js_J E d 64 56 [(2, 23 + b), (0, ρ 83 6), (2, σ1 (19 + b) i)] [] σ1) (js_J E e 230 123 [(2, 83), (0, i), (0, c), (9, 0)] [(2, 83)] ρ) := by
  obtain ⟨⟨i0, i1, i2⟩, nX, hvis, k8, ⟨k0, k9, t0, t1, v0, v1⟩, hsym, hf⟩ := hnm
  have ok := hR.2.2.1
  have hj := rd_j hR1
  have hnod := hn.2.2.2.2.1
  have hz := xn_cz hn hR
  have g := (hx.2.2.1 i i0 i1 nX).2.1 hk
  have F01 : ∀ n t p : Int, ef_R b n t p σ σ1 := fun n t p => ef_R_tk f1
  have hx1 := xs_R_ef hb hx (F01 0 0 0) (eg_R_tf (N := 0) (fun _ _ _ => rfl) : eg_R 0 ρ ρ)
  have w : ∀ k : Int, σ1 (8 + b) k = σ (8 + b) k := fun k => f1 _ _ (by omega) (by omega)
  have w3 : ∀ ty lo hi k : Int, s3_S σ1 b ty lo hi (8 + b) k = σ (8 + b) k := fun ty lo hi k => by rw [s3_o _ (by omega), w]
  have vi := vl_in hx ⟨i0, i1⟩ nX ⟨v0, v1⟩ hk
  have hge := js_sym_ge hsym
  obtain ⟨σ3, e3, c3⟩ := c_set (E := E) (d := d - 1) (σ := s3_S σ1 b (ρ 87 i) (vl_lo ρ i) (vl_hi ρ i)) (op := 0) (x := ρ 94 i) (lo := vl_lo ρ i) (hi := vl_hi ρ i) hb (by unfold cz_R; rw [w3, w3]; exact hz) (by omega)
  have e75 : js_J E (d - 1) 75 0 [(2, 23 + b), (0, ρ 87 i), (0, vl_lo ρ i), (0, vl_hi ρ i)] [] σ1 = js_r0 E (s3_S σ1 b (ρ 87 i) (vl_lo ρ i) (vl_hi ρ i)) := b_75_0 hb
  have hs3 : js_desc E.1 (s3_S σ1 b (ρ 87 i) (vl_lo ρ i) (vl_hi ρ i)) (σ1 (19 + b) i) = some (0, 11, js_sym) := by
    have k := xs_R_ef hb hx1 (fun a i g => s3_o _ (fun hh => g (ef_D23 ⟨hh.1, by omega⟩)) : ef_R b 0 0 0 σ1 (s3_S σ1 b (ρ 87 i) (vl_lo ρ i) (vl_hi ρ i))) (eg_R_tf (N := 0) (fun _ _ _ => rfl) : eg_R 0 ρ ρ)
    have := (k.1.2.2.2.2.2.1 i i0 i1).1
    rw [s3_o _ (by omega)] at this
    exact this
  have s8 : s3_S σ1 b (ρ 87 i) (vl_lo ρ i) (vl_hi ρ i) (σ1 (19 + b) i) 8 = ρ 94 i := by rw [s3_o _ (by omega)]; exact hf.2.2.2.2.2.2.1
  have cls : js_J E d 64 56 [(2, 23 + b), (0, ρ 83 6), (2, σ1 (19 + b) i)] [] σ1 = js_r0 E σ3 := by
    have lo : js_J E d 64 145 [(2, 23 + b), (0, ρ 83 6), (2, σ1 (19 + b) i)] [] σ1 = js_J E d 64 165 [(2, 23 + b), (0, ρ 83 6), (2, σ1 (19 + b) i)] [(0, vl_lo ρ i), (0, ρ 87 i), (2, 23 + b)] σ1 := by
      rw [b_64_145 hsym, hf.2.1, hf.2.2.2.2.2.2.1, js_w_of (x := ρ 87 i) (by omega) (by omega)]
      unfold vl_lo
      by_cases q : ρ 87 i = 0
      · rw [if_pos q, if_pos q]
      · rw [if_neg q, if_neg q]
    have rest : js_J E d 64 145 [(2, 23 + b), (0, ρ 83 6), (2, σ1 (19 + b) i)] [] σ1 = js_r0 E σ3 := by
      rw [lo, b_64_165 hb hsym, hf.2.1, hf.2.2.2.2.2.2.1, k_64_177 hb (by omega) (c_high hb hx1 ⟨i0, i1⟩ nX ⟨t0, t1⟩ hk), k_64_180 hb (by omega) e75, b_64_183 hb hs3, s8, s3_1, s3_2, k_64_200 hb (by omega) e3, b_64_203, b_64_238]
    rw [b_64_56 hsym hb, hf.1, js_w_of (x := ρ 86 i) (by omega) (by omega), if_neg (show ¬ ρ 86 i = 4 by omega), hf.2.2.2.2.2.2.2.2, g.1, if_pos (show js_w 0 = 0 by decide)]
    rcases hk with q | q
    · rw [if_pos q, rest]
    · rw [if_neg (show ¬ ρ 86 i = 0 by omega), if_pos q, rest]
  have tz := tf_R_next ρ
  have u : ∀ a k : Int, 86 ≤ a → rx_next ρ a k = ρ a k := fun a k h => rx_next_o _ (by omega)
  have u33 : rx_next ρ 83 33 = ρ 83 33 := rx_next_o _ (by omega)
  have u9 : rx_next ρ 83 9 = 0 := hR1.2.2.1.2.2.1
  obtain ⟨ρ3, er3, hw⟩ := r_node (E := E) (e := e - 1) (ρ := rx_next ρ) (k := 1) (ty := ρ 87 i) (lo := vl_lo ρ i) (hi := vl_hi ρ i) (a := ρ 94 i) (b := 0) (c := 0) u9 (by omega) (by omega) (by decide) (by decide)
  have ref : js_J E e 230 123 [(2, 83), (0, i), (0, c), (9, 0)] [(2, 83)] ρ = js_r E (0, ρ 83 33) ρ3 := by
    have wi := js_w_of (x := i) (by omega) (by omega)
    have w7 := js_w_of (x := ρ 87 i) (by omega) (by omega)
    have w73 := js_w_of (x := ρ 87 i - 3) (by omega) (by omega)
    have w4 := js_w_of (x := ρ 94 i) (by omega) (by omega)
    have hh : 0 ≤ i ∧ i < 400 := ⟨i0, i2⟩
    have w1 : js_w 1 = 1 := by decide
    have w0 : js_w 0 = 0 := by decide
    have fin : ∀ x3 : Int, js_J E e 230 228 [(2, 83), (0, i), (0, c), (0, x3)] [(1, vl_hi ρ i), (1, vl_lo ρ i), (0, ρ 87 i), (0, 1), (2, 83)] (rx_next ρ) = js_r E (0, ρ 83 33) ρ3 := fun x3 => by
      rw [b_230_228, wi, if_pos hh, u 94 i (by decide), k_230_236 (by omega) er3, b_230_239, u33]
    have mid : js_J E e 230 146 [(2, 83), (0, i), (0, c), (9, 0)] [] (rx_next ρ) = js_r E (0, ρ 83 33) ρ3 := by
      rw [b_230_146, wi, if_pos hh, u 87 i (by decide), w7]
      rcases g.2 with h | h | ⟨h1, h2, h3, h4⟩
      · have l : ρ 94 i = vl_lo ρ i := by unfold vl_lo; rw [if_pos h]
        have h' : ρ 94 i = vl_hi ρ i := by unfold vl_hi; rw [if_pos h]
        rw [if_pos h, b_230_160, wi, if_pos hh, w1, if_neg (by decide), u 87 i (by decide), u 94 i (by decide), w4, b_230_184, w1, if_neg (by decide), wi, if_pos hh, u 94 i (by decide), w4]
        have := fin 1
        rw [← l, ← h'] at this
        exact this
      · have l : vl_lo ρ i = 0 := by unfold vl_lo; rw [if_neg (by omega)]
        have h' : vl_hi ρ i = 1 := by unfold vl_hi; rw [if_neg (by omega), if_pos h]
        rw [if_neg (show ¬ ρ 87 i = 0 by omega), b_230_160, wi, if_pos hh, w0, if_pos rfl, u 87 i (by decide), b_230_184, w0, if_pos rfl, wi, if_pos hh, u 87 i (by decide), w7, if_pos h]
        have := fin 0
        rw [l, h'] at this
        exact this
      · have k := hx.2.1.2.2 (ρ 87 i - 3) (by omega) h2 h4 h3
        have h400 := hx.1.1.2.1
        have l : vl_lo ρ i = 0 := by unfold vl_lo; rw [if_neg (by omega)]
        have h' : vl_hi ρ i = ρ 91 (ρ 87 i - 3) - 1 := by unfold vl_hi; rw [if_neg (by omega), if_neg (by omega)]
        rw [if_neg (show ¬ ρ 87 i = 0 by omega), b_230_160, wi, if_pos hh, w0, if_pos rfl, u 87 i (by decide), b_230_184, w0, if_pos rfl, wi, if_pos hh, u 87 i (by decide), w7, if_neg (show ¬ ρ 87 i = 1 by omega), w73, if_pos (show 0 ≤ ρ 87 i - 3 ∧ ρ 87 i - 3 < 400 by omega), u 91 _ (by decide), js_w_of (x := ρ 91 (ρ 87 i - 3) - 1) (by omega) (by omega)]
        have := fin 0
        rw [l, h'] at this
        exact this
    rw [k_230_123 (by omega) (r_next' ok (by omega)), b_230_126, wi, if_pos hh, u 86 i (by decide), js_w_of (x := ρ 86 i) (by omega) (by omega)]
    rcases hk with q | q
    · rw [if_pos q, mid]
    · rw [if_neg (show ¬ ρ 86 i = 0 by omega), if_pos q, mid]
  have kO := c3.2.2.2
  have hwO := hw.2.2.2.2.2.2
  obtain ⟨hw1, ⟨hw2, hw3, hw4, hw5⟩, hw6, _, _, hw9, _⟩ := hw
  rw [u33] at hw1 hw2 hw3 hw4 hw5 hw6 hw9
  refine Or.inl ⟨σ3, ρ3, j + 1, ρ 83 33, tr_n 1 (ρ 87 i) (vl_lo ρ i) (vl_hi ρ i) (ρ 94 i) 0 0 .leaf .leaf, ref, cls, ?_⟩
  refine xr_leaf1 (E := E) (X := X) hn (rd_R_of hR1 (fun k _ => by rw [kO _ _ (by omega) (by omega), s3_o _ (by omega)]) (fun a k _ _ => by rw [kO _ _ (by omega) (by omega), s3_o _ (by omega)]) (fun k _ _ => hwO _ _ (by omega) (by omega)) (fun k => hwO _ _ (by omega) (by omega))) (by omega) ?_ ?_ ?_ ⟨hw1, hw2, hw3, hw4, hw5, hw6⟩ ?_ ⟨?_, ?_, ?_, ?_⟩ ?_ ?_ ?_ ?_ ?_ (fun hs => ?_) ⟨t0, t1, vi.1.1, vi.1.2.1, vi.1.2.2⟩ vi.2 hw9 (by unfold zz_b; have := hR.2.2.2.2.2; omega)
  · rw [hwO _ _ (by omega) (by omega), rx_next_o _ (by omega)]
  · exact ef_R_trans (F01 _ _ _) (ef_R_trans (fun a k g => s3_o _ (fun hh => g (ef_D23 ⟨hh.1, by omega⟩))) (ef_R_em c3 (by rw [w3]; exact Int.le_refl _)))
  · exact eg_R_trans (eg_R_tf tz) (fun a k g1 g2 => hwO a k (by omega) (by rw [u33]; omega)) (Int.le_refl (ρ 83 33))
  · rw [hwO _ _ (by omega) (by omega), rx_next_o _ (by omega)]
  · rw [kO _ _ (by omega) (by omega), s3_0]
  · rw [kO _ _ (by omega) (by omega), s3_1]
  · rw [kO _ _ (by omega) (by omega), s3_2]
  · rw [kO _ _ (by omega) (by omega), s3_o _ (by omega), f1 _ _ (by omega) (by omega)]
  · rw [c3.1, w3]
  · rw [c3.2.1, w3]
  · rw [kO _ _ (by omega) (by omega), w3]
  · rw [kO _ _ (by omega) (by omega), w3]
  · rw [kO _ _ (by omega) (by omega), w3]
  · have k := em_ci0 (u := σ (8 + b) 8) c3 (by rw [w3]; exact hs)
    rw [w3] at k
    exact k
/-- in, out, state, var, parameter, for: no row -/
theorem y_nm_cell {σ1 : js_S} {i c : Int} (hp : σ (23 + b) 15 ≤ 6 * ρ 83 10 + 5) (hb : b = 0 ∨ b = 25) (hx : xs_R E b F B X σ ρ) (hn : xn_R b σ ρ j) (hR : rd_R σ ρ j) (hnm : nm_R E b X σ1 ρ i) (hR1 : rd_R σ1 (rx_next ρ) (j + 1)) (f1 : tk_fr σ σ1) (hk : 1 ≤ ρ 86 i ∧ ρ 86 i ≤ 3 ∨ 5 ≤ ρ 86 i ∧ ρ 86 i ≤ 7) (h92 : ρ 92 i = 0) (hd : 9 ≤ d) (he : 4 ≤ e) : xo_P E b F B σ ρ j (js_J E d 64 56 [(2, 23 + b), (0, ρ 83 6), (2, σ1 (19 + b) i)] [] σ1) (js_J E e 230 123 [(2, 83), (0, i), (0, c), (9, 0)] [(2, 83)] ρ) := by
  obtain ⟨⟨i0, i1, i2⟩, nX, hvis, k8, ⟨k0, k9, t0, t1, v0, v1⟩, hsym, hf⟩ := hnm
  have ok := hR.2.2.1
  have hj := rd_j hR1
  have hnod := hn.2.2.2.2.1
  have hz := xn_cz hn hR
  have gs := hx.2.2.1 i i0 i1 nX
  have g := gs.2.2.1 hk
  have g93 : 5 ≤ ρ 86 i ∧ ρ 86 i ≤ 7 → ρ 93 i = F := fun h => (gs.2.2.2.1 h hvis).trans hx.2.2.2.2.2.1
  clear gs
  have F01 : ∀ n t p : Int, ef_R b n t p σ σ1 := fun n t p => ef_R_tk f1
  have hx1 := xs_R_ef hb hx (F01 0 0 0) (eg_R_tf (N := 0) (fun _ _ _ => rfl) : eg_R 0 ρ ρ)
  have w : ∀ k : Int, σ1 (8 + b) k = σ (8 + b) k := fun k => f1 _ _ (by omega) (by omega)
  have w3 : ∀ ty lo hi k : Int, s3_S σ1 b ty lo hi (8 + b) k = σ (8 + b) k := fun ty lo hi k => by rw [s3_o _ (by omega), w]
  have hge := js_sym_ge hsym
  have hx3 := xs_R_ef hb hx1 (fun a i g => s3_o _ (fun hh => g (ef_D23 ⟨hh.1, by omega⟩)) : ef_R b 0 0 0 σ1 (s3_S σ1 b (ρ 87 i) (ρ 88 i) (ρ 89 i))) (eg_R_tf (N := 0) (fun _ _ _ => rfl) : eg_R 0 ρ ρ)
  have e19 : s3_S σ1 b (ρ 87 i) (ρ 88 i) (ρ 89 i) (19 + b) i = σ1 (19 + b) i := s3_o _ (by omega)
  have hs3 := (hx3.1.2.2.2.2.2.1 i i0 i1).1
  have hu := hx3.2.2.2.1 i i0 i1
  have e71 : s3_S σ1 b (ρ 87 i) (ρ 88 i) (ρ 89 i) (7 + b) 1 = ρ 83 11 := hx3.1.2.2.2.2.1
  obtain ⟨σ3, e3, c3⟩ := c_load (E := E) (d := d - 1) (σ := s3_S σ1 b (ρ 87 i) (ρ 88 i) (ρ 89 i)) (x := s3_S σ1 b (ρ 87 i) (ρ 88 i) (ρ 89 i) (19 + b) i) (lo := ρ 88 i) (hi := ρ 89 i) hb (by unfold cz_R; rw [w3, w3]; exact hz) (by omega) hs3 hu.1 hu.2.1
  have e75 : js_J E (d - 1) 75 0 [(2, 23 + b), (0, ρ 87 i), (0, ρ 88 i), (0, ρ 89 i)] [] σ1 = js_r0 E (s3_S σ1 b (ρ 87 i) (ρ 88 i) (ρ 89 i)) := b_75_0 hb
  have cls : js_J E d 64 56 [(2, 23 + b), (0, ρ 83 6), (2, σ1 (19 + b) i)] [] σ1 = js_r0 E σ3 := by
    rw [b_64_56 hsym hb, hf.1, js_w_of (x := ρ 86 i) (by omega) (by omega), if_neg (show ¬ ρ 86 i = 4 by omega), hf.2.2.2.2.2.2.2.2, h92, if_pos (show js_w 0 = 0 by decide), if_neg (show ¬ ρ 86 i = 0 by omega), if_neg (show ¬ ρ 86 i = 9 by omega), hf.2.1, hf.2.2.1, hf.2.2.2.1, k_64_219 hb (by omega) e75, b_64_222 hb, s3_1, s3_2]
    rw [e19] at e3
    rw [k_64_235 hb (by omega) e3, b_64_238]
  have tz := tf_R_next ρ
  have u : ∀ a k : Int, 86 ≤ a → rx_next ρ a k = ρ a k := fun a k h => rx_next_o _ (by omega)
  have u33 : rx_next ρ 83 33 = ρ 83 33 := rx_next_o _ (by omega)
  have u9 : rx_next ρ 83 9 = 0 := hR1.2.2.1.2.2.1
  obtain ⟨ρ3, er3, hw⟩ := r_node (E := E) (e := e - 1) (ρ := rx_next ρ) (k := 2) (ty := ρ 87 i) (lo := ρ 88 i) (hi := ρ 89 i) (a := i) (b := 0) (c := 0) u9 (by omega) (by omega) (by decide) (by decide)
  have ref : js_J E e 230 123 [(2, 83), (0, i), (0, c), (9, 0)] [(2, 83)] ρ = js_r E (0, ρ 83 33) ρ3 := by
    rw [k_230_123 (by omega) (r_next' ok (by omega)), b_230_126, js_w_of (x := i) (by omega) (by omega), if_pos (show 0 ≤ i ∧ i < 400 from ⟨i0, i2⟩), u 86 i (by decide), js_w_of (x := ρ 86 i) (by omega) (by omega), if_neg (show ¬ ρ 86 i = 0 by omega), if_neg (show ¬ ρ 86 i = 9 by omega), u 92 i (by decide), h92, if_pos (show js_w 0 = 0 by decide), u 87 i (by decide), u 88 i (by decide), u 89 i (by decide), js_w_of (x := ρ 88 i) (by omega) (by omega), js_w_of (x := ρ 89 i) (by omega) (by omega), k_230_274 (by omega) er3, b_230_277, u33]
  have kO := c3.2.2.2
  have hwO := hw.2.2.2.2.2.2
  obtain ⟨hw1, ⟨hw2, hw3, hw4, hw5⟩, hw6, _, _, hw9, _⟩ := hw
  rw [u33] at hw1 hw2 hw3 hw4 hw5 hw6 hw9
  have hv : sv_P ρ3 F i := by
    have z : ∀ a k : Int, 86 ≤ a → a < 100 → ρ3 a k = ρ a k := fun a k h1 h2 => by rw [hwO _ _ (by omega) (by omega), u _ _ h1]
    refine ⟨i0, ?_, ?_⟩
    · rw [hwO _ _ (by omega) (by omega), rx_next_o _ (by omega)]
      exact i1
    · rw [z _ _ (by decide) (by decide), z _ _ (by decide) (by decide)]
      rcases hk with h | h
      · exact Or.inl h
      · exact Or.inr ⟨h.1, h.2, g93 h⟩
  refine Or.inl ⟨σ3, ρ3, j + 1, ρ 83 33, tr_n 2 (ρ 87 i) (ρ 88 i) (ρ 89 i) i 0 0 .leaf .leaf, ref, cls, ?_⟩
  refine xr_leaf2 (E := E) (X := X) hn (rd_R_of hR1 (fun k _ => by rw [kO _ _ (by omega) (by omega), s3_o _ (by omega)]) (fun a k _ _ => by rw [kO _ _ (by omega) (by omega), s3_o _ (by omega)]) (fun k _ _ => hwO _ _ (by omega) (by omega)) (fun k => hwO _ _ (by omega) (by omega))) (by omega) ?_ ?_ ?_ ⟨hw1, hw2, hw3, hw4, hw5, hw6⟩ ?_ ⟨?_, ?_, ?_, ?_⟩ ?_ ?_ ?_ ?_ ?_ (fun hs => ?_) hv ⟨t0, t1, g.2.2.1, g.2.2.2.1, g.2.2.2.2.1⟩ g.2.2.2.2.2 hw9 (by unfold zz_b; have := hR.2.2.2.2.2; omega)
  · rw [hwO _ _ (by omega) (by omega), rx_next_o _ (by omega)]
  · exact ef_R_trans (F01 _ _ _) (ef_R_trans (fun a k g => s3_o _ (fun hh => g (ef_D23 ⟨hh.1, by omega⟩))) (ef_R_em c3 (by rw [w3]; exact Int.le_refl _)))
  · exact eg_R_trans (eg_R_tf tz) (fun a k g1 g2 => hwO a k (by omega) (by rw [u33]; omega)) (Int.le_refl (ρ 83 33))
  · rw [hwO _ _ (by omega) (by omega), rx_next_o _ (by omega)]
  · rw [kO _ _ (by omega) (by omega), s3_0]
  · rw [kO _ _ (by omega) (by omega), s3_1]
  · rw [kO _ _ (by omega) (by omega), s3_2]
  · rw [kO _ _ (by omega) (by omega), s3_o _ (by omega), f1 _ _ (by omega) (by omega)]
  · rw [c3.1, w3]
  · rw [c3.2.1, w3]
  · rw [kO _ _ (by omega) (by omega), w3]
  · rw [kO _ _ (by omega) (by omega), w3]
  · rw [kO _ _ (by omega) (by omega), w3]
  · have c3' := c3
    rw [show s3_S σ1 b (ρ 87 i) (ρ 88 i) (ρ 89 i) (s3_S σ1 b (ρ 87 i) (ρ 88 i) (ρ 89 i) (19 + b) i) 5 = s3_S σ1 b (ρ 87 i) (ρ 88 i) (ρ 89 i) (s3_S σ1 b (ρ 87 i) (ρ 88 i) (ρ 89 i) (19 + b) i) 5 + 0 from (Int.add_zero _).symm] at c3'
    have k := em_ci1 (u := σ (8 + b) 8) (x := i) (y := 0) hb c3' (by rw [w3]; exact hs) i0 (by rw [e71]; exact i1) (by rw [e19]; exact hge)
    rw [w3] at k
    exact k
end OY
