/-! part 99.zh: min and max in step -/
def mm_f (x a b : Int) : Int := if x = 0 then max a b else min a b
def mm_o (x : Int) : Int := if x = 0 then 12 else 11
theorem mm_in {x a b c d : Int} (h1 : -2000000000 ≤ a ∧ a ≤ c ∧ c ≤ 2000000000) (h2 : -2000000000 ≤ b ∧ b ≤ d ∧ d ≤ 2000000000) : -2000000000 ≤ mm_f x a b ∧ mm_f x a b ≤ mm_f x c d ∧ mm_f x c d ≤ 2000000000 := by
  unfold mm_f
  split <;> omega
/-- the class's range of what was read last -/
def s3_S (σ : js_S) (b ty lo hi : Int) : js_S := js_up (js_up (js_up σ (23 + b) 0 ty) (23 + b) 1 lo) (23 + b) 2 hi
theorem s3_0 (σ : js_S) (b ty lo hi : Int) : s3_S σ b ty lo hi (23 + b) 0 = ty := by
  unfold s3_S
  rw [js_up_ni _ (by decide), js_up_ni _ (by decide), js_up_same]
theorem s3_1 (σ : js_S) (b ty lo hi : Int) : s3_S σ b ty lo hi (23 + b) 1 = lo := by
  unfold s3_S
  rw [js_up_ni _ (by decide), js_up_same]
theorem s3_2 (σ : js_S) (b ty lo hi : Int) : s3_S σ b ty lo hi (23 + b) 2 = hi := js_up_same _ _ _ _
theorem s3_o (σ : js_S) {b ty lo hi a i : Int} (h : ¬ (a = 23 + b ∧ 0 ≤ i ∧ i ≤ 2)) : s3_S σ b ty lo hi a i = σ a i := by
  unfold s3_S
  rw [js_up_ne _ (by omega), js_up_ne _ (by omega), js_up_ne _ (by omega)]
/-- the node made, the rest of the reference as before -/
def ns_S (ρ5 ρ7 : js_S) : js_S := fun a i => if a = 83 ∧ i ≠ 33 then ρ5 a i else ρ7 a i
theorem ns_1 {ρ5 ρ7 : js_S} {i : Int} (h : i ≠ 33) : ns_S ρ5 ρ7 83 i = ρ5 83 i := if_pos ⟨rfl, h⟩
theorem ns_2 {ρ5 ρ7 : js_S} {a i : Int} (h : ¬ (a = 83 ∧ i ≠ 33)) : ns_S ρ5 ρ7 a i = ρ7 a i := if_neg h
theorem ns_nw {ρ5 ρ6 ρ7 : js_S} {k ty lo hi a b c : Int} (og : og_R ρ5 ρ6) (hw : nw_R ρ6 ρ7 k ty lo hi a b c) : nw_R ρ5 (ns_S ρ5 ρ7) k ty lo hi a b c := by
  have u33 : ρ6 83 33 = ρ5 83 33 := og _ _ (by omega)
  obtain ⟨hw1, ⟨hw2, hw3, hw4, hw5⟩, hw6, hw7, hw8, hw9, hwO⟩ := hw
  rw [u33] at hw1 hw2 hw3 hw4 hw5 hw6 hw7 hw8 hw9
  refine ⟨by rw [ns_2 (by omega)]; exact hw1, ⟨by rw [ns_2 (by omega)]; exact hw2, by rw [ns_2 (by omega)]; exact hw3, by rw [ns_2 (by omega)]; exact hw4, by rw [ns_2 (by omega)]; exact hw5⟩, by rw [ns_2 (by omega)]; exact hw6, by rw [ns_2 (by omega)]; exact hw7, by rw [ns_2 (by omega)]; exact hw8, by rw [ns_2 (by omega)]; exact hw9, fun x i g1 g2 => ?_⟩
  by_cases q : x = 83
  · subst q
    rw [ns_1 (by omega)]
  · rw [ns_2 (by omega), hwO _ _ (by omega) (by rw [u33]; omega), og _ _ (by omega)]
theorem ns_eg {N : Int} {ρ5 ρ6 ρ7 : js_S} {k ty lo hi a b c : Int} (og : og_R ρ5 ρ6) (hw : nw_R ρ6 ρ7 k ty lo hi a b c) : eg_R N (ns_S ρ5 ρ7) ρ7 := fun x i g1 g2 => by
  by_cases q : x = 83
  · subst q
    rw [ns_1 (by omega), hw.2.2.2.2.2.2 _ _ (by omega) (by omega), og _ _ (by omega)]
  · rw [ns_2 (by omega)]
section OR
variable {E : js_E} {d e : Nat} {b F : Int} {B : Int → Int} {X : Int → Prop} {σ ρ : js_S} {j : Nat}
/-- a word and ( -/
theorem y_fopen (hb : b = 0 ∨ b = 25) (hx : xs_R E b F B X σ ρ) (hn : xn_R b σ ρ j) (hR : rd_R σ ρ j) (h5 : ρ 83 5 ≠ 1) (hd : 8 ≤ d) (he : 4 ≤ e) : ∃ (σ1 ρ1 ρ2 : js_S), js_J E d 33 0 [(2, 1), (9, 0)] [] σ = js_r0 E σ1 ∧ js_J E e 191 0 [(2, 83), (9, 0), (9, 0), (9, 0), (9, 0), (9, 0)] [] ρ = js_r0 E ρ1 ∧ js_J E e 207 0 [(2, 83), (0, 40)] [] ρ1 = js_r0 E ρ2 ∧ og_R ρ ρ2 ∧ ((∃ σ2 : js_S, js_J E d 47 0 [(2, 1), (0, 40)] [] σ1 = js_r0 E σ2 ∧ xs_R E b F B X σ2 ρ2 ∧ xn_R b σ2 ρ2 (j + 2) ∧ rd_R σ2 ρ2 (j + 2) ∧ of_R σ σ2 ∧ ρ 83 10 < 64 ∧ ρ2 83 10 = ρ 83 10 + 1) ∨ (rx_F ρ2 ∧ js_J E d 47 0 [(2, 1), (0, 40)] [] σ1 = th_P E σ1 (ρ2 83 9) ∧ of_R σ σ1)) := by
  have ok := hR.2.2.1
  have t40 : tk_m 40 = 40 := by decide
  obtain ⟨σ1, j1, c1, hR1, f1, _, hj1⟩ := y_next (E := E) (d := d) hR
  have hj1' := hj1 h5
  subst hj1'
  clear hj1
  have o1 : of_R σ σ1 := fun a i g1 g2 => f1 a i (by omega) g2
  have p1 : og_R ρ (rx_next ρ) := fun a i g => rx_next_o _ (by omega)
  have hx1 := xs_R_ef hb hx (ef_R_of (b := b) (n := 0) (t := 0) (p := 0) o1) (eg_R_og (N := 0) p1)
  have n10 : rx_next ρ 83 10 = ρ 83 10 := rx_next_o _ (by omega)
  obtain ⟨ρ2, e2, og2, hor2⟩ := y_open (E := E) (d := d) (e := e) (k := 40) hx1.1.2.2.1 hR1 (by omega) (by omega) (by unfold tk_V; omega) (by decide)
  rw [t40] at hor2
  have p2 : og_R ρ ρ2 := fun a i g => (og2 a i g).trans (p1 a i g)
  refine ⟨σ1, rx_next ρ, ρ2, c1, r_next' ok (by omega), e2, p2, ?_⟩
  rcases hor2 with ⟨σ2, j2, c2, hR2, f2, hj2, hD64, hD1⟩ | ⟨hF2, c2⟩
  · subst hj2
    have o2 : of_R σ σ2 := fun a i g1 g2 => (f2 a i g1 g2).trans (o1 a i g1 g2)
    have v : ∀ i : Int, σ2 (8 + b) i = σ (8 + b) i := fun i => o2 _ _ (by omega) (by omega)
    have n33 : ρ2 83 33 = ρ 83 33 := p2 _ _ (by omega)
    have n44 : ρ2 83 44 = ρ 83 44 := p2 _ _ (by omega)
    refine Or.inl ⟨σ2, c2, xs_R_ef hb hx (ef_R_of (b := b) (n := 0) (t := 0) (p := 0) o2) (eg_R_og (N := 0) p2), ?_, hR2, o2, by omega, by omega⟩
    have v15 : σ2 (23 + b) 15 = σ (23 + b) 15 := o2 _ _ (by omega) (by omega)
    have v6 := v 6
    have v7 := v 7
    have v10 := v 10
    have v11 := v 11
    have v12 := v 12
    unfold xn_R at hn ⊢
    push_cast
    omega
  · exact Or.inr ⟨hF2, c2, o1⟩
theorem c_ask_ok (hb : b = 0 ∨ b = 25) {p : Int} (h0 : σ (23 + b) 0 = 0) : js_J E d 81 0 [(2, 23 + b), (0, 0), (0, p)] [] σ = js_r0 E σ := by
  rw [b_81_0 hb, h0, if_pos (by decide), if_pos (by decide), b_81_20]
theorem c_ask_bad (hb : b = 0 ∨ b = 25) (hn : cx_n σ) (hd : 7 ≤ d) {t p : Int} (ht : 0 ≤ t ∧ t < 1000) (hs : 0 ≤ σ (23 + b) 0 ∧ σ (23 + b) 0 < 1000) (h : ¬ (t = 0 ∧ σ (23 + b) 0 = 0)) : js_J E d 81 0 [(2, 23 + b), (0, t), (0, p)] [] σ = th_P E σ (5 + 16 * p) := by
  have k : js_J E d 81 11 [(2, 23 + b), (0, t), (0, p)] [] σ = th_P E σ (5 + 16 * p) := by
    rw [b_81_11 hb, kt_81_17 (by omega) (c_fail hn (by omega))]
    rfl
  rw [b_81_0 hb, js_w_of (x := t) (by omega) (by omega), js_w_of (x := σ (23 + b) 0) (by omega) (by omega)]
  by_cases q : t = 0
  · rw [if_pos q, if_neg (fun hh => h ⟨q, hh⟩), k]
  · rw [if_neg q, k]
/-- the end of min, max in the class -/
theorem c_mm (hb : b = 0 ∨ b = 25) (hz : cz_R σ b) (h6 : σ (8 + b) 6 + 3 < 100000000) (hd : 6 ≤ d) (ht : 1 ≤ σ (8 + b) 10) (ht2 : σ (8 + b) 10 ≤ 1024) (hg : hg_R σ b) {x1 x2 x3 x4 x5 : Int} (hx1 : x1 = 0 ∨ x1 = 1) (h4 : -2000000000 ≤ x4 ∧ x4 ≤ 2000000000) (h5 : -2000000000 ≤ x5 ∧ x5 ≤ 2000000000) (hs1 : -2000000000 ≤ σ (23 + b) 1 ∧ σ (23 + b) 1 ≤ 2000000000) (hs2 : -2000000000 ≤ σ (23 + b) 2 ∧ σ (23 + b) 2 ≤ 2000000000) : ∃ σ8 : js_S, js_J E d 80 80 [(2, 23 + b), (0, x1), (0, x2), (0, x3), (0, x4), (0, x5)] [] σ = js_J E d 80 165 [(2, 23 + b), (0, x1), (0, x2), (0, x3), (0, x4), (0, x5)] [(0, 41), (2, 1)] σ8 ∧ cb_R b (s3_S σ b 0 (mm_f x1 x4 (σ (23 + b) 1)) (mm_f x1 x5 (σ (23 + b) 2))) σ8 (mm_o x1) (mm_f x1 x4 (σ (23 + b) 1)) (mm_f x1 x5 (σ (23 + b) 2)) := by
  have z : ∀ lo hi i : Int, s3_S σ b 0 lo hi (8 + b) i = σ (8 + b) i := fun lo hi i => s3_o _ (by omega)
  have k : ∀ op lo hi : Int, ∃ σ8 : js_S, js_J E (d - 1) 82 0 [(2, 8 + b), (0, op), (0, lo), (0, hi)] [] (s3_S σ b 0 lo hi) = js_r0 E σ8 ∧ cb_R b (s3_S σ b 0 lo hi) σ8 op lo hi := fun op lo hi => by
    refine c_combine hb ?_ ?_ (by omega) ?_ ?_ (fun s g1 g2 => ?_)
    · unfold cz_R
      rw [z, z]
      exact hz
    · rw [z]
      exact h6
    · rw [z]
      exact ht
    · rw [z]
      exact ht2
    · rw [s3_o _ (by omega)] at g2
      rw [s3_o _ (by omega)]
      exact hg s g1 g2
  have e75 : ∀ lo hi : Int, js_J E (d - 1) 75 0 [(2, 23 + b), (0, 0), (0, lo), (0, hi)] [] σ = js_r0 E (s3_S σ b 0 lo hi) := fun lo hi => b_75_0 hb
  rw [b_80_80 (by omega) hb]
  rcases hx1 with h | h
  · subst h
    obtain ⟨σ8, e8, c8⟩ := k 12 (max x4 (σ (23 + b) 1)) (max x5 (σ (23 + b) 2))
    refine ⟨σ8, ?_, c8⟩
    rw [if_pos (by decide), w_max (by omega) (by omega) (by omega) (by omega), w_max (by omega) (by omega) (by omega) (by omega), k_80_130 hb (by omega) (e75 _ _), b_80_133 hb, if_pos (by decide), b_80_148 hb, s3_1, s3_2, k_80_156 hb (by omega) e8, b_80_159 hb]
  · subst h
    obtain ⟨σ8, e8, c8⟩ := k 11 (min x4 (σ (23 + b) 1)) (min x5 (σ (23 + b) 2))
    refine ⟨σ8, ?_, c8⟩
    rw [if_neg (by decide), w_min (by omega) (by omega) (by omega) (by omega), w_min (by omega) (by omega) (by omega) (by omega), Int.min_comm (σ (23 + b) 1) x4, Int.min_comm (σ (23 + b) 2) x5, k_80_104 hb (by omega) (e75 _ _), b_80_107, b_80_133 hb, if_neg (by decide), b_80_148 hb, s3_1, s3_2, k_80_156 hb (by omega) e8, b_80_159 hb]
/-- the end of min, max in the reference -/
theorem r_mm (he : 5 ≤ e) (h9 : ρ 83 9 = 0) (n0 : 0 ≤ ρ 83 33) (n1 : ρ 83 33 < 66000) {x1 x2 x3 x4 : Int} (hx2 : x2 = 0 ∨ x2 = 1) (h3 : 0 ≤ x3 ∧ x3 < 66000) (h4 : 0 ≤ x4 ∧ x4 < 66000) (l3 : -2000000000 ≤ ρ 105 x3 ∧ ρ 105 x3 ≤ 2000000000) (l4 : -2000000000 ≤ ρ 105 x4 ∧ ρ 105 x4 ≤ 2000000000) (m3 : -2000000000 ≤ ρ 106 x3 ∧ ρ 106 x3 ≤ 2000000000) (m4 : -2000000000 ≤ ρ 106 x4 ∧ ρ 106 x4 ≤ 2000000000) : ∃ ρ' : js_S, js_J E e 227 86 [(2, 83), (0, x1), (0, x2), (0, x3), (0, x4), (9, 0), (9, 0), (9, 0), (9, 0)] [] ρ = js_r E (0, ρ 83 33) ρ' ∧ nw_R ρ ρ' 4 0 (mm_f x2 (ρ 105 x3) (ρ 105 x4)) (mm_f x2 (ρ 106 x3) (ρ 106 x4)) x3 x4 (mm_o x2) := by
  have w3 := js_w_of (x := x3) (by omega) (by omega)
  have w4 := js_w_of (x := x4) (by omega) (by omega)
  obtain ⟨ρ', e1, hw⟩ := r_node (E := E) (e := e - 1) (ρ := ρ) (k := 4) (ty := 0) (lo := mm_f x2 (ρ 105 x3) (ρ 105 x4)) (hi := mm_f x2 (ρ 106 x3) (ρ 106 x4)) (a := x3) (b := x4) (c := mm_o x2) h9 n0 n1 (by decide) (by decide)
  refine ⟨ρ', ?_, hw⟩
  clear hw
  rw [b_227_86 (by omega), h9, if_neg (show ¬ 0 < js_w 0 by decide), w3, w4]
  rcases hx2 with h | h
  · subst h
    have f : ∀ a b : Int, mm_f 0 a b = max a b := fun a b => rfl
    have o : mm_o 0 = 12 := rfl
    rw [f, f, o] at e1
    rw [if_pos (show js_w 0 = 0 by decide), if_pos h3, if_pos h4, w_max (x := ρ 105 x3) (y := ρ 105 x4) (by omega) (by omega) (by omega) (by omega), js_w_of (x := max (ρ 105 x3) (ρ 105 x4)) (by omega) (by omega), b_227_136 (by omega), w3, w4, if_pos (show js_w 0 = 0 by decide), if_pos h3, if_pos h4, w_max (x := ρ 106 x3) (y := ρ 106 x4) (by omega) (by omega) (by omega) (by omega), js_w_of (x := max (ρ 106 x3) (ρ 106 x4)) (by omega) (by omega), b_227_179, if_pos (show js_w 0 = 0 by decide), k_227_202 (by omega) e1, b_227_205]
  · subst h
    have f : ∀ a b : Int, mm_f 1 a b = min a b := fun a b => rfl
    have o : mm_o 1 = 11 := rfl
    rw [f, f, o] at e1
    rw [if_neg (show ¬ js_w 1 = 0 by decide), if_pos h3, if_pos h4, w_min (x := ρ 105 x4) (y := ρ 105 x3) (by omega) (by omega) (by omega) (by omega), Int.min_comm (ρ 105 x4) (ρ 105 x3), js_w_of (x := min (ρ 105 x3) (ρ 105 x4)) (by omega) (by omega), b_227_136 (by omega), w3, w4, if_neg (show ¬ js_w 1 = 0 by decide), if_pos h3, if_pos h4, w_min (x := ρ 106 x4) (y := ρ 106 x3) (by omega) (by omega) (by omega) (by omega), Int.min_comm (ρ 106 x4) (ρ 106 x3), js_w_of (x := min (ρ 106 x3) (ρ 106 x4)) (by omega) (by omega), b_227_179, if_neg (show ¬ js_w 1 = 0 by decide), k_227_202 (by omega) e1, b_227_205]
/- faults -/
theorem r_227_86F (h : rx_F ρ) (he : 5 ≤ e) {x1 x2 x3 x4 : Int} : js_J E e 227 86 [(2, 83), (0, x1), (0, x2), (0, x3), (0, x4), (9, 0), (9, 0), (9, 0), (9, 0)] [] ρ = js_r E (0, 0) ρ := by
  rw [b_227_86 (by omega), if_pos (rx_F_9 h)]
theorem r_227_80F (h : rx_F ρ) (he : 5 ≤ e) {x1 x2 x3 x4 : Int} : js_J E e 227 80 [(2, 83), (0, x1), (0, x2), (0, x3), (0, x4), (9, 0), (9, 0), (9, 0), (9, 0)] [] ρ = js_r E (0, 0) (js_up ρ 83 10 (ρ 83 10 - 1)) := by
  rw [b_227_80, k_227_83 (by omega) (r_leaveF h (by omega) (by decide) (by decide)), r_227_86F (rx_F_up h (by decide) (by decide)) he]
theorem r_227_46F (h : rx_F ρ) (he : 5 ≤ e) {x1 x2 x3 z : Int} : js_J E e 227 46 [(2, 83), (0, x1), (0, x2), (0, x3), (9, 0), (9, 0), (9, 0), (9, 0), (9, 0)] [(0, z)] ρ = js_r E (0, 0) (js_up ρ 83 10 (ρ 83 10 - 1)) := by
  rw [b_227_46, if_neg (show ¬ js_w (ρ 83 9) = 0 by have := rx_F_9 h; omega), r_227_80F h he]
theorem r_227_42F (h : rx_F ρ) (he : 9 ≤ e) {x1 x2 x3 : Int} : js_J E e 227 42 [(2, 83), (0, x1), (0, x2), (0, x3), (9, 0), (9, 0), (9, 0), (9, 0), (9, 0)] [] ρ = js_r E (0, 0) (js_up ρ 83 10 (ρ 83 10 - 1)) := by
  rw [b_227_42, k_227_43 (by omega) (r_termF h (by omega)), r_227_46F h (by omega)]
theorem r_227_35F (h : rx_F ρ) (he : 9 ≤ e) {x1 x2 z : Int} : js_J E e 227 35 [(2, 83), (0, x1), (0, x2), (9, 0), (9, 0), (9, 0), (9, 0), (9, 0), (9, 0)] [(0, z)] ρ = js_r E (0, 0) (js_up ρ 83 10 (ρ 83 10 - 1)) := by
  rw [b_227_35, k_227_39 (by omega) (r_takeF h (by omega) (by decide) (by decide)), r_227_42F h he]
theorem r_227_31F (h : rx_F ρ) (he : 9 ≤ e) {x1 x2 : Int} : js_J E e 227 31 [(2, 83), (0, x1), (0, x2), (9, 0), (9, 0), (9, 0), (9, 0), (9, 0), (9, 0)] [] ρ = js_r E (0, 0) (js_up ρ 83 10 (ρ 83 10 - 1)) := by
  rw [b_227_31, k_227_32 (by omega) (r_termF h (by omega)), r_227_35F h he]
end OR
