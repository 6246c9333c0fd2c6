/-! part 99.zj: abs in step -/
def ab_lo (lo hi : Int) : Int := if 0 < lo then lo else if hi < 0 then -hi else 0
def ab_hi (lo hi : Int) : Int := max (max lo (-lo)) (max hi (-hi))
theorem ab_in {lo hi : Int} (h : -2000000000 ≤ lo ∧ lo ≤ hi ∧ hi ≤ 2000000000) : -2000000000 ≤ ab_lo lo hi ∧ ab_lo lo hi ≤ ab_hi lo hi ∧ ab_hi lo hi ≤ 2000000000 := by
  unfold ab_lo ab_hi
  repeat' split
  all_goals omega
theorem w_abs {x : Int} (h1 : -2000000000 ≤ x) (h2 : x ≤ 2000000000) : (if js_w x < 0 then -x else x) = max x (-x) := by
  rw [js_w_of (x := x) (by omega) (by omega)]
  split <;> omega
theorem w_absl {x : Int} (h1 : -2000000000 ≤ x) (h2 : x ≤ 2000000000) : (if 0 < js_l x then x else -x) = max x (-x) := by
  rw [js_l_of (x := x) (by omega) (by omega)]
  split <;> omega
/-- fewer tokens read before -/
theorem xr_lower {b F z : Int} {B : Int → Int} {σ ρ σ' ρ' : js_S} {j j0 j' : Nat} {n : Int} {e : tr_T} (h : xz_R z b F B σ ρ j σ' ρ' j' n e) (hj : j0 ≤ j) : xz_R z b F B σ ρ j0 σ' ρ' j' n e := by
  obtain ⟨⟨a1, a2, a3, a4, a5, a6, a7⟩, hL, hC, ⟨t1, t2, ⟨t3, t4⟩, t5⟩⟩ := h
  exact ⟨⟨a1, by omega, a3, a4, a5, a6, by omega⟩, hL, hC, ⟨t1, t2, ⟨by omega, t4⟩, t5⟩⟩
section OT
variable {E : js_E} {d e : Nat} {b F : Int} {B : Int → Int} {X : Int → Prop} {σ ρ : js_S} {j : Nat}
theorem c_abs (hb : b = 0 ∨ b = 25) (hd : 6 ≤ d) {x1 : Int} (h : -2000000000 ≤ σ (23 + b) 1 ∧ σ (23 + b) 1 ≤ σ (23 + b) 2 ∧ σ (23 + b) 2 ≤ 2000000000) : ∃ x2 : Int, js_J E d 83 37 [(2, 23 + b), (0, x1), (9, 0), (9, 0)] [] σ = js_J E d 83 121 [(2, 23 + b), (0, x1), (0, x2), (0, ab_lo (σ (23 + b) 1) (σ (23 + b) 2))] [(0, ab_hi (σ (23 + b) 1) (σ (23 + b) 2)), (0, ab_lo (σ (23 + b) 1) (σ (23 + b) 2)), (0, 0), (0, 20), (2, 8 + b)] (s3_S σ b 0 (ab_lo (σ (23 + b) 1) (σ (23 + b) 2)) (ab_hi (σ (23 + b) 1) (σ (23 + b) 2))) := by
  have e75 : ∀ lo hi : Int, js_J E (d - 1) 75 0 [(2, 23 + b), (0, 0), (0, lo), (0, hi)] [] σ = js_r0 E (s3_S σ b 0 lo hi) := fun lo hi => b_75_0 hb
  have a1 := w_abs (x := σ (23 + b) 1) h.1 (by omega)
  have a2 := w_abs (x := σ (23 + b) 2) (by omega) h.2.2
  have w1 := js_w_of (x := σ (23 + b) 1) (by omega) (by omega)
  have w2 := js_w_of (x := σ (23 + b) 2) (by omega) (by omega)
  have mn := w_min (x := max (σ (23 + b) 2) (-(σ (23 + b) 2))) (y := max (σ (23 + b) 1) (-(σ (23 + b) 1))) (by omega) (by omega) (by omega) (by omega)
  have mx : (if js_w (max (σ (23 + b) 1) (-(σ (23 + b) 1))) < js_w (max (σ (23 + b) 2) (-(σ (23 + b) 2))) then max (σ (23 + b) 2) (-(σ (23 + b) 2)) else max (σ (23 + b) 1) (-(σ (23 + b) 1))) = ab_hi (σ (23 + b) 1) (σ (23 + b) 2) := w_max (by omega) (by omega) (by omega) (by omega)
  have k : ∀ x2 : Int, js_J E d 83 82 [(2, 23 + b), (0, x1), (0, x2), (9, 0)] [(0, ab_lo (σ (23 + b) 1) (σ (23 + b) 2))] σ = js_J E d 83 121 [(2, 23 + b), (0, x1), (0, x2), (0, ab_lo (σ (23 + b) 1) (σ (23 + b) 2))] [(0, ab_hi (σ (23 + b) 1) (σ (23 + b) 2)), (0, ab_lo (σ (23 + b) 1) (σ (23 + b) 2)), (0, 0), (0, 20), (2, 8 + b)] (s3_S σ b 0 (ab_lo (σ (23 + b) 1) (σ (23 + b) 2)) (ab_hi (σ (23 + b) 1) (σ (23 + b) 2))) := fun x2 => by
    rw [b_83_82 (by omega) hb, a1, a2, mx, k_83_103 hb (by omega) (e75 _ _), b_83_106 hb, s3_1, s3_2]
  have out : 0 < σ (23 + b) 1 ∨ σ (23 + b) 2 < 0 → js_J E d 83 55 [(2, 23 + b), (0, x1), (9, 0), (9, 0)] [] σ = js_J E d 83 82 [(2, 23 + b), (0, x1), (0, 0), (9, 0)] [(0, ab_lo (σ (23 + b) 1) (σ (23 + b) 2))] σ := fun hh => by
    have q : ab_lo (σ (23 + b) 1) (σ (23 + b) 2) = min (max (σ (23 + b) 2) (-(σ (23 + b) 2))) (max (σ (23 + b) 1) (-(σ (23 + b) 1))) := by
      unfold ab_lo
      repeat' split
      all_goals omega
    rw [b_83_55, b_83_56 (by omega) hb, if_pos (show js_w 0 = 0 by decide), a1, a2, mn, q]
  rw [b_83_37 hb, w1, w2]
  by_cases q1 : 0 < σ (23 + b) 1
  · exact ⟨0, by rw [if_pos q1, out (Or.inl q1), k]⟩
  · by_cases q2 : σ (23 + b) 2 < 0
    · exact ⟨0, by rw [if_neg q1, if_pos q2, out (Or.inr q2), k]⟩
    · have q : ab_lo (σ (23 + b) 1) (σ (23 + b) 2) = 0 := by
        unfold ab_lo
        rw [if_neg q1, if_neg q2]
      refine ⟨1, ?_⟩
      rw [if_neg q1, if_neg q2, b_83_56 (by omega) hb, if_neg (show ¬ js_w 1 = 0 by decide), ← k, q]
theorem r_abs (he : 5 ≤ e) (h9 : ρ 83 9 = 0) (n0 : 0 ≤ ρ 83 33) (n1 : ρ 83 33 < 66000) {x1 x2 : Int} (h2 : 0 ≤ x2 ∧ x2 < 66000) (hl : -2000000000 ≤ ρ 105 x2 ∧ ρ 105 x2 ≤ ρ 106 x2 ∧ ρ 106 x2 ≤ 2000000000) : ∃ ρ' : js_S, js_J E e 228 48 [(2, 83), (0, x1), (0, x2), (9, 0), (9, 0), (9, 0), (9, 0), (9, 0), (9, 0)] [] ρ = js_r E (0, ρ 83 33) ρ' ∧ nw_R ρ ρ' 5 0 (ab_lo (ρ 105 x2) (ρ 106 x2)) (ab_hi (ρ 105 x2) (ρ 106 x2)) x2 0 20 := by
  obtain ⟨ρ', e1, hw⟩ := r_node (E := E) (e := e - 1) (ρ := ρ) (k := 5) (ty := 0) (lo := ab_lo (ρ 105 x2) (ρ 106 x2)) (hi := ab_hi (ρ 105 x2) (ρ 106 x2)) (a := x2) (b := 0) (c := 20) h9 n0 n1 (by decide) (by decide)
  refine ⟨ρ', ?_, hw⟩
  clear hw
  have a1 := w_absl (x := ρ 105 x2) hl.1 (by omega)
  have a2 := w_absl (x := ρ 106 x2) (by omega) hl.2.2
  have mx : (if js_l (max (ρ 106 x2) (-(ρ 106 x2))) < js_l (max (ρ 105 x2) (-(ρ 105 x2))) then max (ρ 105 x2) (-(ρ 105 x2)) else max (ρ 106 x2) (-(ρ 106 x2))) = ab_hi (ρ 105 x2) (ρ 106 x2) := by
    unfold ab_hi
    rw [js_l_of (x := max (ρ 106 x2) (-(ρ 106 x2))) (by omega) (by omega), js_l_of (x := max (ρ 105 x2) (-(ρ 105 x2))) (by omega) (by omega)]
    split <;> omega
  have k : js_J E e 228 98 [(2, 83), (0, x1), (0, x2), (1, ρ 105 x2), (9, 0), (1, ρ 106 x2), (9, 0), (9, 0), (9, 0)] [(1, ab_lo (ρ 105 x2) (ρ 106 x2))] ρ = js_r E (0, ρ 83 33) ρ' := by
    rw [b_228_98 (by omega), a1, a2, mx, k_228_121 (by omega) e1, b_228_124]
  rw [b_228_48, h9, if_neg (show ¬ 0 < js_w 0 by decide), js_w_of (x := x2) (by omega) (by omega), if_pos h2, js_w_of (x := ρ 105 x2) (by omega) (by omega), js_w_of (x := ρ 106 x2) (by omega) (by omega), js_l_of (x := ρ 105 x2) (by omega) (by omega), js_l_of (x := ρ 106 x2) (by omega) (by omega), ← k]
  unfold ab_lo
  by_cases q1 : 0 < ρ 105 x2
  · rw [if_pos q1, if_pos q1]
  · by_cases q2 : ρ 106 x2 < 0
    · rw [if_neg q1, if_pos q2, if_neg q1, if_pos q2]
    · rw [if_neg q1, if_neg q2, if_neg q1, if_neg q2]
theorem r_228_48F (h : rx_F ρ) {x1 x2 : Int} : js_J E e 228 48 [(2, 83), (0, x1), (0, x2), (9, 0), (9, 0), (9, 0), (9, 0), (9, 0), (9, 0)] [] ρ = js_r E (0, 0) ρ := by
  rw [b_228_48, if_pos (rx_F_9 h)]
theorem r_228_42F (h : rx_F ρ) (he : 5 ≤ e) {x1 x2 : Int} : js_J E e 228 42 [(2, 83), (0, x1), (0, x2), (9, 0), (9, 0), (9, 0), (9, 0), (9, 0), (9, 0)] [] ρ = js_r E (0, 0) (js_up ρ 83 10 (ρ 83 10 - 1)) := by
  rw [b_228_42, k_228_45 (by omega) (r_leaveF h (by omega) (by decide) (by decide)), r_228_48F (rx_F_up h (by decide) (by decide))]
theorem r_228_19F (h : rx_F ρ) (he : 5 ≤ e) {x1 z : Int} : js_J E e 228 19 [(2, 83), (0, x1), (9, 0), (9, 0), (9, 0), (9, 0), (9, 0), (9, 0), (9, 0)] [(0, z)] ρ = js_r E (0, 0) (js_up ρ 83 10 (ρ 83 10 - 1)) := by
  rw [b_228_19, if_neg (show ¬ js_w (ρ 83 9) = 0 by have := rx_F_9 h; omega), r_228_42F h he]
theorem r_228_15F (h : rx_F ρ) (he : 9 ≤ e) {x1 : Int} : js_J E e 228 15 [(2, 83), (0, x1), (9, 0), (9, 0), (9, 0), (9, 0), (9, 0), (9, 0), (9, 0)] [] ρ = js_r E (0, 0) (js_up ρ 83 10 (ρ 83 10 - 1)) := by
  rw [b_228_15, k_228_16 (by omega) (r_termF h (by omega)), r_228_19F h (by omega)]
/-- behind abs ( -/
theorem y_abs2 {σ2 ρ2 : js_S} {p : Int} (hb : b = 0 ∨ b = 25) (hE : xe_P E b F B X (j + 2)) (hx : xs_R E b F B X σ ρ) (hn : xn_R b σ ρ j) (hx2 : xs_R E b F B X σ2 ρ2) (hn2 : xn_R b σ2 ρ2 (j + 2)) (hR2 : rd_R σ2 ρ2 (j + 2)) (o2 : of_R σ σ2) (g2 : og_R ρ ρ2) (D0 : 0 ≤ ρ 83 10) (hD : ρ2 83 10 = ρ 83 10 + 1) (hp0 : 0 ≤ p ∧ p < 100000) (ht : σ (8 + b) 10 ≤ 12 * ρ 83 10 + 3) (hp : σ (23 + b) 15 ≤ 6 * ρ 83 10 + 5) (hd : 4 * (65 - ρ 83 10) + 23 ≤ (d : Int)) (he : 12 * (65 - ρ 83 10) + 17 ≤ (e : Int)) : xo_P E b F B σ ρ j (js_J E d 83 24 [(2, 23 + b), (0, p), (9, 0), (9, 0)] [] σ2) (js_J E e 228 15 [(2, 83), (0, p), (9, 0), (9, 0), (9, 0), (9, 0), (9, 0), (9, 0), (9, 0)] [] ρ2) := by
  have D1 := hR2.2.2.2.2.2
  have hj := rd_j hR2
  have t41 : tk_m 41 = 41 := by decide
  have v : ∀ i : Int, σ2 (8 + b) i = σ (8 + b) i := fun i => o2 _ _ (by omega) (by omega)
  have v6 := v 6
  have v10 := v 10
  have v15 : σ2 (23 + b) 15 = σ (23 + b) 15 := o2 _ _ (by omega) (by omega)
  have u33 : ρ2 83 33 = ρ 83 33 := g2 _ _ (by omega)
  have u44 : ρ2 83 44 = ρ 83 44 := g2 _ _ (by omega)
  have F02 : ∀ n t p : Int, ef_R b n t p σ σ2 := fun n t p => ef_R_of o2
  have G02 : eg_R (ρ 83 33) ρ ρ2 := eg_R_og g2
  have hn2' : xn_R b σ2 ρ2 (j + 1) := by
    have v7 := v 7
    have v11 := v 11
    have v12 := v 12
    unfold xn_R at hn ⊢
    push_cast
    omega
  rw [b_83_24, b_228_15]
  rcases hE (d - 1) (e - 1) σ2 ρ2 (j + 2) (Nat.le_refl _) hx2 hn2 hR2 (by omega) (by omega) (by omega) (by omega) with ⟨σ3, ρ3, j3, n1, l, er1, ec1, h1, _⟩ | ⟨ρ', vv, er, hf⟩
  · rw [k_83_25 hb (by omega) ec1, b_83_28 hb, k_228_16 (by omega) er1, b_228_19]
    have r3 := h1.1.1
    have hj3 := rd_j r3
    have ok3 := r3.2.2.1
    have h39 := ok3.2.2.1
    have q1 := h1.1.2.1
    have dp1 := h1.1.2.2.1
    have F23 := h1.1.2.2.2.1
    have G23 := h1.1.2.2.2.2.1
    have m1 := h1.1.2.2.2.2.2.1
    have m1' := h1.1.2.2.2.2.2.2
    have y0 := h1.2.2.1.1.1
    have y1 := h1.2.2.1.1.2.1
    have y2 := h1.2.2.1.1.2.2.1
    have y15 := h1.2.2.1.1.2.2.2
    have c10 := h1.2.2.1.2.1.1
    have c6 := h1.2.2.1.2.1.2.1
    have ll := xt_ln_0 l
    have ln1 := h1.2.2.2.2.2.1.1
    have yl := h1.2.2.2.2.2.2.1
    have hn3 := xn_next hn2 h1
    have hx3 := xs_R_ef hb hx2 F23 G23
    have hz3 := xn_cz hn3 r3
    have hnod := hn.2.2.2.2.1
    have nd1 := xt_nd_in h1.2.2.2.1 h1.2.2.2.2.1.1
    have F03 : ef_R b (σ (8 + b) 6) (σ (8 + b) 10) (σ (23 + b) 15) σ σ3 := ef_R_trans (F02 _ _ _) (ef_R_mono F23 (by omega) (by omega) (by omega))
    have G03 : eg_R (ρ 83 33) ρ ρ3 := eg_R_trans G02 G23 (by omega)
    rw [h39, if_pos (show js_w 0 = 0 by decide), js_w_of (x := n1) (by omega) (by omega), if_pos (show 0 ≤ n1 ∧ n1 < 66000 by omega), nd1.2.2.1, js_w_of (x := xt_ty l) (by omega) (by omega), y0]
    by_cases q : xt_ty l = 0
    · rw [if_pos q, b_228_42, q, k_83_34 hb (by omega) (c_ask_ok hb (by rw [y0]; exact q))]
      obtain ⟨x2, e4⟩ := c_abs (E := E) (d := d) (σ := σ3) (x1 := p) hb (by omega) (by omega)
      rw [e4, y1, y2]
      have mi := ab_in (lo := xt_lo l) (hi := xt_hi l) (by omega)
      have s36 : ∀ lo hi i : Int, s3_S σ3 b 0 lo hi (8 + b) i = σ3 (8 + b) i := fun lo hi i => s3_o _ (by omega)
      obtain ⟨σ8, e8, c8⟩ := c_set (E := E) (d := d - 1) (σ := s3_S σ3 b 0 (ab_lo (xt_lo l) (xt_hi l)) (ab_hi (xt_lo l) (xt_hi l))) (op := 20) (x := 0) (lo := ab_lo (xt_lo l) (xt_hi l)) (hi := ab_hi (xt_lo l) (xt_hi l)) hb (by unfold cz_R; rw [s36, s36]; exact hz3) (by omega)
      rw [k_83_121 hb (by omega) e8, b_83_124 hb]
      have bO := c8.2.2.2
      have r8 : rd_R σ8 ρ3 j3 := rd_R_of r3 (fun i _ => by rw [bO _ _ (by omega) (by omega), s3_o _ (by omega)]) (fun a i _ _ => by rw [bO _ _ (by omega) (by omega), s3_o _ (by omega)]) (fun _ _ _ => rfl) (fun _ => rfl)
      have F37 : ∀ n t p lo hi : Int, ef_R b n t p σ3 (s3_S σ3 b 0 lo hi) := fun n t p lo hi a i g => s3_o _ (fun hh => g (ef_D23 ⟨hh.1, by omega⟩))
      have F38 : ef_R b (σ (8 + b) 6) (σ (8 + b) 10) (σ (23 + b) 15) σ3 σ8 := ef_R_trans (F37 _ _ _ _ _) (ef_R_em c8 (by rw [s36]; omega))
      have F08 := ef_R_trans F03 F38
      have hx8 := xs_R_ef hb hx F08 G03
      obtain ⟨ρ9, e9, og9, hor9⟩ := y_close (E := E) (d := d - 1) (e := e - 1) (k := 41) hx8.1.2.2.1 r8 (by omega) (by omega) (by unfold tk_V; omega) (by decide) (by omega)
      rw [t41] at hor9
      rw [k_228_45 (by omega) e9]
      have G39 : eg_R (ρ3 83 33) ρ3 ρ9 := eg_R_og og9
      rcases hor9 with ⟨σ9, j9, c9, hR9, f9, hj9, hD9⟩ | ⟨hF9, c9⟩
      · subst hj9
        have x33 : ρ9 83 33 = ρ3 83 33 := og9 _ _ (by omega)
        have xn : ∀ a i : Int, 100 ≤ a → ρ9 a i = ρ3 a i := fun a i h => og9 _ _ (by omega)
        obtain ⟨ρ10, e10, hw⟩ := r_abs (E := E) (e := e) (ρ := ρ9) (x1 := p) (x2 := n1) (by omega) hR9.2.2.1.2.2.1 (by omega) (by omega) (by omega) (by rw [xn _ _ (by decide), xn _ _ (by decide), nd1.2.2.2.1, nd1.2.2.2.2]; omega)
        rw [e10, k_83_130 (by omega) c9, b_83_133, x33]
        rw [xn _ _ (by decide), xn _ _ (by decide), nd1.2.2.2.1, nd1.2.2.2.2] at hw
        have hv := ns_nw og9 hw
        refine Or.inl ⟨σ9, ρ10, j3 + 1, ρ3 83 33, tr_n 5 0 (ab_lo (xt_lo l) (xt_hi l)) (ab_hi (xt_lo l) (xt_hi l)) 0 0 20 l .leaf, rfl, rfl, ?_⟩
        have hzz : 2 + xt_dp l ≤ zz_b b σ ρ := by
          have a1 := xr_zz h1
          unfold zz_b
          omega
        have hj := xr_one (z := zz_b b σ ρ) (σ2 := σ3) (ρ2 := ρ3) (j2 := j3) (j0 := j + 1) (σ3 := s3_S σ3 b 0 (ab_lo (xt_lo l) (xt_hi l)) (ab_hi (xt_lo l) (xt_hi l))) (σ4 := σ8) (ρ3 := ns_S ρ3 ρ10) (op := 20) (ty := 0) (lo := ab_lo (xt_lo l) (xt_hi l)) (hi := ab_hi (xt_lo l) (xt_hi l)) hb hx2 hn2' (xr_lower h1 (by omega)) (by push_cast at m1' ⊢; omega) (by push_cast at ln1 ⊢; omega) (fun a i g => s3_o _ g) (s3_0 _ _ _ _ _) (s3_1 _ _ _ _ _) (s3_2 _ _ _ _ _) c8 hv ⟨by decide, by decide, mi.1, mi.2.1, mi.2.2⟩ ⟨by decide, fun h => absurd h (by decide)⟩ hzz (by decide)
        have j15 := hj.2.2.1.1.2.2.2
        exact xr_frame (σ1 := σ2) (ρ1 := ρ2) (j1 := j + 1) (σ2 := σ8) (ρ2 := ns_S ρ3 ρ10) (j2 := j3) hb (xs_hg hx) (F02 _ _ _) (fun i _ _ => v i) (by omega) G02 u33 u44 (by omega) hj (ef_R_of f9) (fun i _ _ => f9 _ _ (by omega) (by omega)) (fun i _ _ => f9 _ _ (by omega) (by omega)) (by rw [f9 _ _ (by omega) (by omega), j15, v15]) (ns_eg og9 hw) (by rw [ns_2 (by omega)]) (by rw [ns_1 (by decide), hw.2.2.2.2.2.2 _ _ (by omega) (by omega), og9 _ _ (by omega)]) (by rw [hw.2.2.2.2.2.2 _ _ (by omega) (by omega)]; omega) (by omega) (rd_R_of hR9 (fun _ _ => rfl) (fun _ _ _ _ => rfl) (fun i _ _ => hw.2.2.2.2.2.2 _ _ (by omega) (by omega)) (fun i => hw.2.2.2.2.2.2 _ _ (by omega) (by omega))) (Int.le_refl _)
      · rw [r_228_48F hF9, kt_83_130 (by omega) c9]
        exact Or.inr ⟨ρ9, 0, rfl, hF9, eg_R_trans G03 G39 (by omega), σ8, rfl, F08⟩
    · obtain ⟨hF, h9e⟩ := rx_bad_new (τ := ρ3) (k := 5) (p := p) h39 (by decide) (by decide) hp0.1 hp0.2
      rw [if_neg q, k_228_39 (by omega) (r_bad (by omega) (by omega)), r_228_42F hF (by omega), kt_83_34 hb (by omega) (c_ask_bad hb hx3.1.2.2.1 (by omega) (by omega) (by omega) (fun hh => q hh.1))]
      exact Or.inr ⟨_, 0, rfl, xf_deep ⟨hF, eg_R_trans G03 (eg_R_tf (N := ρ3 83 33) (tf_R_bad _ _ _)) (by omega), σ3, by rw [h9e], F03⟩⟩
  · rw [k_228_16 (by omega) er, r_228_19F hf.1 (by omega)]
    have hf2 := xf_ef (F02 _ _ _) G02 (by omega) (by omega) (by omega) (by omega) hf
    obtain ⟨s1, s2, σ', s3, s4⟩ := xf_deep hf2
    exact Or.inr ⟨_, 0, rfl, s1, s2, σ', by rw [kt_83_25 hb (by omega) s3], s4⟩
theorem y_79_abs (hb : b = 0 ∨ b = 25) (hE : xe_P E b F B X (j + 1)) (hx : xs_R E b F B X σ ρ) (hn : xn_R b σ ρ j) (hR : rd_R σ ρ j) (ht : σ (8 + b) 10 ≤ 12 * ρ 83 10 + 3) (hp : σ (23 + b) 15 ≤ 6 * ρ 83 10 + 5) (hd : 4 * (65 - ρ 83 10) + 24 ≤ (d : Int)) (he : 12 * (65 - ρ 83 10) + 18 ≤ (e : Int)) (h5 : ρ 83 5 = 320) : xo_P E b F B σ ρ j (js_J E d 79 0 [(2, 23 + b), (9, 0)] [] σ) (js_J E e 226 0 [(2, 83), (9, 0)] [] ρ) := by
  have D1 := hR.2.2.2.2.2
  have c7 := (rd_V hR).2.1
  have c8 := (rd_V hR).2.2
  have t320 : tk_m 320 = 220 := by decide
  rw [h5, t320] at c7
  have hpl := rd_place hR
  obtain ⟨σ1, ρ1, ρ2, c1, e1, e2, og2, hor⟩ := y_fopen (E := E) (d := d - 1 - 1) (e := e - 1 - 1) hb hx hn hR (by omega) (by omega) (by omega)
  have key : xo_P E b F B σ ρ j (js_J E (d - 1) 83 0 [(2, 23 + b), (9, 0), (9, 0), (9, 0)] [] σ) (js_J E (e - 1) 228 0 [(2, 83), (9, 0), (9, 0), (9, 0), (9, 0), (9, 0), (9, 0), (9, 0), (9, 0)] [] ρ) := by
    rw [b_228_0, k_228_6 (by omega) e1, b_228_9, k_228_12 (by omega) e2, b_83_0 hb, c8, k_83_12 (by omega) c1, b_83_15 hb]
    rcases hor with ⟨σ2, c2, hx2, hn2, hR2, o2, hD64, hD⟩ | ⟨hF2, c2, o1⟩
    · rw [k_83_21 (by omega) c2]
      exact y_abs2 hb (xe_mono hE (by omega)) hx hn hx2 hn2 hR2 o2 og2 hR.2.2.2.2.1 hD hpl ht hp (by omega) (by omega)
    · rw [r_228_15F hF2 (by omega), kt_83_21 (by omega) c2]
      exact Or.inr ⟨_, 0, rfl, xf_deep ⟨hF2, eg_R_og og2, σ1, rfl, ef_R_of o1⟩⟩
  rw [b_79_0 hb, c7, s_79_9_220 (by decide), b_79_222, b_226_0, s_226_4_320 (by rw [h5]; decide), b_226_173]
  rcases key with ⟨σ', ρ', j', n, t, g1, g2, g3⟩ | ⟨ρ', v, g1, g2, g3, σ', g4, g5⟩
  · refine Or.inl ⟨σ', ρ', j', n, t, ?_, ?_, g3⟩
    · rw [k_226_174 (by omega) g1, b_226_177]
    · rw [k_79_223 hb (by omega) g2, b_79_226, b_79_251]
  · refine Or.inr ⟨ρ', v, ?_, g2, g3, σ', ?_, g5⟩
    · rw [k_226_174 (by omega) g1, b_226_177]
    · rw [kt_79_223 hb (by omega) g4]
end OT
