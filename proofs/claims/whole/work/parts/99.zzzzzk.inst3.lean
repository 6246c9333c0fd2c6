/-! part 99.zzzzzk: every INSTRUCTION is done in step -/
section YK
variable {E : js_E} {d e : Nat} {Fu : Int → Int → Int → Prop} {ac zc N b x0 o c p : Int} {σ ρ : js_S}
theorem y_inst (hb : b = 0 ∨ b = 25) (hx : 59 ≤ x0 ∧ x0 ≤ 76) (hC : js_isC E.1 x0 o) (hc : c = 0 ∧ o = 1 ∨ c = 1 ∧ o = 58659) (hN : 0 ≤ N ∧ N ≤ E.1 ∧ N ≤ 4096 ∧ E.1 < 2147483648) (hd : 20 ≤ d) (he : 20 ≤ e) (hw : wc_P Fu ac zc N ρ) (hce : ce_P b σ ρ p) (h6 : σ (8 + b) 6 = ρ 83 49) (h49 : ρ 83 49 ≤ 8192) (hq : cq_R N x0 c σ ρ) (hm : md_R Fu ac zc x0 c p σ ρ) (h78 : ρ 83 78 = p + 1) : ∃ (σ' ρ' : js_S) (v u : Int), js_J E d 147 0 [(2, x0), (2, 8 + b), (9, 0), (9, 0), (9, 0)] [] σ = js_r E (0, v) σ' ∧ js_J E e 270 0 [(2, 83), (0, c), (0, ρ 111 p), (0, ρ 112 p), (0, ρ 113 p), (9, 0), (9, 0), (9, 0), (9, 0), (9, 0), (9, 0), (9, 0), (9, 0)] [] ρ = js_r E (0, u) ρ' ∧ yc_F x0 σ σ' ∧ yr_F N c ρ ρ' ∧ cq_R N x0 c σ' ρ' ∧ (v = 2 ∧ u = 0 ∨ v = 1 ∧ u = 1 ∧ ρ 111 p = 29 ∨ v = 0 ∧ u = 1 ∧ ρ 111 p ≠ 29 ∧ md_R Fu ac zc x0 c (ρ' 83 78) σ' ρ') := by
  obtain ⟨hc1, wc, c2, ho, hl, hn⟩ := hc_o hc
  obtain ⟨m1, m2, m3, n, l, m4, m5⟩ := hm
  obtain ⟨a, z, hp, ⟨hp0, hwm⟩, hms⟩ := ms_un hw n p l m5
  have lv := ms_lv n p l m5
  have wp : js_w p = p := js_w_of (by omega) (by omega)
  obtain ⟨q9, q10, q11, _, _⟩ := hce
  have w49 : js_w (ρ 83 49) = ρ 83 49 := js_w_of (by omega) (by omega)
  have e92 : js_J E (d - 1) 92 0 [(2, 8 + b), (0, p)] [] σ = js_r E (0, 1) σ := by
    rw [b_92_0 hb, wp, if_neg (show ¬ p < 0 by omega), h6, w49, if_pos hp0.2, if_pos (show p < 8192 by omega)]
  have t1 : ∀ a i : Int, ¬ (a = x0 ∧ i = 2) → js_up σ x0 2 (p + 1) a i = σ a i := fun a i g => js_up_ne _ g
  have t2 : js_up σ x0 2 (p + 1) x0 2 = p + 1 := js_up_same _ _ _ _
  have ec : js_J E d 147 0 [(2, x0), (2, 8 + b), (9, 0), (9, 0), (9, 0)] [] σ = yc_J E d b x0 p (ρ 112 p) (ρ 111 p) (js_up σ x0 2 (p + 1)) := by
    unfold yc_J
    rw [b_147_0 hC, m1, k_147_7 hb (by omega) e92, b_147_10 hC hb hx, if_neg (show ¬ js_w 1 = 0 by decide), wp, if_pos (show 0 ≤ p ∧ p < 8192 by omega), q9, q10]
  generalize js_up σ x0 2 (p + 1) = σ1 at t1 t2 ec
  obtain ⟨X, hX, er⟩ : ∃ X : Int, X = js_w (ρ 112 p) * o ∧ js_J E e 270 0 [(2, 83), (0, c), (0, ρ 111 p), (0, ρ 112 p), (0, ρ 113 p), (9, 0), (9, 0), (9, 0), (9, 0), (9, 0), (9, 0), (9, 0), (9, 0)] [] ρ = yr_J E e c (ρ 111 p) (ρ 112 p) (ρ 113 p) X ρ := by
    rcases hc with ⟨q, q2⟩ | ⟨q, q2⟩
    · refine ⟨js_w (ρ 112 p), by rw [q2, Int.mul_one], ?_⟩
      unfold yr_J
      rw [b_270_0, wc, if_pos c2, if_pos q, b_270_38]
    · refine ⟨58659 * js_w (ρ 112 p), by rw [q2, Int.mul_comm], ?_⟩
      unfold yr_J
      rw [b_270_0, wc, if_pos c2, if_neg (show ¬ c = 0 by omega), b_270_38]
  have hs : σ1 (11 + b) p = ρ 113 p := by rw [t1 _ _ (by omega)]; exact q11
  have hq1 : cq_R N x0 c σ1 ρ := ⟨by rw [t1 _ _ (by omega)]; exact hq.1, by rw [t1 _ _ (by omega)]; exact hq.2.1, fun k k1 k2 => by rw [t1 _ _ (by omega)]; exact hq.2.2 k k1 k2⟩
  have n2 : σ1 x0 3 = ρ 124 c := by rw [t1 _ _ (by omega)]; exact m2
  have n3 : ∀ k : Int, 0 ≤ k → k < ρ 124 c → σ1 (x0 + 1) k = ρ 123 (32 * c + k) := fun k k1 k2 => by rw [t1 _ _ (by omega)]; exact m3 k k1 k2
  have nx : p + 1 < z → md_R Fu ac zc x0 c (p + 1) σ1 ρ := fun g => ⟨t2, n2, n3, n, l, m4, hms (p + 1) (by omega) g⟩
  have key : yi_R E d e Fu ac zc N b x0 c p (ρ 111 p) (ρ 112 p) (ρ 113 p) X σ1 ρ := by
    rcases hwm with ⟨h1, h2⟩ | ⟨h1, h2, h3, h4⟩ | ⟨h1, h2, h3, h4⟩ | ⟨h1, h2, h3, h4, h5⟩ | ⟨h1, h2, z', l', h3, h4, h5, h6'⟩ | ⟨h1, h2⟩ | ⟨h1, h2⟩
    · have hm1 := nx h2
      have hop : ρ 111 p = 0 ∨ ρ 111 p = 3 ∨ ρ 111 p = 6 ∨ ρ 111 p = 7 ∨ ρ 111 p = 8 ∨ ρ 111 p = 9 ∨ ρ 111 p = 10 ∨ ρ 111 p = 11 ∨ ρ 111 p = 12 ∨ ρ 111 p = 13 ∨ ρ 111 p = 14 ∨ ρ 111 p = 15 ∨ ρ 111 p = 16 ∨ ρ 111 p = 17 ∨ ρ 111 p = 18 ∨ ρ 111 p = 19 ∨ ρ 111 p = 20 ∨ ρ 111 p = 21 ∨ ρ 111 p = 22 ∨ ρ 111 p = 23 ∨ ρ 111 p = 30 := by omega
      rcases hop with q | q | q | q | q | q | q | q | q | q | q | q | q | q | q | q | q | q | q | q | q
      · rw [q]
        exact yi_00 hx hC hc (by omega) (by omega) hq1 h78 hm1 hX
      · rw [q]
        exact yi_3 hx hC hc (by omega) (by omega) hq1 h78 hm1
      · rw [q]
        exact yi_6 hx hC hc (by omega) (by omega) hq1 h78 hm1
      · rw [q]
        exact yi_7 hx hC hc (by omega) (by omega) hq1 h78 hm1
      · rw [q]
        exact yi_8 hx hC hc (by omega) (by omega) hq1 h78 hm1
      · rw [q]
        exact yi_9 hx hC hc (by omega) (by omega) hq1 h78 hm1
      · rw [q]
        exact yi_10 hx hC hc (by omega) (by omega) hq1 h78 hm1
      · rw [q]
        exact yi_11 hx hC hc (by omega) (by omega) hq1 h78 hm1
      · rw [q]
        exact yi_12 hx hC hc (by omega) (by omega) hq1 h78 hm1
      · rw [q]
        exact yi_13 hx hC hc (by omega) (by omega) hq1 h78 hm1
      · rw [q]
        exact yi_14 hx hC hc (by omega) (by omega) hq1 h78 hm1
      · rw [q]
        exact yi_15 hx hC hc (by omega) (by omega) hq1 h78 hm1
      · rw [q]
        exact yi_16 hx hC hc (by omega) (by omega) hq1 h78 hm1
      · rw [q]
        exact yi_17 hx hC hc (by omega) (by omega) hq1 h78 hm1
      · rw [q]
        exact yi_18 hx hC hc (by omega) (by omega) hq1 h78 hm1
      · rw [q]
        exact yi_19 hx hC hc (by omega) (by omega) hq1 h78 hm1
      · rw [q]
        exact yi_20 hx hC hc (by omega) (by omega) hq1 h78 hm1
      · rw [q]
        exact yi_21 hx hC hc (by omega) (by omega) hq1 h78 hm1
      · rw [q]
        exact yi_22 hx hC hc (by omega) (by omega) hq1 h78 hm1 hX
      · rw [q]
        exact yi_23 hx hC hc (by omega) (by omega) hq1 h78 hm1 hX
      · rw [q]
        exact yi_30 hx hC hc (by omega) (by omega) hq1 h78 hm1
    · have hm1 := nx h2
      have jj : ∃ (n : Nat) (l : Int), ρ 124 c = n ∧ ms_P Fu ac zc (fun k => ρ 123 (32 * c + k)) n (ρ 112 p) l := ⟨n, l, m4, hms _ h3 h4⟩
      have hop : ρ 111 p = 24 ∨ ρ 111 p = 25 ∨ ρ 111 p = 26 := by omega
      rcases hop with q | q | q
      · rw [q]
        exact yi_24 hx hC (by omega) hq1 hm1 jj
      · rw [q]
        exact yi_25 hx hC (by omega) hq1 h78 hm1 jj
      · rw [q]
        exact yi_26 hx hC (by omega) hq1 h78 hm1 jj
    · have hm1 := nx h2
      rcases h1 with q | q
      · rw [q]
        exact yi_1 hx hC hc hN ⟨h3, h4⟩ (by omega) hq1 h78 hm1
      · rw [q]
        exact yi_2 hx hC hc hN ⟨h3, h4⟩ (by omega) hq1 h78 hm1
    · have hm1 := nx h2
      rcases h1 with q | q
      · rw [q]
        exact yi_4 hb hx hC hc hN (by omega) hs ⟨h3, h4, h5⟩ (by omega) (by omega) hq1 h78 hm1
      · rw [q]
        exact yi_5 hb hx hC hc hN (by omega) hs ⟨h3, h4, h5⟩ (by omega) (by omega) hq1 h78 hm1
    · rw [h1]
      exact yi_27 hx hC hc (by omega) hq1 h78 t2 n2 n3 m4 (hms (p + 1) (by omega) h2) h3 h4 ⟨h5, h6'⟩
    · have n0 : n ≠ 0 := fun g => by have := lv.2.2 g; omega
      obtain ⟨k, hk⟩ : ∃ k : Nat, n = k + 1 := ⟨n - 1, by omega⟩
      subst hk
      rw [h1]
      exact yi_28 hx hC hc (by omega) hq1 n2 n3 m4 m5
    · rw [h1]
      exact yi_29 hC (by omega) hq1
  obtain ⟨σ', ρ', v, u, e1, e2, f1, f2, f3, f4⟩ := key
  refine ⟨σ', ρ', v, u, by rw [ec, e1], by rw [er, e2], fun a i g1 g2 g3 => ?_, f2, f3, f4⟩
  rw [f1 a i g1 g2 g3, t1 a i (by omega)]
end YK
