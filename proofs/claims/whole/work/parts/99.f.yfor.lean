/-! part 99.f: a C that goes to what is told, in step -/
/-- fits -/
def rx_fk (ρ : js_S) (n : Int) : js_S := if ρ 83 9 = 0 ∧ ρ 83 27 ≠ ρ 87 n then rx_bad ρ 5 (ρ 83 29) else if ρ 83 9 = 0 ∧ (ρ 83 28 < ρ 88 n ∨ ρ 89 n < ρ 83 28) then rx_bad ρ 6 (ρ 83 29) else ρ
def rx_fi (ρ : js_S) (n : Int) : js_S := js_up (rx_fk ρ n) 94 n (ρ 83 28)
section RF
variable {E : js_E} {d e : Nat} {σ ρ : js_S} {b : Int}
theorem rx_fk_28 (ρ : js_S) (n : Int) : rx_fk ρ n 83 28 = ρ 83 28 := by
  unfold rx_fk
  split
  · exact rx_bad_o _ _ _ (by omega)
  · split
    · exact rx_bad_o _ _ _ (by omega)
    · rfl
theorem r_fits (h9 : ρ 83 9 = 0) (he : 1 ≤ e) {n : Int} (hn : 0 ≤ n) (hn2 : n < 400) (h27 : 0 ≤ ρ 83 27 ∧ ρ 83 27 < 1000) (h28 : -2000000000 ≤ ρ 83 28 ∧ ρ 83 28 ≤ 2000000000) (h29 : 0 ≤ ρ 83 29 ∧ ρ 83 29 ≤ 70000) (h87 : 0 ≤ ρ 87 n ∧ ρ 87 n < 1000) (h88 : -2000000000 ≤ ρ 88 n ∧ ρ 88 n ≤ 2000000000) (h89 : -2000000000 ≤ ρ 89 n ∧ ρ 89 n ≤ 2000000000) : js_J E e 216 0 [(2, 83), (0, n)] [] ρ = js_r0 E (rx_fi ρ n) := by
  have wn : js_w n = n := js_w_of (by omega) (by omega)
  have gn : 0 ≤ n ∧ n < 400 := ⟨hn, hn2⟩
  have fin : ∀ τ : js_S, τ 83 28 = ρ 83 28 → js_J E e 216 72 [(2, 83), (0, n)] [] τ = js_r0 E (js_up τ 94 n (ρ 83 28)) := fun τ hh => by
    rw [b_216_72, wn, if_pos gn, hh]
  rw [b_216_0, wn, h9, if_pos (show js_w 0 = 0 from rfl), if_pos gn, js_w_of (x := ρ 83 27) (by omega) (by omega), js_w_of (x := ρ 87 n) (by omega) (by omega)]
  unfold rx_fi rx_fk
  by_cases q1 : ρ 83 27 = ρ 87 n
  · rw [if_pos q1, if_neg (show ¬ (ρ 83 9 = 0 ∧ ρ 83 27 ≠ ρ 87 n) from fun hh => hh.2 q1), b_216_29, wn, h9, if_pos (show js_w 0 = 0 from rfl), if_pos gn, js_w_of (x := ρ 83 28) (by omega) (by omega), js_w_of (x := ρ 88 n) (by omega) (by omega), js_w_of (x := ρ 89 n) (by omega) (by omega)]
    by_cases q2 : ρ 83 28 < ρ 88 n ∨ ρ 89 n < ρ 83 28
    · have bad : js_J E e 216 62 [(2, 83), (0, n)] [] ρ = js_r0 E (js_up (rx_bad ρ 6 (ρ 83 29)) 94 n (ρ 83 28)) := by
        rw [b_216_62, k_216_69 he (r_bad (by omega) (by omega)), fin _ (rx_bad_o _ _ _ (by omega))]
      rw [if_pos (show (0 : Int) = 0 ∧ (ρ 83 28 < ρ 88 n ∨ ρ 89 n < ρ 83 28) from ⟨rfl, q2⟩), bad]
      by_cases q3 : ρ 83 28 < ρ 88 n
      · rw [if_pos q3]
      · rw [if_neg q3, if_pos (show ρ 89 n < ρ 83 28 by omega)]
    · rw [if_neg (show ¬ ((0 : Int) = 0 ∧ (ρ 83 28 < ρ 88 n ∨ ρ 89 n < ρ 83 28)) from fun hh => q2 hh.2), if_neg (show ¬ ρ 83 28 < ρ 88 n by omega), if_neg (show ¬ ρ 89 n < ρ 83 28 by omega), fin _ rfl]
  · have hF := rx_bad_ok (k := 5) (p := ρ 83 29) h9 (by decide) (by decide) h29.1 h29.2
    have f1 := hF.1.1
    have f2 := hF.1.2.1
    rw [if_neg q1, if_pos (show ρ 83 9 = 0 ∧ ρ 83 27 ≠ ρ 87 n from ⟨h9, q1⟩), k_216_26 he (r_bad (by omega) (by omega)), b_216_29, js_w_of (x := rx_bad ρ 5 (ρ 83 29) 83 9) (by omega) (by omega), if_neg (by omega), fin _ (rx_bad_o _ _ _ (by omega))]
theorem r_fitsF (h : rx_F ρ) {n : Int} (hn : 0 ≤ n) (hn2 : n < 400) : js_J E e 216 0 [(2, 83), (0, n)] [] ρ = js_r0 E (js_up ρ 94 n (ρ 83 28)) := by
  have f1 := h.1
  have f2 := h.2.1
  have wn : js_w n = n := js_w_of (by omega) (by omega)
  rw [b_216_0, js_w_of (x := ρ 83 9) (by omega) (by omega), if_neg (by omega), b_216_29, js_w_of (x := ρ 83 9) (by omega) (by omega), if_neg (by omega), b_216_72, wn, if_pos ⟨hn, hn2⟩]
/-- what it leaves alone of the reference -/
def vf_R (n : Int) (ρ ρ' : js_S) : Prop := ∀ a i : Int, ¬ (a = 83 ∧ (5 ≤ i ∧ i ≤ 9 ∨ 27 ≤ i ∧ i ≤ 32)) → ¬ (a = 94 ∧ i = n) → ρ' a i = ρ a i
theorem y_readFor {p q : Int} {X : Int → Prop} (hb : b = 0 ∨ b = 25) (hY : sy_Y E.1 σ ρ b p q X) {j : Nat} (hR : rd_R σ ρ j) (hd : 9 ≤ d) (he : 4 ≤ e) (hk : kx_R ρ p q X) {n x : Int} (hX : X n) (hn0 : 0 ≤ n) (hn4 : n < 400) (hnm : n < ρ 83 11) (hx : js_desc E.1 σ x = some (0, 11, js_sym)) (h0 : σ x 0 = n) (h2 : σ x 2 = ρ 87 n) (h3 : σ x 3 = ρ 88 n) (h4 : σ x 4 = ρ 89 n) (h88 : -2000000000 ≤ ρ 88 n ∧ ρ 88 n ≤ 2000000000) (h89 : -2000000000 ≤ ρ 89 n ∧ ρ 89 n ≤ 2000000000) : js_J E e 203 0 [(2, 83), (9, 0), (9, 0)] [] ρ = js_r0 E (rx_cs ρ) ∧ ∃ ρ' : js_S, js_J E e 216 0 [(2, 83), (0, n)] [] (rx_cs ρ) = js_r0 E ρ' ∧ vf_R n ρ ρ' ∧ ((rx_ok ρ' ∧ ∃ (σ' : js_S) (j' : Nat), js_J E d 51 0 [(2, 21 + b), (2, x)] [] σ = js_r E (0, ρ' 94 n) σ' ∧ rd_R σ' (rx_next ρ') j' ∧ sy_Y E.1 σ' (rx_next ρ') b p q X ∧ cf_R b σ σ' ∧ j < j' ∧ ρ 88 n ≤ ρ' 94 n ∧ ρ' 94 n ≤ ρ 89 n ∧ ρ' 83 28 = ρ' 94 n) ∨ (rx_F ρ' ∧ ∃ σ' : js_S, js_J E d 51 0 [(2, 21 + b), (2, x)] [] σ = th_P E σ' (ρ' 83 9) ∧ cf_R b σ σ')) := by
  have hok := hR.2.2.1
  have hge := js_sym_ge hx
  have hv := hY.2.1 n hn0 hnm
  have t87 : rx_cs ρ 87 n = ρ 87 n := rx_cs_o _ (by omega)
  have t88 : rx_cs ρ 88 n = ρ 88 n := rx_cs_o _ (by omega)
  have t89 : rx_cs ρ 89 n = ρ 89 n := rx_cs_o _ (by omega)
  have t29 := rx_cs_29 ρ
  have o1 := hok.2.2.2.1
  have o2 := hok.2.2.2.2.1
  have o3 := hok.2.2.2.2.2.1
  have o4 := hok.1.2.1
  refine ⟨r_constant hok hY.1 hY.2.1 (by omega) (rd_c8 hR), ?_⟩
  obtain ⟨c1a, c1b⟩ := y_read (E := E) (d := d - 1) (t := ρ 87 n) hb hY hR (by omega) hk (by omega) (by omega)
  have tcs := tf_R_cs ρ
  rw [b_51_0 hx, h2]
  by_cases q1 : rx_ce ρ (ρ 87 n) = 0
  · obtain ⟨σ1, j1, e1, hR1, hY1, f1, s0, s1, s2, hj1⟩ := c1a q1
    clear c1a c1b
    obtain ⟨g1, g2, g3⟩ := rx_co_ok hv.2.2.1 hok q1
    have v1 := rx_cs_27 hok hY.1 hY.2.1 (rd_c8 hR) g3
    have x1 := sy_x_cf hb hx f1
    have hn1 : cx_n σ1 := hY1.2.2.1
    have rf := r_fits (E := E) (e := e) (n := n) g3 (by omega) hn0 hn4 ⟨v1.1, v1.2.1⟩ v1.2.2 (by omega) (by omega) (by omega) (by omega)
    refine ⟨_, rf, ?_⟩
    rw [k_51_5 hb (by omega) e1, b_51_8 hb x1.1, s1, x1.2, x1.2, h3, h4, js_w_of (x := rx_cs ρ 83 28) (by omega) (by omega), js_w_of (x := ρ 88 n) (by omega) (by omega), js_w_of (x := ρ 89 n) (by omega) (by omega)]
    unfold rx_fi rx_fk
    rw [t87, t88, t89, if_neg (show ¬ (rx_cs ρ 83 9 = 0 ∧ rx_cs ρ 83 27 ≠ ρ 87 n) from fun hh => hh.2 g2)]
    by_cases q2 : rx_cs ρ 83 28 < ρ 88 n ∨ ρ 89 n < rx_cs ρ 83 28
    · rw [if_pos (show rx_cs ρ 83 9 = 0 ∧ (rx_cs ρ 83 28 < ρ 88 n ∨ ρ 89 n < rx_cs ρ 83 28) from ⟨g3, q2⟩)]
      have hF := rx_bad_ok (k := 6) (p := rx_cs ρ 83 29) g3 (by decide) (by decide) (by omega) (by omega)
      refine ⟨fun a i h1 h2 => by rw [js_up_ne _ (by omega), rx_bad_o _ _ _ (by omega), tcs _ _ (by omega)], Or.inr ⟨?_, σ1, ?_, f1⟩⟩
      · have := hF.1
        unfold rx_F at this ⊢
        rw [js_up_na _ (by decide), js_up_na _ (by decide)]
        exact this
      · have bad : js_J E d 51 31 [(2, 21 + b), (2, x)] [] σ1 = th_P E σ1 (js_up (rx_bad (rx_cs ρ) 6 (rx_cs ρ 83 29)) 94 n (rx_cs ρ 83 28) 83 9) := by
          rw [b_51_31 hb, kt_51_41 (by omega) (c_fail hn1 (by omega)), s2, js_up_na _ (by decide), hF.2, t29]
          rfl
        rw [bad]
        by_cases q3 : rx_cs ρ 83 28 < ρ 88 n
        · rw [if_pos q3]
        · rw [if_neg q3, if_pos (show ρ 89 n < rx_cs ρ 83 28 by omega)]
    · rw [if_neg (show ¬ (rx_cs ρ 83 9 = 0 ∧ (rx_cs ρ 83 28 < ρ 88 n ∨ ρ 89 n < rx_cs ρ 83 28)) from fun hh => q2 hh.2), if_neg (show ¬ rx_cs ρ 83 28 < ρ 88 n by omega), if_neg (show ¬ ρ 89 n < rx_cs ρ 83 28 by omega), b_51_44 hb, s1, js_up_same]
      have hR2 : rd_R σ1 (rx_next (js_up (rx_cs ρ) 94 n (rx_cs ρ 83 28))) j1 := rd_next_of hR1 (fun i _ _ => js_up_na _ (by decide)) (fun i => js_up_na _ (by decide))
      refine ⟨fun a i h1 h2 => by rw [js_up_ne _ (by omega), tcs _ _ (by omega)], Or.inl ⟨rx_ok_of (rx_cs_rok hR g3) (fun i _ _ => js_up_na _ (by decide)) (fun i => js_up_na _ (by decide)), σ1, j1, rfl, hR2, ?_, f1, hj1, by omega, by omega, js_up_na _ (by decide)⟩⟩
      exact sy_Y_rx2 hY1 hX (by rw [rx_next_o _ (by omega), rx_next_o _ (by omega), js_up_na _ (by decide)]) (fun a i g1 g2 g3 => by rw [rx_next_o _ (by omega), rx_next_o _ (by omega), js_up_ne _ (by omega)]) (fun hlt => by
        have hv1 := hY1.2.1 n hn0 hlt
        rw [rx_next_o _ (by omega), rx_next_o _ (by omega), rx_next_o _ (by omega)] at hv1
        rw [rx_next_o _ (by omega), rx_next_o _ (by omega), js_up_na _ (by decide), js_up_same]
        omega)
  · obtain ⟨σ1, e1, f1⟩ := c1b q1
    clear c1a c1b
    have hF := rx_co_bad hok q1 hv.2.2.1
    rw [kt_51_5 hb (by omega) e1]
    have hFF : ∃ ρ' : js_S, js_J E e 216 0 [(2, 83), (0, n)] [] (rx_cs ρ) = js_r0 E ρ' ∧ vf_R n ρ ρ' ∧ rx_F ρ' ∧ ρ' 83 9 = rx_ce ρ (ρ 87 n) := by
      by_cases q2 : rx_cs ρ 83 9 = 0
      · have v1 := rx_cs_27 hok hY.1 hY.2.1 (rd_c8 hR) q2
        have rf := r_fits (E := E) (e := e) (n := n) q2 (by omega) hn0 hn4 ⟨v1.1, v1.2.1⟩ v1.2.2 (by omega) (by omega) (by omega) (by omega)
        have hty : rx_cs ρ 83 27 ≠ ρ 87 n := fun hh => by
          apply q1
          unfold rx_ce
          rw [if_neg (show ¬ rx_cs ρ 83 9 ≠ 0 from fun h => h q2), if_neg (show ¬ (ρ 87 n ≠ -1 ∧ rx_cs ρ 83 27 ≠ ρ 87 n) from fun h => h.2 hh)]
        have hco : rx_co ρ (ρ 87 n) = rx_bad (rx_cs ρ) 5 (ρ 83 6) := by
          unfold rx_co
          rw [if_pos ⟨q2, hty⟩]
        rw [hco] at hF
        refine ⟨_, rf, ?_⟩
        unfold rx_fi rx_fk
        rw [t87, if_pos (show rx_cs ρ 83 9 = 0 ∧ rx_cs ρ 83 27 ≠ ρ 87 n from ⟨q2, hty⟩), t29]
        refine ⟨fun a i h1 h2 => by rw [js_up_ne _ (by omega), rx_bad_o _ _ _ (by omega), tcs _ _ (by omega)], ?_, ?_⟩
        · have := hF.1
          unfold rx_F at this ⊢
          rw [js_up_na _ (by decide), js_up_na _ (by decide)]
          exact this
        · rw [js_up_na _ (by decide)]
          exact hF.2
      · have hF2 : rx_F (rx_cs ρ) := (rx_cs_9 hok).elim (fun hh => absurd hh q2) id
        have hce : rx_ce ρ (ρ 87 n) = rx_cs ρ 83 9 := by
          unfold rx_ce
          rw [if_pos q2]
        refine ⟨_, r_fitsF hF2 hn0 hn4, fun a i h1 h2 => by rw [js_up_ne _ (by omega), tcs _ _ (by omega)], ?_, ?_⟩
        · unfold rx_F at hF2 ⊢
          rw [js_up_na _ (by decide), js_up_na _ (by decide)]
          exact hF2
        · rw [js_up_na _ (by decide), hce]
    obtain ⟨ρ', e2, v2, F2, h9⟩ := hFF
    exact ⟨ρ', e2, v2, Or.inr ⟨F2, σ1, by rw [h9], f1⟩⟩
end RF
