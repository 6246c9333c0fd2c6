/-! part 99.zw: every operand, every e in step -/
section QE
variable {E : js_E} {d e : Nat} {b F : Int} {B : Int → Int} {X : Int → Prop} {σ ρ : js_S} {j : Nat}
/-- a call as an operand -/
theorem y_nm_call {σ1 : js_S} {i c : Int} (hb : b = 0 ∨ b = 25) (hE : xe_P E b F B X (j + 2)) (hx : xs_R E b F B X σ ρ) (hn : xn_R b σ ρ j) (hR : rd_R σ ρ j) (hnm : nm_R E b X σ1 ρ i) (hR1 : rd_R σ1 (rx_next ρ) (j + 1)) (f1 : tk_fr σ σ1) (h86 : ρ 86 i = 4) (ht : σ (8 + b) 10 ≤ 12 * ρ 83 10 + 3) (hp : σ (23 + b) 15 ≤ 6 * ρ 83 10 + 5) (hd : 4 * (65 - ρ 83 10) + 24 ≤ (d : Int)) (he : 12 * (65 - ρ 83 10) + 17 ≤ (e : Int)) : xo_P E b F B σ ρ j (js_J E d 64 56 [(2, 23 + b), (0, ρ 83 6), (2, σ1 (19 + b) i)] [] σ1) (if ρ 87 i = 2 then js_J E e 230 111 [(2, 83), (0, i), (0, c), (9, 0)] [(0, ρ 83 6), (0, 5), (2, 83)] ρ else js_J E e 230 118 [(2, 83), (0, i), (0, c), (9, 0)] [(0, i), (2, 83)] ρ) := by
  have hnm' := hnm
  obtain ⟨⟨i0, i1, i2⟩, nX, _, _, ⟨_, _, t0, t1, _, _⟩, hsym, hf⟩ := hnm
  have D1 := hR.2.2.2.2.2
  have o9 := hR.2.2.1.2.2.1
  have pl := rd_place hR
  have s1 : σ1 (σ1 (19 + b) i) 1 = 4 := by rw [hf.1]; exact h86
  have s2 : σ1 (σ1 (19 + b) i) 2 = ρ 87 i := hf.2.1
  clear hf
  rw [b_64_56 hsym hb, s1, if_pos (show js_w 4 = 4 by decide), s2, js_w_of (x := ρ 87 i) (by omega) (by omega)]
  by_cases q : ρ 87 i = 2
  · have hx1 := xs_R_ef hb hx (ef_R_tk (b := b) (n := 0) (t := 0) (p := 0) f1) (eg_R_refl 0 ρ)
    obtain ⟨hF, h9e⟩ := rx_bad_new (τ := ρ) (k := 5) (p := ρ 83 6) o9 (by decide) (by decide) pl.1 pl.2
    rw [if_pos q, if_pos q, k_230_111 (by omega) (r_bad (by omega) (by omega)), b_230_114, kt_64_78 (by omega) (c_fail hx1.1.2.2.1 (by omega))]
    exact Or.inr ⟨rx_bad ρ 5 (ρ 83 6), 0, rfl, hF, eg_R_tf (tf_R_bad _ _ _), σ1, by rw [h9e]; rfl, ef_R_tk f1⟩
  · rw [if_neg q, if_neg q, b_64_81]
    have gs := (hx.2.2.1 i i0 i1 nX).2.2.2.2.1 h86
    have tb := gs.2.2.2.2.2.2.2.2.2.2.1 q
    clear gs
    rcases y_call (E := E) (d := d - 1) (e := e - 1) hb hE hx hn hR hnm' hR1 f1 h86 ht hp (by omega) (by omega) with ⟨σ', ρ', j', n, t, er, ec, h, h2, h3, h4, _⟩ | ⟨ρ', v, er, hf⟩
    · rw [k_230_118 (by omega) er, b_230_121, k_64_84 hb (by omega) ec, b_64_87, b_64_238]
      exact Or.inl ⟨σ', ρ', j', n, t, rfl, rfl, xr_xw h (by rw [h2, h3, h4]; exact tb)⟩
    · obtain ⟨a1, a2, σ', a3, a4⟩ := hf
      rw [k_230_118 (by omega) er, b_230_121, kt_64_84 hb (by omega) a3]
      exact Or.inr ⟨ρ', v, rfl, a1, a2, σ', rfl, a4⟩
end QE
/-- every operand -/
theorem xm_all {E : js_E} {b F : Int} {B : Int → Int} {X : Int → Prop} {J0 : Nat} (hb : b = 0 ∨ b = 25) (hE : xe_P E b F B X (J0 + 1)) : xm_P E b F B X J0 := by
  intro d e σ ρ j hJ hx hn hR ht hp hd he
  have hE1 := xe_mono hE (show J0 + 1 ≤ j + 1 by omega)
  have hE2 := xe_mono hE (show J0 + 1 ≤ j + 2 by omega)
  have D1 := hR.2.2.2.2.2
  by_cases h2 : ρ 83 5 = 2
  · rw [if_pos h2, b_226_0, s_226_4_2 (by rw [h2]; rfl), b_226_183]
    rcases y_name (E := E) (d := d) (e := e - 1) hb hx hR h2 (by omega) (by omega) with ⟨ρ', er, hf⟩ | ⟨σ1, i, c, hnm, hR1, f1, hsu, ec, er⟩
    · rw [k_226_184 (by omega) er, b_226_187]
      exact Or.inr ⟨ρ', 0, rfl, hf⟩
    · have key : xo_P E b F B σ ρ j (js_J E d 64 56 [(2, 23 + b), (0, ρ 83 6), (2, σ1 (19 + b) i)] [] σ1) (if ρ 86 i = 4 then (if ρ 87 i = 2 then js_J E (e - 1) 230 111 [(2, 83), (0, i), (0, c), (9, 0)] [(0, ρ 83 6), (0, 5), (2, 83)] ρ else js_J E (e - 1) 230 118 [(2, 83), (0, i), (0, c), (9, 0)] [(0, i), (2, 83)] ρ) else js_J E (e - 1) 230 123 [(2, 83), (0, i), (0, c), (9, 0)] [(2, 83)] ρ) := by
        have i0 := hnm.1.1
        have i1 := hnm.1.2.1
        have nX := hnm.2.1
        have k8 := hnm.2.2.2.1
        have k0 := hnm.2.2.2.2.1.1
        have k9 := hnm.2.2.2.2.1.2.1
        have g92 := (hx.2.2.1 i i0 i1 nX).1
        by_cases q4 : ρ 86 i = 4
        · rw [if_pos q4]
          exact y_nm_call hb hE2 hx hn hR hnm hR1 f1 q4 ht hp hd (by omega)
        · rw [if_neg q4]
          by_cases q0 : ρ 86 i = 0 ∨ ρ 86 i = 9
          · exact y_nm_val hp hb hx hn hR hnm hR1 f1 q0 (by omega) (by omega)
          · have hk : 1 ≤ ρ 86 i ∧ ρ 86 i ≤ 3 ∨ 5 ≤ ρ 86 i ∧ ρ 86 i ≤ 7 := by omega
            rcases g92 with h | h
            · exact y_nm_cell hp hb hx hn hR hnm hR1 f1 hk h (by omega) (by omega)
            · exact y_nm_elem hb hE1 hx hn hR hnm hR1 f1 hk h ht hp hd (by omega)
      rw [ec]
      rcases key with ⟨σ', ρ', j', n, t, e1, e2, h⟩ | ⟨ρ', v, e1, hf⟩
      · rw [k_226_184 (by omega) (er.trans e1), b_226_187]
        exact Or.inl ⟨σ', ρ', j', n, t, rfl, e2, h⟩
      · rw [k_226_184 (by omega) (er.trans e1), b_226_187]
        exact Or.inr ⟨ρ', v, rfl, hf⟩
  · rw [if_neg h2]
    by_cases h3 : ρ 83 5 = 3
    · exact y_79_num hp hb hx hn hR (by omega) (by omega) h3
    by_cases h40 : ρ 83 5 = 40
    · exact y_79_paren hb hE1 hx hn hR ht hp hd he h40
    by_cases hbo : ρ 83 5 = 316 ∨ ρ 83 5 = 317
    · exact y_79_bool hp hb hx hn hR (by omega) (by omega) hbo
    by_cases hmm : ρ 83 5 = 318 ∨ ρ 83 5 = 319
    · exact y_79_mm hb hE1 hx hn hR ht hp hd he hmm
    by_cases hab : ρ 83 5 = 320
    · exact y_79_abs hb hE1 hx hn hR ht hp hd he hab
    by_cases hcl : ρ 83 5 = 321
    · exact y_79_clamp hb hE1 hx hn hR ht hp hd he hcl
    · exact y_79_bad hb hx hR (by omega) (by omega) ⟨h2, h3, h40, fun h => hbo (Or.inl h), fun h => hbo (Or.inr h), fun h => hmm (Or.inl h), fun h => hmm (Or.inr h), hab, hcl⟩
theorem xe_all {E : js_E} {b F : Int} {B : Int → Int} {X : Int → Prop} (hb : b = 0 ∨ b = 25) : ∀ (G J0 : Nat), 8200 ≤ G + J0 → xe_P E b F B X J0
  | 0, J0, h => by
    intro d e σ ρ j hJ _ _ hR
    have := rd_j hR
    exact absurd hJ (by omega)
  | G + 1, J0, h => y_term hb (xm_all hb (xe_all hb G (J0 + 1) (by omega))) (xe_all hb G (J0 + 1) (by omega))
/-- every e, in step -/
theorem y_e {E : js_E} {b F : Int} {B : Int → Int} {X : Int → Prop} (hb : b = 0 ∨ b = 25) (J0 : Nat) : xe_P E b F B X J0 := xe_all hb 8200 J0 (by omega)
