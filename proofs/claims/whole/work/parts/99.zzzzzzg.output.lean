/-! part 99.zzzzzzg: output, by both (where nothing is thrown) -/
section YQ2
variable {E : js_E} {d e : Nat} {Fu : Int → Int → Int → Prop} {ac zc b N : Int} {T : Nat} {σ ρ : js_S}
theorem y_output {x : Int} (hb : b = 0 ∨ b = 25) (h : mh_R E Fu ac zc b N T σ ρ) (hl : ρ 83 64 = 1) (hem : ρ 83 82 < 2147483648) (hx : 0 ≤ x ∧ x < ρ 83 47) (hd : 8 ≤ d) (he : 2 ≤ e) : ∃ (v w : Int) (ρ' : js_S), js_J E d 178 0 [(2, 0), (0, x)] [] σ = js_r E (0, v) σ ∧ js_J E e 281 0 [(2, 83), (0, x), (9, 0)] [] ρ = js_r E (0, w) ρ' ∧ js_w v = js_w w ∧ (∀ a i : Int, ¬ (a = 83 ∧ (i = 0 ∨ i = 90)) → ρ' a i = ρ a i) ∧ ρ' 83 0 = 0 := by
  have hp := h.1.1.2.1
  have h56 := h.1.1.1
  have hpd := h.1.2.1.2.2.2.2
  have hN := hp.1.2.1
  have ho := h.1.2.1
  have hv := h.1.2.2.1
  have hT := hp.1.1.1
  have wx : js_w x = x := js_w_of (by omega) (by omega)
  have wW : js_w (ρ 83 47) = ρ 83 47 := js_w_of (by omega) (by omega)
  have w81 : js_w (ρ 83 81) = ρ 83 81 := js_w_of (by omega) (by omega)
  have wn : js_w (ρ 83 82) = ρ 83 82 := js_w_of (by omega) (by omega)
  have c0 : ∀ v : Int, js_J E (d - 1) 179 0 [(2, 56), (0, x), (9, 0)] [] σ = js_r E (0, v) σ → js_J E d 178 0 [(2, 0), (0, x)] [] σ = js_r E (0, v) σ := fun v g => by
    rw [b_178_0 hb h56, wx, if_neg (show ¬ x < 0 by omega), hp.2.1.2.2.2.2, wW, if_pos hx.2, k_178_33 (by omega) g, b_178_36]
  rcases y_at (E := E) (e := e - 1) (K := 2) (k0 := x) hb hp (Or.inr rfl) T 0 x (9, 0) (by omega) (by omega) with ⟨_, _, a3⟩ | ⟨s, j, ⟨⟨_, s2⟩, s3, s4, s5⟩, a5, a6⟩
  · have p0 : po_k ρ 2 0 = 0 := rfl
    rw [← ou_po, ho.1, p0] at a3
    omega
  · obtain ⟨⟨d0, dg⟩, _, ⟨_, d8, _⟩, _⟩ := hp.2.2.1 s (by omega) (by omega)
    have hge := js_sym_ge d0
    have pc := hp.2.2.2.2.2 s (by omega) (by omega) (by omega)
    have ws : js_w (s : Int) = s := js_w_of (by omega) (by omega)
    have a6' : js_J E (e - 1) 280 0 [(2, 83), (0, 2), (0, x), (9, 0), (9, 0)] [] ρ = js_r E (0, s) (js_up ρ 83 90 j) := by
      have g' : js_J E (e - 1) 280 5 [(2, 83), (0, 2), (0, x), (0, x), (0, 0)] [] ρ = js_r E (0, s) (js_up ρ 83 90 j) := a6
      rw [b_280_0, g']
    have z : ∀ a i : Int, ¬ (a = 83 ∧ (i = 0 ∨ i = 90)) → js_up (js_up ρ 83 90 j) 83 0 0 a i = ρ a i := fun a i g => by rw [js_up_ne _ (by omega), js_up_ne _ (by omega)]
    have z1 : js_up (js_up ρ 83 90 j) 83 0 0 83 0 = 0 := js_up_same _ _ _ _
    have y : ∀ a i : Int, ¬ (a = 83 ∧ i = 90) → js_up ρ 83 90 j a i = ρ a i := fun a i g => js_up_ne _ g
    have r0 : js_J E e 281 0 [(2, 83), (0, x), (9, 0)] [] ρ = (if 0 < ρ 83 81 then js_J E e 281 58 [(2, 83), (0, x), (0, s)] [] (js_up (js_up ρ 83 90 j) 83 0 0) else (if ρ 83 82 = 0 then js_J E e 281 58 [(2, 83), (0, x), (0, s)] [] (js_up (js_up ρ 83 90 j) 83 0 0) else (if 0 ≤ js_w ((4096 * ((js_w (ρ 83 82 - 1)).tmod 16)) + x) ∧ js_w ((4096 * ((js_w (ρ 83 82 - 1)).tmod 16)) + x) < 65536 then js_r E (0, ρ 126 (js_w ((4096 * ((js_w (ρ 83 82 - 1)).tmod 16)) + x))) (js_up (js_up ρ 83 90 j) 83 0 0) else none))) := by
      rw [b_281_0, hl, if_neg (show ¬ js_w 1 = 0 by decide), wx, if_neg (show ¬ x < 0 by omega), k_281_14 (by omega) a6', b_281_17, b_281_21, ws, if_neg (show ¬ (s : Int) < 0 by omega), b_281_32, if_neg (show ¬ 0 < js_w 0 by decide), y 83 81 (by omega), w81, y 83 82 (by omega), wn, y 126 _ (by omega)]
    have dflt : js_J E e 281 58 [(2, 83), (0, x), (0, s)] [] (js_up (js_up ρ 83 90 j) 83 0 0) = js_r E (0, ρ 94 s) (js_up (js_up ρ 83 90 j) 83 0 0) := by
      rw [b_281_58, ws, if_pos (show 0 ≤ (s : Int) ∧ (s : Int) < 400 by omega), z _ _ (by omega)]
    have c1 : ∀ d : Nat, 2 ≤ d → js_J E d 135 0 [(2, 7 + b), (0, 2), (0, x), (9, 0), (9, 0), (9, 0)] [] σ = js_r E (0, ρ 90 s + j) σ := fun d hd => by
      have g' : js_J E d 135 5 [(2, 7 + b), (0, 2), (0, x), (0, x), (0, 0), (9, 0)] [] σ = js_r E (0, ρ 90 s + j) σ := a5 d hd
      rw [b_135_0, g']
    have c2 : js_J E (d - 1 - 1) 134 0 [(2, 7 + b), (0, 2), (0, x), (9, 0), (9, 0), (9, 0)] [] σ = js_r E (2, σ (19 + b) s) σ := by
      have g := c_portAt (E := E) (d := d - 1 - 1) (k0 := x) hb hp hpd (Or.inr rfl) (by omega) s2 s3 s4 s 0 (9, 0) (by omega)
      have g' : js_J E (d - 1 - 1) 134 10 [(2, 7 + b), (0, 2), (0, x), (0, ρ 90 s + j), (0, 0), (9, 0)] [] σ = js_r E (2, σ (19 + b) s) σ := g
      rw [b_134_0, k_134_3 hb (by omega) (c1 _ (by omega)), b_134_6, g']
    have cd : js_J E (d - 1) 179 21 [(2, 56), (0, x), (9, 0)] [] σ = js_r E (0, ρ 94 s) σ := by
      rw [b_179_21 hb h56, k_179_27 hb (by omega) c2, b_179_30, if_neg (show ¬ σ (19 + b) s < 0 by omega), b_179_39 d0, d8]
    by_cases q : ρ 83 81 = 0
    · by_cases q2 : ρ 83 82 = 0
      · exact ⟨ρ 94 s, ρ 94 s, _, c0 _ (by rw [b_179_0, hv.1.1, q, if_pos (show js_w 0 = 0 from rfl), hv.2.1.1, q2, if_neg (show ¬ 0 < js_w 0 by decide), cd]), by rw [r0, if_neg (show ¬ 0 < ρ 83 81 by omega), if_pos q2, dflt], rfl, z, z1⟩
      · have n0 := hv.2.1.2
        obtain ⟨e1, e2⟩ := y_kept (d := d - 1 - 1) (m := ρ 83 82) (k := 0) hb h hem (by omega) hx (by omega) (by omega)
        have wm : js_w (ρ 83 82 - 1) = ρ 83 82 - 1 := js_w_of (by omega) (by omega)
        have tm : (ρ 83 82 - 1).tmod 16 = (ρ 83 82 - 1) % 16 := Int.tmod_eq_emod_of_nonneg (by omega)
        have wi : js_w (4096 * ((ρ 83 82 - 1) % 16) + x) = 4096 * ((ρ 83 82 - 1) % 16) + x := js_w_of (by omega) (by omega)
        refine ⟨_, _, _, c0 _ (by rw [b_179_0, hv.1.1, q, if_pos (show js_w 0 = 0 from rfl), hv.2.1.1, wn, if_pos (show 0 < ρ 83 82 by omega), k_179_17 (by omega) e1, b_179_20]), by rw [r0, if_neg (show ¬ 0 < ρ 83 81 by omega), if_neg q2, wm, tm, wi, if_pos (show 0 ≤ 4096 * ((ρ 83 82 - 1) % 16) + x ∧ 4096 * ((ρ 83 82 - 1) % 16) + x < 65536 by omega)], e2, z, z1⟩
    · exact ⟨ρ 94 s, ρ 94 s, _, c0 _ (by rw [b_179_0, hv.1.1, w81, if_neg q, cd]), by rw [r0, if_pos (show 0 < ρ 83 81 by omega), dflt], rfl, z, z1⟩
end YQ2
