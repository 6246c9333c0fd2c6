/-! part 99.zzy: the arms of a case in step -/
theorem ef_cd {b n t p i : Int} {σ σ' : js_S} (hb : b = 0 ∨ b = 25) (h : ef_R b n t p σ σ') (hi : i < n) : σ' (10 + b) i = σ (10 + b) i := h _ _ (by unfold ef_D; omega)
theorem ca_fr {b p t q x4 c1 c2 c3 mm : Int} {Qs : List Int} {σ2 ρ2 ρ3 σ4 ρ4 : js_S} {j2 : Nat} (hb : b = 0 ∨ b = 25) (r2 : rd_R σ2 ρ2 j2) (hp : p ≤ σ2 (8 + b) 6) (hQ : ∀ x : Int, x ∈ Qs → p ≤ x) (kO : ∀ a i : Int, ¬ (a = 8 + b ∧ (i = 6 ∨ i = 7)) → ¬ (9 + b ≤ a ∧ a ≤ 14 + b ∧ i = σ2 (8 + b) 6) → ¬ (a = 10 + b ∧ i ∈ Qs) → σ4 a i = σ2 a i) (h34 : ∀ a i : Int, ¬ (a = 107 ∧ i = x4 ∧ 0 ≤ x4) → ρ4 a i = ρ3 a i) (hw : nw_R ρ2 ρ3 25 c1 c2 c3 mm 0 0) (h0 : 0 ≤ ρ2 83 33) : rd_R σ4 ρ4 j2 ∧ (∀ k : Int, k ≠ 6 → k ≠ 7 → σ4 (8 + b) k = σ2 (8 + b) k) ∧ σ4 (23 + b) 15 = σ2 (23 + b) 15 ∧ (∀ i : Int, i ≠ 33 → ρ4 83 i = ρ2 83 i) ∧ ρ4 83 33 = ρ2 83 33 + 1 ∧ eg_R 0 ρ2 ρ4 ∧ ef_R b p t q σ2 σ4 := by
  have hwO := hw.2.2.2.2.2.2
  have hw1 := hw.1
  have z83 : ∀ i : Int, i ≠ 33 → ρ4 83 i = ρ2 83 i := fun i g => by rw [h34 _ _ (by omega), hwO _ _ (by omega) (by omega)]
  exact ⟨rd_R_of r2 (fun i _ => kO _ _ (by omega) (by omega) (fun hh => by omega)) (fun a i _ _ => kO _ _ (by omega) (by omega) (fun hh => by omega)) (fun i _ _ => z83 i (by omega)) (fun i => by rw [h34 _ _ (by omega), hwO _ _ (by omega) (by omega)]), fun k g1 g2 => kO _ _ (by omega) (by omega) (fun hh => by omega), kO _ _ (by omega) (by omega) (fun hh => by omega), z83, by rw [h34 _ _ (by omega)]; exact hw1, fun a i g1 g2 => by rw [h34 a i (by omega), hwO a i (by omega) (by omega)], fun a i g => kO a i (fun hh => g (ef_D8 ⟨hh.1, by omega⟩)) (fun hh => g (ef_D9 ⟨hh.1, hh.2.1, by omega⟩)) (fun hh => g (ef_D9 ⟨by omega, by omega, hQ i hh.2⟩))⟩
section SV
variable {E : js_E} {d e : Nat} {b F : Int} {B U : Int → Int} {X : Int → Prop}
theorem r_238_307F {ρ : js_S} {x1 x2 x3 x4 x5 x6 z0 : Int} {u7 u8 : js_v} (h : rx_F ρ) (he : 6 ≤ e) : js_J E e 238 307 [(2, 83), (0, x1), (0, x2), (0, x3), (0, x4), (0, x5), (0, x6), u7, u8] [(0, z0)] ρ = js_r E (0, 0) (js_up ρ 83 10 (ρ 83 10 - 1)) := by
  have hF : rx_F (js_up ρ 83 10 (ρ 83 10 - 1)) := rx_F_up h (by decide) (by decide)
  rw [b_238_307, b_238_309, k_238_312 (by omega) (r_leaveF h (by omega) (by decide) (by decide)), b_238_315]
  by_cases q : js_w x6 = 0
  · rw [if_pos q, b_238_328, k_238_334 (by omega) (r_nodeF hF), b_238_337]
  · rw [if_neg q, b_238_328, k_238_334 (by omega) (r_nodeF hF), b_238_337]
/-- the reference behind the node of an ARM -/
theorem ca_Rf {ρ3 : js_S} {x1 x2 x3 x4 x5 x6 x7 n : Int} {u8 : js_v} (h9 : ρ3 83 9 = 0) (hx : -1 ≤ x4 ∧ x4 < 66000) : ∃ ρ4 : js_S, js_J E e 238 236 [(2, 83), (0, x1), (0, x2), (0, x3), (0, x4), (0, x5), (0, x6), (0, x7), u8] [(0, n)] ρ3 = js_J E e 238 70 [(2, 83), (0, x1), (0, x2), (0, if x4 < 0 then n else x3), (0, n), (0, x5), (0, x6), (0, x7), (0, n)] [] ρ4 ∧ (∀ a i : Int, ¬ (a = 107 ∧ i = x4 ∧ 0 ≤ x4) → ρ4 a i = ρ3 a i) ∧ (0 ≤ x4 → ρ4 107 x4 = n) := by
  rw [b_238_236, h9, if_neg (show ¬ 0 < js_w 0 by decide), js_w_of (x := x4) (by omega) (by omega)]
  by_cases q : x4 < 0
  · refine ⟨ρ3, ?_, fun _ _ _ => rfl, fun h => absurd h (by omega)⟩
    rw [if_pos q, if_pos q, b_238_267]
  · refine ⟨js_up ρ3 107 x4 n, ?_, fun a i g => js_up_ne _ (by omega), fun _ => js_up_same _ _ _ _⟩
    rw [if_neg q, if_pos (by omega), if_neg q, b_238_267]
theorem y_arms {J0 : Nat} {ty tm : Int} (hb : b = 0 ∨ b = 25) (hS : sa_P E b F B U X J0) (hty : 0 ≤ ty ∧ ty < 1000) (htm : 0 ≤ tm ∧ tm < 1024) : ∀ (G : Nat) (σ ρ : js_S) (j : Nat) (Q0 : List Int) (Ex Lx nx x1 x2 x3 x4 : Int) (u6 u7 w5 w6 w7 w8 : js_v), 8200 ≤ G + j → J0 ≤ j + 1 → ux_R E b F B U X σ ρ → xn_R b σ ρ j → rd_R σ ρ j → (0 ≤ nx ∧ nx ≤ j) → (-1 ≤ x4 ∧ x4 < ρ 83 33) → (0 ≤ x4 → ρ 107 x4 = -1) → (x4 < 0 → x3 = -1) → (0 ≤ x2 ∧ x2 < ρ 83 33 ∧ ρ 101 x2 = ty) → σ (8 + b) 10 = tm + 1 → jw (fun i => σ (10 + b) i) Q0 (σ (8 + b) 6) Ex → (0 ≤ Lx ∧ Lx ≤ 400000) → σ (8 + b) 10 ≤ 2 * ρ 83 10 + 2 → σ (23 + b) 15 ≤ 6 * ρ 83 10 → 4 * (65 - ρ 83 10) + 31 ≤ (d : Int) → 12 * (65 - ρ 83 10) + 33 ≤ (e : Int) → (∃ (σ' ρ' : js_S) (j' : Nat) (Ez Lz n m y4 y5 hs : Int) (v6 v7 z7 z8 : js_v) (s : tr_T), js_J E d 99 99 [(2, 22 + b), (0, ty), (0, tm), (0, Ex), (0, Lx), (0, nx), u6, u7] [] σ = js_J E d 99 241 [(2, 22 + b), (0, ty), (0, tm), (0, Ez), (0, Lz), (0, y5), v6, v7] [] σ' ∧ js_J E e 238 70 [(2, 83), (0, x1), (0, x2), (0, x3), (0, x4), w5, w6, w7, w8] [] ρ = js_J E e 238 309 [(2, 83), (0, x1), (0, x2), (0, if x4 < 0 then n else x3), (0, y4), (0, m), (0, hs), z7, z8] [] ρ' ∧ (hs = 0 ∧ m = -1 ∨ hs = 1) ∧ ca_R E b F B U X Q0 x4 Lx σ ρ j σ' ρ' j' Ez Lz n m s) ∨ (∃ (ρ' : js_S) (v : Int), js_J E e 238 70 [(2, 83), (0, x1), (0, x2), (0, x3), (0, x4), w5, w6, w7, w8] [] ρ = js_r E (0, v) ρ' ∧ sF_P E b σ ρ ρ' (js_J E d 99 99 [(2, 22 + b), (0, ty), (0, tm), (0, Ex), (0, Lx), (0, nx), u6, u7] [] σ)) := by
  intro G
  induction G with
  | zero =>
    intro σ ρ j Q0 Ex Lx nx x1 x2 x3 x4 u6 u7 w5 w6 w7 w8 hG _ _ _ hR
    have := rd_j hR
    omega
  | succ G ih =>
    intro σ ρ j Q0 Ex Lx nx x1 x2 x3 x4 u6 u7 w5 w6 w7 w8 hG hJ hx hn hR hnx hx4 h107 hx3 hx2 h10 hq hL ht hp hd he
    have hj := rd_j hR
    have D1 := hR.2.2.2.2.2
    have hn0 := hn
    unfold xn_R at hn0
    have o9 : ρ 83 9 = 0 := hR.2.2.1.2.2.1
    have hV := (rd_V hR).1
    have w0 : js_w (ρ 83 5) = ρ 83 5 := by
      unfold tk_V at hV
      exact js_w_of (by omega) (by omega)
    have t125 : tk_m 125 = 125 := by decide
    have t308 : tk_m 308 = 208 := by decide
    have tkA := tkq hR (k := 125) (by unfold tk_V; omega)
    have tkB := tkq hR (k := 308) (by unfold tk_V; omega)
    rw [t125] at tkA
    rw [t308] at tkB
    have wnx := js_w_of (x := nx) (by omega) (by omega)
    by_cases qA : ρ 83 5 = 125
    · have cA := tkA.mpr qA
      have nB : ¬ js_w (σ 1 1) = 208 := by rw [cA]; decide
      have nB2 : ¬ ρ 83 5 = 308 := by omega
      have ef : (if x4 < 0 then (-1 : Int) else x3) = x3 := by
        by_cases q : x4 < 0
        · rw [if_pos q, hx3 q]
        · rw [if_neg q]
      refine Or.inl ⟨σ, ρ, j, Ex, Lx, -1, -1, x4, nx, 0, u6, u7, w7, w8, _, ?_, ?_, Or.inl ⟨rfl, rfl⟩, ca_nil hx hn hR hL h107 hq (by unfold zz_b; have := hR.2.2.2.2.2; omega)⟩
      · rw [b_99_99 hb, wnx, if_pos (show nx < 1000000 by omega), if_pos cA, b_99_209 hb, if_neg nB]
      · rw [ef, b_238_70, o9, if_pos (show js_w 0 = 0 from rfl), w0, if_pos qA, b_238_274, w0, if_neg nB2, b_238_292, if_pos (show js_w 0 = 0 from rfl)]
    · by_cases qB : ρ 83 5 = 308
      · have cB := tkB.mpr qB
        have nA : ¬ js_w (σ 1 1) = 125 := fun h => qA (tkA.mp h)
        have ef : (if x4 < 0 then (-1 : Int) else x3) = x3 := by
          by_cases q : x4 < 0
          · rw [if_pos q, hx3 q]
          · rw [if_neg q]
        obtain ⟨σ1, j1, e1, hR1, f1, _, hj1⟩ := y_next (E := E) (d := d - 1) hR
        have hj1' := hj1 (by omega)
        subst hj1'
        clear hj1
        have p1 : og_R ρ (rx_next ρ) := fun a i g => rx_next_o _ (by omega)
        have t1 : ∀ a i : Int, ¬ (a = 83 ∧ 5 ≤ i ∧ i ≤ 9) → rx_next ρ a i = ρ a i := fun a i g => rx_next_o _ (by omega)
        have hx1 := ux_ef hb hx (ef_R_tk (n := 0) (t := 0) (p := 0) f1) (eg_R_og (N := 0) p1)
        have v : ∀ k : Int, σ1 (8 + b) k = σ (8 + b) k := fun k => f1 _ _ (by omega) (by omega)
        have v6 := v 6
        have v7 := v 7
        have v10 := v 10
        have v11 := v 11
        have v12 := v 12
        have v15 : σ1 (23 + b) 15 = σ (23 + b) 15 := f1 _ _ (by omega) (by omega)
        have u33 : rx_next ρ 83 33 = ρ 83 33 := t1 _ _ (by omega)
        have u44 : rx_next ρ 83 44 = ρ 83 44 := t1 _ _ (by omega)
        have u10 : rx_next ρ 83 10 = ρ 83 10 := t1 _ _ (by omega)
        have hn1 : xn_R b σ1 (rx_next ρ) (j + 1) := by
          unfold xn_R
          push_cast
          omega
        have s75 : σ1 (7 + b) 1 = rx_next ρ 83 11 := hx1.1.1.2.2.2.2.1
        have cls : js_J E d 99 99 [(2, 22 + b), (0, ty), (0, tm), (0, Ex), (0, Lx), (0, nx), u6, u7] [] σ = js_J E d 99 238 [(2, 22 + b), (0, ty), (0, tm), (0, Ex), (0, Lx), (0, nx), u6, u7] [(2, -1), (0, rx_next ρ 83 11), (2, 22 + b)] σ1 := by
          rw [b_99_99 hb, wnx, if_pos (show nx < 1000000 by omega), if_neg nA, if_pos cB, b_99_209 hb, if_pos cB, k_99_226 (by omega) e1, b_99_229 hb, s75]
        have rfl' : js_J E e 238 70 [(2, 83), (0, x1), (0, x2), (0, x3), (0, x4), w5, w6, w7, w8] [] ρ = js_J E e 238 304 [(2, 83), (0, x1), (0, x2), (0, x3), (0, x4), (0, -1), (0, 1), w7, w8] [(2, 83)] (rx_next ρ) := by
          rw [b_238_70, o9, if_pos (show js_w 0 = 0 from rfl), w0, if_neg qA, if_pos qB, b_238_274, w0, if_pos qB, b_238_292, if_neg (show ¬ js_w 1 = 0 by decide), k_238_300 (by omega) (r_next' hR.2.2.1 (by omega)), b_238_303]
        rw [cls, rfl']
        rcases y_block (E := E) (d := d - 1) (e := e - 1) hb hS (by omega) hx1 hn1 hR1 (by omega) (by omega) (by omega) (by omega) with ⟨σ', ρ', j', mm, r, er, ec, hbl⟩ | ⟨ρ', vv, er, hf⟩
        · have hn2 := xn_nextb hn1 hbl
          rw [k_99_238 hb (by omega) ec, k_238_304 (by omega) er, b_238_307]
          exact Or.inl ⟨σ', ρ', j', Ex, Lx, -1, mm, x4, nx, 1, u6, u7, w7, w8, _, rfl, by rw [ef], Or.inr rfl, ca_else hb (xs_ge hx.1) hL h107 hx4.2 hq f1 t1 hn2.2.1 hbl⟩
        · have f0 := sF_up (fr_R_ef hb (ef_R_tk (n := 0) (t := 0) (p := 0) f1)) (rf_R_eg (N := 0) (eg_R_og p1)) hf
          have hF := f0.2.1
          rw [k_238_304 (by omega) er, r_238_307F hF (by omega)]
          have f2 := sF_more (ρ' := js_up ρ' 83 10 (ρ' 83 10 - 1)) f0 hf_up
          obtain ⟨a1, a2, a3, a4, σz, a5, a6⟩ := f2
          rw [kt_99_238 hb (by omega) a5]
          exact Or.inr ⟨_, _, rfl, a1, a2, a3, a4, σz, rfl, a6⟩
      · have nA : ¬ js_w (σ 1 1) = 125 := fun h => qA (tkA.mp h)
        have nB : ¬ js_w (σ 1 1) = 208 := fun h => qB (tkB.mp h)
        rw [b_99_99 hb, wnx, if_pos (show nx < 1000000 by omega), if_neg nA, if_neg nB, b_238_70, o9, if_pos (show js_w 0 = 0 from rfl), w0, if_neg qA, if_neg qB, js_w_of (x := x2) (by omega) (by omega), if_pos (show 0 ≤ x2 ∧ x2 < 66000 by omega), hx2.2.2]
        rcases y_arm (E := E) (d := d - 1) (e := e) (x1 := x1) (x2 := x2) (x3 := x3) (x4 := x4) (u5 := w5) (u6 := w6) (u7 := w7) (u8 := w8) hb hx.1 hn hR hty htm (by omega) hx2.2.2 (by omega) (by omega) with ⟨σ1, ρ1, j1, sk, v1, v2, two, ec1, er1, A⟩ | ⟨ρ', er1, hf⟩
        · have ra := A.1.1
          have qa := A.1.2.1
          have tfa := A.1.2.2.1
          have Fa := A.1.2.2.2
          have ka := A.2.1.2.1
          have ka15 := A.2.1.2.2
          have hvv := A.2.2.1.1
          have hj1 := rd_j ra
          have two01 : two = 0 ∨ two = 1 := by
            rcases A.2.2.2 with h | h
            · exact Or.inl h.1
            · exact Or.inr h.1
          obtain ⟨W, hW⟩ : ∃ W : Int, W = if two = 1 then 10 else 5 := ⟨_, rfl⟩
          have W1 : W = 5 ∨ W = 10 := by
            rw [hW]
            split
            · exact Or.inr rfl
            · exact Or.inl rfl
          have a6 : σ1 (8 + b) 6 = σ (8 + b) 6 + W := by
            rcases A.2.2.2 with h | h
            · rw [hW, if_neg (show ¬ two = 1 by have := h.1; omega)]
              exact h.2.2.1
            · rw [hW, if_pos h.1]
              exact h.2.1
          have a7 : σ1 (8 + b) 7 = min 400000 (σ (8 + b) 7 + W) := by
            rcases A.2.2.2 with h | h
            · rw [hW, if_neg (show ¬ two = 1 by have := h.1; omega)]
              exact h.2.2.2.1
            · rw [hW, if_pos h.1]
              exact h.2.2.1
          have b1r : 0 ≤ σ1 (8 + b) 7 ∧ σ1 (8 + b) 7 ≤ 400000 := by omega
          have bE : ∀ {Lz b2 b5 cr cs : Int}, 0 ≤ cr → 0 ≤ cs → b2 = min 400000 (σ1 (8 + b) 7 + cr) → max Lz b5 = max (max Lx (min 400000 (b2 + 1))) (min 400000 (σ1 (8 + b) 7 + cs)) → max Lz b5 = max Lx (min 400000 (σ (8 + b) 7 + (W + max (cr + 1) cs))) := fun h1 h2 h3 h4 => cs_n1 hn0.2.1.1 hn0.2.1.2 W1 h1 h2 a7 h3 h4
          clear a7
          have r208 : js_J E e 238 208 [(2, 83), (0, x1), (0, x2), (0, x3), (0, x4), (0, v1), (0, v2), (0, two), w8] [] ρ1 = js_J E e 238 221 [(2, 83), (0, x1), (0, x2), (0, x3), (0, x4), (0, v1), (0, v2), (0, two), w8] [(0, two), (0, 25), (2, 83)] ρ1 := by
            rw [b_238_208]
            rcases two01 with h | h
            · rw [h, if_pos (show js_w 0 = 0 from rfl)]
            · rw [h, if_neg (show ¬ js_w 1 = 0 by decide)]
          have hux1 := ux_ef hb hx Fa (eg_R_tf (N := 0) tfa)
          have c10 := ka 10 (by decide) (by decide)
          have c11 := ka 11 (by decide) (by decide)
          have c12 := ka 12 (by decide) (by decide)
          have u33 : ρ1 83 33 = ρ 83 33 := tfa _ _ (by omega)
          have u44 : ρ1 83 44 = ρ 83 44 := tfa _ _ (by omega)
          have u10 : ρ1 83 10 = ρ 83 10 := tfa _ _ (by omega)
          have hn1 : xn_R b σ1 ρ1 j1 := by
            unfold xn_R
            omega
          have s71 : σ1 (7 + b) 1 = ρ1 83 11 := hux1.1.1.2.2.2.2.1
          rw [k_99_134 hb (by omega) ec1, b_99_137 hb, s71, er1, r208, b_238_221, js_w_of (x := v1) (by omega) (by omega), js_w_of (x := v2) (by omega) (by omega)]
          rcases y_block (E := E) (d := d - 1) (e := e - 1) hb hS (by omega) hux1 hn1 ra (by omega) (by omega) (by omega) (by omega) with ⟨σ2, ρ2, j2, mm, r, er2, ec2, hbl⟩ | ⟨ρ', vv, er2, hf⟩
          · have hn2 := xn_nextb hn1 hbl
            have r2 := hbl.1.1
            have qb := hbl.1.2.1
            have dpb := hbl.1.2.2.1
            have sfb := hbl.1.2.2.2.1
            have sgb := hbl.1.2.2.2.2.1
            have mb := hbl.1.2.2.2.2.2.1
            have y10 := hbl.2.2.1.1.2.1
            have y15 := hbl.2.2.1.1.1
            have y6 := hbl.2.2.1.1.2.2.1
            have hux2 := hbl.2.2.2.2
            have hj2 := rd_j r2
            have lr := st_ln_0 r
            have hn20 := hn2
            unfold xn_R at hn20
            obtain ⟨Qs, jqs, hQs⟩ := ar_jw A hn0.1.1
            have jqs2 : jw (fun i => σ2 (10 + b) i) Qs (σ2 (8 + b) 6) sk := jw_up Qs (jw_of Qs _ _ (fun i hi => sf_code hb sfb (by omega) (by omega) hi) jqs) (by omega)
            obtain ⟨σ4, e4, ⟨k6, k7⟩, kO, kq, kv⟩ := ca_C (E := E) (d := d) (ty := ty) (tm := tm) (Ex := Ex) (Lx := Lx) (nx := nx) (sk := sk) (bf := σ1 (8 + b) 7) hb (xn_cz hn2 r2) (by omega) hL jqs2 b1r (by omega)
            obtain ⟨ρ3, er3, hw⟩ := r_node (E := E) (e := e - 1) (ρ := ρ2) (k := 25) (ty := two) (lo := v1) (hi := v2) (a := mm) (b := 0) (c := 0) r2.2.2.1.2.2.1 (by omega) (by omega) (by decide) (by decide)
            have hwO := hw.2.2.2.2.2.2
            have hw1 := hw.1
            have o93 : ρ3 83 9 = 0 := by rw [hwO _ _ (by omega) (by omega)]; exact r2.2.2.1.2.2.1
            obtain ⟨ρ4, er4, h34, h107'⟩ := ca_Rf (E := E) (e := e) (ρ3 := ρ3) (x1 := x1) (x2 := x2) (x3 := x3) (x4 := x4) (x5 := v1) (x6 := v2) (x7 := two) (n := ρ2 83 33) (u8 := w8) o93 (by omega)
            rw [k_99_157 hb (by omega) ec2, e4, k_238_228 (by omega) er2, b_238_231, k_238_233 (by omega) er3, er4]
            have hQp : ∀ x : Int, x ∈ Qs → σ (8 + b) 6 ≤ x := fun x h => by
              rcases (hQs x).mp h with g | g
              · omega
              · omega
            obtain ⟨r4, k48, k15, z83, e33, G24, F24⟩ := ca_fr (p := σ (8 + b) 6) (t := σ (8 + b) 10) (q := σ (23 + b) 15) hb r2 (by omega) hQp kO h34 hw (by omega)
            have hux4 := ux_ef hb hux2 F24 G24
            have e10 := z83 10 (by decide)
            have e44 := z83 44 (by decide)
            have k10 := k48 10 (by decide) (by decide)
            have k11 := k48 11 (by decide) (by decide)
            have k12 := k48 12 (by decide) (by decide)
            have m2' := hbl.1.2.2.2.2.2.2.1
            have tl := hbl.2.2.2.1.2.2.1.1
            have hn4 : xn_R b σ4 ρ4 j2 := by
              unfold xn_R
              omega
            have n107 : ρ4 107 (ρ2 83 33) = -1 := by rw [h34 _ _ (by omega)]; exact hw.2.2.2.2.2.1
            have n101 : ρ4 101 x2 = ty := by rw [h34 _ _ (by omega), hwO _ _ (by omega) (by omega), sgb _ _ (by omega) (by omega) (by omega) (by omega) (by omega), tfa _ _ (by omega)]; exact hx2.2.2
            have jq4 : jw (fun i => σ4 (10 + b) i) (σ2 (8 + b) 6 :: Q0) (σ4 (8 + b) 6) (σ2 (8 + b) 6) := by
              refine ⟨rfl, ⟨by omega, by omega⟩, fun h8 => ?_⟩
              show jw (fun i => σ4 (10 + b) i) Q0 (σ2 (8 + b) 6) (σ4 (10 + b) (σ2 (8 + b) 6))
              rw [(kv h8).2.1]
              refine jw_up Q0 (jw_of Q0 _ _ (fun i hi => ?_) hq) (by omega)
              show σ4 (10 + b) i = σ (10 + b) i
              rw [kO _ _ (by omega) (by omega) (fun hh => by have := (hQs i).mp hh.2; omega), sf_code hb sfb (by omega) (by omega) (by omega)]
              exact ef_cd hb Fa hi
            have Lyr : 0 ≤ max Lx (min 400000 (σ2 (8 + b) 7 + 1)) ∧ max Lx (min 400000 (σ2 (8 + b) 7 + 1)) ≤ 400000 := ⟨Int.le_trans hL.1 (Int.le_max_left _ _), Int.max_le.mpr ⟨hL.2, Int.min_le_left _ _⟩⟩
            have fr4 : fr_R b σ σ4 := fr_R_trans (fr_R_ef hb Fa) (fr_R_trans sfb.1 (fr_R_ef hb F24))
            have rf4 : rf_R ρ ρ4 := rf_R_trans (rf_R_tf tfa) (rf_R_trans (rf_R_sg sgb) (rf_R_eg G24))
            rcases ih σ4 ρ4 j2 (σ2 (8 + b) 6 :: Q0) (σ2 (8 + b) 6) (max Lx (min 400000 (σ2 (8 + b) 7 + 1))) (nx + 1) x1 x2 (if x4 < 0 then ρ2 83 33 else x3) (ρ2 83 33) (0, sk) (0, σ1 (8 + b) 7) (0, v1) (0, v2) (0, two) (0, ρ2 83 33) (by omega) (by omega) hux4 hn4 r4 (by omega) (by omega) (fun _ => n107) (fun h => absurd h (by omega)) ⟨hx2.1, by omega, n101⟩ (by omega) jq4 Lyr (by omega) (by omega) (by omega) (by omega) with ⟨σ5, ρ5, j5, Ez, Lz, nr, m, y4, y5, hs, v6, v7, z7, z8, s, ec5, er5, hhs, R5⟩ | ⟨ρ', vv, er5, hf⟩
            · rw [if_neg (show ¬ ρ2 83 33 < 0 by omega)] at er5
              rw [ec5, er5]
              have zb := R5.2.2.1.2.1.1
              have scn := R5.2.2.2.2.1.2.2.2.1.2.1
              rw [k7] at zb
              have hbn : bn_P Lz (σ5 (8 + b) 7) Lx (σ (8 + b) 7) (st_cn B (tr_n 25 two v1 v2 0 (σ (17 + b) tm) (σ (18 + b) tm) r s)) := by
                unfold bn_P
                rw [st_cn25, ← hW]
                exact bE hbl.2.2.2.1.2.2.1.2.1 scn hbl.2.2.1.1.2.2.2.1 zb
              exact Or.inl ⟨σ5, ρ5, j5, Ez, Lz, ρ2 83 33, m, y4, y5, hs, v6, v7, z7, z8, _, rfl, rfl, hhs, ca_step hb hn0.2.2.2.2.1.1 hn0.1.1 hx.1.1.2.2.2.2.1 (xs_ge hx.1) hW hbn hx4.2 h10 A hQs hbl hw h34 h107' k6 kO kq kv R5⟩
            · rw [er5]
              exact Or.inr ⟨ρ', vv, rfl, sF_up fr4 rf4 hf⟩
          · have f0 := sF_up (fr_R_ef hb Fa) (rf_R_tf tfa) hf
            have hF := f0.2.1
            rw [k_238_228 (by omega) er2, b_238_231, k_238_233 (by omega) (r_nodeF hF), b_238_236, if_pos (rx_F_9 hF)]
            obtain ⟨a1, a2, a3, a4, σz, a5, a6⟩ := f0
            rw [kt_99_157 hb (by omega) a5]
            exact Or.inr ⟨_, _, rfl, a1, a2, a3, a4, σz, rfl, a6⟩
        · obtain ⟨a1, a2, a3, a4, σz, a5, a6⟩ := hf
          rw [er1, kt_99_134 hb (by omega) a5]
          exact Or.inr ⟨_, _, rfl, a1, a2, a3, a4, σz, rfl, a6⟩
end SV
