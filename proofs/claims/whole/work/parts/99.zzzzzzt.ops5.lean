/-! part 99.zzzzzzt: output, past, steps, cycle: whether they throw or not -/
section OE
variable {E : js_E} {n b x1 x2 C : Int} {d e : Nat} {T : Nat} {N ac zc : Int} {Fu : Int → Int → Int → Prop} {σ ρ σ' ρ' : js_S}
theorem lx_output (h : LQ E n σ ρ) (hn : n ≤ 1000000) (h1 : -2147483648 ≤ x1 ∧ x1 < 2147483648) (hd : 12 ≤ d) (he : 3 ≤ e) : LX E n d 303 [(2, 0), (0, x1), (2, 136), (9, 0)] e 281 [(2, 83), (0, x1), (9, 0)] 0 (fun w => js_l (js_w w)) σ ρ := by
  have h' := h
  obtain ⟨_, hH, b, ⟨hb, ⟨h4, _, h56⟩, _⟩, hl⟩ := h'
  have w1 : js_w x1 = x1 := js_w_of h1.1 h1.2
  have thr : js_J E (d - 1) 178 18 [(2, 0), (0, x1)] [] σ = js_t E (σ (-1) 0) (js_ne σ 18) := b_178_18 (by omega) hH.1.1 hH.1.2
  have rr : ∀ z : Int, js_w z < 0 → js_J E e 281 21 [(2, 83), (0, x1), (9, 0)] [(0, z)] ρ = js_r E (0, 0) (js_up ρ 83 0 1) := fun z hz => by
    rw [b_281_21, if_pos hz, b_281_32, if_pos (show 0 < js_w 1 by decide)]
  have no : js_J E (d - 1) 178 0 [(2, 0), (0, x1)] [] σ = js_t E (σ (-1) 0) (js_ne σ 18) → js_J E e 281 0 [(2, 83), (0, x1), (9, 0)] [] ρ = js_r E (0, 0) (js_up ρ 83 0 1) → LX E n d 303 [(2, 0), (0, x1), (2, 136), (9, 0)] e 281 [(2, 83), (0, x1), (9, 0)] 0 (fun w => js_l (js_w w)) σ ρ := fun g1 g2 => lx_throw (c := 18) (k := 1) h (by decide) (by rw [b_303_0, kc_303_4_18 (by omega) g1 (js_ne_d hH.1.1 (by decide)), b_303_12]) ⟨0, g2⟩
  rcases hl with h0 | ⟨⟨l1, l2, l3⟩, Fu, ac, zc, N, T, hm, _, _⟩
  · obtain ⟨⟨a1, a2⟩, _, _, a7, _⟩ := h0
    refine no ?_ (by rw [b_281_0, a2, if_pos (show js_w 0 = 0 from rfl), b_281_20, rr _ (by decide)])
    rw [b_178_0 hb h56, w1, a7]
    by_cases t : x1 < 0
    · rw [if_pos t, thr]
    · rw [if_neg t, if_neg (show ¬ x1 < js_w 0 from t), thr]
  · have hp := hm.1.1.2.1
    have ho := hm.1.2.1
    have hN := hp.1.2.1
    have wW : js_w (ρ 83 47) = ρ 83 47 := js_w_of (by omega) (by omega)
    by_cases q : 0 ≤ x1 ∧ x1 < ρ 83 47
    · obtain ⟨v, w, ρ', e1, e2, e3, f, f0⟩ := y_output (E := E) (d := d - 1) (e := e) hb hm l2 (by omega) q (by omega) (by omega)
      exact lx_ok (v := js_w v) (w := w) h (by rw [b_303_0, k_303_4 (by omega) e1, b_303_7, if_pos w01]; rfl) e2 (by rw [e3]) f0 f
    · refine no ?_ ?_
      · rw [b_178_0 hb h56, w1, hp.2.1.2.2.2.2, wW]
        by_cases t : x1 < 0
        · rw [if_pos t, thr]
        · rw [if_neg t, if_neg (show ¬ x1 < ρ 83 47 by omega), thr]
      · rw [b_281_0, l2, if_neg (show ¬ js_w 1 = 0 by decide), w1]
        by_cases t : x1 < 0
        · rw [if_pos t, b_281_20, rr _ (by decide)]
        · rw [if_neg t]
          have hlen : ∀ i : Int, 0 ≤ i → i < T → ρ 86 i = 2 → 0 ≤ ρ 91 i := fun i i1 i2 i3 => (hp.2.2.2.2.2 i i1 i2 (by omega)).1.1
          rcases y_at (E := E) (e := e - 1) (K := 2) (k0 := x1) hb hp (Or.inr rfl) T 0 x1 (9, 0) (by omega) h1 with ⟨_, a2, _⟩ | ⟨s, j, ⟨⟨_, s2⟩, s3, s4, s5⟩, _, _⟩
          · have g : js_J E (e - 1) 280 0 [(2, 83), (0, 2), (0, x1), (9, 0), (9, 0)] [] ρ = js_r E (0, -1) ρ := by
              have g' : js_J E (e - 1) 280 5 [(2, 83), (0, 2), (0, x1), (0, x1), (0, 0)] [] ρ = js_r E (0, -1) ρ := a2
              rw [b_280_0, g']
            rw [k_281_14 (by omega) g, b_281_17, rr _ (by decide)]
          · exfalso
            have en : po_k ρ 2 (s + 1) = po_k ρ 2 s + (if ρ 86 s = 2 then ρ 91 s else 0) := rfl
            rw [if_pos s3] at en
            have mono := po_k_st (ρ := ρ) (M := T) (k := 2) hlen (T - (s + 1)) (s + 1) (by omega)
            rw [show T - (s + 1) + (s + 1) = T by omega, ← ou_po T, ho.1] at mono
            have p0 : po_k ρ 2 0 = 0 := rfl
            rw [p0] at s5
            omega
theorem lx_past (h : LQ E n σ ρ) (hn : n ≤ 1000000) (h1 : -2147483648 ≤ x1 ∧ x1 < 2147483648) (h2 : -2147483648 ≤ x2 ∧ x2 < 2147483648) (hd : 8 ≤ d) : LX E n d 304 [(2, 0), (0, x1), (0, x2), (2, 136), (9, 0)] e 282 [(2, 83), (0, x1), (0, x2), (9, 0)] 0 (fun w => js_l (js_w w)) σ ρ := by
  have h' := h
  obtain ⟨_, hH, b, ⟨hb, ⟨h4, _, h56⟩, _⟩, hl⟩ := h'
  have w1 : js_w x1 = x1 := js_w_of h1.1 h1.2
  have w2 : js_w x2 = x2 := js_w_of h2.1 h2.2
  have thr : js_J E (d - 1) 181 29 [(2, 0), (0, x1), (0, x2)] [] σ = js_t E (σ (-1) 0) (js_ne σ 18) := b_181_29 (by omega) hH.1.1 hH.1.2
  have rr : js_J E e 282 41 [(2, 83), (0, x1), (0, x2), (9, 0)] [] ρ = js_r E (0, 0) (js_up ρ 83 0 1) := by
    rw [b_282_41, b_282_42, if_pos (show js_w 0 = 0 from rfl), b_282_53, if_pos (show js_w 0 = 0 from rfl)]
  have no : js_J E (d - 1) 181 0 [(2, 0), (0, x1), (0, x2)] [] σ = js_t E (σ (-1) 0) (js_ne σ 18) → js_J E e 282 0 [(2, 83), (0, x1), (0, x2), (9, 0)] [] ρ = js_r E (0, 0) (js_up ρ 83 0 1) → LX E n d 304 [(2, 0), (0, x1), (0, x2), (2, 136), (9, 0)] e 282 [(2, 83), (0, x1), (0, x2), (9, 0)] 0 (fun w => js_l (js_w w)) σ ρ := fun g1 g2 => lx_throw (c := 18) (k := 1) h (by decide) (by rw [b_304_0, kc_304_5_18 (by omega) g1 (js_ne_d hH.1.1 (by decide)), b_304_13]) ⟨0, g2⟩
  rcases hl with h0 | ⟨⟨l1, l2, l3⟩, Fu, ac, zc, N, T, hm, _, _⟩
  · obtain ⟨⟨a1, a2⟩, _, _, a7, _⟩ := h0
    refine no ?_ (by rw [b_282_0, a2, if_pos (show js_w 0 = 0 from rfl), rr])
    rw [b_181_0 hb h56, w2, a7]
    by_cases t : x2 < 0
    · rw [if_pos t, thr]
    · rw [if_neg t, if_neg (show ¬ x2 < js_w 0 from t), thr]
  · have hp := hm.1.1.2.1
    have ho := hm.1.2.1
    have hN := hp.1.2.1
    have hv := hm.1.2.2.1.2.1
    have wW : js_w (ρ 83 47) = ρ 83 47 := js_w_of (by omega) (by omega)
    have wn : js_w (ρ 83 82) = ρ 83 82 := js_w_of (by omega) (by omega)
    by_cases q : (0 ≤ x1 ∧ x1 < 16 ∧ x1 < ρ 83 82) ∧ 0 ≤ x2 ∧ x2 < ρ 83 47
    · obtain ⟨v, w, e1, e2, e3⟩ := y_past (E := E) (d := d - 1) (e := e) hb hm l2 (by omega) q.1 q.2 (by omega)
      exact lx_ok (v := js_w v) (w := w) h (by rw [b_304_0, k_304_5 (by omega) e1, b_304_8, if_pos w01]; rfl) e2 (by rw [e3]) (js_up_same _ _ _ _) (fun a i g => js_up_ne _ (by omega))
    · refine no ?_ ?_
      · rw [b_181_0 hb h56, w2, hp.2.1.2.2.2.2, wW]
        by_cases t : x2 < 0
        · rw [if_pos t, thr]
        · rw [if_neg t]
          by_cases t2 : x2 < ρ 83 47
          · have c0 : js_J E (d - 1 - 1) 182 0 [(2, 56), (0, x1)] [] σ = js_r E (0, 0) σ := by
              rw [b_182_0, w1, hv.1, wn]
              by_cases u : x1 < 0
              · rw [if_pos u]
              · rw [if_neg u]
                by_cases u2 : x1 < 16
                · rw [if_pos u2, if_neg (show ¬ x1 < ρ 83 82 by omega)]
                · rw [if_neg u2]
            rw [if_pos t2, k_181_23 (by omega) c0, b_181_26, if_pos (show js_w 0 = 0 from rfl), thr]
          · rw [if_neg t2, thr]
      · rw [b_282_0, l2, if_neg (show ¬ js_w 1 = 0 by decide), w1, w2, wW, wn, rr]
        by_cases t : x2 < 0
        · rw [if_pos t]
        · rw [if_neg t]
          by_cases t2 : x2 < ρ 83 47
          · rw [if_pos t2]
            by_cases u : x1 < 0
            · rw [if_pos u]
            · rw [if_neg u]
              by_cases u2 : x1 < 16
              · rw [if_pos u2, if_neg (show ¬ x1 < ρ 83 82 by omega)]
              · rw [if_neg u2]
          · rw [if_neg t2]
/-- the machines went on -/
theorem lx_ran {dc yc dr yr t : Nat} {lc lr : List js_v} {L : Int → Int} {v w : Int} (h : LQ E n σ ρ) (hP : lq_P E b σ ρ) (l1 : σ 56 2 = 1) (l2 : ρ 83 64 = 1) (hN : lq_N T ρ) (hG : lq_G ρ) (hm : mh_R E Fu ac zc b N T σ' ρ') (hc : js_J E dc yc 0 lc [] σ = js_r E (0, 0) (js_up σ' 136 0 v)) (hr : js_J E dr yr 0 lr [] ρ = js_r E (t, w) ρ') (hv : js_l v = L w) (fc : mg_C σ σ') (fr : mg_M (js_up ρ 83 0 0) ρ') (h82 : ρ' 83 82 ≤ n + 1) : LX E n dc yc lc dr yr lr t L σ ρ := by
  have z : ∀ a i : Int, ¬ (a = 83 ∧ i = 0) → js_up ρ 83 0 0 a i = ρ a i := fun a i g => js_up_ne _ g
  have u : ∀ a i : Int, a ≠ 136 → js_up σ' 136 0 v a i = σ' a i := fun a i g => js_up_na _ g
  have q : ∀ i : Int, ¬ (i = 0 ∨ 77 ≤ i) → ρ' 83 i = ρ 83 i := fun i g => by rw [fr _ _ (by omega) (by omega) (by decide), z _ _ (by omega)]
  have y : ∀ a i : Int, 84 ≤ a → a ≤ 119 → ρ' a i = ρ a i := fun a i g1 g2 => by rw [fr _ _ (by omega) (by omega) (by omega), z _ _ (by omega)]
  have hp := hm.1.1.2.1
  have hm' : mh_R E Fu ac zc b N T (js_up σ' 136 0 v) ρ' := by
    refine mh_mv hP.1 hm (fun a i g1 g2 => u a i ?_) (fun k i k1 k2 => u _ _ ?_) (fun a i g1 g2 g3 => u a i (by omega)) (by rw [u _ _ (by decide)]; exact Int.le_refl _) (fun _ _ => rfl) (fun _ _ _ _ => rfl)
    · have := hP.1
      omega
    · have := js_sym_ge (hp.2.2.1 k k1 k2).1.1
      omega
  refine ⟨js_up σ' 136 0 v, ρ', 0, w, hc, hr, ⟨?_, fun _ => by rw [js_up_same]; exact hv⟩, lq_set h hP l1 l2 hN hG hm' (fun a i g => by rw [u a i (by omega), fc a i (by omega) (by omega)]) (by rw [u _ _ (by decide), fc _ _ (by omega) (by decide)]) q y h82, fun a i g1 g2 => by rw [u a i (by omega), fc a i (by omega) (by omega)], fun a i g => by rw [fr a i (by omega) (by omega) (by omega), z a i (by omega)]⟩
  rw [fr _ _ (by omega) (by omega) (by decide), js_up_same]
theorem lx_steps (h : LQ E n σ ρ) (hn : n ≤ 1000000) (h1 : -2147483648 ≤ x1 ∧ x1 < 2147483648) (hd : 80 ≤ d) (he : 80 ≤ e) : LX E n d 301 [(2, 0), (0, x1), (2, 136), (9, 0)] e 265 [(2, 83), (0, x1), (9, 0)] 0 (fun w => js_l (js_w w)) σ ρ := by
  have h' := h
  obtain ⟨_, hH, b, hP, hl⟩ := h'
  have w1 : js_w x1 = x1 := js_w_of h1.1 h1.2
  have hx0 := b_173_0 (E := E) (d := d - 1) (x1 := x1) (by omega) hH.1.1 hH.1.2
  have hx1 := b_173_11 (E := E) (d := d - 1) (x1 := x1) (by omega) hH.1.1 hH.1.2
  by_cases q : 1 ≤ x1 ∧ x1 ≤ 200000
  · rw [w1, if_neg (show ¬ x1 < 1 by omega), if_neg (show ¬ 200000 < x1 by omega)] at hx0
    have r0 : js_J E e 265 0 [(2, 83), (0, x1), (9, 0)] [] ρ = (if js_w (ρ 83 64) = 0 then js_J E e 265 29 [(2, 83), (0, x1), (9, 0)] [(0, 2), (2, 83)] ρ else js_J E e 265 29 [(2, 83), (0, x1), (9, 0)] [(0, 0), (2, 83)] ρ) := by
      rw [b_265_0, w1, if_neg (show ¬ x1 < 1 by omega), if_neg (show ¬ 200000 < x1 by omega)]
    rcases hl with h0 | ⟨⟨l1, l2, l3⟩, Fu, ac, zc, N, T, hm, hN, hG⟩
    · obtain ⟨⟨a1, a2⟩, _⟩ := h0
      rw [a1, if_pos (show js_w 0 = 0 from rfl)] at hx0
      refine lx_throw (c := 16) (k := 2) h (by decide) (by rw [b_301_0, kc_301_4_16 (by omega) hx0 (js_ne_d hH.1.1 (by decide)), b_301_15]) ⟨0, ?_⟩
      rw [r0, a2, if_pos (show js_w 0 = 0 from rfl), b_265_29, if_pos (show 0 < js_w 2 by decide)]
    · rw [l1, if_neg (show ¬ js_w 1 = 0 by decide)] at hx0
      have z : ∀ i : Int, i ≠ 0 → js_up ρ 83 0 0 83 i = ρ 83 i := fun i g => js_up_ni _ g
      have hm0 : mh_R E Fu ac zc b N T σ (js_up ρ 83 0 0) := mh_err hP.1 hm (fun a i g => js_up_ne _ (by omega))
      have hx : x1 = ((x1.toNat : Nat) : Int) := by omega
      obtain ⟨σ', ρ', j, e1, e2, fc, fr, hm', h82⟩ := y_go (E := E) (d := d - 1 - 1) (e := e) hP.1 hm0 (by rw [z _ (by decide)]; omega) (X := x1.toNat) (by omega) (by omega) (by omega)
      rw [← hx] at e1 e2
      rw [z _ (by decide), z _ (by decide)] at e2
      rw [z _ (by decide)] at h82
      refine lx_ran (v := js_w j) (w := j) h hP l1 l2 hN hG hm' ?_ ?_ rfl fc fr (by omega)
      · rw [b_301_0, k_301_4 (by omega) (hx0.trans (by rw [k_173_46 (by omega) e1, b_173_49])), b_301_7, if_pos w01]
        rfl
      · rw [r0, l2, if_neg (show ¬ js_w 1 = 0 by decide), b_265_29, if_neg (show ¬ 0 < js_w 0 by decide), e2]
  · have th : js_J E (d - 1) 173 0 [(2, 0), (0, x1)] [] σ = js_t E (σ (-1) 0) (js_ne σ 17) := by
      rw [hx0, w1]
      by_cases t : x1 < 1
      · rw [if_pos t, hx1]
      · rw [if_neg t, if_pos (show 200000 < x1 by omega), hx1]
    refine lx_throw (c := 17) (k := 1) h (by decide) (by rw [b_301_0, kc_301_4_17 (by omega) th (js_ne_d hH.1.1 (by decide)), b_301_12]) ⟨0, ?_⟩
    rw [b_265_0, w1]
    by_cases t : x1 < 1
    · rw [if_pos t, b_265_13, b_265_29, if_pos (show 0 < js_w 1 by decide)]
    · rw [if_neg t, if_pos (show 200000 < x1 by omega), b_265_13, b_265_29, if_pos (show 0 < js_w 1 by decide)]
theorem lx_cycle (h : LQ E n σ ρ) (hn : n ≤ 1000000) (hd : 80 ≤ d) (he : 80 ≤ e) : LX E n d 302 [(2, 0), (2, 136), (9, 0)] e 277 [(2, 83)] 0 (fun w => js_l (js_w w)) σ ρ := by
  have h' := h
  obtain ⟨_, hH, b, hP, hl⟩ := h'
  have hx0 := b_177_0 (E := E) (d := d - 1) (by omega) hH.1.1 hH.1.2
  rcases hl with h0 | ⟨⟨l1, l2, l3⟩, Fu, ac, zc, N, T, hm, hN, hG⟩
  · obtain ⟨⟨a1, a2⟩, _⟩ := h0
    rw [a1, if_pos (show js_w 0 = 0 from rfl)] at hx0
    refine lx_throw (c := 16) (k := 1) h (by decide) (by rw [b_302_0, kc_302_3_16 (by omega) hx0 (js_ne_d hH.1.1 (by decide)), b_302_11]) ⟨0, ?_⟩
    rw [b_277_0, a2, if_pos (show js_w 0 = 0 from rfl), b_277_13, if_pos (show 0 < js_w 1 by decide)]
  · rw [l1, if_neg (show ¬ js_w 1 = 0 by decide)] at hx0
    have z : ∀ i : Int, i ≠ 0 → js_up ρ 83 0 0 83 i = ρ 83 i := fun i g => js_up_ni _ g
    have hm0 : mh_R E Fu ac zc b N T σ (js_up ρ 83 0 0) := mh_err hP.1 hm (fun a i g => js_up_ne _ (by omega))
    obtain ⟨σ', ρ', j, e1, e2, fc, fr, hm', h82⟩ := y_cyc (E := E) (d := d - 1 - 1) (e := e - 1) hP.1 hm0 (by rw [z _ (by decide)]; omega) (by omega) (by omega)
    rw [z _ (by decide)] at e2 h82
    have k3 := hm'.1.2.2.1.1
    have c0 : ∀ v : Int, (if js_w (σ' 56 3) = 0 then js_r E (0, 1) σ' else js_r E (0, 0) σ') = js_r E (0, v) σ' → js_J E d 302 0 [(2, 0), (2, 136), (9, 0)] [] σ = js_r E (0, 0) (js_up σ' 136 0 (js_w v)) := fun v g => by
      rw [b_302_0, k_302_3 (by omega) (hx0.trans (by rw [k_177_26 (by omega) e1, b_177_29]; exact g)), b_302_6, if_pos w01]
      rfl
    have r0 : js_J E e 277 0 [(2, 83)] [] ρ = (if 0 < js_w (ρ 83 81) then js_r E (0, 0) (js_up ρ 83 0 0) else js_J E e 277 33 [(2, 83)] [(2, 83)] (js_up ρ 83 0 0)) := by
      rw [b_277_0, l2, if_neg (show ¬ js_w 1 = 0 by decide), b_277_13, if_neg (show ¬ 0 < js_w 0 by decide)]
    have w81 : js_w (ρ' 83 81) = ρ' 83 81 := js_w_of (by omega) (by omega)
    have hv := hm.1.2.2.1.1
    have wv : js_w (ρ 83 81) = ρ 83 81 := js_w_of (by omega) (by omega)
    by_cases q : 0 < js_w (ρ 83 81)
    · rw [if_pos q] at e2
      have nz : ¬ js_w (σ' 56 3) = 0 := by
        have c174 : js_J E (d - 1 - 1) 174 0 [(2, 56), (0, 1000000), (9, 0)] [] σ = js_r E (0, 0) σ := by
          rw [b_174_0, hv.1, if_neg (by omega)]
        have g := js_r_inj (c174.symm.trans e1)
        have h3 : js_cell E.1 σ 56 = js_cell E.1 σ' 56 := congrFun (congrArg (fun w => w.2.2) g.2) 56
        have ec : ∀ ν : js_S, js_cell E.1 ν 56 = some (.inr (6, js_fs [(4, 58), (3, 0), (2, 0), (0, 0), (0, 0), (4, 79), (4, 81), (4, 57), (0, 0), (0, 0), (4, 65), (4, 72), (4, 80)] 0 (ν 56))) := fun ν => rfl
        rw [ec, ec] at h3
        simp only [Option.some.injEq, Sum.inr.injEq, Prod.mk.injEq, true_and] at h3
        have h4 := congrArg (fun l => l[3]?) h3
        simp only [js_fs, List.getElem?_cons_succ, List.getElem?_cons_zero, Option.some.injEq] at h4
        have h5 : js_V (0, σ 56 3) = js_V (0, σ' 56 3) := h4
        have h6 := js_w_eq h5
        rw [hv.1] at h6
        omega
      refine lx_ran (v := js_w 0) (w := 0) h hP l1 l2 hN hG hm' (c0 0 (by rw [if_neg nz])) ?_ rfl fc fr (by omega)
      rw [r0, if_pos q]
      exact js_r0_r e2
    · rw [if_neg q] at e2
      have r1 : ∀ v : Int, (if 0 < js_w (ρ' 83 81) then js_r E (0, 0) ρ' else js_r E (0, 1) ρ') = js_r E (0, v) ρ' → js_J E e 277 0 [(2, 83)] [] ρ = js_r E (0, v) ρ' := fun v g => by
        rw [r0, if_neg q, k_277_33 (by omega) e2, b_277_36]
        exact g
      by_cases t : ρ' 83 81 = 0
      · refine lx_ran (v := js_w 1) (w := 1) h hP l1 l2 hN hG hm' (c0 1 ?_) (r1 1 ?_) rfl fc fr (by omega)
        · rw [k3.1, t, if_pos (show js_w 0 = 0 from rfl)]
        · rw [t, if_neg (show ¬ 0 < js_w 0 by decide)]
      · refine lx_ran (v := js_w 0) (w := 0) h hP l1 l2 hN hG hm' (c0 0 ?_) (r1 0 ?_) rfl fc fr (by omega)
        · rw [k3.1, w81, if_neg t]
        · rw [w81, if_pos (show 0 < ρ' 83 81 by omega)]
end OE
