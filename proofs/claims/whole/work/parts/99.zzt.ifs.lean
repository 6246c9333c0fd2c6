/-! part 99.zzt: if in step -/
theorem sF_104 {E : js_E} {b a n v : Int} {σ ρ ρ' : js_S} {R : Option (Outcome × ip_W)} (ha : 86 ≤ a ∧ a ≤ 110) (h : sF_P E b σ ρ ρ' R) : sF_P E b σ ρ (js_up ρ' a n v) R := by
  obtain ⟨a1, a2, a3, a4, σ', a5, a6⟩ := h
  have u : ∀ i : Int, js_up ρ' a n v 83 i = ρ' 83 i := fun i => js_up_na _ (by omega)
  refine ⟨fun x i g1 g2 => ?_, rx_F_na a2 (by omega), by rw [u]; exact a3, by rw [u]; exact a4, σ', by rw [u]; exact a5, a6⟩
  rw [js_up_na _ (by omega)]
  exact a1 x i g1 g2
theorem ic_n0 {Lx bf b0 b1 cl cr : Int} (h0 : 0 ≤ b0) (h00 : b0 ≤ 400000) (hl : 0 ≤ cl) (hr : 0 ≤ cr) (e1 : bf = min 400000 (b0 + cl + 1)) (e2 : b1 = min 400000 (bf + cr)) : max Lx b1 = max Lx (min 400000 (b0 + (cl + 1 + max (cr + 0) 0))) := by omega
/-- the end of an if -/
theorem if_fin {E : js_E} {b F : Int} {B U : Int → Int} {X : Int → Prop} {Q : List Int} {Ez Lz n v : Int} {σ ρ σ1 σ' ρ' : js_S} {j j' : Nat} {s : tr_T} (hb : b = 0 ∨ b = 25) (h7 : 0 ≤ σ (8 + b) 7) (H : re_R E b F B U X [] (-1) 0 σ ρ j σ1 ρ' j' Ez Lz n 2 s) (hQ : ∀ x : Int, x ∈ Q → σ (8 + b) 6 ≤ x) (hc : σ1 (8 + b) 6 ≤ 8192 → st_cd (cq_P σ1 b (σ (8 + b) 8) (σ1 (8 + b) 6) (fun x => x ∈ Q)) s (σ (8 + b) 10) (σ (8 + b) 6) (σ1 (8 + b) 6)) (l1 : σ1 (8 + b) 6 ≤ 8192 → ∀ q : Int, q ∈ Q → σ' (10 + b) q = σ1 (8 + b) 6) (l2 : ∀ a i : Int, ¬ (a = 10 + b ∧ i ∈ Q) → σ' a i = σ1 a i) (hv : v = max Lz (σ1 (8 + b) 7)) : sr_R E b F B U X σ ρ j (js_up σ' (8 + b) 7 v) ρ' j' n s := by
  obtain ⟨⟨r5, q5, dp5, sf5, gq5, m5, m5', w5, _⟩, hL5, ⟨⟨z15, z10, z6⟩, _, _⟩, _, ⟨nd5, kk5, ⟨sw, sG⟩, ⟨sl, scn, smt, sdp⟩, kn⟩, hux5⟩ := id H
  have k26 : xt_k s = 26 := by
    rcases kk5 with h | h
    · exact absurd h.1 (by decide)
    · exact h.2
  clear kk5
  have kn' := kn rfl
  have ls := st_ln_0 s
  have o : ∀ a i : Int, ¬ (a = 10 + b ∧ i ∈ Q) → ¬ (a = 8 + b ∧ i = 7) → js_up σ' (8 + b) 7 v a i = σ1 a i := fun a i g1 g2 => by rw [js_up_ne _ g2, l2 a i g1]
  have oj : ∀ i : Int, js_up σ' (8 + b) 7 v (10 + b) i = σ' (10 + b) i := fun i => js_up_na _ (by omega)
  have o7 : js_up σ' (8 + b) 7 v (8 + b) 7 = v := js_up_same _ _ _ _
  have o8 : ∀ k : Int, k ≠ 7 → js_up σ' (8 + b) 7 v (8 + b) k = σ1 (8 + b) k := fun k g => o _ _ (by omega) (by omega)
  have hg' : hg_R σ' b := fun x g1 g2 => by
    rw [l2 _ _ (by omega)] at g2
    rw [l2 _ _ (by omega)]
    exact xs_hg hux5.1 x g1 g2
  have cfl : ∀ (i : Int) (I : xt_I), ci_P σ' b (σ (8 + b) 8) i I → ci_P (js_up σ' (8 + b) 7 v) b (σ (8 + b) 8) i I := fun i I hI => ci_P_of hI (fun a h1 h2 => js_up_na _ (by omega)) (by rw [js_up_na _ (by omega)]; exact Int.le_refl _) (fun x _ _ => js_up_na _ (by omega)) (fun x k g1 g2 _ => js_up_na _ (by have := hg' x g1 g2; omega))
  generalize js_up σ' (8 + b) 7 v = σf at o oj o7 o8 cfl ⊢
  have Ff : ef_R b (σ (8 + b) 6) (σ (8 + b) 10) (σ (23 + b) 15) σ1 σf := fun a i g => o a i (fun hh => g (ef_D9 ⟨by omega, by omega, by have := hQ i hh.2; omega⟩)) (fun hh => g (ef_D8 ⟨hh.1, by omega⟩))
  refine ⟨⟨?_, q5, dp5, ?_, gq_sg gq5, m5, m5', w5⟩, ?_, ⟨⟨?_, ?_, ?_, ?_, ?_⟩, fun hs => ?_⟩, ⟨nd5, ⟨?_, sw, sG⟩, ⟨sl, scn, smt⟩, kn'.1, kn'.2.1, kn'.2.2, by omega⟩, ux_ef hb hux5 Ff (eg_R_refl 0 _)⟩
  · exact rd_R_of r5 (fun i _ => o _ _ (by omega) (by omega)) (fun a i _ _ => o _ _ (by omega) (by omega)) (fun _ _ _ => rfl) (fun _ => rfl)
  · exact sf_R_trans sf5 (sf_R_ef hb (fun i g1 g2 => xs_ge hux5.1 i g1 (by omega)) Ff) (Int.le_refl _) (Int.le_refl _) (Int.le_refl _) (Int.le_refl _)
  · obtain ⟨x, a1, a2, a3, a4⟩ := hL5
    exact ⟨x, a1, a2, a3, by rw [o8 12 (by decide)]; exact a4⟩
  · rw [o _ _ (by omega) (by omega)]
    exact z15
  · rw [o8 10 (by decide)]
    exact z10
  · rw [o8 6 (by decide)]
    exact z6
  · have zb := H.2.2.1.2.1.1
    rw [o7, hv, zb]
    clear zb hv
    omega
  · rw [o8 11 (by decide)]
    exact H.2.2.1.2.2
  · rw [o8 6 (by decide)] at hs
    have k := hc hs
    rw [z6] at k
    exact st_cd_of s _ _ _ (fun i I g1 g2 hI => cfl i I (cq_land hb hI (xs_hg hux5.1) l2 (fun hq => by rw [l1 hs i hq, z6]))) k
  · rw [k26]
    decide
section SP
variable {E : js_E} {d e : Nat} {b F : Int} {B U : Int → Int} {X : Int → Prop}
/-- the chain of an if -/
theorem y_ifloop {J0 : Nat} (hb : b = 0 ∨ b = 25) (hS : sa_P E b F B U X J0) : ∀ (G : Nat) (σ ρ : js_S) (j : Nat) (Q0 : List Int) (Ex Lx nx x1 x2 : Int) (u5 u6 u7 w4 w5 : js_v), 8200 ≤ G + j → J0 ≤ j + 3 → ux_R E b F B U X σ ρ → xn_R b σ ρ j → rd_R σ ρ j → ρ 83 5 = 307 → (0 ≤ nx ∧ nx ≤ j) → (-1 ≤ x2 ∧ x2 < ρ 83 33) → jw (fun i => σ (10 + b) i) Q0 (σ (8 + b) 6) Ex → (0 ≤ Lx ∧ Lx ≤ 400000) → σ (8 + b) 10 ≤ 2 * ρ 83 10 + 2 → σ (23 + b) 15 ≤ 6 * ρ 83 10 → 4 * (65 - ρ 83 10) + 31 ≤ (d : Int) → 12 * (65 - ρ 83 10) + 33 ≤ (e : Int) → (∃ (σ' ρ' : js_S) (j' : Nat) (Ez Lz n y3 y4 : Int) (v5 v6 v7 : js_v) (s : tr_T), js_J E d 104 9 [(2, 22 + b), (0, Ex), (0, Lx), (0, 1), (0, nx), u5, u6, u7] [] σ = js_J E d 104 206 [(2, 22 + b), (0, Ez), (0, Lz), (0, y3), (0, y4), v5, v6, v7] [] σ' ∧ js_J E e 241 6 [(2, 83), (0, x1), (0, x2), (0, 1), w4, w5] [] ρ = js_r E (0, if x2 < 0 then n else x1) ρ' ∧ re_R E b F B U X Q0 x2 Lx σ ρ j σ' ρ' j' Ez Lz n 2 s) ∨ (∃ (ρ' : js_S) (v : Int), js_J E e 241 6 [(2, 83), (0, x1), (0, x2), (0, 1), w4, w5] [] ρ = js_r E (0, v) ρ' ∧ sF_P E b σ ρ ρ' (js_J E d 104 9 [(2, 22 + b), (0, Ex), (0, Lx), (0, 1), (0, nx), u5, u6, u7] [] σ)) := by
  intro G
  induction G with
  | zero =>
    intro σ ρ j Q0 Ex Lx nx x1 x2 u5 u6 u7 w4 w5 hG _ _ _ hR
    have := rd_j hR
    omega
  | succ G ih =>
    intro σ ρ j Q0 Ex Lx nx x1 x2 u5 u6 u7 w4 w5 hG hJ hx hn hR h5 hnx hx2 hq hL ht hp hd he
    have hj := rd_j hR
    have D1 := hR.2.2.2.2.2
    rcases y_ifhead (E := E) (d := d) (e := e) (Ex := Ex) (Lx := Lx) (nx := nx) (x1 := x1) (x2 := x2) (u5 := u5) (u6 := u6) (u7 := u7) (w4 := w4) (w5 := w5) hb hS hJ hx hn hR h5 (by omega) ht hp hd he with ⟨σ1, ρ1, j1, bf, nc, mm, l, r, ec, er, H⟩ | ⟨ρ', er, hf⟩
    · rw [ec, er]
      have r1 := H.1.1
      have q1 := H.1.2.1
      have dp1 := H.1.2.2.1
      have sf1 := H.1.2.2.2.1
      have sg1 := H.1.2.2.2.2.1
      have m1 := H.1.2.2.2.2.2.1
      have m1' := H.1.2.2.2.2.2.2.1
      have y6 := H.2.2.1.2.2.1
      have y10 := H.2.2.1.2.1
      have y15 := H.2.2.1.1
      have ybf := H.2.2.1.2.2.2.1
      have y77 := H.2.2.1.2.2.2.2.1
      have tcn := H.2.2.2.2.2.2.2.2.1.2.1
      have rcn := H.2.2.2.2.2.2.2.2.1.2.2.1
      have hn1 := H.2.2.2.2.2.2.2.2.2.1
      have hux1 := H.2.2.2.2.2.2.2.2.2.2
      have hj1 := rd_j r1
      have ll := xt_ln_0 l
      have lr := st_ln_0 r
      have hn0 := hn
      unfold xn_R at hn0
      have hn10 := hn1
      unfold xn_R at hn10
      have bfr : 0 ≤ bf ∧ bf ≤ 400000 := by omega
      have b1n : ∀ {Ly : Int}, Ly = max Lx (min 400000 (σ1 (8 + b) 7 + 1)) → 0 ≤ Ly ∧ Ly ≤ 400000 := fun h => by omega
      have bA : bn_P Lx (σ1 (8 + b) 7) Lx (σ (8 + b) 7) (st_cn B (tr_n 26 0 0 0 0 0 0 l (tr_n 92 0 0 0 0 0 0 r .leaf))) := by
        unfold bn_P
        rw [st_cn26, st_cn92, if_neg (by decide)]
        exact ic_n0 hn0.2.1.1 hn0.2.1.2 tcn rcn ybf y77
      have bE : ∀ {k Lz b5 : Int} {s : tr_T}, 0 < k → 0 ≤ st_cn B s → max Lz b5 = max (max Lx (min 400000 (σ1 (8 + b) 7 + 1))) (min 400000 (bf + st_cn B s)) → bn_P Lz b5 Lx (σ (8 + b) 7) (st_cn B (tr_n 26 0 0 k 0 0 0 l (tr_n 92 0 0 k 0 0 0 r s))) := fun hk hs h => by
        unfold bn_P
        rw [st_cn26, st_cn92, if_pos hk]
        exact ic_n1 hn0.2.1.1 hn0.2.1.2 tcn rcn hs ybf y77 rfl rfl h
      clear ybf y77
      obtain ⟨ρ2, er2, o2, o2'⟩ := ie_R (E := E) (e := e) (ρ1 := ρ1) (x1 := x1) (x2 := x2) (nc := nc) (n := ρ1 83 33 - 1) (w5 := w5) r1.2.2.1.2.2.1 (by omega)
      have u2 : ∀ i : Int, ρ2 83 i = ρ1 83 i := fun i => o2 _ _ (by omega)
      have hR2 : rd_R σ1 ρ2 j1 := rd_R_of r1 (fun _ _ => rfl) (fun _ _ _ _ => rfl) (fun i _ _ => u2 i) (fun i => o2 _ _ (by omega))
      have hV2 := (rd_V hR2).1
      have w2 : js_w (ρ2 83 5) = ρ2 83 5 := by
        unfold tk_V at hV2
        exact js_w_of (by omega) (by omega)
      have t308 : tk_m 308 = 208 := by decide
      have t307 : tk_m 307 = 207 := by decide
      have tk2 := tkq hR2 (k := 308) (by unfold tk_V; omega)
      rw [t308] at tk2
      rw [er2, b_241_84, w2]
      by_cases q : ρ2 83 5 = 308
      · rw [if_pos q]
        obtain ⟨σ4, e4, R4, ⟨k6, k7, kO, k15⟩, F14, kc, kj, kv⟩ := ie_C (E := E) (d := d) (Ex := Ex) (Lx := Lx) (nx := nx) (sk := σ (8 + b) 6 + xt_ln l) (bf := bf) (u7 := u7) hb (xn_cz hn1 r1) (by omega) hR2 q hL (by omega) bfr (by omega)
        have Lyr := b1n rfl
        rw [e4, k_241_103 (by omega) (r_next' hR2.2.2.1 (by omega))]
        have hV3 := (rd_V R4).1
        have w3 : js_w (rx_next ρ2 83 5) = rx_next ρ2 83 5 := by
          unfold tk_V at hV3
          exact js_w_of (by omega) (by omega)
        have tk3 := tkq R4 (k := 307) (by unfold tk_V; omega)
        rw [t307] at tk3
        have wn : js_w (ρ1 83 33 - 1) = ρ1 83 33 - 1 := js_w_of (by omega) (by omega)
        have gn : 0 ≤ ρ1 83 33 - 1 ∧ ρ1 83 33 - 1 < 66000 := by omega
        have s14 : ef_R b (σ (8 + b) 6) (σ (8 + b) 10) (σ (23 + b) 15) σ1 σ4 := F14 _ _ _ (by omega)
        have hrr : ∀ k : Int, (∀ a i : Int, ¬ (a = 83 ∧ 5 ≤ i ∧ i ≤ 9) → ¬ (a = 104 ∧ i = x2 ∧ 0 ≤ x2) → ¬ (a = 106 ∧ i = ρ1 83 33 - 1) → js_up (rx_next ρ2) 106 (ρ1 83 33 - 1) k a i = ρ1 a i) ∧ (0 ≤ x2 → js_up (rx_next ρ2) 106 (ρ1 83 33 - 1) k 104 x2 = ρ1 83 33 - 1) ∧ rd_R σ4 (js_up (rx_next ρ2) 106 (ρ1 83 33 - 1) k) (j1 + 1) := fun k => ⟨fun a i g1 g2 g3 => by rw [js_up_ne _ g3, rx_next_o _ (by omega), o2 a i g2], fun h => by rw [js_up_na _ (by decide), rx_next_o _ (by omega)]; exact o2' h, rd_R_of R4 (fun _ _ => rfl) (fun _ _ _ _ => rfl) (fun i _ _ => js_up_na _ (by decide)) (fun i => js_up_na _ (by decide))⟩
        have hj4 := rd_j R4
        have jq : jw (fun i => σ4 (10 + b) i) (σ1 (8 + b) 6 :: Q0) (σ4 (8 + b) 6) (σ1 (8 + b) 6) := by
          refine ⟨rfl, ⟨by omega, by omega⟩, fun h8 => ?_⟩
          show jw (fun i => σ4 (10 + b) i) Q0 (σ1 (8 + b) 6) (σ4 (10 + b) (σ1 (8 + b) 6))
          rw [(kv h8).2.1]
          refine jw_up Q0 (jw_of Q0 _ _ (fun i hi => ?_) hq) (by omega)
          show σ4 (10 + b) i = σ (10 + b) i
          rw [kc _ _ (by omega) (by omega) (by omega) (by omega), sf_code hb sf1 (by omega) (by omega) hi]
        have k10 := kO 10 (by decide) (by decide)
        have k11 := kO 11 (by decide) (by decide)
        have k12 := kO 12 (by decide) (by decide)
        have fr4 : fr_R b σ σ4 := fr_R_trans sf1.1 (fr_R_ef hb s14)
        by_cases qi : rx_next ρ2 83 5 = 307
        · have c4 := tk3.mpr qi
          obtain ⟨h14, h104, R4'⟩ := hrr 2
          have u6' : js_up (rx_next ρ2) 106 (ρ1 83 33 - 1) 2 106 (ρ1 83 33 - 1) = 2 := js_up_same _ _ _ _
          have u5' : js_up (rx_next ρ2) 106 (ρ1 83 33 - 1) 2 83 5 = 307 := by rw [js_up_na _ (by decide)]; exact qi
          rw [b_104_155 hb, if_neg (show ¬ js_w 1 = 0 by decide), c4, if_pos (show (207 : Int) = 207 from rfl), b_104_178 hb, if_neg (show ¬ js_w 1 = 0 by decide), if_neg (show ¬ js_w 1 = 0 by decide), b_104_200, b_241_106, w3, if_pos qi, b_241_121, if_neg (show ¬ js_w 1 = 0 by decide), b_241_137, wn, if_pos gn, if_neg (show ¬ js_w 1 = 0 by decide), b_241_153]
          generalize js_up (rx_next ρ2) 106 (ρ1 83 33 - 1) 2 = ρ4 at h14 h104 R4' u6' u5' ⊢
          have e33 : ρ4 83 33 = ρ1 83 33 := h14 _ _ (by omega) (by omega) (by omega)
          have e44 : ρ4 83 44 = ρ1 83 44 := h14 _ _ (by omega) (by omega) (by omega)
          have e10 : ρ4 83 10 = ρ1 83 10 := h14 _ _ (by omega) (by omega) (by omega)
          have G14 : eg_R 0 ρ1 ρ4 := fun a i g1 g2 => h14 a i (by omega) (by omega) (by omega)
          have hux4 := ux_ef hb hux1 s14 G14
          have hn4 : xn_R b σ4 ρ4 (j1 + 1) := by
            unfold xn_R
            push_cast
            omega
          rcases ih σ4 ρ4 (j1 + 1) (σ1 (8 + b) 6 :: Q0) (σ1 (8 + b) 6) (max Lx (min 400000 (σ1 (8 + b) 7 + 1))) (nx + 1) (if x2 < 0 then ρ1 83 33 - 1 else x1) (ρ1 83 33 - 1) (0, σ (8 + b) 6 + xt_ln l) (0, bf) (0, 1) (0, nc) (0, ρ1 83 33 - 1) (by omega) (by omega) hux4 hn4 R4' u5' (by push_cast; omega) (by omega) jq Lyr (by omega) (by omega) (by omega) (by omega) with ⟨σ5, ρ5, j5, Ez, Lz, nr, y3, y4, v5, v6, v7, s, ec5, er5, R5⟩ | ⟨ρ', vv, er5, hf⟩
          · rw [if_neg (show ¬ ρ1 83 33 - 1 < 0 by omega)] at er5
            rw [ec5, er5]
            have zb := R5.2.2.1.2.1.1
            have scn := R5.2.2.2.2.1.2.2.2.1.2.1
            rw [k7] at zb
            exact Or.inl ⟨σ5, ρ5, j5, Ez, Lz, ρ1 83 33 - 1, y3, y4, v5, v6, v7, _, rfl, rfl, ic_els hb hn0.2.2.2.2.1.1 (bE (by decide) scn zb) hx2.2 H k6 kO k15 s14 kc kj kv h14 u6' h104 (Or.inr rfl) R5⟩
          · rw [er5]
            exact Or.inr ⟨ρ', vv, rfl, sF_up fr4 (rf_R_trans (rf_R_sg sg1) (rf_R_eg G14)) hf⟩
        · have c4 : ¬ js_w (σ4 1 1) = 207 := fun h => qi (tk3.mp h)
          obtain ⟨h14, h104, R4'⟩ := hrr 1
          have u6' : js_up (rx_next ρ2) 106 (ρ1 83 33 - 1) 1 106 (ρ1 83 33 - 1) = 1 := js_up_same _ _ _ _
          rw [b_104_155 hb, if_neg (show ¬ js_w 1 = 0 by decide), if_neg c4, b_104_177, b_104_178 hb, if_neg (show ¬ js_w 1 = 0 by decide), if_pos (show js_w 0 = 0 from rfl), b_241_106, w3, if_neg qi, b_241_121, if_pos (show js_w 0 = 0 from rfl), b_241_137, wn, if_pos gn, if_pos (show js_w 0 = 0 from rfl)]
          generalize js_up (rx_next ρ2) 106 (ρ1 83 33 - 1) 1 = ρ4 at h14 h104 R4' u6' ⊢
          have e33 : ρ4 83 33 = ρ1 83 33 := h14 _ _ (by omega) (by omega) (by omega)
          have e44 : ρ4 83 44 = ρ1 83 44 := h14 _ _ (by omega) (by omega) (by omega)
          have e10 : ρ4 83 10 = ρ1 83 10 := h14 _ _ (by omega) (by omega) (by omega)
          have G14 : eg_R 0 ρ1 ρ4 := fun a i g1 g2 => h14 a i (by omega) (by omega) (by omega)
          have hux4 := ux_ef hb hux1 s14 G14
          have hn4 : xn_R b σ4 ρ4 (j1 + 1) := by
            unfold xn_R
            push_cast
            omega
          have s74 : σ4 (7 + b) 1 = ρ4 83 11 := hux4.1.1.2.2.2.2.1
          rw [s74]
          rcases y_block (E := E) (d := d - 1) (e := e - 1) hb hS (by omega) hux4 hn4 R4' (by omega) (by omega) (by omega) (by omega) with ⟨σ5, ρ5, j5, mm2, r2, er5, ec5, hbl⟩ | ⟨ρ', vv, er5, hf⟩
          · have hn5 := xn_nextb hn4 hbl
            have b5 := hn5.2.1
            have y7 := hbl.2.2.1.1.2.2.2.1
            have scn := hbl.2.2.2.1.2.2.1.2.1
            have R5 := re_bl (Ly := max Lx (min 400000 (σ1 (8 + b) 7 + 1))) hb gn.1 (by omega) Lyr b5 jq hbl
            rw [k7] at y7
            rw [k_104_197 hb (by omega) ec5, b_104_200, b_104_9 hb, js_w_of (x := nx + 1) (by omega) (by omega), if_pos (show nx + 1 < 1000000 by omega), if_pos (show js_w 0 = 0 from rfl), k_241_149 (by omega) er5, b_241_152, wn, if_pos gn, b_241_153, b_241_6, if_pos (show js_w 0 = 0 from rfl)]
            exact Or.inl ⟨σ5, js_up ρ5 104 (ρ1 83 33 - 1) mm2, j5, _, _, ρ1 83 33 - 1, _, _, _, _, _, _, rfl, rfl, ic_els hb hn0.2.2.2.2.1.1 (bE (by decide) scn (by rw [y7])) hx2.2 H k6 kO k15 s14 kc kj kv h14 u6' h104 (Or.inl rfl) R5⟩
          · rw [k_241_149 (by omega) er5, b_241_152, wn, if_pos gn, b_241_153, b_241_6, if_pos (show js_w 0 = 0 from rfl)]
            have f2 := sF_104 (a := 104) (n := ρ1 83 33 - 1) (v := vv) (by decide) (sF_up fr4 (rf_R_trans (rf_R_sg sg1) (rf_R_eg G14)) hf)
            obtain ⟨a1, a2, a3, a4, σz, a5, a6⟩ := f2
            rw [kt_104_197 hb (by omega) a5]
            exact Or.inr ⟨_, _, rfl, a1, a2, a3, a4, σz, rfl, a6⟩
      · have c1 : ¬ js_w (σ1 1 1) = 208 := fun h => q (tk2.mp h)
        obtain ⟨σ4, e4, l1, l2⟩ := c_land (E := E) (d := d - 1) (σ := σ1) (x := σ (8 + b) 6 + xt_ln l) hb (xn_cz hn1 r1) (by omega) (by omega) (by omega)
        have k7 : σ4 (8 + b) 7 = σ1 (8 + b) 7 := l2 _ _ (by omega)
        rw [if_neg q, b_241_6, if_pos (show js_w 0 = 0 from rfl), b_104_82 hb, if_neg c1, b_104_100 hb, if_pos (show js_w 0 = 0 from rfl), b_104_146 hb, k_104_152 hb (by omega) e4, b_104_155 hb, if_pos (show js_w 0 = 0 from rfl), b_104_177, b_104_178 hb, if_pos (show js_w 0 = 0 from rfl), b_104_200, b_104_9 hb, js_w_of (x := nx + 1) (by omega) (by omega), if_pos (show nx + 1 < 1000000 by omega), if_pos (show js_w 0 = 0 from rfl)]
        exact Or.inl ⟨σ4, ρ2, j1, Ex, Lx, ρ1 83 33 - 1, _, _, _, _, _, _, rfl, rfl, ic_end hb hn0.2.2.2.2.1.1 hL (by rw [k7]; exact bA) hx2.2 hn0.1.1 hn0.2.2.2.1.1 hq H l1 l2 o2 o2'⟩
    · exact Or.inr ⟨ρ', -1, er, hf⟩
/-- if -/
theorem y_if {σ ρ : js_S} {j : Nat} {J0 : Nat} (hb : b = 0 ∨ b = 25) (hS : sa_P E b F B U X J0) (hJ : J0 ≤ j + 3) (hx : ux_R E b F B U X σ ρ) (hn : xn_R b σ ρ j) (hR : rd_R σ ρ j) (h5 : ρ 83 5 = 307) (ht : σ (8 + b) 10 ≤ 2 * ρ 83 10 + 2) (hp : σ (23 + b) 15 ≤ 6 * ρ 83 10) (hd : 4 * (65 - ρ 83 10) + 31 ≤ (d : Int)) (he : 12 * (65 - ρ 83 10) + 33 ≤ (e : Int)) : sq_P E b F B U X σ ρ j (js_J E d 104 0 [(2, 22 + b), (9, 0), (9, 0), (9, 0), (9, 0), (9, 0), (9, 0), (9, 0)] [] σ) (js_J E e 241 0 [(2, 83), (9, 0), (9, 0), (9, 0), (9, 0), (9, 0)] [] ρ) := by
  have D1 := hR.2.2.2.2.2
  rw [b_104_0, b_241_0]
  rcases y_ifloop (E := E) (d := d) (e := e) hb hS 8200 σ ρ j [] (-1) 0 0 (-1) (-1) (9, 0) (9, 0) (9, 0) (9, 0) (9, 0) (by omega) hJ hx hn hR h5 (by omega) (by have := hn.2.2.2.2.1.1; omega) rfl (by decide) ht hp hd he with ⟨σ1, ρ1, j1, Ez, Lz, n, y3, y4, v5, v6, v7, s, ec, er, R⟩ | ⟨ρ', v, er, hf⟩
  · obtain ⟨Q1, jq, hQ, hc⟩ := R.2.2.2.1
    rw [List.append_nil] at jq
    have z6 := R.2.2.1.1.2.2
    have zb := R.2.2.1.2.1
    have sl := R.2.2.2.2.1.2.2.2.1.1
    have ls := st_ln_0 s
    have hj1 := rd_j R.1.1
    have hn0 := hn
    unfold xn_R at hn0
    have hz1 : cz_R σ1 b := by
      have b1 := zb.2.2
      clear zb
      unfold cz_R
      omega
    obtain ⟨σ2, e2, l2, l1⟩ := c_landAll (E := E) (d := d - 1) (Q := Q1) (σ := σ1) (x := Ez) hb (by omega) hz1 jq
    have k7 : σ2 (8 + b) 7 = σ1 (8 + b) 7 := l2 _ _ (by omega)
    rw [if_pos (show (-1 : Int) < 0 by decide)] at er
    rw [ec, er, b_104_206 hb, k_104_211 hb (by omega) e2, b_104_214 (by omega) hb, k7]
    have mx : (if js_w Lz < js_w (σ1 (8 + b) 7) then σ1 (8 + b) 7 else Lz) = max Lz (σ1 (8 + b) 7) := by
      have b1 := zb.2
      clear zb
      rw [js_w_of (x := Lz) (by omega) (by omega), js_w_of (x := σ1 (8 + b) 7) (by omega) (by omega)]
      split <;> omega
    exact Or.inl ⟨_, ρ1, j1, n, s, rfl, rfl, if_fin hb hn0.2.1.1 R hQ hc l1 l2 mx⟩
  · rw [er]
    exact Or.inr ⟨ρ', v, rfl, hf⟩
end SP
