/-! part 99.zzzp: a fun in step -/
section FK
variable {E : js_E} {b m s n g : Int} {B : Int → Int} {Bf : Int → Int → Int} {U : Int → Int} {fb fr : Int → tr_T} {σ ρ σ2 ρ2 ρ3 σ4 ρ4 σ5 σ8 ρ8 : js_S} {j j2 j4 : Nat} {r l : tr_T}
theorem dl_fun (hb : b = 0 ∨ b = 25) (hm : ρ 83 11 = m) (hj : j < j2) (hD : dl_R E b B Bf U fb fr σ ρ j) (hI : pb_I E b m s n g σ ρ σ2 ρ2) (D2 : ρ2 83 10 = 1) (v2 : ∀ a i : Int, ¬ (a = 99 ∧ m + 1 ≤ i ∧ i ≤ m + n) → ρ3 a i = ρ2 a i) (H : fe_R E b m g B (fn_U b m U σ) (fun i => i = m) σ2 ρ3 j2 σ4 ρ4 j4 r l) (h5 : em_R b σ4 σ5 28 0 0 1 0 0) (Z : fz_R E b m s n g B (fn_U b m U σ) σ ρ σ4 ρ4 σ5 σ8 ρ8) (c15 : σ8 (15 + b) (σ (8 + b) 8) = σ5 (8 + b) 9 ∧ σ8 (16 + b) (σ (8 + b) 8) = σ5 (8 + b) 11) (cR : ∀ a : Int, 9 + b ≤ a → a ≤ 14 + b → σ8 a (σ4 (8 + b) 6) = σ5 a (σ4 (8 + b) 6)) (c6 : σ8 (8 + b) 6 = σ5 (8 + b) 6) (c8 : σ8 (8 + b) 8 = σ (8 + b) 8 + 1 ∧ σ8 (8 + b) 7 = 0 ∧ σ8 (8 + b) 9 = 0 ∧ σ8 (8 + b) 10 = 0 ∧ σ8 (8 + b) 11 = 0 ∧ σ8 (8 + b) 12 = 0) (c9 : σ8 s 9 = σ5 (8 + b) 7) (c10 : σ8 s 10 = 1 + σ5 (8 + b) 12) (c13 : σ8 s 13 = 1) (c22 : σ8 (22 + b) 0 = -1) (w99 : ρ8 99 m = 1) (w96 : ρ8 96 m = 1 + ρ4 83 44) (w26 : ρ8 83 26 = -1) : dl_R E b (fun i => if i = m then σ5 (8 + b) 7 else B i) (fun i => if i = m then B else Bf i) (fn_U b m U σ) (fun i => if i = m then r else fb i) (fun i => if i = m then l else fr i) σ8 ρ8 j4 := by
  have hnew := fn_new hb hm hD hI v2 H h5 Z c15 cR c6 w96
  obtain ⟨⟨hD0, hG⟩, ⟨hu, hB⟩, ⟨d1, d2, d3, d4, d5, d6, d7, d8, d9⟩, ⟨⟨n1, n2⟩, n3, n4⟩, hl, ⟨hfu, hfp⟩, hfn, ⟨hp1, hp2⟩, ⟨q2, q5, q6⟩⟩ := hD
  obtain ⟨_, ⟨⟨h0, nn0, n8, h11, h400⟩, h26, h44⟩, ⟨hds, h19⟩, hs, hr, hty, hfr, ⟨hc1, hc2⟩, hgf, ⟨h22, h9⟩, hp⟩ := hI
  obtain ⟨⟨r4, q4, dp4, sf4, rg4, m4, m4', k4⟩, hL, ⟨⟨y15, y10, y6, y7, y11⟩, yc⟩, _, ⟨⟨tl1, tl2, tl3⟩, ⟨tcn, ecn⟩, tmt, emt⟩, hid, hux⟩ := H
  have Z' := Z
  obtain ⟨cz, z19, zf, ⟨s19, gs, zs⟩, w, r08, old, loc, k86⟩ := Z
  have O5 := h5.2.2.2
  have n56 := h5.1
  have n57 := h5.2.1
  have hY4 := hux.1.1
  have hst4 := hux.1.2.2.2.2.2.2
  have e8 : ∀ k : Int, k ≠ 9 → σ2 (8 + b) k = σ (8 + b) k := fun k q => hc1 _ _ (by omega) (by omega) (by omega) (by omega) (by omega) (by omega) (by omega) (by omega)
  have e86 := e8 6 (by decide)
  have e812 : σ2 (8 + b) 12 = 0 := (e8 12 (by decide)).trans d6
  have x11 : ρ3 83 11 = m + 1 + n := by rw [v2 _ _ (by omega)]; exact h11
  have x33 : ρ3 83 33 = ρ 83 33 := by rw [v2 _ _ (by omega), hgf _ _ (by omega) (by omega) (by omega)]
  have x44 : ρ3 83 44 = 0 := by rw [v2 _ _ (by omega)]; exact h44
  have x10 : ρ3 83 10 = 1 := by rw [v2 _ _ (by omega)]; exact D2
  have hm4 : m < ρ4 83 11 := by omega
  have h4004 := hY4.1.2.1
  have z86 : ∀ a i : Int, 86 ≤ a → a ≤ 97 → ¬ (a = 96 ∧ i = m) → ρ8 a i = ρ4 a i := fun a i g1 g2 g3 => w a i (by omega) g3 (by omega)
  have z11 : ρ8 83 11 = ρ4 83 11 := w _ _ (by omega) (by omega) (by omega)
  have z33 : ρ8 83 33 = ρ4 83 33 := w _ _ (by omega) (by omega) (by omega)
  have r3 : ∀ a i : Int, 86 ≤ a → a ≤ 97 → i < m + 1 + n → ρ4 a i = ρ2 a i := fun a i g1 g2 g3 => by rw [rg4 a i (by omega) (by omega) (by omega) (by omega) (by omega) (by omega), v2 a i (by omega)]
  have rm : ∀ a : Int, 86 ≤ a → a ≤ 97 → a ≠ 96 → ρ8 a m = ρ2 a m := fun a g1 g2 g3 => by rw [z86 a m g1 g2 (by omega), r3 a m g1 g2 (by omega)]
  have s4s : ∀ k : Int, k ≠ 13 → σ4 s k = σ2 s k := fun k hk' => by
    have a := (sf4.2.2.1 m h0 (by omega)).2 k hk'
    rw [h19] at a
    exact a
  have zs2 : ∀ k : Int, k ≠ 9 → k ≠ 10 → k ≠ 13 → σ8 s k = σ2 s k := fun k g1 g2 g3 => by rw [zs k g1 g2 g3, s4s k g3]
  have lv : σ4 (8 + b) 12 = ρ4 83 44 ∧ 0 ≤ ρ4 83 44 ∧ ρ4 83 44 ≤ 17 := by
    obtain ⟨x, x1, x2, x3, x4⟩ := hL
    omega
  have hF : sy_F σ8 ρ8 b m := by
    obtain ⟨a0, a1, a2, a3, a4, a5, a6, a7, a8, a9, a10, a11, a12⟩ := hs
    unfold sy_F
    rw [z19, s19, c10, w96, zs2 1 (by decide) (by decide) (by decide), zs2 2 (by decide) (by decide) (by decide), zs2 3 (by decide) (by decide) (by decide), zs2 4 (by decide) (by decide) (by decide), zs2 6 (by decide) (by decide) (by decide), zs2 7 (by decide) (by decide) (by decide), zs2 8 (by decide) (by decide) (by decide), zs2 12 (by decide) (by decide) (by decide), k86, rm 87 (by decide) (by decide) (by decide), rm 88 (by decide) (by decide) (by decide), rm 89 (by decide) (by decide) (by decide), rm 91 (by decide) (by decide) (by decide), rm 92 (by decide) (by decide) (by decide), rm 93 (by decide) (by decide) (by decide), rm 94 (by decide) (by decide) (by decide), hr.2.1, hr.2.2.1, hr.2.2.2.1, hr.2.2.2.2.1, O5 _ _ (by omega) (by omega), lv.1]
    exact ⟨a1, a2, a3, a4, a6, a7, a8, rfl, a12⟩
  have hdc := dc_fun hb h0 hm4 Z' hux w99 w26 c13 hF
  have hgm : gs_P ρ8 (fun _ => False) m := by
    unfold gs_P
    rw [k86, rm 87 (by decide) (by decide) (by decide), rm 88 (by decide) (by decide) (by decide), rm 89 (by decide) (by decide) (by decide), rm 91 (by decide) (by decide) (by decide), rm 92 (by decide) (by decide) (by decide), w96, w26, z11, hr.2.1, hr.2.2.1]
    refine ⟨Or.inl rfl, fun hh => by omega, fun hh => by omega, fun hh => by omega, fun _ => ⟨rfl, nn0, n8, by omega, fun k k1 k2 => ⟨?_, fun h => h⟩, by omega, by omega, hty.2.2.2.1, hty.2.2.2.2.1, hty.2.2.2.2.2, fun hh => ?_, Or.inl (by decide)⟩, fun hh => by omega⟩
    · rw [z86 86 _ (by decide) (by decide) (by omega), r3 86 _ (by decide) (by decide) (by omega)]
      exact (hp (m + k) (by omega) (by omega)).1.1
    · rcases hty.1 with h | h
      · exact absurd h.2 hh
      · exact h.2.2
  have hgs := gs_fun h0 hm4 Z' hux (fun i g1 g2 g3 => (hl i g1 (by omega) g3).1.2.1) (fun i g1 g2 => hid i g1 g2) w26 hgm
  have hkk : ∀ i : Int, m < i → i < ρ4 83 11 → 5 ≤ ρ8 86 i ∧ ρ8 86 i ≤ 7 ∧ ρ8 93 i = m := fun i g1 g2 => by
    rw [z86 86 i (by decide) (by decide) (by omega), z86 93 i (by decide) (by decide) (by omega)]
    exact loc i g1 g2
  have mt : ((m.toNat : Nat) : Int) = m := by omega
  have mt1 : (((m.toNat + 1 : Nat) : Nat) : Int) = m + 1 := by omega
  have fu : fn_u ρ8 (ρ8 83 11).toNat = σ (8 + b) 8 + 1 := by
    rw [fn_u_up (m := m.toNat + 1) _ (by omega) (fun i g1 g2 => by have := (hkk i (by omega) (by omega)).1; omega), fn_u_new (by rw [mt]; exact k86), fn_u_eq _ (fun i g1 g2 => r08 86 i (by decide) (by decide) (by omega)), hfu, hm]
  have fp : fn_p ρ8 (fun i => if i = m then r else fb i) (fun i => if i = m then l else fr i) (ρ8 83 11).toNat = σ (8 + b) 6 + (st_ln r + xt_ln l + 1) := by
    rw [fn_p_up (m := m.toNat + 1) _ (by omega) (fun i g1 g2 => by have := (hkk i (by omega) (by omega)).1; omega), fn_p_new (by rw [mt]; exact k86)]
    have i1 : (if ((m.toNat : Nat) : Int) = m then r else fb ((m.toNat : Nat) : Int)) = r := if_pos mt
    have i2 : (if ((m.toNat : Nat) : Int) = m then l else fr ((m.toNat : Nat) : Int)) = l := if_pos mt
    show fn_p ρ8 _ _ m.toNat + (st_ln (if ((m.toNat : Nat) : Int) = m then r else fb ((m.toNat : Nat) : Int)) + xt_ln (if ((m.toNat : Nat) : Int) = m then l else fr ((m.toNat : Nat) : Int)) + 1) = _
    rw [i1, i2, fn_p_eq (ρ := ρ) (fb := fb) (fr := fr) _ (fun i g1 g2 => ⟨r08 86 i (by decide) (by decide) (by omega), fun _ => ⟨if_neg (by omega), if_neg (by omega)⟩⟩), hfp, hm]
  have pa : ∀ k : Nat, (k : Int) ≤ m → po_a ρ8 k = po_a ρ k := fun k hk' => po_a_eq _ (fun i g1 g2 => ⟨r08 _ _ (by decide) (by decide) (by omega), r08 _ _ (by decide) (by decide) (by omega)⟩)
  have up : ∀ i : Int, m ≤ i → i < ρ4 83 11 → 4 ≤ ρ8 86 i ∧ ρ8 86 i ≤ 7 := fun i g1 g2 => by
    by_cases q : i = m
    · rw [q, k86]
      decide
    · have := hkk i (by omega) g2
      omega
  have pal : po_a ρ8 (ρ8 83 11).toNat = po_a ρ (ρ 83 11).toNat := by
    rw [po_a_up (m := m.toNat) _ (by omega) (fun i g1 g2 => by have := up i (by omega) (by omega); omega), pa _ (by omega), hm]
  have pkl : ∀ k : Int, k ≤ 2 → po_k ρ8 k (ρ8 83 11).toNat = po_k ρ k (ρ 83 11).toNat := fun k hk' => by
    rw [po_k_up (m := m.toNat) _ (by omega) (fun i g1 g2 => by have := up i (by omega) (by omega); omega), po_k_eq _ (fun i g1 g2 => ⟨r08 _ _ (by decide) (by decide) (by omega), r08 _ _ (by decide) (by decide) (by omega)⟩), hm]
  have c72 : ∀ k : Int, k ≠ 1 → σ8 (7 + b) k = σ (7 + b) k := fun k hk' => by
    rw [cz _ _ (by omega) (by omega) (by omega) (by omega) (by omega), sf4.2.1 _ _ (by omega) (by omega) (by unfold sf_D ef_D; omega), hc1 _ _ (by omega) (by omega) (by omega) (by omega) (by omega) (by omega) (by omega) (by omega)]
  have told : σ (7 + b) 1 = ρ 83 11 := hD0.1.2.2.2.2.1
  have told8 : σ8 (7 + b) 1 = ρ8 83 11 := hdc.1.2.2.2.2.1
  have lnr := st_ln_0 r
  have lnl := xt_ln_0 l
  refine ⟨⟨hdc, hgs⟩, ⟨fun i g1 g2 => ?_, fun i g1 g2 g3 => ?_⟩, ⟨?_, c8.2.1, c8.2.2.1, c8.2.2.2.1, c8.2.2.2.2.1, c8.2.2.2.2.2, c22, ?_, ?_⟩, ⟨⟨by omega, ?_⟩, by omega, by omega⟩, fun i g1 g2 g3 => ?_, ⟨by rw [fu]; exact c8.1, by rw [fp]; omega⟩, fun i g1 g2 g3 => ?_, ⟨fun i g1 g2 g3 => ?_, fun i g1 g2 g3 => ?_⟩, ⟨by rw [c72 2 (by decide), pal]; exact q2, by rw [c72 5 (by decide), pkl 1 (by decide)]; exact q5, by rw [c72 6 (by decide), pkl 2 (by decide)]; exact q6⟩⟩
  · rw [z11] at g2
    by_cases q : i = m
    · rw [q, z19, s19, zs2 11 (by decide) (by decide) (by decide), hs.2.2.2.2.2.2.2.2.2.2.2.1]
      exact ⟨by decide, by decide, fun hh => absurd k86 hh⟩
    · have a := hux.1.2.2.2.1 i g1 g2
      rw [z19, zf i 11 g1 g2 q]
      exact ⟨a.1, a.2.1, u9_of a.2.2 (z86 _ _ (by decide) (by decide) (by omega)) (by rw [z19, zf i 9 g1 g2 q])⟩
  · rw [z11] at g2
    show σ8 (σ8 (19 + b) i) 9 = (if i = m then σ5 (8 + b) 7 else B i) ∧ 0 ≤ (if i = m then σ5 (8 + b) 7 else B i) ∧ (if i = m then σ5 (8 + b) 7 else B i) ≤ 400000
    by_cases q : i = m
    · rw [if_pos q, q, z19, s19, c9, n57, y7, e8 7 (by decide), d2]
      omega
    · have a := hux.1.2.2.2.2.1 i g1 g2 q (by rw [← z86 86 i (by decide) (by decide) (by omega)]; exact g3)
      rw [if_neg q, z19, zf i 9 g1 g2 q]
      exact a
  · rw [c72 3 (by decide)]
    exact d1
  · rw [cz _ _ (by omega) (by omega) (by omega) (by omega) (by omega), y15, hc1 _ _ (by omega) (by omega) (by omega) (by omega) (by omega) (by omega) (by omega) (by omega)]
    exact d8
  · rw [w _ _ (by omega) (by omega) (by omega), dp4, x10]
    rfl
  · omega
  · rw [z11] at g2
    by_cases q : i < m
    · rw [r08 86 i (by decide) (by decide) q] at g3
      obtain ⟨⟨a1, a2, a3⟩, a4, a5⟩ := hl i g1 (by omega) g3
      have o := old i g1 q
      rw [r08 93 i (by decide) (by decide) q, r08 86 _ (by decide) (by decide) (by omega), o.1, o.2 5 (by decide), o.2 11 (by decide), lo_c_eq3 (ρ := ρ) _ (fun k h1 h2 => ⟨r08 _ _ (by decide) (by decide) (by omega), r08 _ _ (by decide) (by decide) (by omega), r08 _ _ (by decide) (by decide) (by omega)⟩), fn_U_o (by omega) (by omega)]
      exact ⟨⟨a1, a2, a3⟩, a4, a5⟩
    · have q2 : i ≠ m := fun hh => by
        rw [hh, k86] at g3
        omega
      have a := hkk i (by omega) g2
      have c := hux.2.1.1 i g1 g2 q2 (by rw [← z86 86 i (by decide) (by decide) (by omega)]; exact g3)
      rw [← z86 93 i (by decide) (by decide) (by omega)] at c
      rw [a.2.2] at c ⊢
      rw [z19, zf i 5 g1 g2 q2, zf i 11 g1 g2 q2, lo_c_eq3 (ρ := ρ4) _ (fun k h1 h2 => ⟨z86 _ _ (by decide) (by decide) (by omega), z86 _ _ (by decide) (by decide) (by omega), z86 _ _ (by decide) (by decide) (by omega)⟩)]
      exact ⟨⟨h0, by omega, k86⟩, c⟩
  · rw [z11] at g2
    by_cases q : i = m
    · rw [q]
      exact hnew
    · have q2 : i < m := by
        by_cases q3 : i < m
        · exact q3
        · have := (hkk i (by omega) g2).1
          omega
      rw [r08 86 i (by decide) (by decide) q2] at g3
      have it : ((i.toNat : Nat) : Int) = i := by omega
      have hpn := fn_p_le (ρ := ρ) (fb := fb) (fr := fr) (i := i.toNat) (by rw [it]; exact g3) (ρ 83 11).toNat (by omega)
      rw [it] at hpn
      have hul := fn_u_lt (ρ := ρ) (i := i.toNat) (by rw [it]; exact g3) (ρ 83 11).toNat (by omega)
      have hfi := hfn i g1 (by omega) g3
      have hUi := hfi.1.2.1
      have hlo : lo_c ρ8 i (ρ8 83 11).toNat = lo_c ρ i (ρ 83 11).toNat := by
        rw [lo_c_up (m := m.toNat) _ (by omega) (fun k h1 h2 hh => by
          by_cases q3 : k = m
          · rw [q3, k86] at hh
            omega
          · have := (hkk k (by omega) (by omega)).2.2
            omega), lo_c_eq3 (ρ := ρ) _ (fun k h1 h2 => ⟨r08 _ _ (by decide) (by decide) (by omega), r08 _ _ (by decide) (by decide) (by omega), r08 _ _ (by decide) (by decide) (by omega)⟩), hm]
      refine fn_R_of hfi ⟨g1, by omega⟩ (fn_U_o (by omega) (by omega)) (fun k h1 h2 => if_neg (by omega)) (if_neg q) (fun k h1 h2 => ⟨if_neg (by omega), if_neg (by omega)⟩) (by omega) (fun a k h1 h2 h3 h4 => r08 a k h1 h2 (by omega)) hlo (fun a k h1 h2 h3 h4 => ?_) ⟨?_, ?_⟩ (by omega) (fun k hk' => ?_) ⟨?_, ?_⟩ (by omega) (fun p I hp' hI' => ?_) (by rw [hfp]; exact hpn)
      · rw [w a k (by omega) (by omega) (by omega), rg4 a k (by omega) (by omega) (by omega) (by omega) (by omega) (by omega), v2 a k (by omega), hgf a k (by omega) (by omega) (by omega)]
      · rw [w _ _ (by omega) (by omega) (by omega), rg4 _ _ (by omega) (by omega) (by omega) (by omega) (by omega) (by omega), v2 _ _ (by omega), hgf _ _ (by omega) (by omega) (by omega)]
      · rw [w _ _ (by omega) (by omega) (by omega), rg4 _ _ (by omega) (by omega) (by omega) (by omega) (by omega) (by omega), v2 _ _ (by omega), hgf _ _ (by omega) (by omega) (by omega)]
      · have o := old i g1 q2
        rw [o.1, o.2 k hk']
      · rw [cz _ _ (by omega) (by omega) (by omega) (by omega) (by omega), sf4.2.1 _ _ (by omega) (by omega) (by unfold sf_D ef_D; omega), hc1 _ _ (by omega) (by omega) (by omega) (by omega) (by omega) (by omega) (by omega) (by omega)]
      · rw [cz _ _ (by omega) (by omega) (by omega) (by omega) (by omega), sf4.2.1 _ _ (by omega) (by omega) (by unfold sf_D ef_D; omega), hc1 _ _ (by omega) (by omega) (by omega) (by omega) (by omega) (by omega) (by omega) (by omega)]
      · refine ci_P_of hI' (fun a h1 h2 => ?_) (by omega) (fun k h1 h2 => (old k h1 (by omega)).1) (fun k x h1 h2 h3 => (old k h1 (by omega)).2 x (by omega))
        rw [cz _ _ (by omega) (by omega) (by omega) (by omega) (by omega), sf_code hb sf4 h1 h2 (by omega), hc1 _ _ (by omega) (by omega) (by omega) (by omega) (by omega) (by omega) (by omega) (by omega)]
  · rw [z11] at g2
    by_cases q : i < m
    · rw [r08 86 i (by decide) (by decide) q] at g3
      have o := old i g1 q
      have it : ((i.toNat : Nat) : Int) = i := by omega
      rw [o.1, o.2 5 (by decide), o.2 11 (by decide), pa _ (by omega)]
      exact hp1 i g1 (by omega) g3
    · have := up i (by omega) g2
      omega
  · rw [z11] at g2
    by_cases q : i < m
    · rw [r08 86 i (by decide) (by decide) q] at g3
      have o := old i g1 q
      rw [o.1, o.2 5 (by decide), o.2 11 (by decide)]
      exact hp2 i g1 (by omega) g3
    · have := up i (by omega) g2
      omega
end FK
