/-! part 99.zzzp: a fun in step -/
theorem fu_m2 {a c : Int} (h1 : 0 ≤ a) (h2 : 0 ≤ c) : 0 ≤ min 400000 (min 400000 (0 + a + c) + 1) ∧ min 400000 (min 400000 (0 + a + c) + 1) ≤ 400000 := by omega
/-- what a fun leaves of all that was told ahead of it; u: its unit -/
def fg_R (b u m : Int) (σ ρ σ8 ρ8 : js_S) : Prop := (∀ i : Int, 0 ≤ i → i < m → σ8 (19 + b) i = σ (19 + b) i ∧ ∀ k : Int, k ≠ 13 → σ8 (σ (19 + b) i) k = σ (σ (19 + b) i) k) ∧ (∀ a i : Int, 86 ≤ a → a ≤ 97 → i < m → ρ8 a i = ρ a i) ∧ (∀ a i : Int, 100 ≤ a → a ≤ 107 → i < ρ 83 33 → ρ8 a i = ρ a i) ∧ (∀ a i : Int, 108 ≤ a → a ≤ 109 → i ≠ m → ρ8 a i = ρ a i) ∧ (∀ a p : Int, 9 + b ≤ a → a ≤ 14 + b → p < σ (8 + b) 6 → σ8 a p = σ a p) ∧ (∀ i : Int, i ≠ u → σ8 (15 + b) i = σ (15 + b) i ∧ σ8 (16 + b) i = σ (16 + b) i) ∧ ((∀ i : Int, m < i → i < ρ8 83 11 → 5 ≤ ρ8 86 i ∧ ρ8 86 i ≤ 7 ∧ ρ8 93 i = m) ∧ ρ8 86 m = 4) ∧ (0 ≤ m ∧ m < ρ8 83 11 ∧ ρ 83 33 ≤ ρ8 83 33 ∧ σ (8 + b) 6 ≤ σ8 (8 + b) 6) ∧ (σ (7 + b) 1 = m ∧ σ8 (7 + b) 1 = ρ8 83 11 ∧ ∀ k : Int, k ≠ 1 → σ8 (7 + b) k = σ (7 + b) k)
section FK
variable {E : js_E} {b m s n g : Int} {B : Int → Int} {Bf : Int → Int → Int} {U : Int → Int} {fb fr : Int → tr_T} {σ ρ σ2 ρ2 ρ3 σ4 ρ4 σ5 σ8 ρ8 : js_S} {j j2 j4 : Nat} {r l : tr_T}
theorem fg_of (hb : b = 0 ∨ b = 25) (hm : ρ 83 11 = m) (told : σ (7 + b) 1 = ρ 83 11) (hI : pb_I E b m s n g σ ρ σ2 ρ2) (v2 : ∀ a i : Int, ¬ (a = 99 ∧ m + 1 ≤ i ∧ i ≤ m + n) → ρ3 a i = ρ2 a i) (H : fe_R E b m g B (fn_U b m U σ) (fun i => i = m) σ2 ρ3 j2 σ4 ρ4 j4 r l) (h5 : em_R b σ4 σ5 28 0 0 1 0 0) (Z : fz_R E b m s n g B (fn_U b m U σ) σ ρ σ4 ρ4 σ5 σ8 ρ8) (c6 : σ8 (8 + b) 6 = σ5 (8 + b) 6) : fg_R b (σ (8 + b) 8) m σ ρ σ8 ρ8 := by
  obtain ⟨_, ⟨⟨h0, nn0, n8, h11, h400⟩, _, _⟩, _, _, _, _, _, ⟨hc1, _⟩, hgf, _, _⟩ := hI
  obtain ⟨⟨_, _, _, sf4, rg4, m4, m4', k4⟩, _, ⟨⟨_, _, y6, _, _⟩, _⟩, _, _, _, hux⟩ := H
  obtain ⟨cz, z19, _, _, w, r08, old, loc, k86⟩ := Z
  have told4 : σ4 (7 + b) 1 = ρ4 83 11 := hux.1.1.2.2.2.2.1
  clear hux
  have n56 := h5.1
  clear h5
  have lnr := st_ln_0 r
  have lnl := xt_ln_0 l
  have e86 : σ2 (8 + b) 6 = σ (8 + b) 6 := hc1 _ _ (by omega) (by omega) (by omega) (by omega) (by omega) (by omega) (by omega) (by omega)
  have x11 : ρ3 83 11 = m + 1 + n := by rw [v2 _ _ (by omega)]; exact h11
  have x33 : ρ3 83 33 = ρ 83 33 := by rw [v2 _ _ (by omega), hgf _ _ (by omega) (by omega) (by omega)]
  have z11 : ρ8 83 11 = ρ4 83 11 := w _ _ (by omega) (by omega) (by omega)
  have z33 : ρ8 83 33 = ρ4 83 33 := w _ _ (by omega) (by omega) (by omega)
  refine ⟨old, r08, fun a i g1 g2 g3 => ?_, fun a i g1 g2 g3 => ?_, fun a p g1 g2 g3 => ?_, fun i g1 => ?_, ⟨fun i g1 g2 => ?_, k86⟩, ⟨h0, by omega, by omega, by omega⟩, by omega, ?_, fun k hk => ?_⟩
  · rw [w a i (by omega) (by omega) (by omega), rg4 a i (by omega) (by omega) (by omega) (by omega) (by omega) (by omega), v2 a i (by omega), hgf a i (by omega) (by omega) (by omega)]
  · rw [w a i (by omega) (by omega) (by omega), rg4 a i (by omega) (by omega) (by omega) (by omega) (by omega) (by omega), v2 a i (by omega), hgf a i (by omega) (by omega) (by omega)]
  · rw [cz _ _ (by omega) (by omega) (by omega) (by omega) (by omega), sf_code hb sf4 g1 g2 (by omega), hc1 _ _ (by omega) (by omega) (by omega) (by omega) (by omega) (by omega) (by omega) (by omega)]
  · have s15 : ∀ a : Int, a = 15 + b ∨ a = 16 + b → σ8 a i = σ a i := fun a ha => by
      rw [cz _ _ (by omega) (by omega) (by omega) (by omega) (by omega), sf4.2.1 _ _ (by omega) (by omega) (by unfold sf_D ef_D; omega), hc1 _ _ (by omega) (by omega) (by omega) (by omega) (by omega) (by omega) (by omega) (by omega)]
    exact ⟨s15 _ (Or.inl rfl), s15 _ (Or.inr rfl)⟩
  · have a := loc i g1 (by omega)
    rw [w 86 i (by omega) (by omega) (by omega), w 93 i (by omega) (by omega) (by omega)]
    exact a
  · rw [cz _ _ (by omega) (by omega) (by omega) (by omega) (by omega), told4, z11]
  · rw [cz _ _ (by omega) (by omega) (by omega) (by omega) (by omega), sf4.2.1 _ _ (by omega) (by omega) (by unfold sf_D ef_D; omega), hc1 _ _ (by omega) (by omega) (by omega) (by omega) (by omega) (by omega) (by omega) (by omega)]
theorem fg_sum {u : Int} (hm : ρ 83 11 = m) (hg : fg_R b u m σ ρ σ8 ρ8) : fn_u ρ8 (ρ8 83 11).toNat = fn_u ρ (ρ 83 11).toNat + 1 ∧ fn_p ρ8 (fun i => if i = m then r else fb i) (fun i => if i = m then l else fr i) (ρ8 83 11).toNat = fn_p ρ fb fr (ρ 83 11).toNat + (st_ln r + xt_ln l + 1) ∧ po_a ρ8 (ρ8 83 11).toNat = po_a ρ (ρ 83 11).toNat ∧ ∀ k : Int, k ≤ 2 → po_k ρ8 k (ρ8 83 11).toNat = po_k ρ k (ρ 83 11).toNat := by
  obtain ⟨_, r08, _, _, _, _, ⟨hkk, k86⟩, ⟨h0, m1, _, _⟩, _⟩ := hg
  have mt : ((m.toNat : Nat) : Int) = m := by omega
  have mt1 : (((m.toNat + 1 : Nat) : Nat) : Int) = m + 1 := by omega
  have up : ∀ i : Int, m ≤ i → i < ρ8 83 11 → 4 ≤ ρ8 86 i ∧ ρ8 86 i ≤ 7 := fun i g1 g2 => by
    by_cases q : i = m
    · rw [q, k86]
      decide
    · have := hkk i (by omega) g2
      omega
  refine ⟨?_, ?_, ?_, fun k hk => ?_⟩
  · rw [fn_u_up (m := m.toNat + 1) _ (by omega) (fun i g1 g2 => by have := (hkk i (by omega) (by omega)).1; omega), fn_u_new (by rw [mt]; exact k86), fn_u_eq _ (fun i g1 g2 => r08 86 i (by decide) (by decide) (by omega)), hm]
  · rw [fn_p_up (m := m.toNat + 1) _ (by omega) (fun i g1 g2 => by have := (hkk i (by omega) (by omega)).1; omega), fn_p_new (by rw [mt]; exact k86)]
    have i1 : (if ((m.toNat : Nat) : Int) = m then r else fb ((m.toNat : Nat) : Int)) = r := if_pos mt
    have i2 : (if ((m.toNat : Nat) : Int) = m then l else fr ((m.toNat : Nat) : Int)) = l := if_pos mt
    show fn_p ρ8 _ _ m.toNat + (st_ln (if ((m.toNat : Nat) : Int) = m then r else fb ((m.toNat : Nat) : Int)) + xt_ln (if ((m.toNat : Nat) : Int) = m then l else fr ((m.toNat : Nat) : Int)) + 1) = _
    rw [i1, i2, fn_p_eq (ρ := ρ) (fb := fb) (fr := fr) _ (fun i g1 g2 => ⟨r08 86 i (by decide) (by decide) (by omega), fun _ => ⟨if_neg (by omega), if_neg (by omega)⟩⟩), hm]
  · rw [po_a_up (m := m.toNat) _ (by omega) (fun i g1 g2 => by have := up i (by omega) (by omega); omega), po_a_eq _ (fun i g1 g2 => ⟨r08 _ _ (by decide) (by decide) (by omega), r08 _ _ (by decide) (by decide) (by omega)⟩), hm]
  · rw [po_k_up (m := m.toNat) _ (by omega) (fun i g1 g2 => by have := up i (by omega) (by omega); omega), po_k_eq _ (fun i g1 g2 => ⟨r08 _ _ (by decide) (by decide) (by omega), r08 _ _ (by decide) (by decide) (by omega)⟩), hm]
theorem fg_fn {v : Int} (hm : ρ 83 11 = m) (hg : fg_R b (σ (8 + b) 8) m σ ρ σ8 ρ8) (hD : dl_R E b B Bf U fb fr σ ρ j) {i : Int} (g1 : 0 ≤ i) (q : i < m) (g3 : ρ8 86 i = 4) : fn_R b (fun i => if i = m then v else B i) (fun i => if i = m then B else Bf i) (fn_U b m U σ) (fun i => if i = m then r else fb i) (fun i => if i = m then l else fr i) σ8 ρ8 i := by
  have hfn := hD.2.2.2.2.2.2.1
  have hfu := hD.2.2.2.2.2.1.1
  have hfp := hD.2.2.2.2.2.1.2
  clear hD
  obtain ⟨old, r08, n08, n9, cod, u15, ⟨loc, k86⟩, ⟨m0, m1, m2, m3⟩, t1, t2, _⟩ := hg
  rw [r08 86 i (by decide) (by decide) q] at g3
  have it : ((i.toNat : Nat) : Int) = i := by omega
  have hpn := fn_p_le (ρ := ρ) (fb := fb) (fr := fr) (i := i.toNat) (by rw [it]; exact g3) (ρ 83 11).toNat (by omega)
  rw [it] at hpn
  have hul := fn_u_lt (ρ := ρ) (i := i.toNat) (by rw [it]; exact g3) (ρ 83 11).toNat (by omega)
  have hfi := hfn i g1 (by omega) g3
  have hUi := hfi.1.2.1
  have hlo : lo_c ρ8 i (ρ8 83 11).toNat = lo_c ρ i (ρ 83 11).toNat := by
    rw [lo_c_up (m := m.toNat) _ (by omega) (fun k h1 h2 hh => by
      by_cases q3 : k = m
      · rw [q3, k86] at hh
        omega
      · have := (loc k (by omega) (by omega)).2.2
        omega), lo_c_eq3 (ρ := ρ) _ (fun k h1 h2 => ⟨r08 _ _ (by decide) (by decide) (by omega), r08 _ _ (by decide) (by decide) (by omega), r08 _ _ (by decide) (by decide) (by omega)⟩), hm]
  have o := old i g1 q
  have hu : U i ≠ σ (8 + b) 8 := by omega
  have hq : i ≠ m := by omega
  refine fn_R_of hfi ⟨g1, by omega⟩ (fn_U_o hq (by omega)) (fun k h1 h2 => if_neg (by omega)) (if_neg hq) (fun k h1 h2 => ⟨if_neg (by omega), if_neg (by omega)⟩) (by omega) (fun a k h1 h2 h3 h4 => r08 a k h1 h2 (by omega)) hlo (fun a k h1 h2 h3 h4 => n08 a k h1 h2 h4) ⟨n9 _ _ (by decide) (by decide) hq, n9 _ _ (by decide) (by decide) hq⟩ m2 (fun k hk' => by rw [o.1, o.2 k hk']) (u15 _ hu) m3 (fun p I hp' hI' => ?_) (by rw [hfp]; exact hpn)
  exact ci_P_of hI' (fun a h1 h2 => cod a p h1 h2 hp') (by omega) (fun k h1 h2 => (old k h1 (by omega)).1) (fun k x h1 h2 h3 => (old k h1 (by omega)).2 x (by omega))
theorem fg_po {u : Int} (hm : ρ 83 11 = m) (hg : fg_R b u m σ ρ σ8 ρ8) (hD : dl_R E b B Bf U fb fr σ ρ j) : ((∀ i : Int, 0 ≤ i → i < ρ8 83 11 → 1 ≤ ρ8 86 i ∧ ρ8 86 i ≤ 3 → σ8 (σ8 (19 + b) i) 5 = po_a ρ8 i.toNat ∧ σ8 (σ8 (19 + b) i) 11 = -1) ∧ (∀ i : Int, 0 ≤ i → i < ρ8 83 11 → ρ8 86 i = 0 ∨ 8 ≤ ρ8 86 i → σ8 (σ8 (19 + b) i) 5 = -1 ∧ σ8 (σ8 (19 + b) i) 11 = -1)) ∧ (σ8 (7 + b) 2 = po_a ρ8 (ρ8 83 11).toNat ∧ σ8 (7 + b) 5 = po_k ρ8 1 (ρ8 83 11).toNat ∧ σ8 (7 + b) 6 = po_k ρ8 2 (ρ8 83 11).toNat) := by
  have hp1 := hD.2.2.2.2.2.2.2.1.1
  have hp2 := hD.2.2.2.2.2.2.2.1.2
  have q := hD.2.2.2.2.2.2.2.2
  have sm := fg_sum (r := .leaf) (l := .leaf) (fb := fb) (fr := fr) hm hg
  clear hD
  obtain ⟨old, r08, _, _, _, _, ⟨loc, k86⟩, ⟨m0, m1, _, _⟩, t1, t2, s7⟩ := hg
  have lt : ∀ i : Int, 0 ≤ i → i < ρ8 83 11 → ¬ (4 ≤ ρ8 86 i ∧ ρ8 86 i ≤ 7) → i < m := fun i g1 g2 g3 => by
    by_cases q3 : i < m
    · exact q3
    · by_cases q4 : i = m
      · rw [q4, k86] at g3
        omega
      · have := loc i (by omega) g2
        omega
  refine ⟨⟨fun i g1 g2 g3 => ?_, fun i g1 g2 g3 => ?_⟩, ?_, ?_, ?_⟩
  · have l := lt i g1 g2 (by omega)
    rw [r08 86 i (by decide) (by decide) l] at g3
    have o := old i g1 l
    rw [o.1, o.2 5 (by decide), o.2 11 (by decide), po_a_eq (ρ := ρ) _ (fun k h3 h4 => ⟨r08 _ _ (by decide) (by decide) (by omega), r08 _ _ (by decide) (by decide) (by omega)⟩)]
    exact hp1 i g1 (by omega) g3
  · have l := lt i g1 g2 (by omega)
    rw [r08 86 i (by decide) (by decide) l] at g3
    have o := old i g1 l
    rw [o.1, o.2 5 (by decide), o.2 11 (by decide)]
    exact hp2 i g1 (by omega) g3
  · rw [s7 2 (by decide), sm.2.2.1]
    exact q.1
  · rw [s7 5 (by decide), sm.2.2.2 1 (by decide)]
    exact q.2.1
  · rw [s7 6 (by decide), sm.2.2.2 2 (by decide)]
    exact q.2.2
/-- variables, after a fun -/
theorem fg_lo {u : Int} (hm : ρ 83 11 = m) (hg : fg_R b u m σ ρ σ8 ρ8) (hD : dl_R E b B Bf U fb fr σ ρ j) (hnew : ∀ i : Int, m < i → i < ρ8 83 11 → σ8 (σ8 (19 + b) i) 5 = lo_c ρ8 m i.toNat ∧ σ8 (σ8 (19 + b) i) 11 = fn_U b m U σ m) : ∀ i : Int, 0 ≤ i → i < ρ8 83 11 → 5 ≤ ρ8 86 i ∧ ρ8 86 i ≤ 7 → (0 ≤ ρ8 93 i ∧ ρ8 93 i < i ∧ ρ8 86 (ρ8 93 i) = 4) ∧ σ8 (σ8 (19 + b) i) 5 = lo_c ρ8 (ρ8 93 i) i.toNat ∧ σ8 (σ8 (19 + b) i) 11 = fn_U b m U σ (ρ8 93 i) := by
  have hl := hD.2.2.2.2.1
  clear hD
  obtain ⟨old, r08, _, _, _, _, ⟨loc, k86⟩, ⟨m0, m1, _, _⟩, _⟩ := hg
  intro i g1 g2 g3
  by_cases q : i < m
  · rw [r08 86 i (by decide) (by decide) q] at g3
    obtain ⟨⟨a1, a2, a3⟩, a4, a5⟩ := hl i g1 (by omega) g3
    have o := old i g1 q
    rw [r08 93 i (by decide) (by decide) q, r08 86 _ (by decide) (by decide) (by omega), o.1, o.2 5 (by decide), o.2 11 (by decide), lo_c_eq3 (ρ := ρ) _ (fun k h1 h2 => ⟨r08 _ _ (by decide) (by decide) (by omega), r08 _ _ (by decide) (by decide) (by omega), r08 _ _ (by decide) (by decide) (by omega)⟩), fn_U_o (by omega) (by omega)]
    exact ⟨⟨a1, a2, a3⟩, a4, a5⟩
  · have q2 : i ≠ m := fun hh => by
      rw [hh, k86] at g3
      omega
    have a := loc i (by omega) g2
    rw [a.2.2]
    exact ⟨⟨m0, by omega, k86⟩, hnew i (by omega) g2⟩
theorem dl_fun (hb : b = 0 ∨ b = 25) (hm : ρ 83 11 = m) (hj : j < j2) (hD : dl_R E b B Bf U fb fr σ ρ j) (hI : pb_I E b m s n g σ ρ σ2 ρ2) (D2 : ρ2 83 10 = 1) (v2 : ∀ a i : Int, ¬ (a = 99 ∧ m + 1 ≤ i ∧ i ≤ m + n) → ρ3 a i = ρ2 a i) (H : fe_R E b m g B (fn_U b m U σ) (fun i => i = m) σ2 ρ3 j2 σ4 ρ4 j4 r l) (h5 : em_R b σ4 σ5 28 0 0 1 0 0) (Z : fz_R E b m s n g B (fn_U b m U σ) σ ρ σ4 ρ4 σ5 σ8 ρ8) (c15 : σ8 (15 + b) (σ (8 + b) 8) = σ5 (8 + b) 9 ∧ σ8 (16 + b) (σ (8 + b) 8) = σ5 (8 + b) 11) (cR : ∀ a : Int, 9 + b ≤ a → a ≤ 14 + b → σ8 a (σ4 (8 + b) 6) = σ5 a (σ4 (8 + b) 6)) (c6 : σ8 (8 + b) 6 = σ5 (8 + b) 6) (c8 : σ8 (8 + b) 8 = σ (8 + b) 8 + 1 ∧ σ8 (8 + b) 7 = 0 ∧ σ8 (8 + b) 9 = 0 ∧ σ8 (8 + b) 10 = 0 ∧ σ8 (8 + b) 11 = 0 ∧ σ8 (8 + b) 12 = 0) (c9 : σ8 s 9 = σ5 (8 + b) 7) (c10 : σ8 s 10 = 1 + σ5 (8 + b) 12) (c13 : σ8 s 13 = 1) (c22 : σ8 (22 + b) 0 = -1) (w99 : ρ8 99 m = 1) (w96 : ρ8 96 m = 1 + ρ4 83 44) (w26 : ρ8 83 26 = -1) : dl_R E b (fun i => if i = m then σ5 (8 + b) 7 else B i) (fun i => if i = m then B else Bf i) (fn_U b m U σ) (fun i => if i = m then r else fb i) (fun i => if i = m then l else fr i) σ8 ρ8 j4 := by
  have hnew := fn_new hb hm hD hI v2 H h5 Z c15 cR c6 w96
  have hg := fg_of hb hm hD.1.1.1.2.2.2.2.1 hI v2 H h5 Z c6
  have hpo := fg_po hm hg hD
  have hsm := fg_sum (r := r) (l := l) (fb := fb) (fr := fr) hm hg
  have hold := fun (i : Int) (g1 : 0 ≤ i) (q : i < m) (g3 : ρ8 86 i = 4) => fg_fn (v := σ5 (8 + b) 7) (r := r) (l := l) hm hg hD g1 q g3
  have hlo' := fg_lo hm hg hD
  have hl := hD.2.2.2.2.1
  have hfu := hD.2.2.2.2.2.1.1
  have hfp := hD.2.2.2.2.2.1.2
  obtain ⟨d1, d2, d3, d4, d5, d6, d7, d8, d9⟩ := hD.2.2.1
  obtain ⟨⟨n1, n2⟩, n3, n4⟩ := hD.2.2.2.1
  clear hD
  obtain ⟨_, ⟨⟨h0, nn0, n8, h11, h400⟩, h26, h44⟩, ⟨hds, h19⟩, hs, hr, hty, hfr, ⟨hc1, hc2⟩, hgf, ⟨h22, h9⟩, hp⟩ := hI
  obtain ⟨⟨r4, q4, dp4, sf4, rg4, m4, m4', k4⟩, hL, ⟨⟨y15, y10, y6, y7, y11⟩, yc⟩, _, ⟨⟨tl1, tl2, tl3⟩, ⟨tcn, ecn⟩, tmt, emt, _⟩, hid, hux⟩ := H
  clear yc hfr hds hc2 h22 h9 tmt emt tl1 tl2 y11
  have Z' := Z
  obtain ⟨cz, z19, zf, ⟨s19, gs, zs⟩, w, r08, old, loc, k86⟩ := Z
  have O5 := h5.2.2.2
  have n56 := h5.1
  have n57 := hi_i h5.2.1
  clear h5
  replace y7 := hi_i y7
  replace hr := hi_i hr
  replace hty := hi_i hty
  have hY4 := hux.1.1
  have e8 : ∀ k : Int, k ≠ 9 → σ2 (8 + b) k = σ (8 + b) k := fun k q => hc1 _ _ (by omega) (by omega) (by omega) (by omega) (by omega) (by omega) (by omega) (by omega)
  have e86 := e8 6 (by decide)
  have e812 : σ2 (8 + b) 12 = 0 := (e8 12 (by decide)).trans d6
  have e23 : σ2 (23 + b) 15 = σ (23 + b) 15 := hc1 _ _ (by omega) (by omega) (by omega) (by omega) (by omega) (by omega) (by omega) (by omega)
  clear hc1
  have x11 : ρ3 83 11 = m + 1 + n := by rw [v2 _ _ (by omega)]; exact h11
  have x33 : ρ3 83 33 = ρ 83 33 := by rw [v2 _ _ (by omega), hgf _ _ (by omega) (by omega) (by omega)]
  have x44 : ρ3 83 44 = 0 := by rw [v2 _ _ (by omega)]; exact h44
  have x10 : ρ3 83 10 = 1 := by rw [v2 _ _ (by omega)]; exact D2
  clear hgf
  have hm4 : m < ρ4 83 11 := by omega
  have h4004 := hY4.1.2.1
  have z86 : ∀ a i : Int, 86 ≤ a → a ≤ 97 → ¬ (a = 96 ∧ i = m) → ρ8 a i = ρ4 a i := fun a i g1 g2 g3 => w a i (by omega) g3 (by omega)
  have z11 : ρ8 83 11 = ρ4 83 11 := w _ _ (by omega) (by omega) (by omega)
  have z33 : ρ8 83 33 = ρ4 83 33 := w _ _ (by omega) (by omega) (by omega)
  have z10 : ρ8 83 10 = ρ4 83 10 := w _ _ (by omega) (by omega) (by omega)
  clear w
  have r3 : ∀ a i : Int, 86 ≤ a → a ≤ 97 → i < m + 1 + n → ρ4 a i = ρ2 a i := fun a i g1 g2 g3 => by rw [rg4 a i (by omega) (by omega) (by omega) (by omega) (by omega) (by omega), v2 a i (by omega)]
  clear rg4 v2
  have rm : ∀ a : Int, 86 ≤ a → a ≤ 97 → a ≠ 96 → ρ8 a m = ρ2 a m := fun a g1 g2 g3 => by rw [z86 a m g1 g2 (by omega), r3 a m g1 g2 (by omega)]
  have s4s : ∀ k : Int, k ≠ 13 → σ4 s k = σ2 s k := fun k hk' => by
    have a := (sf4.2.2.1 m h0 (by omega)).2 k hk'
    rw [h19] at a
    exact a
  clear sf4
  have zs2 : ∀ k : Int, k ≠ 9 → k ≠ 10 → k ≠ 13 → σ8 s k = σ2 s k := fun k g1 g2 g3 => by rw [zs k g1 g2 g3, s4s k g3]
  have s11 : σ2 s 11 = -1 := hs.2.2.2.2.2.2.2.2.2.2.2.1
  replace hs := hi_i hs
  have lv : σ4 (8 + b) 12 = ρ4 83 44 ∧ 0 ≤ ρ4 83 44 ∧ ρ4 83 44 ≤ 17 := by
    obtain ⟨x, x1, x2, x3, x4⟩ := hL
    omega
  clear hL
  have hF : sy_F σ8 ρ8 b m := by
    obtain ⟨a0, a1, a2, a3, a4, a5, a6, a7, a8, a9, a10, a11, a12⟩ := hi_e hs
    obtain ⟨b1, b2, b3, b4, b5⟩ := hi_e hr
    unfold sy_F
    rw [z19, s19, c10, w96, zs2 1 (by decide) (by decide) (by decide), zs2 2 (by decide) (by decide) (by decide), zs2 3 (by decide) (by decide) (by decide), zs2 4 (by decide) (by decide) (by decide), zs2 6 (by decide) (by decide) (by decide), zs2 7 (by decide) (by decide) (by decide), zs2 8 (by decide) (by decide) (by decide), zs2 12 (by decide) (by decide) (by decide), k86, rm 87 (by decide) (by decide) (by decide), rm 88 (by decide) (by decide) (by decide), rm 89 (by decide) (by decide) (by decide), rm 91 (by decide) (by decide) (by decide), rm 92 (by decide) (by decide) (by decide), rm 93 (by decide) (by decide) (by decide), rm 94 (by decide) (by decide) (by decide), b2, b3, b4, b5.1, O5 (8 + b) 12 (by omega) (by omega), lv.1]
    exact ⟨a1, a2, a3, a4, a6, a7, a8, rfl, a12⟩
  have hdc := dc_fun hb h0 hm4 Z' hux w99 w26 c13 hF
  have hgm : gs_P ρ8 (fun _ => False) m := by
    obtain ⟨b1, b2, b3, b4, b5⟩ := hi_e hr
    have t := hi_e hty
    unfold gs_P
    rw [k86, rm 87 (by decide) (by decide) (by decide), rm 88 (by decide) (by decide) (by decide), rm 89 (by decide) (by decide) (by decide), rm 91 (by decide) (by decide) (by decide), rm 92 (by decide) (by decide) (by decide), w96, w26, z11, b2, b3]
    refine ⟨Or.inl rfl, fun hh => by omega, fun hh => by omega, fun hh => by omega, fun _ => ⟨rfl, nn0, n8, by omega, fun k k1 k2 => ⟨?_, fun h => h⟩, by omega, by omega, t.2.2.2.1, t.2.2.2.2.1, t.2.2.2.2.2, fun hh => ?_, Or.inl (by decide)⟩, fun hh => by omega⟩
    · rw [z86 86 _ (by decide) (by decide) (by omega), r3 86 _ (by decide) (by decide) (by omega)]
      exact (hp (m + k) (by omega) (by omega)).1.1
    · rcases t.1 with h | h
      · exact absurd h.2 hh
      · exact h.2.2
  have hgs := gs_fun h0 hm4 Z' hux (fun i g1 g2 g3 => (hl i g1 (by omega) g3).1.2.1) (fun i g1 g2 => hid i g1 g2) w26 hgm
  clear hgm hF hid hp r3 rm
  have lnr := st_ln_0 r
  have lnl := xt_ln_0 l
  have s7 := hg.2.2.2.2.2.2.2.2.2.2
  have hkk := hg.2.2.2.2.2.2.1.1
  refine ⟨⟨hdc, hgs⟩, ⟨fun i g1 g2 => ?_, fun i g1 g2 g3 => ?_⟩, ⟨?_, c8.2.1, c8.2.2.1, c8.2.2.2.1, c8.2.2.2.2.1, c8.2.2.2.2.2, c22, ?_, ?_⟩, ⟨⟨by omega, by omega⟩, by omega, by omega⟩, hlo' (fun i g1 g2 => ?_), ⟨by rw [hsm.1, c8.1, hfu], by rw [hsm.2.1, ← hfp]; omega⟩, fun i g1 g2 g3 => ?_, hpo.1, hpo.2⟩
  · rw [z11] at g2
    by_cases q : i = m
    · rw [q, z19, s19, zs2 11 (by decide) (by decide) (by decide), s11]
      exact ⟨by decide, by decide, fun hh => absurd k86 hh⟩
    · have a := hux.1.2.2.2.1 i g1 g2
      rw [z19, zf i 11 g1 g2 q]
      exact ⟨a.1, a.2.1, u9_of a.2.2 (z86 _ _ (by decide) (by decide) (by omega)) (by rw [z19, zf i 9 g1 g2 q])⟩
  · rw [z11] at g2
    show σ8 (σ8 (19 + b) i) 9 = (if i = m then σ5 (8 + b) 7 else B i) ∧ 0 ≤ (if i = m then σ5 (8 + b) 7 else B i) ∧ (if i = m then σ5 (8 + b) 7 else B i) ≤ 400000
    by_cases q : i = m
    · rw [if_pos q, q, z19, s19, c9, hi_e n57, hi_e y7, e8 7 (by decide), d2]
      exact ⟨rfl, fu_m2 tcn ecn⟩
    · have a := hux.1.2.2.2.2.1 i g1 g2 q (by rw [← z86 86 i (by decide) (by decide) (by omega)]; exact g3)
      rw [if_neg q, z19, zf i 9 g1 g2 q]
      exact a
  · rw [s7 3 (by decide)]
    exact d1
  · rw [cz _ _ (by omega) (by omega) (by omega) (by omega) (by omega), y15, e23]
    exact d8
  · rw [z10, dp4, x10]
    rfl
  · rw [z11] at g2
    have q2 : i ≠ m := by omega
    have a := hkk i g1 (by omega)
    have k6 := z86 86 i (by decide) (by decide) (by omega)
    have c := hux.2.1.1 i (by omega) g2 q2 (by rw [← k6]; exact ⟨a.1, a.2.1⟩)
    rw [← z86 93 i (by decide) (by decide) (by omega), a.2.2] at c
    rw [z19, zf i 5 (by omega) g2 q2, zf i 11 (by omega) g2 q2, lo_c_eq3 (ρ := ρ4) _ (fun k h1 h2 => ⟨z86 _ _ (by decide) (by decide) (by omega), z86 _ _ (by decide) (by decide) (by omega), z86 _ _ (by decide) (by decide) (by omega)⟩)]
    exact c
  · by_cases q : i = m
    · rw [q]
      exact hnew
    · have q2 : i < m := by
        by_cases q3 : i < m
        · exact q3
        · have := (hkk i (by omega) g2).1
          omega
      exact hold i g1 q2 g3
end FK
