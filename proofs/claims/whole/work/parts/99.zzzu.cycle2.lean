/-! part 99.zzzu: a program was read by both -/
/-- a program: its symbols, its funs' trees and code, its ports, its cycle's tree r and code -/
def pg_R (E : js_E) (b : Int) (B : Int → Int) (Bf : Int → Int → Int) (U : Int → Int) (fb fr : Int → tr_T) (r : tr_T) (σ ρ : js_S) (j : Nat) : Prop := (sy_Y E.1 σ ρ b 0 0 (fun _ => False) ∧ kx_R ρ 0 0 (fun _ => False) ∧ gs_R ρ (fun _ => False) ∧ ρ 83 26 = -1) ∧ (∀ i : Int, 0 ≤ i → i < ρ 83 11 → 5 ≤ ρ 86 i ∧ ρ 86 i ≤ 7 → (ρ 93 i = -1 ∨ 0 ≤ ρ 93 i ∧ ρ 93 i < i ∧ ρ 86 (ρ 93 i) = 4) ∧ σ (σ (19 + b) i) 5 = lo_c ρ (ρ 93 i) i.toNat ∧ σ (σ (19 + b) i) 11 = U (ρ 93 i)) ∧ (∀ i : Int, 0 ≤ i → i < ρ 83 11 → ρ 86 i = 4 → fn_R b B Bf U fb fr σ ρ i ∧ 0 ≤ B i ∧ B i ≤ 400000) ∧ ((∀ i : Int, 0 ≤ i → i < ρ 83 11 → 1 ≤ ρ 86 i ∧ ρ 86 i ≤ 3 → σ (σ (19 + b) i) 5 = po_a ρ i.toNat ∧ σ (σ (19 + b) i) 11 = -1) ∧ (∀ i : Int, 0 ≤ i → i < ρ 83 11 → ρ 86 i = 0 ∨ 8 ≤ ρ 86 i → σ (σ (19 + b) i) 5 = -1 ∧ σ (σ (19 + b) i) 11 = -1)) ∧ (σ (7 + b) 2 = po_a ρ (ρ 83 11).toNat ∧ σ (7 + b) 5 = po_k ρ 1 (ρ 83 11).toNat ∧ σ (7 + b) 6 = po_k ρ 2 (ρ 83 11).toNat) ∧ ((U (-1) = fn_u ρ (ρ 83 11).toNat ∧ σ (8 + b) 8 = fn_u ρ (ρ 83 11).toNat + 1) ∧ σ (7 + b) 3 = fn_p ρ fb fr (ρ 83 11).toNat ∧ σ (8 + b) 6 = fn_p ρ fb fr (ρ 83 11).toNat + st_ln r + 1 ∧ σ (7 + b) 4 = min 400000 (st_cn B r + 1) ∧ σ (15 + b) (U (-1)) = lo_c ρ (-1) (ρ 83 11).toNat ∧ σ (16 + b) (U (-1)) = max 0 (st_mt r 0)) ∧ ((r = .leaf ∨ xt_k r = 90) ∧ st_w r ∧ st_G ρ (-1) r ∧ st_nd ρ r 0 (ρ 83 33) (ρ 83 45) 0 ∧ 0 ≤ st_cn B r ∧ st_mt r 0 ≤ 1024 ∧ st_dp r ≤ 1210) ∧ (σ (8 + b) 6 ≤ 8192 → st_cd (ci_P σ b (U (-1))) r 0 (fn_p ρ fb fr (ρ 83 11).toNat) 0 ∧ ci_P σ b (U (-1)) (fn_p ρ fb fr (ρ 83 11).toNat + st_ln r) (29, 0, 0, 0, 0, 1, 0)) ∧ ((0 ≤ σ (8 + b) 6 ∧ σ (8 + b) 6 ≤ 5000 * j + 1) ∧ 0 ≤ ρ 83 33 ∧ ρ 83 33 ≤ j ∧ ∀ i : Int, 0 ≤ i → i < ρ 83 11 → u9_P σ ρ b i ∧ (ρ 86 i = 4 → σ (σ (19 + b) i) 9 = B i))
section CY2
variable {E : js_E} {b : Int} {B : Int → Int} {Bf : Int → Int → Int} {U : Int → Int} {fb fr : Int → tr_T} {σ ρ σ2 ρ2 σ3 ρ3 σ4 σ6 ρ4 : js_S} {j j2 j3 : Nat} {m : Int} {r : tr_T}
/-- the frame of the cycle, all of it -/
theorem cg_of (hb : b = 0 ∨ b = 25) (hD : dl_R E b B Bf U fb fr σ ρ j) (h1 : ∀ a i : Int, ¬ (a = 1 ∧ (i = 1 ∨ i = 2 ∨ i = 3 ∨ i = 5 ∨ i = 11)) → a ≠ 2 → ¬ (a = 7 + b ∧ i = 3) → σ2 a i = σ a i) (r1 : ∀ a i : Int, ¬ (a = 83 ∧ (5 ≤ i ∧ i ≤ 10 ∨ i = 44)) → ρ2 a i = ρ a i) (H : bl_R E b (-1) B (cy_U b U σ ρ) (fun _ => False) 0 σ2 ρ2 j2 σ3 ρ3 j3 m r) (h4 : em_R b σ3 σ4 29 0 0 1 0 0) (c6 : ∀ a i : Int, ¬ (a = 7 + b ∧ i = 4) → ¬ (a = 8 + b ∧ 7 ≤ i ∧ i ≤ 12) → ¬ (15 + b ≤ a ∧ a ≤ 16 + b ∧ i = σ (8 + b) 8) → σ6 a i = σ4 a i) (w : ∀ a i : Int, ¬ (a = 83 ∧ i = 45) → ρ4 a i = ρ3 a i) : cg_R b (σ (8 + b) 8) σ ρ σ6 ρ4 := by
  have m0 := dl_m0 hD
  have told : σ (7 + b) 1 = ρ 83 11 := hD.1.1.1.2.2.2.2.1
  have ge : ∀ i : Int, 0 ≤ i → i < ρ 83 11 → 137 ≤ σ (19 + b) i := fun i g1 g2 => js_sym_ge (hD.1.1.1.2.2.2.2.2.1 i g1 g2).1
  clear hD
  obtain ⟨⟨r3, q3, dp3, sf3, sg3, m3, m3', k3⟩, hL, hC, hT, hux⟩ := H
  have told3 : σ3 (7 + b) 1 = ρ3 83 11 := hux.1.1.2.2.2.2.1
  have hvw := hux.2.1.2.2.2.2.2
  have y6 := hC.1.2.2.1
  have lnr := st_ln_0 r
  have O4 := h4.2.2.2
  have n46 := h4.1
  clear hL hC hT hux h4
  have x11 : ρ2 83 11 = ρ 83 11 := r1 _ _ (by omega)
  have x33 : ρ2 83 33 = ρ 83 33 := r1 _ _ (by omega)
  have z11 : ρ4 83 11 = ρ3 83 11 := w _ _ (by omega)
  have z33 : ρ4 83 33 = ρ3 83 33 := w _ _ (by omega)
  have cc : ∀ a i : Int, 6 + b ≤ a → ¬ (a = 7 + b ∧ i = 3) → σ2 a i = σ a i := fun a i g g2 => h1 a i (by omega) (by omega) g2
  have e86 : σ2 (8 + b) 6 = σ (8 + b) 6 := cc _ _ (by omega) (by omega)
  have z86 : σ6 (8 + b) 6 = σ4 (8 + b) 6 := c6 _ _ (by omega) (by omega) (by omega)
  have sh : ∀ a i : Int, a = 19 + b ∨ 137 ≤ a → σ6 a i = σ3 a i := fun a i g => by rw [c6 _ _ (by omega) (by omega) (by omega), O4 _ _ (by omega) (by omega)]
  refine ⟨fun i g1 g2 => ?_, fun a i g1 g2 g3 => ?_, fun a i g1 g2 g3 => ?_, fun a i g1 => ?_, fun a p g1 g2 g3 => ?_, fun i g1 => ?_, fun i g1 g2 => ?_, ⟨m0.1, by omega, by omega, by omega⟩, told, ?_, fun k k1 k2 k3 => ?_⟩
  · have g := ge i g1 g2
    have c := sf3.2.2.1 i g1 (by omega)
    have c2 : σ2 (19 + b) i = σ (19 + b) i := cc _ _ (by omega) (by omega)
    rw [c2] at c
    refine ⟨by rw [sh _ _ (Or.inl rfl), c.1], fun k hk => ?_⟩
    rw [sh _ _ (Or.inr g), c.2 k hk, cc _ _ (by omega) (by omega)]
  · rw [w _ _ (by omega), sg3 a i (by omega) (by omega) (by omega) (by omega) (by omega), r1 _ _ (by omega)]
  · rw [w _ _ (by omega), sg3 a i (by omega) (by omega) (by omega) (by omega) (by omega), r1 _ _ (by omega)]
  · rw [w _ _ (by omega), sg3 a i (by omega) (by omega) (by omega) (by omega) (by omega), r1 _ _ (by omega)]
  · rw [c6 _ _ (by omega) (by omega) (by omega), O4 _ _ (by omega) (by omega), sf_code hb sf3 g1 g2 (by omega), cc _ _ (by omega) (by omega)]
  · have s15 : ∀ a : Int, a = 15 + b ∨ a = 16 + b → σ6 a i = σ a i := fun a ha => by
      rw [c6 _ _ (by omega) (by omega) (by omega), O4 _ _ (by omega) (by omega), sf3.2.1 _ _ (by omega) (by omega) (by unfold sf_D ef_D; omega), cc _ _ (by omega) (by omega)]
    exact ⟨s15 _ (Or.inl rfl), s15 _ (Or.inr rfl)⟩
  · rw [z11] at g2
    have a := hvw i (by omega) (by rw [cy_U2]; exact g1) g2
    rw [w _ _ (by omega), w _ _ (by omega)]
    exact a
  · rw [c6 _ _ (by omega) (by omega) (by omega), O4 _ _ (by omega) (by omega), told3, z11]
  · rw [c6 _ _ (by omega) (by omega) (by omega), O4 _ _ (by omega) (by omega), sf3.2.1 _ _ (by omega) (by omega) (by unfold sf_D ef_D; omega), cc _ _ (by omega) (by omega)]
theorem cy_m1 {x a : Int} (h : 0 ≤ a) (h2 : x = min 400000 (0 + a)) : min 400000 (x + 1) = min 400000 (a + 1) := by omega
theorem cy_fin (hb : b = 0 ∨ b = 25) (hj : j < j2) (hj8 : j < 8193) (hD : dl_R E b B Bf U fb fr σ ρ j) (h1 : ∀ a i : Int, ¬ (a = 1 ∧ (i = 1 ∨ i = 2 ∨ i = 3 ∨ i = 5 ∨ i = 11)) → a ≠ 2 → ¬ (a = 7 + b ∧ i = 3) → σ2 a i = σ a i) (h3 : σ2 (7 + b) 3 = σ (8 + b) 6) (r1 : ∀ a i : Int, ¬ (a = 83 ∧ (5 ≤ i ∧ i ≤ 10 ∨ i = 44)) → ρ2 a i = ρ a i) (H : bl_R E b (-1) B (cy_U b U σ ρ) (fun _ => False) 0 σ2 ρ2 j2 σ3 ρ3 j3 m r) (h4 : em_R b σ3 σ4 29 0 0 1 0 0) (c6 : ∀ a i : Int, ¬ (a = 7 + b ∧ i = 4) → ¬ (a = 8 + b ∧ 7 ≤ i ∧ i ≤ 12) → ¬ (15 + b ≤ a ∧ a ≤ 16 + b ∧ i = σ (8 + b) 8) → σ6 a i = σ4 a i) (c74 : σ6 (7 + b) 4 = σ4 (8 + b) 7) (c88 : σ6 (8 + b) 8 = σ (8 + b) 8 + 1) (c15 : σ6 (15 + b) (σ (8 + b) 8) = σ4 (8 + b) 9 ∧ σ6 (16 + b) (σ (8 + b) 8) = σ4 (8 + b) 11) (w : ∀ a i : Int, ¬ (a = 83 ∧ i = 45) → ρ4 a i = ρ3 a i) (w45 : ρ4 83 45 = m) (p0 : 0 ≤ σ2 (23 + b) 15) : pg_R E b B Bf (cy_U b U σ ρ) fb fr r σ6 ρ4 j3 := by
  have hg := cg_of hb hD h1 r1 H h4 c6 w
  have hpo := cg_po hg hD
  have hsm := cg_sum (fb := fb) (fr := fr) hg
  have hfn := fun (i : Int) (g1 : 0 ≤ i) (g2 : i < ρ4 83 11) (g3 : ρ4 86 i = 4) => cg_fn hg hD g1 g2 g3
  have hB := hD.2.1.2
  have hl := hD.2.2.2.2.1
  have hfu := hD.2.2.2.2.2.1.1
  have hfp := hD.2.2.2.2.2.1.2
  have d := hD.2.2.1
  have dn := hD.2.2.2.1
  clear hD
  obtain ⟨old, r08, n08, n9, cod, u15, loc, ⟨mm0, mm1, mm2, mm3⟩, t1, t2, s7⟩ := hg
  clear u15 cod n08 n9 s7
  obtain ⟨⟨r3, q3, dp3, sf3, sg3, m3, m3', k3⟩, hL, ⟨⟨y15, y10, y6, y7, y11⟩, yc⟩, ⟨nd, ⟨rk, rw1, rG⟩, ⟨tl, tcn, tmt⟩, _, hz2⟩, hux⟩ := H
  have hzr : st_dp r ≤ 1210 := by
    have a1 : st_dp r ≤ 2 * (400 - σ2 (23 + b) 15) + 6 * (65 - ρ2 83 10) + 5 + 6 * 0 := hz2
    have a2 := r3.2.2.2.2.1
    omega
  have O4 := h4.2.2.2
  have n46 := h4.1
  have n47 := h4.2.1
  replace h4 := hi_i h4
  clear hL sg3 dp3 r3
  have cc : ∀ a i : Int, 6 + b ≤ a → ¬ (a = 7 + b ∧ i = 3) → σ2 a i = σ a i := fun a i g g2 => h1 a i (by omega) (by omega) g2
  have e8 : ∀ k : Int, σ2 (8 + b) k = σ (8 + b) k := fun k => cc _ _ (by omega) (by omega)
  have e10 : σ2 (8 + b) 10 = 0 := (e8 10).trans d.2.2.2.1
  have e11 : σ2 (8 + b) 11 = 0 := (e8 11).trans d.2.2.2.2.1
  have e7 : σ2 (8 + b) 7 = 0 := (e8 7).trans d.2.1
  clear d
  have x33 : ρ2 83 33 = ρ 83 33 := r1 _ _ (by omega)
  have z11 : ρ4 83 11 = ρ3 83 11 := w _ _ (by omega)
  have z33 : ρ4 83 33 = ρ3 83 33 := w _ _ (by omega)
  have z26 : ρ4 83 26 = ρ3 83 26 := w _ _ (by omega)
  have z44 : ρ4 83 44 = ρ3 83 44 := w _ _ (by omega)
  have zz : ∀ a i : Int, a ≠ 83 → ρ4 a i = ρ3 a i := fun a i g => w _ _ (by omega)
  have z86 : σ6 (8 + b) 6 = σ4 (8 + b) 6 := c6 _ _ (by omega) (by omega) (by omega)
  have sh : ∀ a i : Int, a = -1 ∨ a = 19 + b ∨ a = 20 + b ∨ (a = 7 + b ∧ i = 1) ∨ 137 ≤ a → σ6 a i = σ3 a i := fun a i g => by rw [c6 _ _ (by omega) (by omega) (by omega), O4 _ _ (by omega) (by omega)]
  have ge3 : ∀ i : Int, 0 ≤ i → i < ρ3 83 11 → 137 ≤ σ3 (19 + b) i := fun i g1 g2 => js_sym_ge (hux.1.1.2.2.2.2.2.1 i g1 g2).1
  have z19 : ∀ i : Int, σ6 (19 + b) i = σ3 (19 + b) i := fun i => sh _ _ (by omega)
  have zf : ∀ i k : Int, 0 ≤ i → i < ρ3 83 11 → σ6 (σ6 (19 + b) i) k = σ3 (σ3 (19 + b) i) k := fun i k g1 g2 => by
    have a := ge3 i g1 g2
    rw [z19, sh _ _ (by omega)]
  have hY : sy_Y E.1 σ6 ρ4 b 0 0 (fun _ => False) := sy_Y_of hux.1.1 sh z11 (fun a i g1 _ => zz a i (by omega))
  have told3 : σ3 (7 + b) 1 = ρ3 83 11 := hux.1.1.2.2.2.2.1
  have lnr := st_ln_0 r
  have u1 : cy_U b U σ ρ (-1) = σ (8 + b) 8 := cy_U1
  have hst : σ6 (7 + b) 3 = σ (8 + b) 6 := by
    rw [c6 _ _ (by omega) (by omega) (by omega), O4 _ _ (by omega) (by omega), sf3.2.1 _ _ (by omega) (by omega) (by unfold sf_D ef_D; omega), h3]
  have h9 := hux.2.1.2.1
  have s9 : σ4 (8 + b) 9 = σ3 (8 + b) 9 := O4 _ _ (by omega) (by omega)
  have s11 : σ4 (8 + b) 11 = σ3 (8 + b) 11 := O4 _ _ (by omega) (by omega)
  rw [e8 8, e10, e8 6] at yc
  rw [e8 6] at y6
  rw [e10, e11] at y11
  rw [e10] at tmt
  rw [e7] at y7
  replace y7 := hi_i y7
  replace y11 := hi_i y11
  replace yc := hi_i yc
  replace n47 := hi_i n47
  have hco : ∀ a : Int, 9 + b ≤ a → a ≤ 14 + b → ∀ p : Int, σ6 a p = σ4 a p := fun a g1 g2 p => c6 _ _ (by omega) (by omega) (by omega)
  unfold pg_R
  rw [hsm.1, hsm.2.1, u1]
  refine ⟨⟨hY, ⟨Or.inl rfl, fun i hi => hi.elim, fun i g1 g2 g3 g4 => ?_⟩, fun i g1 g2 g3 => ?_, ?_⟩, fun i g1 g2 g3 => ?_, fun i g1 g2 g3 => ⟨hfn i g1 g2 g3, ?_⟩, hpo.1, hpo.2, ⟨⟨hfu, by rw [c88, hfu]⟩, by rw [hst, hfp], ?_, ?_, ?_, ?_⟩, ⟨rk, rw1, ?_, ?_, tcn, tmt, hzr⟩, fun hs => ?_, ⟨⟨by omega, ?_⟩, by omega, ?_, fun i g1 g2 => ?_⟩⟩
  · rw [z11] at g2
    rw [zz 86 i (by decide)] at g4
    rw [zz 87 i (by decide), zz 89 i (by decide), zz 91 i (by decide)]
    exact hux.1.2.1.2.2 i g1 g2 g3 g4
  · rw [z11] at g2
    exact gs_P_of (hux.1.2.2.1 i g1 g2 g3) ⟨g1, g2⟩ (by omega) (fun a k h1 _ _ _ => zz a k (by omega)) (zz _ _ (by decide)) z26
  · rw [z26]
    exact hux.1.2.2.2.2.2.1
  · rw [z11] at g2
    have k86 := zz 86 i (by decide)
    have c := hux.2.1.1 i g1 g2 (fun q => q) (by rw [← k86]; exact g3)
    rw [zz 93 i (by decide), zf i 5 g1 g2, zf i 11 g1 g2, lo_c_eq3 (ρ := ρ3) _ (fun k h1 h2 => ⟨zz _ _ (by decide), zz _ _ (by decide), zz _ _ (by decide)⟩)]
    refine ⟨?_, c⟩
    by_cases q : i < ρ 83 11
    · rw [r08 86 i (by decide) (by decide) q] at g3
      have a := (hl i g1 q g3).1
      rw [← zz 93 i (by decide), r08 93 i (by decide) (by decide) q, r08 86 _ (by decide) (by decide) (by omega)]
      exact Or.inr a
    · rw [← zz 93 i (by decide)]
      exact Or.inl (loc i (by omega) (by omega)).2.2
  · have q : i < ρ 83 11 := by
      by_cases q3 : i < ρ 83 11
      · exact q3
      · have := (loc i (by omega) g2).1
        omega
    rw [r08 86 i (by decide) (by decide) q] at g3
    exact (hB i g1 q g3).2
  · rw [z86, n46, y6, hfp]
  · rw [c74, hi_e n47]
    exact cy_m1 tcn (hi_e y7)
  · rw [c15.1, s9, h9, z11, lo_c_eq3 (ρ := ρ3) _ (fun k h1 h2 => ⟨zz _ _ (by decide), zz _ _ (by decide), zz _ _ (by decide)⟩)]
  · rw [c15.2, s11, hi_e y11]
  · exact st_G_of rG (by omega) (fun a i g1 g2 _ _ => zz a i (by omega)) (by omega)
  · rw [w45, z33]
    rw [x33] at nd
    exact st_nd_of r _ _ _ _ _ _ dn.2.1 (Int.le_refl _) (fun a i g1 g2 _ _ => zz _ _ (by omega)) (fun i _ _ _ => zz _ _ (by decide)) nd
  · have told6 : σ6 (7 + b) 1 = σ3 (7 + b) 1 := sh _ _ (by omega)
    have cf : ∀ (p : Int) (I : xt_I), p < σ3 (8 + b) 6 → ci_P σ3 b (σ (8 + b) 8) p I → ci_P σ6 b (σ (8 + b) 8) p I := fun p I hp' hI' => ci_P_of hI' (fun a h1 h2 => by rw [hco a h1 h2, O4 _ _ (by omega) (by omega)]) (by omega) (fun s' h1 h2 => z19 s') (fun s' k h1 h2 h3 => by
      have a := zf s' k h1 (by omega)
      rw [z19] at a
      exact a)
    have yc' := hi_e yc (by omega)
    rw [← hfp]
    refine ⟨st_cd_of r _ _ _ (fun p I g1 g2 hI' => cf p I (by omega) hI') yc', ?_⟩
    have i0 : ci_P σ4 b (σ (8 + b) 8) (σ3 (8 + b) 6) (29, 0, 0, 0, 0, 1, 0) := em_ci0 (hi_e h4) (by omega)
    rw [← y6]
    obtain ⟨a1, a2, a3, a4, a5⟩ := i0
    rw [if_pos rfl] at a5
    refine ⟨(hco _ (by omega) (by omega) _).trans a1, (hco _ (by omega) (by omega) _).trans a2, (hco _ (by omega) (by omega) _).trans a3, (hco _ (by omega) (by omega) _).trans a4, ?_⟩
    rw [if_pos rfl]
    exact ⟨(hco _ (by omega) (by omega) _).trans a5.1, (hco _ (by omega) (by omega) _).trans a5.2⟩
  · omega
  · push_cast at m3'
    omega
  · rw [z11] at g2
    exact ⟨fun q => by rw [zf i 9 g1 g2]; exact (hux.1.2.2.2.1 i g1 g2).2.2 (by rw [← zz 86 i (by decide)]; exact q), fun q => by rw [zf i 9 g1 g2]; exact (hux.1.2.2.2.2.1 i g1 g2 (fun q => q) (by rw [← zz 86 i (by decide)]; exact q)).1⟩
end CY2
