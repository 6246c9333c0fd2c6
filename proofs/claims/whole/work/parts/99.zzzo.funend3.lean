/-! part 99.zzzo: a fun is told to its end: all that is known of declarations -/
section FJ
variable {E : js_E} {b m s n g : Int} {B : Int → Int} {Bf : Int → Int → Int} {U : Int → Int} {fb fr : Int → tr_T} {σ ρ σ2 ρ2 ρ3 σ4 ρ4 σ5 σ7 σ8 ρ8 : js_S} {j j2 j4 : Nat} {r l : tr_T}
/-- the unit's number of every fun; -2: where the names of fun m begin -/
abbrev fn_U (b m : Int) (U : Int → Int) (σ : js_S) : Int → Int := fun i => if i = m then σ (8 + b) 8 else if i = -2 then m + 1 else U i
theorem fn_U_m : fn_U b m U σ m = σ (8 + b) 8 := if_pos rfl
theorem fn_U_o {i : Int} (h : i ≠ m) (h2 : i ≠ -2) : fn_U b m U σ i = U i := by
  show (if i = m then σ (8 + b) 8 else if i = -2 then m + 1 else U i) = U i
  rw [if_neg h, if_neg h2]
theorem fz_of (hb : b = 0 ∨ b = 25) (hm : ρ 83 11 = m) (hI : pb_I E b m s n g σ ρ σ2 ρ2) (v2 : ∀ a i : Int, ¬ (a = 99 ∧ m + 1 ≤ i ∧ i ≤ m + n) → ρ3 a i = ρ2 a i) (H : fe_R E b m g B (fn_U b m U σ) (fun i => i = m) σ2 ρ3 j2 σ4 ρ4 j4 r l) (h5 : em_R b σ4 σ5 28 0 0 1 0 0) (c7 : ∀ a i : Int, ¬ (a = s ∧ (i = 9 ∨ i = 10)) → ¬ (a = 8 + b ∧ 7 ≤ i ∧ i ≤ 12) → ¬ (15 + b ≤ a ∧ a ≤ 16 + b ∧ i = σ (8 + b) 8) → σ7 a i = σ5 a i) (c9 : ∀ a i : Int, ¬ (a = s ∧ i = 13) → ¬ (a = 22 + b ∧ i = 0) → σ8 a i = σ7 a i) (w : ∀ a i : Int, ¬ (a = 99 ∧ i = m) → ¬ (a = 96 ∧ i = m) → ¬ (a = 83 ∧ i = 26) → ρ8 a i = ρ4 a i) : fz_R E b m s n g B (fn_U b m U σ) σ ρ σ4 ρ4 σ5 σ8 ρ8 := by
  obtain ⟨_, ⟨⟨h0, nn0, n8, h11, h400⟩, h26, h44⟩, ⟨hds, h19⟩, hs, hr, hty, hfr, ⟨hc1, hc2⟩, hgf, ⟨h22, h9⟩, hp⟩ := hI
  obtain ⟨⟨r4, q4, dp4, sf4, rg4, m4, m4', k4⟩, _, _, _, _, hid, hux⟩ := H
  have O5 := h5.2.2.2
  have gs := js_sym_ge hds
  have hY4 := hux.1.1
  have e11 : ρ3 83 11 = m + 1 + n := by rw [v2 _ _ (by omega)]; exact h11
  have cz : ∀ a i : Int, ¬ (a = s ∧ (i = 9 ∨ i = 10 ∨ i = 13)) → ¬ (a = 8 + b ∧ 6 ≤ i ∧ i ≤ 12) → ¬ (9 + b ≤ a ∧ a ≤ 14 + b ∧ i = σ4 (8 + b) 6) → ¬ (15 + b ≤ a ∧ a ≤ 16 + b ∧ i = σ (8 + b) 8) → ¬ (a = 22 + b ∧ i = 0) → σ8 a i = σ4 a i := fun a i g1 g2 g3 g4 g5 => by rw [c9 a i (by omega) g5, c7 a i (by omega) (by omega) g4, O5 a i (by omega) g3]
  have ge4 : ∀ i : Int, 0 ≤ i → i < ρ4 83 11 → 137 ≤ σ4 (19 + b) i := fun i g1 g2 => js_sym_ge (hY4.2.2.2.2.2.1 i g1 g2).1
  have s19 : σ4 (19 + b) m = s := by rw [(sf4.2.2.1 m h0 (by omega)).1]; exact h19
  have ne4 : ∀ i : Int, 0 ≤ i → i < ρ4 83 11 → i ≠ m → σ4 (19 + b) i ≠ s := fun i g1 g2 g3 => by
    rw [← s19]
    exact sy_Y_ne hY4 g1 g2 h0 (by omega) g3
  have z19 : ∀ i : Int, σ8 (19 + b) i = σ4 (19 + b) i := fun i => cz _ _ (by omega) (by omega) (by omega) (by omega) (by omega)
  have zf : ∀ i k : Int, 0 ≤ i → i < ρ4 83 11 → i ≠ m → σ8 (σ4 (19 + b) i) k = σ4 (σ4 (19 + b) i) k := fun i k g1 g2 g3 => by
    have a1 := ge4 i g1 g2
    have a2 := ne4 i g1 g2 g3
    exact cz _ _ (by omega) (by omega) (by omega) (by omega) (by omega)
  have r3 : ∀ a i : Int, 86 ≤ a → a ≤ 97 → i < m + 1 + n → ρ4 a i = ρ2 a i := fun a i g1 g2 g3 => by rw [rg4 a i (by omega) (by omega) (by omega) (by omega) (by omega) (by omega), v2 a i (by omega)]
  refine ⟨cz, z19, zf, ⟨s19, gs, fun k g1 g2 g3 => cz _ _ (by omega) (by omega) (by omega) (by omega) (by omega)⟩, w, fun a i g1 g2 g3 => ?_, fun i g1 g2 => ?_, fun i g1 g2 => ?_, ?_⟩
  · rw [w a i (by omega) (by omega) (by omega), r3 a i g1 g2 (by omega), hgf a i (by omega) (by omega) (by omega)]
  · have a := hc2 i g1 g2
    have c := sf4.2.2.1 i g1 (by omega)
    rw [a.1] at c
    refine ⟨by rw [z19, c.1], fun k hk' => ?_⟩
    have y := zf i k g1 (by omega) (by omega)
    rw [c.1] at y
    rw [y, c.2 k hk', a.2 k]
  · have a := hux.2.1.2.2.2.2.2 i (by omega) (by
      show (if (-2 : Int) = m then σ (8 + b) 8 else if (-2 : Int) = -2 then m + 1 else U (-2)) ≤ i
      rw [if_neg (by omega), if_pos rfl]
      omega) g2
    exact a
  · rw [w _ _ (by omega) (by omega) (by omega), r3 _ _ (by decide) (by decide) (by omega)]
    exact hr.1
/-- the fun itself -/
theorem fn_new (hb : b = 0 ∨ b = 25) (hm : ρ 83 11 = m) (hD : dl_R E b B Bf U fb fr σ ρ j) (hI : pb_I E b m s n g σ ρ σ2 ρ2) (v2 : ∀ a i : Int, ¬ (a = 99 ∧ m + 1 ≤ i ∧ i ≤ m + n) → ρ3 a i = ρ2 a i) (H : fe_R E b m g B (fn_U b m U σ) (fun i => i = m) σ2 ρ3 j2 σ4 ρ4 j4 r l) (h5 : em_R b σ4 σ5 28 0 0 1 0 0) (Z : fz_R E b m s n g B (fn_U b m U σ) σ ρ σ4 ρ4 σ5 σ8 ρ8) (c15 : σ8 (15 + b) (σ (8 + b) 8) = σ5 (8 + b) 9 ∧ σ8 (16 + b) (σ (8 + b) 8) = σ5 (8 + b) 11) (cR : ∀ a : Int, 9 + b ≤ a → a ≤ 14 + b → σ8 a (σ4 (8 + b) 6) = σ5 a (σ4 (8 + b) 6)) (c6 : σ8 (8 + b) 6 = σ5 (8 + b) 6) (w96 : ρ8 96 m = 1 + ρ4 83 44) : fn_R b (fun i => if i = m then σ5 (8 + b) 7 else B i) (fun i => if i = m then B else Bf i) (fn_U b m U σ) (fun i => if i = m then r else fb i) (fun i => if i = m then l else fr i) σ8 ρ8 m := by
  obtain ⟨_, _, ⟨d1, d2, d3, d4, d5, d6, d7, d8, d9⟩, ⟨_, n3, _⟩, _, ⟨hfu, hfp⟩, _, _, _⟩ := hD
  obtain ⟨_, ⟨⟨h0, nn0, n8, h11, h400⟩, h26, h44⟩, _, hs, hr, hty, hfr, ⟨hc1, hc2⟩, hgf, ⟨h22, h9⟩, hp⟩ := hI
  obtain ⟨⟨r4, q4, dp4, sf4, rg4, m4, m4', k4⟩, hL, ⟨⟨y15, y10, y6, y7, y11⟩, yc⟩, ⟨⟨nd, rk, rw1, rG⟩, hret⟩, ⟨_, ⟨tcn, ecn⟩, tmt, emt, hzr, hzl⟩, hid, hux⟩ := H
  obtain ⟨cz, z19, zf, ⟨s19, gs, zs⟩, w, r08, old, loc, k86⟩ := Z
  have O5 := h5.2.2.2
  have n56 := h5.1
  have n57 := h5.2.1
  have hY4 := hux.1.1
  have c8 : ∀ k : Int, k ≠ 9 → σ2 (8 + b) k = σ (8 + b) k := fun k q => hc1 _ _ (by omega) (by omega) (by omega) (by omega) (by omega) (by omega) (by omega) (by omega)
  have e6 := c8 6 (by decide)
  have e7 := c8 7 (by decide)
  have e8 := c8 8 (by decide)
  have e10 : σ2 (8 + b) 10 = 0 := (c8 10 (by decide)).trans d4
  have e11 : σ2 (8 + b) 11 = 0 := (c8 11 (by decide)).trans d5
  have x11 : ρ3 83 11 = m + 1 + n := by rw [v2 _ _ (by omega)]; exact h11
  have s4s : ∀ k : Int, k ≠ 13 → σ4 s k = σ2 s k := fun k hk' => by
    have a := (sf4.2.2.1 m h0 (by omega)).2 k hk'
    have b1 := (sf4.2.2.1 m h0 (by omega)).1
    rw [s19] at b1
    rw [← b1] at a
    exact a
  have z86 : ∀ a i : Int, 86 ≤ a → a ≤ 97 → ¬ (a = 96 ∧ i = m) → ρ8 a i = ρ4 a i := fun a i g1 g2 g3 => w a i (by omega) g3 (by omega)
  have z11 : ρ8 83 11 = ρ4 83 11 := w _ _ (by omega) (by omega) (by omega)
  have z33 : ρ8 83 33 = ρ4 83 33 := w _ _ (by omega) (by omega) (by omega)
  have znd : ∀ a i : Int, 100 ≤ a → ρ8 a i = ρ4 a i := fun a i g1 => w a i (by omega) (by omega) (by omega)
  have mt : ((m.toNat : Nat) : Int) = m := by omega
  have ep : fn_p ρ8 (fun i => if i = m then r else fb i) (fun i => if i = m then l else fr i) m.toNat = σ (8 + b) 6 := by
    rw [hfp, hm]
    exact fn_p_eq _ (fun k g1 g2 => ⟨r08 86 k (by decide) (by decide) (by omega), fun _ => ⟨if_neg (by omega), if_neg (by omega)⟩⟩)
  have eu : fn_u ρ8 m.toNat = σ (8 + b) 8 := by
    rw [hfu, hm]
    exact fn_u_eq _ (fun k g1 g2 => r08 86 k (by decide) (by decide) (by omega))
  have hm3 : 0 ≤ ρ3 83 33 := by
    have a : ρ3 83 33 = ρ 83 33 := by rw [v2 _ _ (by omega), hgf _ _ (by omega) (by omega) (by omega)]
    omega
  have h91 : ρ8 91 m = n := by
    rw [z86 91 m (by decide) (by decide) (by omega), rg4 91 m (by omega) (by omega) (by omega) (by omega) (by omega) (by omega), v2 _ _ (by omega)]
    exact hr.2.1
  have hpar : fp_P ρ8 m := fun k k1 k2 => by
    rw [h91] at k2
    exact ⟨by omega, by rw [z86 93 (m + k) (by decide) (by decide) (by omega)]; exact (loc (m + k) (by omega) (by omega)).2.2⟩
  unfold fn_R
  rw [fn_U_m, ep, eu, z19, s19, zs 5 (by decide) (by decide) (by decide), zs 11 (by decide) (by decide) (by decide), s4s 5 (by decide), s4s 11 (by decide), hs.2.2.2.2.2.1, hs.2.2.2.2.2.2.2.2.2.2.2.1]
  show (_ ∧ _ ∧ _) ∧ (((if m = m then r else fb m) = .leaf ∨ xt_k (if m = m then r else fb m) = 90) ∧ st_w (if m = m then r else fb m) ∧ fn_G ρ8 m (if m = m then r else fb m) ∧ st_nd ρ8 (if m = m then r else fb m) 0 (ρ8 83 33) (ρ8 108 m) 0) ∧ ((if m = m then l else fr m) = .leaf ∧ ρ8 109 m = -1 ∨ xt_e (if m = m then l else fr m) ∧ xt_w (if m = m then l else fr m) ∧ fx_G ρ8 m (if m = m then l else fr m) ∧ xt_nd ρ8 0 (if m = m then l else fr m) (ρ8 83 33) (ρ8 109 m) 0) ∧ ((∀ s : Int, 0 ≤ s → s < m → ρ8 86 s = 4 → (if m = m then B else Bf m) s = (if s = m then σ5 (8 + b) 7 else B s)) ∧ (if m = m then σ5 (8 + b) 7 else B m) = min 400000 (st_cn (if m = m then B else Bf m) (if m = m then r else fb m) + xt_cn (if m = m then B else Bf m) (if m = m then l else fr m) + 1) ∧ 0 ≤ st_cn (if m = m then B else Bf m) (if m = m then r else fb m) ∧ 0 ≤ xt_cn (if m = m then B else Bf m) (if m = m then l else fr m)) ∧ (_ ∧ σ8 (16 + b) (σ (8 + b) 8) = max 0 (max (st_mt (if m = m then r else fb m) 0) (xt_mt (if m = m then l else fr m) 0)) ∧ st_mt (if m = m then r else fb m) 0 ≤ 1024 ∧ xt_mt (if m = m then l else fr m) 0 ≤ 1024 ∧ st_dp (if m = m then r else fb m) ≤ 1210 ∧ xt_dp (if m = m then l else fr m) ≤ 1210 ∧ fp_P ρ8 m) ∧ (σ8 (8 + b) 6 ≤ 8192 → st_cd (ci_P σ8 b (σ (8 + b) 8)) (if m = m then r else fb m) 0 (σ (8 + b) 6) 0 ∧ xt_cd (ci_P σ8 b (σ (8 + b) 8)) (if m = m then l else fr m) 0 (σ (8 + b) 6 + st_ln (if m = m then r else fb m)) ∧ ci_P σ8 b (σ (8 + b) 8) (σ (8 + b) 6 + st_ln (if m = m then r else fb m) + xt_ln (if m = m then l else fr m)) (28, 0, 0, 0, 0, 1, 0))
  have i1 : (if m = m then r else fb m) = r := if_pos rfl
  have i2 : (if m = m then l else fr m) = l := if_pos rfl
  have i3 : (if m = m then B else Bf m) = B := if_pos rfl
  have i4 : (if m = m then σ5 (8 + b) 7 else B m) = σ5 (8 + b) 7 := if_pos rfl
  rw [i1, i2, i3, i4]
  have hsk : ∀ s k : Int, sk_P ρ4 m s k → sk_F ρ8 m s k := fun s k h => sk_end h h0 z86 w96
  have hsv : ∀ s : Int, sv_P ρ4 m s → sv_P ρ8 m s := fun s h => by
    obtain ⟨a1, a2, a3⟩ := h
    refine ⟨a1, by omega, ?_⟩
    rw [z86 86 s (by decide) (by decide) (by omega), z86 93 s (by decide) (by decide) (by omega)]
    exact a3
  have hsz : ∀ s c : Int, sz_P ρ4 s c → sz_P ρ8 s c := fun s c h => by
    obtain ⟨a1, a2, a3⟩ := h
    refine ⟨a1, by omega, ?_⟩
    rw [z86 91 s (by decide) (by decide) (by omega)]
    exact a3
  have hsu : ∀ s x y : Int, su_U ρ4 s x y → su_U ρ8 s x y := fun s x y h => by
    obtain ⟨a1, a2, a3⟩ := h
    refine ⟨a1, by omega, ?_⟩
    rw [z86 88 s (by decide) (by decide) (by omega), z86 89 s (by decide) (by decide) (by omega)]
    exact a3
  have hsw : ∀ s v x y : Int, su_V ρ4 s v x y → su_V ρ8 s v x y := fun s v x y h => by
    obtain ⟨a1, a2, a3⟩ := h
    refine ⟨a1, by omega, ?_⟩
    rw [z86 87 s (by decide) (by decide) (by omega), z86 88 s (by decide) (by decide) (by omega), z86 89 s (by decide) (by decide) (by omega)]
    exact a3
  have told4 : σ4 (7 + b) 1 = ρ4 83 11 := hY4.2.2.2.2.1
  have t7 : σ8 (7 + b) 1 = σ4 (7 + b) 1 := cz _ _ (by omega) (by omega) (by omega) (by omega) (by omega)
  have cf : ∀ (p : Int) (I : xt_I), p < σ4 (8 + b) 6 → ci_P σ4 b (σ (8 + b) 8) p I → ci_P σ8 b (σ (8 + b) 8) p I := fun p I hp' hI' => ci_P_of hI' (fun a h1 h2 => cz _ _ (by omega) (by omega) (by omega) (by omega) (by omega)) (by omega) (fun s' h1 h2 => z19 s') (fun s' k h1 h2 h3 => by
    by_cases q : s' = m
    · rw [q, s19]
      exact zs k (by omega) (by omega) (by omega)
    · exact zf s' k h1 (by omega) q)
  refine ⟨⟨rfl, rfl, rfl⟩, ⟨rk, rw1, st_g_of hsv hsz hsk hsu hsw r rG, ?_⟩, ?_, ⟨fun s' h1 h2 h3 => ?_, ?_, tcn, ecn⟩, ⟨?_, ?_, by rw [← e10]; exact tmt, by rw [← e10]; exact emt, hzr, hzl, hpar⟩, fun hs' => ?_⟩
  · rw [z33, znd 108 m (by decide)]
    exact st_nd_of r _ _ _ _ _ _ hm3 (Int.le_refl _) (fun a i g1 g2 _ _ => znd _ _ (by omega)) (fun i _ _ _ => znd _ _ (by decide)) nd
  · rcases hret with ⟨_, h2, h3⟩ | ⟨_, h2, h3, h4, h5'⟩
    · exact Or.inl ⟨h2, by rw [znd _ _ (by decide)]; exact h3⟩
    · refine Or.inr ⟨h3, h4, xt_g_of hsv hsz hsk l h5', ?_⟩
      rw [z33, znd 109 m (by decide)]
      exact xt_nd_up hm3 l _ _ _ _ (Int.le_refl _) (xt_nd_of l _ _ _ (fun a i g1 g2 _ _ => znd _ _ (by omega)) (fun i _ _ _ => znd _ _ (by decide)) h2)
  · rw [if_neg (by omega)]
  · rw [n57, y7, e7, d2]
    exact fu_m1 tcn ecn
  · rw [c15.1, O5 _ _ (by omega) (by omega), hux.2.1.2.1, z11]
    exact (lo_c_eq3 _ (fun i g1 g2 => ⟨z86 _ _ (by decide) (by decide) (by omega), z86 _ _ (by decide) (by decide) (by omega), z86 _ _ (by decide) (by decide) (by omega)⟩)).symm
  · rw [c15.2, O5 _ _ (by omega) (by omega), y11, e11, e10]
  · have k := yc (by omega)
    rw [e8, e10, e6] at k
    have l1 := st_ln_0 r
    have l2 := xt_ln_0 l
    have eR : σ (8 + b) 6 + st_ln r + xt_ln l = σ4 (8 + b) 6 := by omega
    refine ⟨st_cd_of r _ _ _ (fun p I g1 g2 hI' => cf p I (by omega) hI') k.1, xt_cd_of l _ _ (fun p I g1 g2 hI' => cf p I (by omega) hI') k.2, ?_⟩
    rw [eR]
    have i0 : ci_P σ5 b (σ (8 + b) 8) (σ4 (8 + b) 6) (28, 0, 0, 0, 0, 1, 0) := em_ci0 h5 (by omega)
    obtain ⟨a1, a2, a3, a4, a5⟩ := i0
    rw [if_pos rfl] at a5
    refine ⟨(cR _ (by omega) (by omega)).trans a1, (cR _ (by omega) (by omega)).trans a2, (cR _ (by omega) (by omega)).trans a3, (cR _ (by omega) (by omega)).trans a4, ?_⟩
    rw [if_pos rfl]
    exact ⟨(cR _ (by omega) (by omega)).trans a5.1, (cR _ (by omega) (by omega)).trans a5.2⟩
end FJ
