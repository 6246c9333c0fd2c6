/-! part 99.zzzzc: and, or -/
theorem gt_m6 {a x z p2 p6 : Int} (h2 : p2 = max a x) (h6 : p6 = max p2 z) : p6 = max a (max x z) := by omega
/-- a jump landed: its code, and what stays -/
theorem ri_land {ρ ρ' : js_S} {i op lo hi s x0 x : Int} (h : ri_P ρ i (op, 0, x0, 0, s, lo, hi)) (h1 : ρ' 112 i = x) (h2 : ∀ a k : Int, ¬ (a = 112 ∧ k = i) → ρ' a k = ρ a k) : ri_P ρ' i (op, 0, x, 0, s, lo, hi) := by
  obtain ⟨a1, a2, a3, a4, a5⟩ := h
  refine ⟨?_, ?_, ?_, ?_, ?_⟩
  · rw [h2 _ _ (by omega)]
    exact a1
  · show ρ' 112 i = (if (0 : Int) = 0 then x else _)
    rw [if_pos rfl]
    exact h1
  · rw [h2 _ _ (by omega)]
    exact a3
  · rw [h2 _ _ (by omega)]
    exact a4
  · rw [h2 _ _ (by omega)]
    exact a5
/-- other instructions stay as a jump lands -/
theorem ri_lo {ρ ρ' : js_S} {i j : Int} {I : xt_I} (h2 : ∀ a k : Int, ¬ (a = 112 ∧ k = j) → ρ' a k = ρ a k) (hi : i ≠ j) (hI : ri_P ρ i I) : ri_P ρ' i I := by
  obtain ⟨a1, a2, a3, a4, a5⟩ := hI
  have e : ∀ a : Int, ρ' a i = ρ a i := fun a => h2 a i (by omega)
  have e90 : ∀ x : Int, ρ' 90 x = ρ 90 x := fun x => h2 _ _ (by omega)
  have e53 : ρ' 83 53 = ρ 83 53 := h2 _ _ (by omega)
  unfold ri_P
  rw [e 111, e 112, e 113, e 114, e 115, e90, e53]
  exact ⟨a1, a2, a3, a4, a5⟩
theorem xr_lo {ρ ρ' : js_S} {j t p : Int} {e : tr_T} (h2 : ∀ a k : Int, ¬ (a = 112 ∧ k = j) → ρ' a k = ρ a k) (hj : j < p ∨ p + xt_ln e ≤ j) (hc : xt_cd (ri_P ρ) e t p) : xt_cd (ri_P ρ') e t p := xt_cd_of e t p (fun i I g1 g2 hI => ri_lo h2 (by omega) hI) hc
section GC
variable {E : js_E} {B : Int → Int} {S : Int → Prop} {Z K : Int → Int → Prop} {ty lo hi a b c : Int} {l r : tr_T}
/-- and (25) or or (26), once its left side is made -/
theorem gsp_67 {k : Int} {e : tr_T} (hk2 : k = 6 ∨ k = 7) (hl : gsp_P E B S Z K l) (hq : gen_P E B S Z K r) (en : ∀ (ρ : js_S) (M N n m : Int), xt_nd ρ M e N n m → ((0 ≤ n ∧ M ≤ n) ∧ n < N ∧ ρ 100 n = k) ∧ xt_nd ρ M l n (ρ 102 n) 0 ∧ xt_nd ρ M r n (ρ 103 n) 0) (er : xt_r e → xt_r l ∧ xt_r r) (eg : xt_g S Z K e → xt_g S Z K l ∧ xt_g S Z K r) (ew : xt_w e → xt_e l ∧ xt_w l ∧ xt_e r ∧ xt_w r) (eln : xt_ln e = xt_ln l + 1 + xt_ln r) (emt : ∀ t : Int, xt_mt e t = max (xt_mt l t) (xt_mt r t)) (ecn : xt_cn B e = xt_cn B l + 1 + xt_cn B r) (ed : xt_dp e = max (xt_dp l) (1 + xt_dp r)) (ecd : ∀ (P : Int → xt_I → Prop) (t p : Int), xt_cd P l t p → P (p + xt_ln l) (if k = 6 then 25 else 26, 0, p + xt_ln l + 1 + xt_ln r, 0, 0, 1, 0) → xt_cd P r t (p + xt_ln l + 1) → xt_cd P e t p) : gsp_P E B S Z K e := by
  intro f ρ n t M N m bs x1 hp hbs hf
  obtain ⟨hk, hn, ⟨_, hw, hg, hr⟩, h52, h49, h54, ht⟩ := hp
  obtain ⟨⟨n1, n2, n3⟩, n7, n8⟩ := en _ _ _ _ _ hn
  replace hr := er hr
  replace hg := eg hg
  replace hw := ew hw
  rw [eln] at h49
  rw [emt] at h54
  rw [ed] at hf
  have d6 := xt_dp_6 r
  have hfl : xt_dp l ≤ f ∧ 1 + xt_dp r ≤ f := by omega
  have hmt : xt_mt l t ≤ 1024 ∧ xt_mt r t ≤ 1024 := by omega
  have h54' : 0 ≤ ρ 83 54 ∧ ρ 83 54 ≤ 1024 := ⟨h54.1, h54.2.1⟩
  clear hf ed h54
  have l1 := xt_ln_0 l
  have l2 := xt_ln_0 r
  have w : js_w n = n := js_w_of (by omega) (by omega)
  have hn6 : 0 ≤ n ∧ n < 66000 := by omega
  obtain ⟨ρ1, e1, a110, a52, f1⟩ := gdn (E := E) (f := f) (ρ := ρ) (n := n) (t := t) (bs := bs) (x1 := x1) n3 (Or.inr hk2) hn6 ⟨h52.1, by omega⟩
  have b49 : ρ1 83 49 = ρ 83 49 := f1 _ _ (by omega) (by omega)
  have b54 : ρ1 83 54 = ρ 83 54 := f1 _ _ (by omega) (by omega)
  obtain ⟨ρ2, v1, x4, ux7, e2, h2, c2⟩ := hl f ρ1 (ρ 102 n) t M n 0 bs x1 (gp_of hk n7 ⟨hw.1, hw.2.1, hg.1, hr.1⟩ (fun x i q => f1 x i (by omega) (by omega)) ⟨by omega, by omega⟩ ⟨by omega, by omega⟩ ⟨by omega, by omega, hmt.1⟩ ht) ⟨hbs.1, by omega⟩ hfl.1
  obtain ⟨g2, k2, t2, d2⟩ := h2
  rw [b49] at k2 d2 g2
  rw [b54] at t2
  rw [a52] at g2
  have W2 : gw_R (ρ 83 49) (ρ 83 52) ρ ρ2 := gw_trans (gw_of (fun x i q1 q2 => f1 x i q2 (by omega))) (gw_gx g2 (Int.le_refl _) (by omega))
  have s52 : ρ2 83 52 = ρ 83 52 + 1 := by rw [g2 _ _ (by omega) (by omega) (by omega)]; exact a52
  have s110 : ρ2 110 (ρ 83 52) = n := by rw [g2 _ _ (by omega) (by omega) (by omega)]; exact a110
  have s100 : ρ2 100 n = k := by rw [W2 _ _ (by omega) (by omega) (by omega)]; exact n3
  have f3 : ∀ x i : Int, ¬ (x = 83 ∧ i = 52) → js_up ρ2 83 52 (ρ 83 52) x i = ρ2 x i := fun x i q => js_up_ne _ q
  have c352 : js_up ρ2 83 52 (ρ 83 52) 83 52 = ρ 83 52 := js_up_same _ _ _ _
  rw [e1, e2, gup s52 ⟨h52.1, by omega⟩ hbs s110 hn6 s100 (Or.inr hk2), if_neg (show ¬ k = 4 by omega)]
  generalize js_up ρ2 83 52 (ρ 83 52) = ρ3 at f3 c352 ⊢
  have k3 : ρ3 83 49 = ρ 83 49 + xt_ln l := by rw [f3 _ _ (by omega)]; exact k2
  have k354 : ρ3 83 54 = ρ2 83 54 := f3 _ _ (by omega)
  have b254 : 0 ≤ ρ2 83 54 ∧ ρ2 83 54 ≤ 1024 := by omega
  obtain ⟨ρ5, e5, h5⟩ := r_plain (E := E) (f := f - 1) (ρ := ρ3) (x1 := if k = 6 then 25 else 26) (x2 := 0) (x3 := 0) (by omega) ⟨by omega, by omega⟩
  have W3 : gw_R (ρ 83 49) (ρ 83 52) ρ ρ3 := gw_trans W2 (gw_of (fun x i q1 q2 => f3 x i (by omega)))
  have W5 : gw_R (ρ 83 49) (ρ 83 52) ρ ρ5 := gw_trans W3 (gw_gx (gm_gx (q := ρ 83 52) h5) (by omega) (Int.le_refl _))
  have k5 := h5.1
  have m5 : ρ5 83 54 = ρ2 83 54 := by rw [h5.2.2 _ _ (by omega) (by omega)]; exact k354
  have q5 : ρ5 83 52 = ρ 83 52 := by rw [h5.2.2 _ _ (by omega) (by omega)]; exact c352
  obtain ⟨ρ6, v2, e6, h6, c6⟩ := hq (f - 1) ρ5 (ρ 103 n) t M n 0 (gp_of hk n8 ⟨hw.2.2.1, hw.2.2.2, hg.2, hr.2⟩ (fun x i q => W5 x i (by omega) (by omega) (by omega)) ⟨by omega, by omega⟩ ⟨by omega, by omega⟩ ⟨by omega, by omega, hmt.2⟩ ht) (by omega)
  obtain ⟨g6, k6, t6, d6'⟩ := h6
  rw [q5] at g6
  have W6 : gw_R (ρ 83 49) (ρ 83 52) ρ ρ6 := gw_trans W5 (gw_gx g6 (by omega) (Int.le_refl _))
  have q6 : ρ6 83 52 = ρ 83 52 := by rw [g6 _ _ (by omega) (by omega) (by omega)]; exact q5
  obtain ⟨ρ7, e7, la, fa⟩ := r_land (E := E) (f := f - 1) (ρ := ρ6) (i := ρ3 83 49) ⟨by omega, by omega⟩
  have k7 : ρ7 83 49 = ρ6 83 49 := fa _ _ (by omega)
  have m7 : ρ7 83 54 = ρ6 83 54 := fa _ _ (by omega)
  have q7 : ρ7 83 52 = ρ 83 52 := by rw [fa _ _ (by omega)]; exact q6
  have W7 : gw_R (ρ 83 49) (ρ 83 52) ρ ρ7 := gw_trans W6 (fun x i g1 g2' g3 => fa x i (by omega))
  have i103 : ρ5 103 n = ρ 103 n := W5 _ _ (by omega) (by omega) (by omega)
  have cc := gt_6 c2 c6 ⟨l1, l2⟩
  have vb : 0 ≤ v1 + (1 + v2) ∧ v1 + (1 + v2) < 9000000000000000000 := by
    have a1 := c2.1
    have a2 := c6.1
    omega
  refine ⟨ρ7, min 1000000000000000 (v1 + (1 + v2)), n, (0, ρ3 83 49), ?_, ⟨gx_gw W7 q7, by rw [eln]; omega, ?_, fun hs => ?_⟩, by rw [ecn, eln]; exact cc⟩
  · rw [b_248_233, k_248_235 (by omega) e5, b_248_238, w, if_pos hn6, i103, k_248_252 (by omega) e6, b_248_255, k_248_262 (by omega) e7, b_248_265, k_248_267 (by omega) (r_bound vb), b_248_270]
  · rw [emt, m7]
    rw [m5] at t6
    exact gt_m6 t2 t6
  · have y23 : gy_R (ρ 83 49 + xt_ln l) ρ2 ρ3 := gy_of (fun x i q1 q2 => f3 x i (by omega))
    have y35 : gy_R (ρ 83 49 + xt_ln l) ρ3 ρ5 := gy_mono (gy_gm h5) (by omega)
    have y56 : gy_R (ρ 83 49 + xt_ln l + 1) ρ5 ρ6 := gy_mono (gy_gx g6) (by omega)
    have y26 : gy_R (ρ 83 49 + xt_ln l) ρ2 ρ6 := gy_trans (gy_trans y23 y35 (Int.le_refl _)) y56 (by omega)
    have j5 := gm_ri (k := 0) (x := 0) (y := 0) h5 (by omega) (if_pos rfl).symm
    have j6 := ri_gy y56 (by omega) j5
    rw [k3] at j6 la fa
    refine ecd _ _ _ (xr_lo fa (Or.inr (Int.le_refl _)) (xr_gy y26 (Int.le_refl _) (d2 (by omega)))) (ri_land j6 (by rw [la (by omega)]; omega) fa) (xr_lo fa (Or.inl (by omega)) ?_)
    have e := d6' (by omega)
    rw [k5, k3] at e
    exact e
theorem gsp_6 (hl : gsp_P E B S Z K l) (hq : gen_P E B S Z K r) : gsp_P E B S Z K (tr_n 6 ty lo hi a b c l r) := gsp_67 (k := 6) (l := l) (r := r) (Or.inl rfl) hl hq (fun ρ M N n m h => by rw [xt_nd6] at h; exact ⟨⟨h.1.1, h.1.2.1, h.1.2.2.1⟩, h.2⟩) (fun h => by rw [xt_r_n] at h; exact h.2) (fun h => by rw [xt_g6] at h; exact h) (fun h => by rw [xt_w6] at h; exact h) xt_ln6 (fun _ => xt_mt6) xt_cn6 rfl (fun P t p h1 h2 h3 => by rw [xt_cd6]; exact ⟨h1, h2, h3⟩)
theorem gsp_7 (hl : gsp_P E B S Z K l) (hq : gen_P E B S Z K r) : gsp_P E B S Z K (tr_n 7 ty lo hi a b c l r) := gsp_67 (k := 7) (l := l) (r := r) (Or.inr rfl) hl hq (fun ρ M N n m h => by rw [xt_nd7] at h; exact ⟨⟨h.1.1, h.1.2.1, h.1.2.2.1⟩, h.2⟩) (fun h => by rw [xt_r_n] at h; exact h.2) (fun h => by rw [xt_g7] at h; exact h) (fun h => by rw [xt_w7] at h; exact h) xt_ln7 (fun _ => xt_mt7) xt_cn7 rfl (fun P t p h1 h2 h3 => by rw [xt_cd7]; exact ⟨h1, h2, h3⟩)
end GC
