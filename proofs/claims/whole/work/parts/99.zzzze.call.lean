/-! part 99.zzzze: a call: what is given, twice along the chain -/
def gcp_R (B : Int → Int) (S : Int → Prop) (Z K : Int → Int → Prop) (ρ : js_S) (e : tr_T) (nd t M N : Int) : Prop := gk_R B S Z K ρ ∧ xt_nd ρ M e N nd 0 ∧ (xt_w e ∧ xt_g S Z K e ∧ xt_r e) ∧ (0 ≤ ρ 83 52 ∧ ρ 83 52 + N ≤ 66000) ∧ (0 ≤ ρ 83 49 ∧ ρ 83 49 + xt_ln e ≤ 100000000) ∧ (0 ≤ ρ 83 54 ∧ ρ 83 54 ≤ 1024 ∧ xt_mt e t ≤ 1024) ∧ 0 ≤ t ∧ t ≤ 1024
def gcc_P (c k v : Int) : Prop := (0 ≤ v ∧ v ≤ 1100000000000000 * k) ∧ min 400000 v = min 400000 c
def gch_P (E : js_E) (B : Int → Int) (S : Int → Prop) (Z K : Int → Int → Prop) (e : tr_T) : Prop := ∀ (f : Nat) (ρ : js_S) (nd t x1 t0 x3 x4 x6 M N : Int), t = t0 + x6 → gcp_R B S Z K ρ e nd t M N → xt_dp e + 1 ≤ (f : Int) → ∃ (ρ' : js_S) (v : Int), js_J E f 254 21 [(2, 83), (0, x1), (0, t0), (0, x3), (1, x4), (9, 0), (0, x6), (0, nd)] [] ρ = js_J E f 254 21 [(2, 83), (0, x1), (0, t0), (0, x3), (1, x4 + v), (9, 0), (0, x6 + xt_na e), (0, -1)] [] ρ' ∧ gr_R t ρ ρ' e ∧ gcc_P (xt_cn B e) (xt_na e) v
def gps_P (E : js_E) (e : tr_T) : Prop := ∀ (f : Nat) (ρ : js_S) (nd t s x1 t0 x3 x4 x6 M N : Int), t = t0 + x6 → s = x3 + 1 + x6 → xt_nd ρ M e N nd 0 → N ≤ 66000 → (xt_w e ∧ xt_r e) → (0 ≤ s ∧ s + xt_na e ≤ 400) → (0 ≤ ρ 83 49 ∧ ρ 83 49 + 2 * xt_na e ≤ 100000000) → (0 ≤ ρ 83 54 ∧ ρ 83 54 ≤ 1024 ∧ (xt_na e = 0 ∨ t + xt_na e ≤ ρ 83 54)) → 0 ≤ t → 2 ≤ f → ∃ ρ' : js_S, js_J E f 254 86 [(2, 83), (0, x1), (0, t0), (0, x3), (1, x4), (9, 0), (0, x6), (0, nd)] [] ρ = js_J E f 254 86 [(2, 83), (0, x1), (0, t0), (0, x3), (1, x4), (9, 0), (0, x6 + xt_na e), (0, -1)] [] ρ' ∧ gx_R (ρ 83 49) (ρ 83 52) ρ ρ' ∧ ρ' 83 49 = ρ 83 49 + 2 * xt_na e ∧ ρ' 83 54 = ρ 83 54 ∧ (ρ' 83 49 ≤ 8192 → xt_ps (ri_P ρ') e s t (ρ 83 49))
theorem gtt_11 {c1 c2 k1 k2 v1 v2 : Int} (h1 : gc_P c1 k1 v1) (h2 : gcc_P c2 k2 v2) (hk : 0 ≤ k2) (hl : k1 ≤ 100000000) : gcc_P (c1 + 3 + c2) (1 + k2) (3 + v1 + v2) := by
  unfold gc_P at h1
  unfold gcc_P at h2 ⊢
  omega
theorem gtt_10 {c k v w : Int} (h : gcc_P c k v) (hk : 0 ≤ k ∧ k ≤ 400) (hw : 0 ≤ w ∧ w ≤ 400000) {n : Int} (hn : 0 ≤ n) : gc_P (c + 1 + w) n (min 1000000000000000 (v + 1 + w)) := by
  unfold gcc_P at h
  unfold gc_P
  omega
theorem gtt_10b {c k v w : Int} (h : gcc_P c k v) (hk : 0 ≤ k ∧ k ≤ 400) (hw : 0 ≤ w ∧ w ≤ 400000) : 0 ≤ v + 1 + w ∧ v + 1 + w < 9000000000000000000 := by
  unfold gcc_P at h
  omega
theorem gt_m11 {a x z p1 p2 p4 t1 : Int} (h1 : p1 = max a x) (h2 : p2 = max p1 t1) (h4 : p4 = max p2 z) : p4 = max a (max x (max t1 z)) := by omega
section GEc
variable {E : js_E} {B : Int → Int} {S : Int → Prop} {Z K : Int → Int → Prop} {ty lo hi a b c : Int} {l r : tr_T}
theorem gch_0 : gch_P E B S Z K .leaf := by
  intro f ρ nd t x1 t0 x3 x4 x6 M N ht hp hf
  have hn : nd = -1 := hp.2.1
  have h54 := hp.2.2.2.2.2.1
  have ea : xt_na (.leaf : tr_T) = 0 := rfl
  have el : xt_ln (.leaf : tr_T) = 0 := rfl
  have em : xt_mt (.leaf : tr_T) t = 0 := rfl
  refine ⟨ρ, 0, by rw [ea, Int.add_zero, Int.add_zero, hn], ⟨gx_refl _ _ _, by rw [el, Int.add_zero], by rw [em]; omega, fun _ => trivial⟩, ⟨by rw [ea]; omega, rfl⟩⟩
theorem gch_11 (hl : gen_P E B S Z K l) (hq : gch_P E B S Z K r) : gch_P E B S Z K (tr_n 11 ty lo hi a b c l r) := by
  intro f ρ nd t x1 t0 x3 x4 x6 M N htt hp hf
  obtain ⟨hk, hn, ⟨hw, hg, hr⟩, h52, h49, h54, ht⟩ := hp
  rw [xt_nd11] at hn
  rw [xt_r_n] at hr
  rw [xt_g11] at hg
  rw [xt_w11] at hw
  rw [xt_ln11] at h49
  rw [xt_mt11] at h54
  have ed : xt_dp (tr_n 11 ty lo hi a b c l r) = max (xt_dp l) (xt_dp r) := rfl
  rw [ed] at hf
  have d6 := xt_dp_6 l
  have hfl : xt_dp l + 1 ≤ f ∧ xt_dp r + 1 ≤ f := by omega
  have hmt : xt_mt l t ≤ 1024 ∧ t + 1 ≤ 1024 ∧ xt_mt r (t + 1) ≤ 1024 := by omega
  have h54' : 0 ≤ ρ 83 54 ∧ ρ 83 54 ≤ 1024 := ⟨h54.1, h54.2.1⟩
  clear hf ed h54
  obtain ⟨n1, n2, n7, n8⟩ := hn
  have l1 := xt_ln_0 l
  have l2 := xt_ln_0 r
  have na := xt_na_0 r
  have w : js_w nd = nd := js_w_of (by omega) (by omega)
  have hn6 : 0 ≤ nd ∧ nd < 66000 := by omega
  obtain ⟨ρ1, v1, e1, ⟨g1, k1, t1, d1⟩, c1⟩ := hl (f - 1) ρ nd t M N 0 (gp_of hk n7 ⟨hw.1, hw.2.1, hg.1, hr.2.1⟩ (fun _ _ _ => rfl) h52 ⟨h49.1, by omega⟩ ⟨h54'.1, h54'.2, hmt.1⟩ ht) (by omega)
  have b154 : 0 ≤ ρ1 83 54 ∧ ρ1 83 54 ≤ 1024 := by omega
  obtain ⟨ρ2, e2, t2, f2⟩ := r_temp (E := E) (f := f - 1) (ρ := ρ1) (t := t) ⟨ht.1, by omega⟩ (by omega)
  have k2 : ρ2 83 49 = ρ1 83 49 := f2 _ _ (by omega)
  have k253 : ρ2 83 53 = ρ1 83 53 := f2 _ _ (by omega)
  obtain ⟨ρ3, e3, h3⟩ := r_plain (E := E) (f := f - 1) (ρ := ρ2) (x1 := 2) (x2 := ρ1 83 53 + t) (x3 := 0) (by omega) ⟨by omega, by omega⟩
  have k3 := h3.1
  have X2 : gx_R (ρ 83 49) (ρ 83 52) ρ ρ2 := fun x i q1 q2 q3 => by rw [f2 x i (by omega), g1 x i q1 q2 q3]
  have X3 : gx_R (ρ 83 49) (ρ 83 52) ρ ρ3 := gx_trans X2 (gm_gx h3) (by omega) (Int.le_refl _)
  have q3 : ρ3 83 52 = ρ 83 52 := X3 _ _ (by omega) (by omega) (by omega)
  have m3 : ρ3 83 54 = ρ2 83 54 := h3.2.2 _ _ (by omega) (by omega)
  have i107 : ρ3 107 nd = ρ 107 nd := X3 _ _ (by omega) (by omega) (by omega)
  have b354 : 0 ≤ ρ3 83 54 ∧ ρ3 83 54 ≤ 1024 := by omega
  have fr3 : ∀ z i : Int, z = 91 ∨ z = 95 ∨ 100 ≤ z ∧ z ≤ 107 → ρ3 z i = ρ z i := fun z i q => X3 z i (by omega) (by omega) (by omega)
  obtain ⟨ρ4, v2, e4, ⟨g4, k4, t4, d4⟩, c4⟩ := hq f ρ3 (ρ 107 nd) (t + 1) x1 t0 x3 (x4 + (3 + v1)) (x6 + 1) M N (by omega) ⟨gk_fr hk (fun i => fr3 _ _ (by omega)) (fun i => fr3 _ _ (by omega)), xt_nd_fr n8 (fun z i q1 q2 => fr3 _ _ (by omega)), ⟨hw.2.2.2, hg.2, hr.2.2⟩, ⟨by omega, by omega⟩, ⟨by omega, by omega⟩, ⟨b354.1, b354.2, hmt.2.2⟩, by omega, hmt.2.1⟩ hfl.2
  rw [q3] at g4
  have X4 : gx_R (ρ 83 49) (ρ 83 52) ρ ρ4 := gx_trans X3 g4 (by omega) (Int.le_refl _)
  have ea : xt_na (tr_n 11 ty lo hi a b c l r) = 1 + xt_na r := rfl
  have cc := gtt_11 c1 c4 na (by omega)
  have s1 : x4 + (3 + v1) + v2 = x4 + (3 + v1 + v2) := by omega
  have s2 : x6 + 1 + xt_na r = x6 + (1 + xt_na r) := by omega
  rw [s1, s2] at e4
  refine ⟨ρ4, 3 + v1 + v2, ?_, ⟨X4, by rw [xt_ln11]; omega, ?_, fun hs => ?_⟩, by rw [xt_cn11, ea]; exact cc⟩
  · rw [htt] at e1 e2 e3
    rw [ea, b_254_21, w, if_neg (show ¬ nd < 0 by omega), k_254_38 (by omega) e1, b_254_41, k_254_52 (by omega) e2, b_254_55, k_254_56 (by omega) e3, b_254_59, w, if_pos hn6, i107]
    exact e4
  · rw [xt_mt11]
    rw [m3] at t4
    exact gt_m11 t1 t2 t4
  · rw [xt_cd11]
    have y12 : gy_R (ρ 83 49 + xt_ln l) ρ1 ρ2 := gy_of (fun x i q1 q2 => f2 x i (by omega))
    have y23 : gy_R (ρ 83 49 + xt_ln l) ρ2 ρ3 := gy_mono (gy_gm h3) (by omega)
    have y34 : gy_R (ρ 83 49 + xt_ln l + 1) ρ3 ρ4 := gy_mono (gy_gx g4) (by omega)
    refine ⟨xr_gy (gy_trans y12 (gy_trans y23 y34 (by omega)) (Int.le_refl _)) (Int.le_refl _) (d1 (by omega)), ?_, ?_⟩
    · have e := gm_ri (k := 2) (x := t) (y := 0) h3 (by omega) (by rw [if_neg (by decide), if_neg (by decide), if_pos rfl, k253])
      rw [k2, k1] at e
      exact ri_gy y34 (by omega) e
    · have e := d4 (by omega)
      rw [k3, k2, k1] at e
      exact e
theorem gps_0 : gps_P E .leaf := by
  intro f ρ nd t s x1 t0 x3 x4 x6 M N _ _ hn _ _ _ _ _ _ _
  have hn' : nd = -1 := hn
  have ea : xt_na (.leaf : tr_T) = 0 := rfl
  exact ⟨ρ, by rw [ea, Int.add_zero, hn'], gx_refl _ _ _, by rw [ea]; omega, rfl, fun _ => trivial⟩
theorem gps_11 (hq : gps_P E r) : gps_P E (tr_n 11 ty lo hi a b c l r) := by
  intro f ρ nd t s x1 t0 x3 x4 x6 M N htt hss hn hN hc hs h49 h54 ht hf
  rw [xt_nd11] at hn
  obtain ⟨hw, hr⟩ := hc
  rw [xt_r_n] at hr
  rw [xt_w11] at hw
  have ea : xt_na (tr_n 11 ty lo hi a b c l r) = 1 + xt_na r := rfl
  rw [ea] at hs h49 h54
  have na := xt_na_0 r
  obtain ⟨n1, n2, n7, n8⟩ := hn
  have hnl := xt_nd_in n7 hw.1
  have hrl := xt_r_e hw.1 hr.2.1
  have w : js_w nd = nd := js_w_of (by omega) (by omega)
  have hn6 : 0 ≤ nd ∧ nd < 66000 := by omega
  obtain ⟨ρ1, ρ2, e2, ⟨t1, f1⟩, h2⟩ := r_load (E := E) (f := f - 1) (ρ := ρ) (t := t) (n := nd) (by omega) hn6 hnl.2.2.2.1 hnl.2.2.2.2 hrl ⟨ht, by omega⟩ ⟨h54.1, by omega⟩ ⟨h49.1, by omega⟩
  have k1 : ρ1 83 49 = ρ 83 49 := f1 _ _ (by omega)
  have k153 : ρ1 83 53 = ρ 83 53 := f1 _ _ (by omega)
  have k2 := h2.1
  have X2 : gx_R (ρ 83 49) (ρ 83 52) ρ ρ2 := fun x i q1 q2 q3 => by rw [h2.2.2 x i (by omega) (by omega), f1 x i (by omega)]
  have ws : js_w (x3 + 1 + x6) = s := by rw [← hss]; exact js_w_of (by omega) (by omega)
  obtain ⟨ρ3, e3, h3⟩ := r_plain (E := E) (f := f - 1) (ρ := ρ2) (x1 := 2) (x2 := ρ2 90 s) (x3 := 0) (by omega) ⟨by omega, by omega⟩
  have k3 := h3.1
  have X3 : gx_R (ρ 83 49) (ρ 83 52) ρ ρ3 := gx_trans X2 (gm_gx h3) (by omega) (Int.le_refl _)
  have q3 : ρ3 83 52 = ρ 83 52 := X3 _ _ (by omega) (by omega) (by omega)
  have m3 : ρ3 83 54 = ρ 83 54 := by
    rw [h3.2.2 _ _ (by omega) (by omega), h2.2.2 _ _ (by omega) (by omega), t1]
    omega
  have i107 : ρ3 107 nd = ρ 107 nd := X3 _ _ (by omega) (by omega) (by omega)
  obtain ⟨ρ4, e4, g4, k4, m4, d4⟩ := hq f ρ3 (ρ 107 nd) (t + 1) (s + 1) x1 t0 x3 x4 (x6 + 1) M N (by omega) (by omega) (xt_nd_fr n8 (fun z i q1 q2 => X3 z i (by omega) (by omega) (by omega))) hN ⟨hw.2.2.2, hr.2.2⟩ (by omega) ⟨by omega, by omega⟩ ⟨by omega, by omega, by omega⟩ (by omega) hf
  rw [q3] at g4
  have s2 : x6 + 1 + xt_na r = x6 + (1 + xt_na r) := by omega
  rw [s2] at e4
  refine ⟨ρ4, ?_, gx_trans X3 g4 (by omega) (Int.le_refl _), by rw [ea]; omega, by rw [m4, m3], fun hs' => ?_⟩
  · rw [htt] at e2
    rw [ea, b_254_86, w, if_neg (show ¬ nd < 0 by omega), k_254_98 (by omega) e2, b_254_101, ws, if_pos (show 0 ≤ s ∧ s < 400 by omega), k_254_115 (by omega) e3, b_254_118, w, if_pos hn6, i107]
    exact e4
  · have y23 : gy_R (ρ 83 49 + 1) ρ2 ρ3 := gy_mono (gy_gm h3) (by omega)
    have y34 : gy_R (ρ 83 49 + 2) ρ3 ρ4 := gy_mono (gy_gx g4) (by omega)
    show ri_P ρ4 (ρ 83 49) (1, 2, t, 0, 0, xt_lo l, xt_hi l) ∧ ri_P ρ4 (ρ 83 49 + 1) (2, 1, s, 0, 0, 1, 0) ∧ xt_ps (ri_P ρ4) r (s + 1) (t + 1) (ρ 83 49 + 2)
    refine ⟨?_, ?_, ?_⟩
    · have e := gm_ri (k := 2) (x := t) (y := 0) h2 (by omega) (by rw [if_neg (by decide), if_neg (by decide), if_pos rfl, k153])
      rw [k1] at e
      exact ri_gy y34 (by omega) (ri_gy y23 (by omega) e)
    · have e := gm_ri (k := 1) (x := s) (y := 0) h3 (by omega) (by rw [if_neg (by decide), if_pos rfl, Int.add_zero])
      rw [k2, k1] at e
      exact ri_gy y34 (by omega) e
    · have e := d4 (by omega)
      have e3e : ρ3 83 49 = ρ 83 49 + 2 := by omega
      rw [e3e] at e
      exact e
end GEc
