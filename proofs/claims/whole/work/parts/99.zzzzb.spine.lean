/-! part 99.zzzzb: operators: along the spine -/
def gw_R (n q : Int) (ρ ρ' : js_S) : Prop := ∀ a i : Int, ¬ (a = 83 ∧ (i = 49 ∨ i = 52 ∨ i = 54)) → ¬ (a = 110 ∧ q ≤ i) → ¬ (111 ≤ a ∧ a ≤ 115 ∧ n ≤ i) → ρ' a i = ρ a i
theorem gw_gx {n q n' q' : Int} {ρ ρ' : js_S} (h : gx_R n q ρ ρ') (hn : n' ≤ n) (hq : q' ≤ q) : gw_R n' q' ρ ρ' := fun a i g1 g2 g3 => h a i (by omega) (by omega) (by omega)
theorem gw_trans {n q : Int} {ρ ρ' ρ'' : js_S} (h : gw_R n q ρ ρ') (h2 : gw_R n q ρ' ρ'') : gw_R n q ρ ρ'' := fun a i g1 g2 g3 => (h2 a i g1 g2 g3).trans (h a i g1 g2 g3)
theorem gw_of {n q : Int} {ρ ρ' : js_S} (h : ∀ a i : Int, ¬ (a = 83 ∧ (i = 52 ∨ i = 54)) → ¬ (a = 110 ∧ i = q) → ρ' a i = ρ a i) : gw_R n q ρ ρ' := fun a i g1 g2 g3 => h a i (by omega) (by omega)
theorem gx_gw {n q : Int} {ρ ρ' : js_S} (h : gw_R n q ρ ρ') (h52 : ρ' 83 52 = ρ 83 52) : gx_R n q ρ ρ' := fun a i g1 g2 g3 => by
  by_cases q : a = 83 ∧ i = 52
  · rw [q.1, q.2]
    exact h52
  · exact h a i (by omega) g2 g3
theorem gt_m4 {a x z p2 p4 p6 p8 t1 : Int} (h2 : p2 = max a x) (h4 : p4 = max p2 t1) (h6 : p6 = max p4 z) (h8 : p8 = max p6 t1) : p8 = max a (max x (max t1 z)) := by omega
theorem gt_4 {c1 c2 k1 k2 v1 v2 : Int} (h1 : gc_P c1 k1 v1) (h2 : gc_P c2 k2 v2) (hk : 0 ≤ k1 ∧ 0 ≤ k2) : gc_P (c1 + 4 + c2) (k1 + 1 + k2 + 3) (min 1000000000000000 (v1 + (4 + v2))) := by
  unfold gc_P at h1 h2 ⊢
  omega
theorem gt_6 {c1 c2 k1 k2 v1 v2 : Int} (h1 : gc_P c1 k1 v1) (h2 : gc_P c2 k2 v2) (hk : 0 ≤ k1 ∧ 0 ≤ k2) : gc_P (c1 + 1 + c2) (k1 + 1 + k2) (min 1000000000000000 (v1 + (1 + v2))) := by
  unfold gc_P at h1 h2 ⊢
  omega
/-- the code of an operator -/
theorem gcd_4 {ρ2 ρ4 ρ5 ρ6 ρ7 ρ8 ρ9 ρz : js_S} {t n0 lo hi ty a b c : Int} {l r : tr_T} (h2 : xt_cd (ri_P ρ2) l t n0) (y24 : gy_R (n0 + xt_ln l) ρ2 ρ4) (h5 : gm_R ρ4 ρ5 2 (ρ4 83 53 + t) 0 1 0) (c4 : ρ4 83 49 = n0 + xt_ln l) (h6 : xt_cd (ri_P ρ6) r (t + 1) (n0 + xt_ln l + 1)) (y56 : gy_R (n0 + xt_ln l + 1) ρ5 ρ6) (c6 : ρ6 83 49 = n0 + xt_ln l + 1 + xt_ln r) (h7 : gm_R ρ6 ρ7 3 0 0 1 0) (y78 : gy_R (n0 + xt_ln l + 1 + xt_ln r + 1) ρ7 ρ8) (c8 : ρ8 83 49 = n0 + xt_ln l + 1 + xt_ln r + 1) (h9 : gm_R ρ8 ρ9 1 (ρ8 83 53 + t) 0 (xt_lo l) (xt_hi l)) (hz : gm_R ρ9 ρz c 0 0 lo hi) (hs : ρz 83 49 ≤ 8192) : xt_cd (ri_P ρz) (tr_n 4 ty lo hi a b c l r) t n0 := by
  have l1 := xt_ln_0 l
  have l2 := xt_ln_0 r
  have k9 := h9.1
  have kz := hz.1
  have k5 := h5.1
  have k7 := h7.1
  have y9z : gy_R (n0 + xt_ln l + 1 + xt_ln r + 2) ρ9 ρz := gy_mono (gy_gm hz) (by omega)
  have y8z : gy_R (n0 + xt_ln l + 1 + xt_ln r + 1) ρ8 ρz := gy_trans (gy_mono (gy_gm h9) (by omega)) y9z (by omega)
  have y7z : gy_R (n0 + xt_ln l + 1 + xt_ln r + 1) ρ7 ρz := gy_trans y78 y8z (Int.le_refl _)
  have y6z : gy_R (n0 + xt_ln l + 1 + xt_ln r) ρ6 ρz := gy_trans (gy_mono (gy_gm h7) (by omega)) y7z (by omega)
  have y5z : gy_R (n0 + xt_ln l + 1) ρ5 ρz := gy_trans y56 y6z (by omega)
  have y4z : gy_R (n0 + xt_ln l) ρ4 ρz := gy_trans (gy_mono (gy_gm h5) (by omega)) y5z (by omega)
  rw [xt_cd4]
  refine ⟨xr_gy (gy_trans y24 y4z (Int.le_refl _)) (Int.le_refl _) h2, ?_, xr_gy y6z (Int.le_refl _) h6, ?_, ?_, ?_⟩
  · have e := gm_ri (k := 2) (x := t) (y := 0) h5 (by omega) (by rw [if_neg (by decide), if_neg (by decide), if_pos rfl])
    rw [c4] at e
    exact ri_gy y5z (by omega) e
  · have e := gm_ri (k := 0) (x := 0) (y := 0) h7 (by omega) (if_pos rfl).symm
    rw [c6] at e
    exact ri_gy y7z (by omega) e
  · have e := gm_ri (k := 2) (x := t) (y := 0) h9 (by omega) (by rw [if_neg (by decide), if_neg (by decide), if_pos rfl])
    rw [c8] at e
    exact ri_gy y9z (by omega) e
  · have e := gm_ri (k := 0) (x := 0) (y := 0) hz (by omega) (if_pos rfl).symm
    have c9 : ρ9 83 49 = n0 + xt_ln l + 1 + xt_ln r + 2 := by omega
    rw [c9] at e
    exact e
section GB
variable {E : js_E} {B : Int → Int} {S : Int → Prop} {Z K : Int → Int → Prop} {ty lo hi a b c : Int} {l r : tr_T}
/-- down: an operator is put on the spine -/
theorem gdn {f : Nat} {ρ : js_S} {n t bs x1 k : Int} (hk : ρ 100 n = k) (hk2 : k = 4 ∨ k = 6 ∨ k = 7) (hn : 0 ≤ n ∧ n < 66000) (h52 : 0 ≤ ρ 83 52 ∧ ρ 83 52 < 66000) : ∃ ρ1 : js_S, js_J E f 248 8 [(2, 83), (0, x1), (0, t), (0, bs), (0, n), (9, 0), (9, 0), (9, 0)] [] ρ = js_J E f 248 8 [(2, 83), (0, x1), (0, t), (0, bs), (0, ρ 102 n), (9, 0), (9, 0), (9, 0)] [] ρ1 ∧ ρ1 110 (ρ 83 52) = n ∧ ρ1 83 52 = ρ 83 52 + 1 ∧ ∀ a i : Int, ¬ (a = 110 ∧ i = ρ 83 52) → ¬ (a = 83 ∧ i = 52) → ρ1 a i = ρ a i := by
  have w : js_w n = n := js_w_of (by omega) (by omega)
  have wq : js_w (ρ 83 52) = ρ 83 52 := js_w_of (by omega) (by omega)
  have wk : js_w k = k := js_w_of (by omega) (by omega)
  refine ⟨js_up (js_up ρ 110 (ρ 83 52) n) 83 52 (ρ 83 52 + 1), ?_, by rw [js_up_na _ (by decide), js_up_same], js_up_same _ _ _ _, fun a i g1 g2 => by rw [js_up_ne _ g2, js_up_ne _ g1]⟩
  have e43 : js_J E f 248 43 [(2, 83), (0, x1), (0, t), (0, bs), (0, n), (9, 0), (9, 0), (9, 0)] [] ρ = js_J E f 248 8 [(2, 83), (0, x1), (0, t), (0, bs), (0, ρ 102 n), (9, 0), (9, 0), (9, 0)] [] (js_up (js_up ρ 110 (ρ 83 52) n) 83 52 (ρ 83 52 + 1)) := by rw [b_248_43, wq, if_pos h52, w, if_pos hn]
  rw [b_248_8, w, if_pos hn, hk, wk]
  by_cases q4 : k = 4
  · rw [if_pos q4, e43]
  by_cases q6 : k = 6
  · rw [if_neg q4, if_pos q6, e43]
  · rw [if_neg q4, if_neg q6, if_pos (show k = 7 by omega), e43]
/-- up: and taken from it -/
theorem gup {f : Nat} {ρ : js_S} {n t bs x1 x4 v q k : Int} {ux7 : js_v} (h52 : ρ 83 52 = q + 1) (hq : 0 ≤ q ∧ q < 66000) (hbs : 0 ≤ bs ∧ bs ≤ q) (h110 : ρ 110 q = n) (hn : 0 ≤ n ∧ n < 66000) (hk : ρ 100 n = k) (hk2 : k = 4 ∨ k = 6 ∨ k = 7) : js_J E f 248 85 [(2, 83), (0, x1), (0, t), (0, bs), (0, x4), (1, v), (9, 0), ux7] [] ρ = (if k = 4 then js_J E f 248 129 [(2, 83), (0, x1), (0, t), (0, bs), (0, n), (1, v), (9, 0), ux7] [(0, t), (2, 83), (0, 2), (2, 83)] (js_up ρ 83 52 q) else js_J E f 248 233 [(2, 83), (0, x1), (0, t), (0, bs), (0, n), (1, v), (9, 0), ux7] [(0, if k = 6 then 25 else 26), (2, 83)] (js_up ρ 83 52 q)) := by
  have w : js_w n = n := js_w_of (by omega) (by omega)
  have wq : js_w q = q := js_w_of (by omega) (by omega)
  have wq1 : js_w (q + 1) = q + 1 := js_w_of (by omega) (by omega)
  have wb : js_w bs = bs := js_w_of (by omega) (by omega)
  have wk : js_w k = k := js_w_of (by omega) (by omega)
  have es : q + 1 - 1 = q := by omega
  rw [b_248_85, h52, es, wb, wq1, wq, if_pos (show bs < q + 1 by omega), if_pos hq, h110, w, if_pos hn, hk, wk]
  by_cases q4 : k = 4
  · rw [if_pos q4, if_pos q4]
  · rw [if_neg q4, if_neg q4]
    by_cases q6 : k = 6
    · rw [if_pos q6, if_pos q6]
    · rw [if_neg q6, if_neg q6]
theorem gsp_4 (hl : gsp_P E B S Z K l) (hq : gen_P E B S Z K r) : gsp_P E B S Z K (tr_n 4 ty lo hi a b c l r) := by
  intro f ρ n t M N m bs x1 hp hbs hf
  obtain ⟨hk, hn, ⟨heq, hw, hg, hr⟩, h52, h49, h54, ht⟩ := hp
  rw [xt_nd4] at hn
  replace hr := xt_rq heq
  rw [xt_g4] at hg
  rw [xt_w4] at hw
  rw [xt_ln4] at h49
  rw [xt_mt4] at h54
  have ed : xt_dp (tr_n 4 ty lo hi a b c l r) = max (xt_dp l) (1 + xt_dp r) := rfl
  rw [ed] at hf
  have d6 := xt_dp_6 r
  have hfl : xt_dp l ≤ f ∧ 1 + xt_dp r ≤ f := by omega
  have hmt : xt_mt l t ≤ 1024 ∧ t + 1 ≤ 1024 ∧ xt_mt r (t + 1) ≤ 1024 := by omega
  have h54' : 0 ≤ ρ 83 54 ∧ ρ 83 54 ≤ 1024 := ⟨h54.1, h54.2.1⟩
  clear hf ed h54
  obtain ⟨⟨n1, n2, n3, n4, n5, n6⟩, n7, n8, n9⟩ := hn
  have l1 := xt_ln_0 l
  have l2 := xt_ln_0 r
  have hnl := xt_nd_in n7 hw.1
  have hrl := xt_r_e hw.1 hr.2.1
  have w : js_w n = n := js_w_of (by omega) (by omega)
  have hn6 : 0 ≤ n ∧ n < 66000 := by omega
  obtain ⟨ρ1, e1, a110, a52, f1⟩ := gdn (E := E) (f := f) (ρ := ρ) (n := n) (t := t) (bs := bs) (x1 := x1) n3 (Or.inl rfl) hn6 ⟨h52.1, by omega⟩
  have b49 : ρ1 83 49 = ρ 83 49 := f1 _ _ (by omega) (by omega)
  have b54 : ρ1 83 54 = ρ 83 54 := f1 _ _ (by omega) (by omega)
  obtain ⟨ρ2, v1, x4, ux7, e2, h2, c2⟩ := hl f ρ1 (ρ 102 n) t M n 0 bs x1 (gp_of hk n7 ⟨hw.1, hw.2.1, hg.1, hr.2.1⟩ (fun x i q => f1 x i (by omega) (by omega)) ⟨by omega, by omega⟩ ⟨by omega, by omega⟩ ⟨by omega, by omega, hmt.1⟩ ht) ⟨hbs.1, by omega⟩ hfl.1
  obtain ⟨g2, k2, t2, d2⟩ := h2
  rw [b49] at k2 d2 g2
  rw [b54] at t2
  rw [a52] at g2
  have W2 : gw_R (ρ 83 49) (ρ 83 52) ρ ρ2 := gw_trans (gw_of (fun x i q1 q2 => f1 x i q2 (by omega))) (gw_gx g2 (Int.le_refl _) (by omega))
  have s52 : ρ2 83 52 = ρ 83 52 + 1 := by rw [g2 _ _ (by omega) (by omega) (by omega)]; exact a52
  have s110 : ρ2 110 (ρ 83 52) = n := by rw [g2 _ _ (by omega) (by omega) (by omega)]; exact a110
  have s100 : ρ2 100 n = 4 := by rw [W2 _ _ (by omega) (by omega) (by omega)]; exact n3
  have f3 : ∀ x i : Int, ¬ (x = 83 ∧ i = 52) → js_up ρ2 83 52 (ρ 83 52) x i = ρ2 x i := fun x i q => js_up_ne _ q
  have c352 : js_up ρ2 83 52 (ρ 83 52) 83 52 = ρ 83 52 := js_up_same _ _ _ _
  rw [e1, e2, gup s52 ⟨h52.1, by omega⟩ hbs s110 hn6 s100 (Or.inl rfl), if_pos rfl]
  generalize js_up ρ2 83 52 (ρ 83 52) = ρ3 at f3 c352 ⊢
  have k354 : ρ3 83 54 = ρ2 83 54 := f3 _ _ (by omega)
  have b254 : 0 ≤ ρ2 83 54 ∧ ρ2 83 54 ≤ 1024 := by omega
  obtain ⟨ρ4, e4, t4, f4⟩ := r_temp (E := E) (f := f - 1) (ρ := ρ3) (t := t) ⟨ht.1, by omega⟩ (by omega)
  have k4 : ρ4 83 49 = ρ 83 49 + xt_ln l := by rw [f4 _ _ (by omega), f3 _ _ (by omega)]; exact k2
  have k453 : ρ4 83 53 = ρ3 83 53 := f4 _ _ (by omega)
  obtain ⟨ρ5, e5, h5⟩ := r_plain (E := E) (f := f - 1) (ρ := ρ4) (x1 := 2) (x2 := ρ3 83 53 + t) (x3 := 0) (by omega) ⟨by omega, by omega⟩
  have W4 : gw_R (ρ 83 49) (ρ 83 52) ρ ρ4 := gw_trans W2 (gw_of (fun x i q1 q2 => by rw [f4 x i (by omega), f3 x i (by omega)]))
  have W5 : gw_R (ρ 83 49) (ρ 83 52) ρ ρ5 := gw_trans W4 (gw_gx (gm_gx (q := ρ 83 52) h5) (by omega) (Int.le_refl _))
  have k5 := h5.1
  have m5 : ρ5 83 54 = ρ4 83 54 := h5.2.2 _ _ (by omega) (by omega)
  have q5 : ρ5 83 52 = ρ 83 52 := by rw [h5.2.2 _ _ (by omega) (by omega), f4 _ _ (by omega)]; exact c352
  have b554 : 0 ≤ ρ5 83 54 ∧ ρ5 83 54 ≤ 1024 := by omega
  obtain ⟨ρ6, v2, e6, h6, c6⟩ := hq (f - 1) ρ5 (ρ 103 n) (t + 1) M n 0 (gp_of hk n8 ⟨hw.2.2.1, hw.2.2.2, hg.2, hr.2.2⟩ (fun x i q => W5 x i (by omega) (by omega) (by omega)) ⟨by omega, by omega⟩ ⟨by omega, by omega⟩ ⟨b554.1, b554.2, hmt.2.2⟩ ⟨by omega, hmt.2.1⟩) (by omega)
  obtain ⟨g6, k6, t6, d6'⟩ := h6
  rw [q5] at g6
  have W6 : gw_R (ρ 83 49) (ρ 83 52) ρ ρ6 := gw_trans W5 (gw_gx g6 (by omega) (Int.le_refl _))
  have q6 : ρ6 83 52 = ρ 83 52 := by rw [g6 _ _ (by omega) (by omega) (by omega)]; exact q5
  obtain ⟨ρ7, e7, h7⟩ := r_plain (E := E) (f := f - 1) (ρ := ρ6) (x1 := 3) (x2 := 0) (x3 := 0) (by omega) ⟨by omega, by omega⟩
  have k7 := h7.1
  have W7 : gw_R (ρ 83 49) (ρ 83 52) ρ ρ7 := gw_trans W6 (gw_gx (gm_gx (q := ρ 83 52) h7) (by omega) (Int.le_refl _))
  have m7 : ρ7 83 54 = ρ6 83 54 := h7.2.2 _ _ (by omega) (by omega)
  have b754 : 0 ≤ ρ7 83 54 ∧ ρ7 83 54 ≤ 1024 := by omega
  obtain ⟨ρ8, ρ9, e9, ⟨t8, f8⟩, h9⟩ := r_load (E := E) (f := f - 1) (ρ := ρ7) (t := t) (n := ρ 102 n) (lo := xt_lo l) (hi := xt_hi l) (by omega) ⟨by omega, by omega⟩ (by rw [W7 _ _ (by omega) (by omega) (by omega)]; exact hnl.2.2.2.1) (by rw [W7 _ _ (by omega) (by omega) (by omega)]; exact hnl.2.2.2.2) hrl ⟨ht.1, by omega⟩ ⟨b754.1, by omega⟩ ⟨by omega, by omega⟩
  have k8 : ρ8 83 49 = ρ7 83 49 := f8 _ _ (by omega)
  have k853 : ρ8 83 53 = ρ7 83 53 := f8 _ _ (by omega)
  have k9 := h9.1
  have W8 : gw_R (ρ 83 49) (ρ 83 52) ρ ρ8 := gw_trans W7 (gw_of (fun x i q1 q2 => f8 x i (by omega)))
  have W9 : gw_R (ρ 83 49) (ρ 83 52) ρ ρ9 := gw_trans W8 (gw_gx (gm_gx (q := ρ 83 52) h9) (by omega) (Int.le_refl _))
  have m9 : ρ9 83 54 = ρ8 83 54 := h9.2.2 _ _ (by omega) (by omega)
  have q9 : ρ9 83 52 = ρ 83 52 := by rw [h9.2.2 _ _ (by omega) (by omega), f8 _ _ (by omega), h7.2.2 _ _ (by omega) (by omega)]; exact q6
  obtain ⟨ρz, ez, hz⟩ := r_emit (E := E) (f := f - 1) (ρ := ρ9) (x1 := c) (x2 := 0) (x3 := 0) (x4 := lo) (x6 := hi) ⟨by omega, by omega⟩
  have kz := hz.1
  have Wz : gw_R (ρ 83 49) (ρ 83 52) ρ ρz := gw_trans W9 (gw_gx (gm_gx (q := ρ 83 52) hz) (by omega) (Int.le_refl _))
  have mz : ρz 83 54 = ρ9 83 54 := hz.2.2 _ _ (by omega) (by omega)
  have qz : ρz 83 52 = ρ 83 52 := by rw [hz.2.2 _ _ (by omega) (by omega)]; exact q9
  have i103 : ρ5 103 n = ρ 103 n := W5 _ _ (by omega) (by omega) (by omega)
  have i102 : ρ7 102 n = ρ 102 n := W7 _ _ (by omega) (by omega) (by omega)
  have i105 : ρ9 105 n = lo := by rw [W9 _ _ (by omega) (by omega) (by omega)]; exact n5
  have i106 : ρ9 106 n = hi := by rw [W9 _ _ (by omega) (by omega) (by omega)]; exact n6
  have i104 : ρ9 104 n = c := by rw [W9 _ _ (by omega) (by omega) (by omega)]; exact n9
  have cc := gt_4 c2 c6 ⟨l1, l2⟩
  have vb : 0 ≤ v1 + (4 + v2) ∧ v1 + (4 + v2) < 9000000000000000000 := by
    have a1 := c2.1
    have a2 := c6.1
    omega
  refine ⟨ρz, min 1000000000000000 (v1 + (4 + v2)), n, ux7, ?_, ⟨gx_gw Wz qz, by rw [xt_ln4]; omega, ?_, fun hs => ?_⟩, by rw [xt_cn4, xt_ln4]; exact cc⟩
  · rw [k_248_129 (by omega) e4, b_248_132, k_248_133 (by omega) e5, b_248_136, w, if_pos hn6, i103, k_248_153 (by omega) e6, b_248_156, k_248_164 (by omega) e7, b_248_167, w, if_pos hn6, i102, k_248_177 (by omega) e9, b_248_180, w, if_pos hn6, i105, i106, i104, js_w_of hr.1.1.1.1 hr.1.1.1.2, js_w_of hr.1.1.2.1 hr.1.1.2.2, k_248_206 (by omega) ez, b_248_209, b_248_265, k_248_267 (by omega) (r_bound vb), b_248_270]
  · rw [xt_mt4, mz, m9]
    rw [k354] at t4
    rw [m5] at t6
    rw [m7] at t8
    exact gt_m4 t2 t4 t6 t8
  · exact gcd_4 (ρ2 := ρ2) (ρ4 := ρ4) (ρ5 := ρ5) (ρ6 := ρ6) (ρ7 := ρ7) (ρ8 := ρ8) (ρ9 := ρ9) (d2 (by omega)) (gy_of (fun x i q1 q2 => by rw [f4 x i (by omega), f3 x i (by omega)])) (by rw [k453]; exact h5) k4 (by have e := d6' (by omega); rw [k5, k4] at e; exact e) (gy_mono (gy_gx g6) (by omega)) (by omega) h7 (gy_of (fun x i q1 q2 => f8 x i (by omega))) (by omega) (by rw [k853]; exact h9) hz hs
end GB
