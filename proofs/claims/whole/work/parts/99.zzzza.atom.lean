/-! part 99.zzzza: atoms: a value, a cell, an element, one operand, a clamp -/
theorem gc_one {c k v x : Int} (h : gc_P c k v) (hx : 0 ≤ x) : gc_P (c + x) (k + x) (v + x) := by
  unfold gc_P at h ⊢
  omega
theorem gc_1 : gc_P 1 1 1 := by
  unfold gc_P
  omega
theorem xt_r_e {e : tr_T} (he : xt_e e) (h : xt_r e) : (-2147483648 ≤ xt_lo e ∧ xt_lo e < 2147483648) ∧ -2147483648 ≤ xt_hi e ∧ xt_hi e < 2147483648 := by
  cases e with
  | leaf =>
    unfold xt_e at he
    have : xt_k (Std.DTreeMap.Internal.Impl.leaf : tr_T) = 0 := rfl
    omega
  | inner z d v l r => exact he.2.2.1
section GA
variable {E : js_E} {B : Int → Int} {S : Int → Prop} {Z K : Int → Int → Prop} {ty lo hi a b c : Int} {l r : tr_T}
theorem gat_1 : gat_P E B S Z K (tr_n 1 ty lo hi a b c l r) := by
  intro f ρ n t M N m hp hf
  obtain ⟨hk, hn, ⟨heq, _, _, hr⟩, h52, h49, h54, ht⟩ := hp
  rw [xt_nd1] at hn
  replace hr := xt_rq heq
  rw [xt_ln1] at h49
  rw [xt_mt1] at h54
  obtain ⟨⟨n1, n2, n3, n4, n5, n6⟩, n7⟩ := hn
  have w : js_w n = n := js_w_of (by omega) (by omega)
  obtain ⟨ρ', e1, h1⟩ := r_emit (E := E) (f := f - 1) (ρ := ρ) (x1 := 0) (x2 := a) (x3 := 0) (x4 := lo) (x6 := hi) ⟨h49.1, by omega⟩
  have d6 := xt_dp_6 (tr_n 1 ty lo hi a b c l r)
  refine ⟨ρ', 1, ?_, ⟨gm_gx h1, by rw [xt_ln1]; exact h1.1, ?_, fun hs => ?_⟩, by rw [xt_cn1, xt_ln1]; exact gc_1⟩
  · rw [b_249_0, w, if_pos (show 0 ≤ n ∧ n < 66000 by omega), n3, n7, s_249_13_1 (by decide), b_249_64, w, if_pos (show 0 ≤ n ∧ n < 66000 by omega), n5, n6, js_w_of hr.1.1.1.1 hr.1.1.1.2, js_w_of hr.1.1.2.1 hr.1.1.2.2, k_249_82 (by omega) e1, b_249_85]
  · rw [xt_mt1, h1.2.2 _ _ (by omega) (by omega)]
    omega
  · rw [xt_cd1]
    exact gm_ri h1 (by have := h1.1; omega) (if_pos rfl).symm
theorem gat_2 : gat_P E B S Z K (tr_n 2 ty lo hi a b c l r) := by
  intro f ρ n t M N m hp hf
  obtain ⟨hk, hn, ⟨heq, _, hg, hr⟩, h52, h49, h54, ht⟩ := hp
  rw [xt_nd2] at hn
  replace hr := xt_rq heq
  rw [xt_g2] at hg
  rw [xt_ln2] at h49
  rw [xt_mt2] at h54
  obtain ⟨⟨n1, n2, n3, n4, n5, n6⟩, n7⟩ := hn
  have hs := hk.1 a hg
  have w : js_w n = n := js_w_of (by omega) (by omega)
  have wa : js_w a = a := js_w_of (by omega) (by omega)
  obtain ⟨ρ', e1, h1⟩ := r_emit (E := E) (f := f - 1) (ρ := ρ) (x1 := 1) (x2 := ρ 90 a) (x3 := 0) (x4 := lo) (x6 := hi) ⟨h49.1, by omega⟩
  have d6 := xt_dp_6 (tr_n 2 ty lo hi a b c l r)
  refine ⟨ρ', 1, ?_, ⟨gm_gx h1, by rw [xt_ln2]; exact h1.1, ?_, fun hs => ?_⟩, by rw [xt_cn2, xt_ln2]; exact gc_1⟩
  · rw [b_249_0, w, if_pos (show 0 ≤ n ∧ n < 66000 by omega), n3, n7, s_249_13_2 (by decide), b_249_88, wa, if_pos hs, w, if_pos (show 0 ≤ n ∧ n < 66000 by omega), n5, n6, js_w_of hr.1.1.1.1 hr.1.1.1.2, js_w_of hr.1.1.2.1 hr.1.1.2.2, k_249_111 (by omega) e1, b_249_114]
  · rw [xt_mt2, h1.2.2 _ _ (by omega) (by omega)]
    omega
  · rw [xt_cd2]
    refine gm_ri h1 (by have := h1.1; omega) ?_
    rw [if_neg (by decide), if_pos rfl, Int.add_zero]
/-- one more instruction behind a tree -/
theorem gr_one {ρ ρ1 ρ2 : js_S} {t op f s x y lo' hi' k : Int} {e : tr_T} (h : gr_R t ρ ρ1 e) (h2 : gm_R ρ1 ρ2 op f s lo' hi') (hf : f = (if k = 0 then x else if k = 1 then ρ1 90 x + y else if k = 2 then ρ1 83 53 + x else ρ1 90 x)) : gx_R (ρ 83 49) (ρ 83 52) ρ ρ2 ∧ ρ2 83 49 = ρ 83 49 + xt_ln e + 1 ∧ ρ2 83 54 = max (ρ 83 54) (xt_mt e t) ∧ (ρ2 83 49 ≤ 8192 → xt_cd (ri_P ρ2) e t (ρ 83 49) ∧ ri_P ρ2 (ρ 83 49 + xt_ln e) (op, k, x, y, s, lo', hi')) := by
  obtain ⟨a1, a2, a3, a4⟩ := h
  have l0 := xt_ln_0 e
  have b1 := h2.1
  refine ⟨gx_trans a1 (gm_gx h2) (by omega) (Int.le_refl _), by omega, ?_, fun hs => ⟨xr_gy (gy_gm h2) (by omega) (a4 (by omega)), ?_⟩⟩
  · rw [h2.2.2 _ _ (by omega) (by omega), a3]
  · rw [← a2]
    exact gm_ri h2 (by omega) hf
theorem gat_3 (hl : gen_P E B S Z K l) : gat_P E B S Z K (tr_n 3 ty lo hi a b c l r) := by
  intro f ρ n t M N m hp hf
  obtain ⟨hk, hn, ⟨heq, hw, hg, hr⟩, h52, h49, h54, ht⟩ := hp
  rw [xt_nd3] at hn
  replace hr := xt_rq heq
  rw [xt_g3] at hg
  rw [xt_w3] at hw
  rw [xt_ln3] at h49
  rw [xt_mt3] at h54
  have ed : xt_dp (tr_n 3 ty lo hi a b c l r) = 2 + xt_dp l := rfl
  rw [ed] at hf
  have d6 := xt_dp_6 l
  obtain ⟨⟨n1, n2, n3, n4, n5, n6⟩, n7, n8⟩ := hn
  have hs := hk.1 a hg.1
  have hz := hk.2.1 a c hg.2.1
  have w : js_w n = n := js_w_of (by omega) (by omega)
  have wa : js_w a = a := js_w_of (by omega) (by omega)
  obtain ⟨ρ1, v1, e1, h1, c1⟩ := hl (f - 1) ρ (ρ 103 n) t M n 0 (gp_of hk n8 ⟨hw.1, hw.2, hg.2.2, hr.2.1⟩ (fun _ _ _ => rfl) ⟨h52.1, by omega⟩ ⟨h49.1, by omega⟩ h54 ht) (by omega)
  have g : ∀ x i : Int, x ≠ 83 → ¬ (110 ≤ x ∧ x ≤ 115) → ρ1 x i = ρ x i := fun x i q1 q2 => h1.1 x i (by omega) (by omega) (by omega)
  have l0 := xt_ln_0 l
  have b49 := h1.2.1
  obtain ⟨ρ2, e2, h2⟩ := r_emit (E := E) (f := f - 1) (ρ := ρ1) (x1 := 4) (x2 := ρ1 90 a) (x3 := c) (x4 := lo) (x6 := hi) ⟨by omega, by omega⟩
  obtain ⟨k1, k2, k3, k4⟩ := gr_one (k := 1) (x := a) (y := 0) h1 h2 (by rw [if_neg (by decide), if_pos rfl, Int.add_zero])
  have i5 : ρ1 105 n = lo := by rw [g _ _ (by decide) (by omega)]; exact n5
  have i6 : ρ1 106 n = hi := by rw [g _ _ (by decide) (by omega)]; exact n6
  have i91 : ρ1 91 a = c := by rw [g _ _ (by decide) (by omega)]; exact hz.2
  have cc := gc_one (x := 1) c1 (by decide)
  refine ⟨ρ2, v1 + 1, ?_, ⟨k1, by rw [xt_ln3]; omega, by rw [xt_mt3]; exact k3, fun hs' => by rw [xt_cd3]; exact k4 hs'⟩, by rw [xt_cn3, xt_ln3]; exact cc⟩
  rw [b_249_0, w, if_pos (show 0 ≤ n ∧ n < 66000 by omega), n3, n7, s_249_13_3 (by decide), b_249_117, w, if_pos (show 0 ≤ n ∧ n < 66000 by omega), k_249_125 (by omega) e1, b_249_128, wa, if_pos hs, w, if_pos (show 0 ≤ n ∧ n < 66000 by omega), i5, i6, i91, js_w_of hr.1.1.1.1 hr.1.1.1.2, js_w_of hr.1.1.2.1 hr.1.1.2.2, k_249_158 (by omega) e2, b_249_161]
theorem gat_5 (hl : gen_P E B S Z K l) : gat_P E B S Z K (tr_n 5 ty lo hi a b c l r) := by
  intro f ρ n t M N m hp hf
  obtain ⟨hk, hn, ⟨heq, hw, hg, hr⟩, h52, h49, h54, ht⟩ := hp
  rw [xt_nd5] at hn
  replace hr := xt_rq heq
  rw [xt_g5] at hg
  rw [xt_w5] at hw
  rw [xt_ln5] at h49
  rw [xt_mt5] at h54
  have ed : xt_dp (tr_n 5 ty lo hi a b c l r) = 2 + xt_dp l := rfl
  rw [ed] at hf
  have d6 := xt_dp_6 l
  obtain ⟨⟨n1, n2, n3, n4, n5, n6⟩, n7, n8⟩ := hn
  have w : js_w n = n := js_w_of (by omega) (by omega)
  obtain ⟨ρ1, v1, e1, h1, c1⟩ := hl (f - 1) ρ (ρ 102 n) t M n 0 (gp_of hk n7 ⟨hw.1, hw.2, hg, hr.2.1⟩ (fun _ _ _ => rfl) ⟨h52.1, by omega⟩ ⟨h49.1, by omega⟩ h54 ht) (by omega)
  have g : ∀ x i : Int, x ≠ 83 → ¬ (110 ≤ x ∧ x ≤ 115) → ρ1 x i = ρ x i := fun x i q1 q2 => h1.1 x i (by omega) (by omega) (by omega)
  have l0 := xt_ln_0 l
  have b49 := h1.2.1
  obtain ⟨ρ2, e2, h2⟩ := r_emit (E := E) (f := f - 1) (ρ := ρ1) (x1 := c) (x2 := 0) (x3 := 0) (x4 := lo) (x6 := hi) ⟨by omega, by omega⟩
  obtain ⟨k1, k2, k3, k4⟩ := gr_one (k := 0) (x := 0) (y := 0) h1 h2 (if_pos rfl).symm
  have i5 : ρ1 105 n = lo := by rw [g _ _ (by decide) (by omega)]; exact n5
  have i6 : ρ1 106 n = hi := by rw [g _ _ (by decide) (by omega)]; exact n6
  have i4 : ρ1 104 n = c := by rw [g _ _ (by decide) (by omega)]; exact n8
  have cc := gc_one (x := 1) c1 (by decide)
  refine ⟨ρ2, v1 + 1, ?_, ⟨k1, by rw [xt_ln5]; omega, by rw [xt_mt5]; exact k3, fun hs' => by rw [xt_cd5]; exact k4 hs'⟩, by rw [xt_cn5, xt_ln5]; exact cc⟩
  rw [b_249_0, w, if_pos (show 0 ≤ n ∧ n < 66000 by omega), n3, s_249_13_5 (by decide), b_249_167, k_249_170 (by omega) e1, b_249_173, w, if_pos (show 0 ≤ n ∧ n < 66000 by omega), i5, i6, i4, js_w_of hr.1.1.1.1 hr.1.1.1.2, js_w_of hr.1.1.2.1 hr.1.1.2.2, k_249_198 (by omega) e2, b_249_201]
theorem gat_9 (hl : gen_P E B S Z K l) : gat_P E B S Z K (tr_n 9 ty lo hi a b c l r) := by
  intro f ρ n t M N m hp hf
  obtain ⟨hk, hn, ⟨heq, hw, hg, hr⟩, h52, h49, h54, ht⟩ := hp
  rw [xt_nd9] at hn
  replace hr := xt_rq heq
  rw [xt_g9] at hg
  rw [xt_w9] at hw
  rw [xt_ln9] at h49
  rw [xt_mt9] at h54
  have ed : xt_dp (tr_n 9 ty lo hi a b c l r) = 2 + xt_dp l := rfl
  rw [ed] at hf
  have d6 := xt_dp_6 l
  obtain ⟨⟨n1, n2, n3, n4, n5, n6⟩, n7, n8, n9⟩ := hn
  have hb := hr.1.2 rfl
  have hnl := xt_nd_in n7 hw.1
  have hrl := xt_r_e hw.1 hr.2.1
  have w : js_w n = n := js_w_of (by omega) (by omega)
  have wl : js_w (ρ 102 n) = ρ 102 n := js_w_of (by omega) (by omega)
  have wb : js_w b = b := js_w_of hb.1 hb.2
  have w1 : js_w (xt_lo l) = xt_lo l := js_w_of hrl.1.1 hrl.1.2
  have w2 : js_w (xt_hi l) = xt_hi l := js_w_of hrl.2.1 hrl.2.2
  obtain ⟨ρ1, v1, e1, h1, c1⟩ := hl (f - 1) ρ (ρ 102 n) t M n 0 (gp_of hk n7 ⟨hw.1, hw.2, hg, hr.2.1⟩ (fun _ _ _ => rfl) ⟨h52.1, by omega⟩ ⟨h49.1, by omega⟩ h54 ht) (by omega)
  have g : ∀ x i : Int, x ≠ 83 → ¬ (110 ≤ x ∧ x ≤ 115) → ρ1 x i = ρ x i := fun x i q1 q2 => h1.1 x i (by omega) (by omega) (by omega)
  have l0 := xt_ln_0 l
  have b49 := h1.2.1
  have m1 : js_w (if b < xt_hi l then xt_hi l else b) = max b (xt_hi l) := by
    by_cases q : b < xt_hi l
    · rw [if_pos q, w2]
      omega
    · rw [if_neg q, wb]
      omega
  have m2 : js_w (if b < xt_lo l then xt_lo l else b) = max b (xt_lo l) := by
    by_cases q : b < xt_lo l
    · rw [if_pos q, w1]
      omega
    · rw [if_neg q, wb]
      omega
  obtain ⟨ρ2, e2, h2⟩ := r_emit (E := E) (f := f - 1) (ρ := ρ1) (x1 := 22) (x2 := b) (x3 := 0) (x4 := max b (xt_lo l)) (x6 := max b (xt_hi l)) ⟨by omega, by omega⟩
  obtain ⟨k1, k2, k3, k4⟩ := gr_one (k := 0) (x := b) (y := 0) h1 h2 (if_pos rfl).symm
  obtain ⟨ρ3, e3, h3⟩ := r_emit (E := E) (f := f - 1) (ρ := ρ2) (x1 := 23) (x2 := c) (x3 := 0) (x4 := lo) (x6 := hi) ⟨by omega, by omega⟩
  have j3 : ρ1 103 n = b := by rw [g _ _ (by decide) (by omega)]; exact n8
  have j5 : ρ1 105 (ρ 102 n) = xt_lo l := by rw [g _ _ (by decide) (by omega)]; exact hnl.2.2.2.1
  have j6 : ρ1 106 (ρ 102 n) = xt_hi l := by rw [g _ _ (by decide) (by omega)]; exact hnl.2.2.2.2
  have f2 : ∀ x i : Int, x ≠ 83 → ¬ (110 ≤ x ∧ x ≤ 115) → ρ2 x i = ρ x i := fun x i q1 q2 => by rw [h2.2.2 x i (by omega) (by omega), g x i q1 q2]
  have i5 : ρ2 105 n = lo := by rw [f2 _ _ (by decide) (by omega)]; exact n5
  have i6 : ρ2 106 n = hi := by rw [f2 _ _ (by decide) (by omega)]; exact n6
  have i4 : ρ2 104 n = c := by rw [f2 _ _ (by decide) (by omega)]; exact n9
  have cc := gc_one (x := 2) c1 (by decide)
  have q3 := h3.1
  refine ⟨ρ3, v1 + 2, ?_, ⟨gx_trans k1 (gm_gx h3) (by omega) (Int.le_refl _), by rw [xt_ln9]; omega, ?_, fun hs' => ?_⟩, by rw [xt_cn9, xt_ln9]; exact cc⟩
  · rw [b_249_0, w, if_pos (show 0 ≤ n ∧ n < 66000 by omega), n3, s_249_13_9 (by decide), b_249_291, k_249_294 (by omega) e1, b_249_297 (by omega), w, if_pos (show 0 ≤ n ∧ n < 66000 by omega), wl, if_pos (show 0 ≤ ρ 102 n ∧ ρ 102 n < 66000 by omega), j3, j5, j6, wb, w1, w2, m1, m2, k_249_341 (by omega) e2, b_249_344, w, if_pos (show 0 ≤ n ∧ n < 66000 by omega), i5, i6, i4, js_w_of hr.1.1.1.1 hr.1.1.1.2, js_w_of hr.1.1.2.1 hr.1.1.2.2, k_249_369 (by omega) e3, b_249_372]
  · rw [xt_mt9, h3.2.2 _ _ (by omega) (by omega)]
    exact k3
  · rw [xt_cd9]
    obtain ⟨a1, a2⟩ := k4 (by omega)
    refine ⟨xr_gy (gy_gm h3) (by omega) a1, ri_gy (gy_gm h3) (by omega) a2, ?_⟩
    have e := gm_ri (k := 0) (x := c) (y := 0) h3 (by omega) (if_pos rfl).symm
    rw [k2] at e
    exact e
end GA
