/-! part 99.zzzzm: the reference: else if; the statement if -/
theorem st_nd_26 {ρ : js_S} {s : tr_T} {M N n m : Int} (h : st_nd ρ s M N n m) (hk : xt_k s = 26) : (0 ≤ n ∧ M ≤ n) ∧ n < N := by
  cases s with
  | leaf =>
    have : xt_k (Std.DTreeMap.Internal.Impl.leaf : tr_T) = 0 := rfl
    omega
  | inner z d v l r =>
    have hd : d.1 = 26 := hk
    rw [st_nd, if_neg (by omega), if_neg (by omega), if_neg (by omega), if_neg (by omega), if_neg (by omega), if_neg (by omega), if_neg (by omega), if_pos hd] at h
    exact ⟨h.1, h.2.1⟩
theorem r_bound' {E : js_E} {f : Nat} {ρ : js_S} {x : Int} (h : 0 ≤ x ∧ x ≤ 9000000000000000000) : js_J E f 253 0 [(1, x), (9, 0)] [] ρ = js_r E (1, min 1000000000000000 x) ρ := by
  rw [b_253_0, js_l_of (x := x) (by omega) (by omega)]
  by_cases q : 1000000000000000 < x
  · rw [if_pos q, show min 1000000000000000 x = 1000000000000000 by omega]
  · rw [if_neg q, show min 1000000000000000 x = x by omega]
section GM
variable {E : js_E} {B : Int → Int} {S : Int → Prop} {Z K : Int → Int → Prop} {U : Int → Int → Int → Prop} {V : Int → Int → Int → Int → Prop} {ty lo hi a b c ty2 lo2 a2 b2 c2 : Int} {l k r : tr_T}
theorem gif_mm {a x y z : Int} : max (max a (max x y)) z = max a (max x (max y z)) := by omega
/-- else if follows -/
theorem gif_2 (hk0 : gli_P E B S Z K U V k) (hr0 : gif_P E B S Z K U V r) (hkr : xt_k r = 26) (hc : 0 ≤ st_cn B r) : gif_P E B S Z K U V (tr_n 26 ty lo 2 a b c l (tr_n 92 ty2 lo2 2 a2 b2 c2 k r)) := by
  intro f ρ n t M N z x1 x3 x5 x7 Q0 u9 u10 u12 hp hx3 hx5 hj hf
  obtain ⟨hk, hn, ⟨hw, hg, hr⟩, h52, h49, h54, ht⟩ := hp
  rw [st_nd26, st_nd92] at hn
  rw [st_g26, st_g92] at hg
  rw [st_w26, st_w92] at hw
  rw [st_r26, st_r92] at hr
  rw [st_ln26, st_ln92, if_pos (by decide)] at h49
  rw [st_mt26, st_mt92] at h54
  have ed : st_dp (tr_n 26 ty lo 2 a b c l (tr_n 92 ty2 lo2 2 a2 b2 c2 k r)) = 2 + max (xt_dp l) (max (st_dp k) (st_dp r - 2)) := rfl
  rw [ed] at hf
  obtain ⟨n1, n2, n3, n4, _, n7, _, _, n8, n9⟩ := hn
  have n9' := st_nd_26 n9 hkr
  have hfl : xt_dp l + 1 ≤ f ∧ st_dp k + 1 ≤ f ∧ st_dp r ≤ (f : Int) + 1 := by omega
  have hmt : xt_mt l t ≤ 1024 ∧ st_mt k t ≤ 1024 ∧ st_mt r t ≤ 1024 := by omega
  have h54' : 0 ≤ ρ 83 54 ∧ ρ 83 54 ≤ 1024 := ⟨h54.1, h54.2.1⟩
  clear hf ed h54
  have l1 := xt_ln_0 l
  have l2 := st_ln_0 k
  have l3 := st_ln_0 r
  obtain ⟨ρ1, y3, y5, y7, o, vb, w12, eh, ⟨X1, b1, m1⟩, ⟨v1, vb', c1, cb, ey3, ey5⟩, jq, code⟩ := gif_hd (x1 := x1) (x3 := x3) (x5 := x5) (x7 := x7) (h := 1) (u9 := u9) (u10 := u10) (u12 := u12) hk0 hk n4 rfl (by omega) ⟨n1.1, n2⟩ n7 n8 ⟨hw.1, hw.2.1, hg.1, hr.1⟩ ⟨hw.2.2.2.2.2.1, hg.2.1, hr.2.1⟩ h52 ⟨h49.1, by omega⟩ ⟨h54'.1, h54'.2, hmt.1, hmt.2.1⟩ ht ⟨hx3.1, by omega, hx5.1, by omega⟩ ⟨hfl.1, hfl.2.1⟩ hj
  have m1' : 0 ≤ ρ1 83 54 ∧ ρ1 83 54 ≤ 1024 := by
    clear code jq ey5 ey3 hj
    omega
  have yb : (0 ≤ y3 ∧ y3 ≤ 1000100000000000 * (n + 1)) ∧ 0 ≤ y5 ∧ y5 ≤ 1000100000000000 * (n + 1) + 1000000000000001 := by
    have v1b := c1.1
    have vbb := cb.1
    clear code jq m1 hj
    omega
  replace m1 := hi_i m1
  replace ey5 := hi_i ey5
  replace cb := hi_i cb
  replace code := hi_i code
  have w : js_w n = n := js_w_of (by omega) (by omega)
  have hn6 : 0 ≤ n ∧ n < 66000 := by omega
  have i106 : ρ1 106 n = 2 := by rw [X1 _ _ (by omega) (by omega) (by omega)]; exact n4
  have i104 : ρ1 104 n = ρ 104 n := X1 _ _ (by omega) (by omega) (by omega)
  have q1 : ρ1 83 52 = ρ 83 52 := X1 _ _ (by omega) (by omega) (by omega)
  rw [if_pos rfl] at jq
  obtain ⟨ρ2, z3, z5, z7, Q1, u1, u2, u3, e2, ⟨g2, b2', m2⟩, zb, cn2, jq2, hQ1, d2⟩ := hr0 f ρ1 (ρ 104 n) t (n + 1) N z x1 y3 y5 y7 ([ρ 83 49 + xt_ln l + 1 + st_ln k] ++ Q0) (0, o) (1, vb) (0, w12) ⟨gsk_fr hk (fun x i q => X1 x i (by omega) (by omega) (by omega)), st_nd_fr n9 (fun x i q1 q2 => X1 x i (by omega) (by omega) (by omega)), ⟨hw.2.2.2.2.2.2.2, hg.2.2, hr.2.2⟩, ⟨by omega, by omega⟩, ⟨by omega, by omega⟩, ⟨m1'.1, m1'.2, hmt.2.2⟩, ht⟩ ⟨by omega, by omega⟩ ⟨by omega, by omega⟩ jq hfl.2.2
  replace m2 := hi_i m2
  replace cn2 := hi_i cn2
  replace d2 := hi_i d2
  rw [q1] at g2
  have X2 : gx_R (ρ 83 49) (ρ 83 52) ρ ρ2 := gx_trans X1 g2 (by omega) (Int.le_refl _)
  refine ⟨ρ2, z3, z5, z7, Q1 ++ [ρ 83 49 + xt_ln l + 1 + st_ln k], u1, u2, u3, ?_, ⟨X2, by rw [st_ln26, st_ln92, if_pos (by decide)]; omega, by rw [st_mt26, st_mt92, hi_e m2, hi_e m1]; exact gif_mm⟩, zb, ?_, ?_, fun x hx => ?_, fun hs => ?_⟩
  · rw [eh, b_260_118, w, if_pos hn6, i106, if_neg (show ¬ js_w 2 = 1 by decide), b_260_144, w, if_pos hn6, i106, if_pos (show js_w 2 = 2 by decide), b_260_166, i104]
    exact e2
  · rw [st_cn26, st_cn92, if_pos (by decide)]
    exact gif_m2 c1 (hi_e cb) ey3 (hi_e ey5) ⟨hx3.1, hx5.1⟩ (by decide) (hi_e cn2) hc
  · rw [List.append_assoc]
    exact jq2
  · rcases List.mem_append.mp hx with h | h
    · have := hQ1 x h
      omega
    · have := List.mem_singleton.mp h
      omega
  · obtain ⟨p1, p2, p3, p4⟩ := hi_e code (by omega)
    have y12 : gy_R (ρ1 83 49) ρ1 ρ2 := gy_gx g2
    have nq : ∀ i : Int, i < ρ 83 49 + xt_ln l + 1 + st_ln k → i ∉ Q1 ++ [ρ 83 49 + xt_ln l + 1 + st_ln k] := fun i h h2 => by
      rcases List.mem_append.mp h2 with h3 | h3
      · have := hQ1 i h3
        omega
      · have := List.mem_singleton.mp h3
        omega
    rw [st_cd26, st_cd92, if_pos (by decide)]
    have ex : st_ln (xt_l (tr_n 92 ty2 lo2 2 a2 b2 c2 k r)) = st_ln k := rfl
    rw [ex]
    refine ⟨xt_cd_of l _ _ (fun i I _ _ hI => rq_ri (ri_gy y12 (by omega) hI) (nq i (by omega))) p1, rq_ri (ri_gy y12 (by omega) p2) (nq _ (by omega)), st_cd_of k _ _ _ (fun i I _ _ hI => rq_ri (ri_gy y12 (by omega) hI) (nq i (by omega))) p3, fun _ => Or.inr ⟨List.mem_append.mpr (Or.inr (List.mem_singleton.mpr rfl)), rfl, rj_gy y12 (by omega) (p4 rfl)⟩, ?_⟩
    have e := hi_e d2 hs
    rw [b1] at e
    refine st_cd_of r _ _ _ (fun i I g1 _ hI => rq_Q ⟨fun h => ?_, fun h => List.mem_append.mpr (Or.inl h)⟩ hI) e
    rcases List.mem_append.mp h with h3 | h3
    · exact h3
    · have := List.mem_singleton.mp h3
      omega
theorem gif_v {x3 x5 c k : Int} (hb : 0 ≤ x3 ∧ x3 ≤ 9000000000000000000 ∧ 0 ≤ x5 ∧ x5 ≤ 9000000000000000000) (h : min 400000 (max x5 x3) = min 400000 (max 0 (0 + c))) (hc : 0 ≤ c) (hk : 0 ≤ k) : gsc_P c k (min 1000000000000000 (if x3 < x5 then x5 else x3)) := by
  unfold gsc_P
  split <;> omega
theorem gst_26 (h : gif_P E B S Z K U V (tr_n 26 ty lo hi a b c l r)) (hc : 0 ≤ st_cn B (tr_n 26 ty lo hi a b c l r)) : gst_P E B S Z K U V (tr_n 26 ty lo hi a b c l r) := by
  intro f ρ n t M N hp hf
  have hn := st_nd_26 hp.2.1 rfl
  have h52 := hp.2.2.2.1
  have h49 := hp.2.2.2.2.1
  have d7 := st_dp_7 (tr_n 26 ty lo hi a b c l r)
  have l0 := st_ln_0 (tr_n 26 ty lo hi a b c l r)
  have n3 : ρ 100 n = 26 := by
    have e := hp.2.1
    rw [st_nd26] at e
    exact e.2.2.1
  have w : js_w n = n := js_w_of (by omega) (by omega)
  have hn6 : 0 ≤ n ∧ n < 66000 := by omega
  obtain ⟨ρ1, x3, x5, x7, Q1, v9, v10, v12, e1, ⟨g1, b1, m1⟩, xb, cn1, jq, hQ, d1⟩ := h (f - 1) ρ n t M N (ρ 83 49 + st_ln (tr_n 26 ty lo hi a b c l r)) n 0 0 (-1) [] (9, 0) (9, 0) (9, 0) hp ⟨Int.le_refl _, by omega⟩ ⟨Int.le_refl _, by omega⟩ rfl (by omega)
  rw [List.append_nil] at jq
  obtain ⟨ρ2, e2, hO, hv⟩ := r_landAll (E := E) (f := f - 1 - 1) jq (by omega)
  have o83 : ∀ i : Int, ρ2 83 i = ρ1 83 i := fun i => hO _ _ (fun hh => absurd hh.1 (by decide))
  have X2 : gx_R (ρ 83 49) (ρ 83 52) ρ ρ2 := fun x i q1 q2 q3 => by
    rw [hO x i (fun hh => q3 ⟨by omega, by omega, hQ i hh.2⟩), g1 x i q1 q2 q3]
  have w3 : js_l x3 = x3 := js_l_of (by omega) (by omega)
  have w5 : js_l x5 = x5 := js_l_of (by omega) (by omega)
  have vb : 0 ≤ (if x3 < x5 then x5 else x3) ∧ (if x3 < x5 then x5 else x3) < 9000000000000000001 := by split <;> omega
  have cc := gif_v (k := st_ln (tr_n 26 ty lo hi a b c l r)) xb cn1 hc l0
  have vb' : 0 ≤ (if x3 < x5 then x5 else x3) ∧ (if x3 < x5 then x5 else x3) ≤ 9000000000000000000 := by omega
  refine ⟨ρ2, _, ?_, ⟨X2, by rw [o83]; exact b1, by rw [o83]; exact m1, fun hs => ?_⟩, cc⟩
  · have e260 : js_J E (f - 1) 260 0 [(2, 83), (0, n), (0, t), (9, 0), (9, 0), (9, 0), (9, 0), (9, 0), (9, 0), (9, 0), (9, 0), (9, 0), (9, 0)] [] ρ = js_r E (1, min 1000000000000000 (if x3 < x5 then x5 else x3)) ρ2 := by
      rw [b_260_0, e1, b_260_11, if_pos (show js_w (-1) < 0 by decide), k_260_174 (by omega) e2, b_260_177 (by omega), w3, w5, k_260_183 (by omega) (r_bound' vb'), b_260_186]
    rw [b_247_0, w, if_pos hn6, n3, s_247_13_26 (by decide), b_247_345, k_247_348 (by omega) e260, b_247_351]
  · rw [o83] at hs
    refine st_cd_of _ _ _ _ (fun i I _ _ hI => rq_land hO (fun hi' => ?_) hI) (d1 hs)
    rw [hv hs i hi', b1]
end GM
