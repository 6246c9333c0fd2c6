/-! part 99.zzzzl: the reference: an if, all of it -/
/-- an instruction, or a JUMP whose place is still open -/
def rq_P (ρ : js_S) (z : Int) (Q : List Int) (i : Int) (I : xt_I) : Prop := (i ∉ Q ∧ ri_P ρ i I) ∨ (i ∈ Q ∧ I = (24, 0, z, 0, 0, 1, 0) ∧ rj_P ρ i)
theorem rq_ri {ρ : js_S} {z i : Int} {Q : List Int} {I : xt_I} (h : ri_P ρ i I) (hq : i ∉ Q) : rq_P ρ z Q i I := Or.inl ⟨hq, h⟩
theorem rq_gy {n z i : Int} {ρ ρ' : js_S} {Q Q' : List Int} {I : xt_I} (h : gy_R n ρ ρ') (hi : i < n) (hQ : i ∈ Q' ↔ i ∈ Q) (hI : rq_P ρ z Q i I) : rq_P ρ' z Q' i I := by
  rcases hI with ⟨a1, a2⟩ | ⟨a1, a2, a3⟩
  · exact Or.inl ⟨fun hh => a1 (hQ.mp hh), ri_gy h hi a2⟩
  · exact Or.inr ⟨hQ.mpr a1, a2, rj_gy h hi a3⟩
theorem rq_land {ρ ρ' : js_S} {z i : Int} {Q : List Int} {I : xt_I} (hO : ∀ a k : Int, ¬ (a = 112 ∧ k ∈ Q) → ρ' a k = ρ a k) (hz : i ∈ Q → ρ' 112 i = z) (hI : rq_P ρ z Q i I) : ri_P ρ' i I := by
  have e90 : ∀ x : Int, ρ' 90 x = ρ 90 x := fun x => hO _ _ (fun hh => absurd hh.1 (by decide))
  have e53 : ρ' 83 53 = ρ 83 53 := hO _ _ (fun hh => absurd hh.1 (by decide))
  have e : ∀ a : Int, a ≠ 112 → ρ' a i = ρ a i := fun a ha => hO _ _ (fun hh => ha hh.1)
  rcases hI with ⟨a1, b1, b2, b3, b4, b5⟩ | ⟨a1, a2, c1, c2, c3, c4⟩
  · unfold ri_P
    rw [e 111 (by decide), e 113 (by decide), e 114 (by decide), e 115 (by decide), e90, e53, hO 112 i (fun hh => a1 hh.2)]
    exact ⟨b1, b2, b3, b4, b5⟩
  · rw [a2]
    unfold ri_P
    rw [e 111 (by decide), e 113 (by decide), e 114 (by decide), e 115 (by decide), hz a1]
    exact ⟨c1, (if_pos rfl).symm, c2, c3, c4⟩
def gif_P (E : js_E) (B : Int → Int) (S : Int → Prop) (Z K : Int → Int → Prop) (U : Int → Int → Int → Prop) (V : Int → Int → Int → Int → Prop) (s : tr_T) : Prop := ∀ (f : Nat) (ρ : js_S) (n t M N z x1 x3 x5 x7 : Int) (Q0 : List Int) (u9 u10 u12 : js_v), gsq_R B S Z K U V ρ s n t M N 0 → 0 ≤ x3 ∧ x3 ≤ 1000100000000000 * n → 0 ≤ x5 ∧ x5 ≤ 1000100000000000 * n + 1000000000000001 → jw (fun i => ρ 112 i) Q0 (ρ 83 49) x7 → st_dp s ≤ (f : Int) + 1 → ∃ (ρ' : js_S) (x3' x5' x7' : Int) (Q1 : List Int) (v9 v10 v12 : js_v), js_J E f 260 11 [(2, 83), (0, x1), (0, t), (1, x3), (9, 0), (1, x5), (9, 0), (0, x7), (0, n), u9, u10, (9, 0), u12] [] ρ = js_J E f 260 11 [(2, 83), (0, x1), (0, t), (1, x3'), (9, 0), (1, x5'), (9, 0), (0, x7'), (0, -1), v9, v10, (9, 0), v12] [] ρ' ∧ (gx_R (ρ 83 49) (ρ 83 52) ρ ρ' ∧ ρ' 83 49 = ρ 83 49 + st_ln s ∧ ρ' 83 54 = max (ρ 83 54) (st_mt s t)) ∧ (0 ≤ x3' ∧ x3' ≤ 9000000000000000000 ∧ 0 ≤ x5' ∧ x5' ≤ 9000000000000000000) ∧ min 400000 (max x5' x3') = min 400000 (max x5 (x3 + st_cn B s)) ∧ jw (fun i => ρ' 112 i) (Q1 ++ Q0) (ρ' 83 49) x7' ∧ (∀ x : Int, x ∈ Q1 → ρ 83 49 ≤ x) ∧ (ρ' 83 49 ≤ 8192 → st_cd (rq_P ρ' z Q1) s t (ρ 83 49) z)
theorem gif_m0 {x3 x5 v1 vb c1 cb k1 x3' x5' h : Int} (h1 : gc_P c1 k1 v1) (hb : (0 ≤ vb ∧ vb ≤ 1000000000000000) ∧ min 400000 vb = min 400000 cb) (e3 : x3' = x3 + (v1 + 1)) (e5 : x5' = max x5 (x3' + vb + h)) (hx : 0 ≤ x3 ∧ 0 ≤ x5) (hh : 0 ≤ h) : min 400000 (max x5' x3') = min 400000 (max x5 (x3 + (c1 + 1 + max (cb + h) 0))) := by
  unfold gc_P at h1
  omega
theorem gif_m1 {x3 x5 v1 vb c1 cb k1 x3' x5' vr cr x3a h : Int} (h1 : gc_P c1 k1 v1) (hb : (0 ≤ vb ∧ vb ≤ 1000000000000000) ∧ min 400000 vb = min 400000 cb) (e3 : x3' = x3 + (v1 + 1)) (e5 : x5' = max x5 (x3' + vb + h)) (hx : 0 ≤ x3 ∧ 0 ≤ x5) (hh : 0 ≤ h) (hr : 0 ≤ vr ∧ min 400000 vr = min 400000 cr) (ea : x3a = x3' + vr) : min 400000 (max x5' x3a) = min 400000 (max x5 (x3 + (c1 + 1 + max (cb + h) cr))) := by
  unfold gc_P at h1
  omega
theorem gif_m2 {x3 x5 v1 vb c1 cb k1 x3' x5' cr X h : Int} (h1 : gc_P c1 k1 v1) (hb : (0 ≤ vb ∧ vb ≤ 1000000000000000) ∧ min 400000 vb = min 400000 cb) (e3 : x3' = x3 + (v1 + 1)) (e5 : x5' = max x5 (x3' + vb + h)) (hx : 0 ≤ x3 ∧ 0 ≤ x5) (hh : 0 ≤ h) (hX : min 400000 X = min 400000 (max x5' (x3' + cr))) (hc : 0 ≤ cr) : min 400000 X = min 400000 (max x5 (x3 + (c1 + 1 + max (cb + h) cr))) := by
  unfold gc_P at h1
  omega
section GL
variable {E : js_E} {B : Int → Int} {S : Int → Prop} {Z K : Int → Int → Prop} {U : Int → Int → Int → Prop} {V : Int → Int → Int → Int → Prop} {ty lo a b c ty2 lo2 a2 b2 c2 : Int} {l k r : tr_T}
/-- nothing follows -/
theorem gif_0 (hk0 : gli_P E B S Z K U V k) : gif_P E B S Z K U V (tr_n 26 ty lo 0 a b c l (tr_n 92 ty2 lo2 0 a2 b2 c2 k .leaf)) := by
  intro f ρ n t M N z x1 x3 x5 x7 Q0 u9 u10 u12 hp hx3 hx5 hj hf
  obtain ⟨hk, hn, ⟨hw, hg, hr⟩, h52, h49, h54, ht⟩ := hp
  rw [st_nd26, st_nd92] at hn
  rw [st_g26, st_g92] at hg
  rw [st_w26, st_w92] at hw
  rw [st_r26, st_r92] at hr
  rw [st_ln26, st_ln92, if_neg (by decide)] at h49
  rw [st_mt26, st_mt92] at h54
  have e0 : st_ln (.leaf : tr_T) = 0 := rfl
  have e1 : st_mt (.leaf : tr_T) t = 0 := rfl
  have e2 : st_cn B (.leaf : tr_T) = 0 := rfl
  rw [e0] at h49
  rw [e1] at h54
  have ed : st_dp (tr_n 26 ty lo 0 a b c l (tr_n 92 ty2 lo2 0 a2 b2 c2 k .leaf)) = 2 + max (xt_dp l) (max (st_dp k) 8) := rfl
  rw [ed] at hf
  obtain ⟨n1, n2, n3, n4, _, n7, _, _, n8, _⟩ := hn
  have hfl : xt_dp l + 1 ≤ f ∧ st_dp k + 1 ≤ f := by omega
  have hmt : xt_mt l t ≤ 1024 ∧ st_mt k t ≤ 1024 := by omega
  obtain ⟨ρ1, y3, y5, y7, o, vb, w12, eh, ⟨X1, b1, m1⟩, ⟨v1, vb', c1, cb, ey3, ey5⟩, jq, code⟩ := gif_hd (x1 := x1) (x3 := x3) (x5 := x5) (x7 := x7) (h := 0) (u9 := u9) (u10 := u10) (u12 := u12) hk0 hk n4 rfl (by omega) ⟨n1.1, n2⟩ n7 n8 ⟨hw.1, hw.2.1, hg.1, hr.1⟩ ⟨hw.2.2.2.2.2.1, hg.2.1, hr.2.1⟩ h52 ⟨h49.1, by omega⟩ ⟨h54.1, h54.2.1, hmt.1, hmt.2⟩ ht ⟨hx3.1, by omega, hx5.1, by omega⟩ hfl hj
  have w : js_w n = n := js_w_of (by omega) (by omega)
  have hn6 : 0 ≤ n ∧ n < 66000 := by omega
  have i106 : ρ1 106 n = 0 := by rw [X1 _ _ (by omega) (by omega) (by omega)]; exact n4
  have l1 := xt_ln_0 l
  have l2 := st_ln_0 k
  have v1b := c1.1
  have vbb := cb.1
  rw [if_neg (by decide)] at jq
  refine ⟨ρ1, y3, y5, y7, [], (0, o), (1, vb), (0, w12), ?_, ⟨X1, by rw [st_ln26, st_ln92, if_neg (by decide), e0]; omega, by rw [st_mt26, st_mt92, e1, m1]; omega⟩, ⟨by omega, by omega, by omega, by omega⟩, ?_, jq, fun x hx => absurd hx (fun h => by cases h), fun hs => ?_⟩
  · rw [eh, b_260_118, w, if_pos hn6, i106, if_neg (show ¬ js_w 0 = 1 by decide), b_260_144, w, if_pos hn6, i106, if_neg (show ¬ js_w 0 = 2 by decide), b_260_166]
  · rw [st_cn26, st_cn92, if_neg (by decide), e2]
    exact gif_m0 c1 cb ey3 ey5 ⟨hx3.1, hx5.1⟩ (Int.le_refl _)
  · obtain ⟨p1, p2, p3, _⟩ := code hs
    have nq : ∀ i : Int, i ∉ ([] : List Int) := fun i h => by cases h
    rw [st_cd26, st_cd92, if_neg (by decide)]
    have ex : st_ln (xt_l (tr_n 92 ty2 lo2 0 a2 b2 c2 k .leaf)) = st_ln k := rfl
    rw [ex]
    exact ⟨xt_cd_of l _ _ (fun i I _ _ hI => rq_ri hI (nq i)) p1, rq_ri p2 (nq _), st_cd_of k _ _ _ (fun i I _ _ hI => rq_ri hI (nq i)) p3, fun h0 => absurd h0 (by decide), trivial⟩
theorem rq_Q {ρ : js_S} {z i : Int} {Q Q' : List Int} {I : xt_I} (hQ : i ∈ Q' ↔ i ∈ Q) (hI : rq_P ρ z Q i I) : rq_P ρ z Q' i I := by
  rcases hI with ⟨a1, a2⟩ | ⟨a1, a2, a3⟩
  · exact Or.inl ⟨fun hh => a1 (hQ.mp hh), a2⟩
  · exact Or.inr ⟨hQ.mpr a1, a2, a3⟩
/-- else and a BLOCK follow -/
theorem gif_1 (hk0 : gli_P E B S Z K U V k) (hr0 : gli_P E B S Z K U V r) : gif_P E B S Z K U V (tr_n 26 ty lo 1 a b c l (tr_n 92 ty2 lo2 1 a2 b2 c2 k r)) := by
  intro f ρ n t M N z x1 x3 x5 x7 Q0 u9 u10 u12 hp hx3 hx5 hj hf
  obtain ⟨hk, hn, ⟨hw, hg, hr⟩, h52, h49, h54, ht⟩ := hp
  rw [st_nd26, st_nd92] at hn
  rw [st_g26, st_g92] at hg
  rw [st_w26, st_w92] at hw
  rw [st_r26, st_r92] at hr
  rw [st_ln26, st_ln92, if_pos (by decide)] at h49
  rw [st_mt26, st_mt92] at h54
  have ed : st_dp (tr_n 26 ty lo 1 a b c l (tr_n 92 ty2 lo2 1 a2 b2 c2 k r)) = 2 + max (xt_dp l) (max (st_dp k) (st_dp r)) := rfl
  rw [ed] at hf
  obtain ⟨n1, n2, n3, n4, _, n7, _, _, n8, n9⟩ := hn
  have hfl : xt_dp l + 1 ≤ f ∧ st_dp k + 1 ≤ f ∧ st_dp r + 1 ≤ f := by omega
  have hmt : xt_mt l t ≤ 1024 ∧ st_mt k t ≤ 1024 ∧ st_mt r t ≤ 1024 := by omega
  have l1 := xt_ln_0 l
  have l2 := st_ln_0 k
  have l3 := st_ln_0 r
  obtain ⟨ρ1, y3, y5, y7, o, vb, w12, eh, ⟨X1, b1, m1⟩, ⟨v1, vb', c1, cb, ey3, ey5⟩, jq, code⟩ := gif_hd (x1 := x1) (x3 := x3) (x5 := x5) (x7 := x7) (h := 1) (u9 := u9) (u10 := u10) (u12 := u12) hk0 hk n4 rfl (by omega) ⟨n1.1, n2⟩ n7 n8 ⟨hw.1, hw.2.1, hg.1, hr.1⟩ ⟨hw.2.2.2.2.2.1, hg.2.1, hr.2.1⟩ h52 ⟨h49.1, by omega⟩ ⟨h54.1, h54.2.1, hmt.1, hmt.2.1⟩ ht ⟨hx3.1, by omega, hx5.1, by omega⟩ ⟨hfl.1, hfl.2.1⟩ hj
  have w : js_w n = n := js_w_of (by omega) (by omega)
  have hn6 : 0 ≤ n ∧ n < 66000 := by omega
  have d7 := st_dp_7 r
  have i106 : ρ1 106 n = 1 := by rw [X1 _ _ (by omega) (by omega) (by omega)]; exact n4
  have i104 : ρ1 104 n = ρ 104 n := X1 _ _ (by omega) (by omega) (by omega)
  have q1 : ρ1 83 52 = ρ 83 52 := X1 _ _ (by omega) (by omega) (by omega)
  have m1' : 0 ≤ ρ1 83 54 ∧ ρ1 83 54 ≤ 1024 := by omega
  obtain ⟨ρ2, vr, e2, ⟨g2, b2', m2, d2⟩, cr, cr'⟩ := gli_call (z := z) hr0 (f := f - 1) (ρ := ρ1) (n := ρ 104 n) (t := t) (M := n + 1) (N := N) ⟨gsk_fr hk (fun x i q => X1 x i (by omega) (by omega) (by omega)), st_nd_fr n9 (fun x i q1 q2 => X1 x i (by omega) (by omega) (by omega)), ⟨hw.2.2.2.2.2.2.2, hg.2.2, hr.2.2⟩, ⟨by omega, by omega⟩, ⟨by omega, by omega⟩, ⟨m1'.1, m1'.2, hmt.2.2⟩, ht⟩ (by omega)
  rw [q1] at g2
  have X2 : gx_R (ρ 83 49) (ρ 83 52) ρ ρ2 := gx_trans X1 g2 (by omega) (Int.le_refl _)
  have i106' : ρ2 106 n = 1 := by rw [X2 _ _ (by omega) (by omega) (by omega)]; exact n4
  have v1b := c1.1
  have vbb := cb.1
  rw [if_pos rfl] at jq
  refine ⟨ρ2, y3 + vr, y5, y7, [ρ 83 49 + xt_ln l + 1 + st_ln k], (0, o), (1, vb), (0, w12), ?_, ⟨X2, by rw [st_ln26, st_ln92, if_pos (by decide)]; omega, by rw [st_mt26, st_mt92, m2, m1]; omega⟩, ⟨by omega, by omega, by omega, by omega⟩, ?_, ?_, fun x hx => ?_, fun hs => ?_⟩
  · rw [eh, b_260_118, w, if_pos hn6, i106, if_pos (show js_w 1 = 1 by decide), i104, k_260_139 (by omega) e2, b_260_142, b_260_144, w, if_pos hn6, i106', if_neg (show ¬ js_w 1 = 2 by decide), b_260_166]
  · rw [st_cn26, st_cn92, if_pos (by decide)]
    exact gif_m1 c1 cb ey3 ey5 ⟨hx3.1, hx5.1⟩ (by decide) ⟨cr.1, cr'⟩ rfl
  · refine jw_up _ (jw_of _ _ _ (fun i hi' => ?_) jq) (by omega)
    show ρ2 112 i = ρ1 112 i
    exact g2 _ _ (by omega) (by omega) (by omega)
  · have := List.mem_singleton.mp hx
    omega
  · obtain ⟨p1, p2, p3, p4⟩ := code (by omega)
    have y12 : gy_R (ρ1 83 49) ρ1 ρ2 := gy_gx g2
    have nq : ∀ i : Int, i ≠ ρ 83 49 + xt_ln l + 1 + st_ln k → i ∉ [ρ 83 49 + xt_ln l + 1 + st_ln k] := fun i h h2 => h (List.mem_singleton.mp h2)
    rw [st_cd26, st_cd92, if_pos (by decide)]
    have ex : st_ln (xt_l (tr_n 92 ty2 lo2 1 a2 b2 c2 k r)) = st_ln k := rfl
    rw [ex]
    refine ⟨xt_cd_of l _ _ (fun i I _ _ hI => rq_ri (ri_gy y12 (by omega) hI) (nq i (by omega))) p1, rq_ri (ri_gy y12 (by omega) p2) (nq _ (by omega)), st_cd_of k _ _ _ (fun i I _ _ hI => rq_ri (ri_gy y12 (by omega) hI) (nq i (by omega))) p3, fun _ => Or.inr ⟨List.mem_singleton.mpr rfl, rfl, rj_gy y12 (by omega) (p4 rfl)⟩, ?_⟩
    have e := d2 hs
    rw [b1] at e
    exact st_cd_of r _ _ _ (fun i I _ _ hI => rq_ri hI (nq i (by omega))) e
end GL
