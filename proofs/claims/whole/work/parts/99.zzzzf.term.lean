/-! part 99.zzzzf: the code of every TERM -/
theorem xt_mt_na (e : tr_T) : xt_w e → (e = .leaf ∨ xt_k e = 11) → ∀ t : Int, xt_na e = 0 ∨ t + xt_na e ≤ xt_mt e t := by
  induction e with
  | leaf => intro _ _ t; exact Or.inl rfl
  | inner z d v l r ihl ihr =>
    intro hw hk t
    have k11 : d.1 = 11 := by
      rcases hk with h | h
      · exact absurd h (by simp)
      · exact h
    have ea : xt_na (.inner z d v l r) = 1 + xt_na r := rfl
    rw [xt_w, if_neg (by omega), if_neg (by omega), if_neg (by omega), if_neg (by omega), if_neg (by omega), if_pos k11] at hw
    rw [ea, xt_mt, if_neg (by omega), if_neg (by omega), if_neg (by omega)]
    have h := ihr hw.2.2.2 hw.2.2.1 (t + 1)
    have na := xt_na_0 r
    omega
def xt_rt : tr_T → tr_T
  | .leaf => .leaf
  | .inner _ _ _ _ r => r
section GF
variable {E : js_E} {B : Int → Int} {S : Int → Prop} {Z K : Int → Int → Prop} {ty lo hi a b c : Int} {l r : tr_T}
theorem gat_10 (hc : gch_P E B S Z K l) (hs : gps_P E l) : gat_P E B S Z K (tr_n 10 ty lo hi a b c l r) := by
  intro f ρ n t M N m hp hf
  obtain ⟨hk, hn, ⟨_, hw, hg, hr⟩, h52, h49, h54, ht⟩ := hp
  rw [xt_nd10] at hn
  rw [xt_r_n] at hr
  rw [xt_g10] at hg
  rw [xt_w10] at hw
  rw [xt_ln10] at h49
  rw [xt_mt10] at h54
  have ed : xt_dp (tr_n 10 ty lo hi a b c l r) = 3 + xt_dp l := rfl
  rw [ed] at hf
  have d6 := xt_dp_6 l
  obtain ⟨⟨n1, n2, n3, n4, n5, n6⟩, n7, n8⟩ := hn
  obtain ⟨⟨a0, a4⟩, aB, B0, B4⟩ := hk.2.2 a (xt_na l) hg.1
  have l1 := xt_ln_0 l
  have na := xt_na_0 l
  have w : js_w n = n := js_w_of (by omega) (by omega)
  have wa : js_w a = a := js_w_of (by omega) (by omega)
  have wB : js_w (B a) = B a := js_w_of (by omega) (by omega)
  have hn6 : 0 ≤ n ∧ n < 66000 := by omega
  have ha4 : 0 ≤ a ∧ a < 400 := by omega
  obtain ⟨ρ1, v, e1, ⟨g1, k1, t1, d1⟩, c1⟩ := hc (f - 1) ρ (ρ 103 n) t n t a 0 0 M n (by omega) ⟨hk, n8, ⟨hw.2, hg.2, hr.2.1⟩, ⟨h52.1, by omega⟩, ⟨h49.1, by omega⟩, h54, ht⟩ (by omega)
  rw [Int.zero_add, Int.zero_add] at e1
  have hmn := xt_mt_na l hw.2 hw.1 t
  have q1 : ρ1 83 52 = ρ 83 52 := g1 _ _ (by omega) (by omega) (by omega)
  obtain ⟨ρ2, e2, g2, k2, m2, d2⟩ := hs (f - 1) ρ1 (ρ 103 n) t (a + 1) n t a v 0 M n (by omega) (by omega) (xt_nd_fr n8 (fun z i x1 x2 => g1 z i (by omega) (by omega) (by omega))) (by omega) ⟨hw.2, hr.2.1⟩ ⟨by omega, by omega⟩ ⟨by omega, by omega⟩ ⟨by omega, by omega, by omega⟩ ht.1 (by omega)
  rw [Int.zero_add] at e2
  rw [q1] at g2
  have X2 : gx_R (ρ 83 49) (ρ 83 52) ρ ρ2 := gx_trans g1 g2 (by omega) (Int.le_refl _)
  obtain ⟨ρ3, e3, h3⟩ := r_plain (E := E) (f := f - 1 - 1) (ρ := ρ2) (x1 := 27) (x2 := ρ2 90 a) (x3 := 0) (by omega) ⟨by omega, by omega⟩
  have k3 := h3.1
  have X3 : gx_R (ρ 83 49) (ρ 83 52) ρ ρ3 := gx_trans X2 (gm_gx h3) (by omega) (Int.le_refl _)
  have i103 : ρ1 103 n = ρ 103 n := g1 _ _ (by omega) (by omega) (by omega)
  have i95 : ρ3 95 a = B a := by rw [X3 _ _ (by omega) (by omega) (by omega)]; exact aB
  have cc := gtt_10 (n := xt_ln l + 2 * xt_na l + 1) c1 ⟨na, by omega⟩ ⟨B0, B4⟩ (by omega)
  have vb := gtt_10b c1 ⟨na, by omega⟩ ⟨B0, B4⟩
  have e254 : js_J E (f - 1) 254 0 [(2, 83), (0, n), (0, t), (9, 0), (9, 0), (9, 0), (9, 0), (9, 0)] [] ρ = js_r E (1, min 1000000000000000 (v + 1 + B a)) ρ3 := by
    rw [b_254_0, w, if_pos hn6, n7, e1, b_254_21, if_pos (show js_w (-1) < 0 by decide), w, if_pos hn6, i103, e2, b_254_86, if_pos (show js_w (-1) < 0 by decide), wa, if_pos ha4, k_254_144 (by omega) e3, b_254_147, wa, if_pos ha4, i95, wB, k_254_160 (by omega) (r_bound vb), b_254_163]
  refine ⟨ρ3, min 1000000000000000 (v + 1 + B a), ?_, ⟨X3, by rw [xt_ln10]; omega, ?_, fun hs' => ?_⟩, by rw [xt_cn10, xt_ln10]; exact cc⟩
  · rw [b_249_0, w, if_pos hn6, n3, s_249_13_d (Or.inr (by decide)), b_249_380, k_249_383 (by omega) e254, b_249_386]
  · rw [xt_mt10, h3.2.2 _ _ (by omega) (by omega), m2, t1]
  · rw [xt_cd10]
    have y12 : gy_R (ρ 83 49 + xt_ln l) ρ1 ρ2 := gy_mono (gy_gx g2) (by omega)
    have y23 : gy_R (ρ 83 49 + xt_ln l + 2 * xt_na l) ρ2 ρ3 := gy_mono (gy_gm h3) (by omega)
    refine ⟨xr_gy (gy_trans y12 y23 (by omega)) (Int.le_refl _) (d1 (by omega)), ?_, ?_⟩
    · have e := d2 (by omega)
      rw [k1] at e
      exact xt_ps_of l _ _ _ (fun i I x1 x2 hI => ri_gy y23 (by omega) hI) e
    · have e := gm_ri (k := 3) (x := a) (y := 0) h3 (by omega) (by rw [if_neg (by decide), if_neg (by decide), if_neg (by decide)])
      rw [k2, k1] at e
      exact e
/-- every tree -/
theorem gen_all (e : tr_T) : xt_w e → (xt_e e → gsp_P E B S Z K e) ∧ (xt_k e = 80 → gen_P E B S Z K (xt_l e) ∧ gen_P E B S Z K (xt_rt e)) ∧ ((e = .leaf ∨ xt_k e = 11) → gch_P E B S Z K e ∧ gps_P E e) := by
  induction e with
  | leaf =>
    intro _
    refine ⟨fun he => ?_, fun h => ?_, fun _ => ⟨gch_0, gps_0⟩⟩
    · unfold xt_e at he
      have : xt_k (Std.DTreeMap.Internal.Impl.leaf : tr_T) = 0 := rfl
      omega
    · have : xt_k (Std.DTreeMap.Internal.Impl.leaf : tr_T) = 0 := rfl
      omega
  | inner z d v l r ihl ihr =>
    intro hw
    obtain ⟨k, ty, lo, hi, a, b, c⟩ := d
    have ek : xt_k (.inner z (k, ty, lo, hi, a, b, c) v l r) = k := rfl
    refine ⟨fun he => ?_, fun h => ?_, fun h => ?_⟩
    · unfold xt_e at he
      rw [ek] at he
      by_cases q1 : k = 1
      · subst q1
        have h : gsp_P E B S Z K (tr_n 1 ty lo hi a b c l r) := gsp_at gat_1 ⟨show (1 : Int) ≠ 4 by decide, show (1 : Int) ≠ 6 by decide, show (1 : Int) ≠ 7 by decide⟩
        exact h
      by_cases q2 : k = 2
      · subst q2
        have h : gsp_P E B S Z K (tr_n 2 ty lo hi a b c l r) := gsp_at gat_2 ⟨show (2 : Int) ≠ 4 by decide, show (2 : Int) ≠ 6 by decide, show (2 : Int) ≠ 7 by decide⟩
        exact h
      by_cases q3 : k = 3
      · subst q3
        have hw2 : xt_w (tr_n 3 ty lo hi a b c l r) := hw
        rw [xt_w3] at hw2
        have h : gsp_P E B S Z K (tr_n 3 ty lo hi a b c l r) := gsp_at (gat_3 (gen_of ((ihl hw2.2).1 hw2.1))) ⟨show (3 : Int) ≠ 4 by decide, show (3 : Int) ≠ 6 by decide, show (3 : Int) ≠ 7 by decide⟩
        exact h
      by_cases q4 : k = 4
      · subst q4
        have hw2 : xt_w (tr_n 4 ty lo hi a b c l r) := hw
        rw [xt_w4] at hw2
        have h : gsp_P E B S Z K (tr_n 4 ty lo hi a b c l r) := gsp_4 ((ihl hw2.2.1).1 hw2.1) (gen_of ((ihr hw2.2.2.2).1 hw2.2.2.1))
        exact h
      by_cases q5 : k = 5
      · subst q5
        have hw2 : xt_w (tr_n 5 ty lo hi a b c l r) := hw
        rw [xt_w5] at hw2
        have h : gsp_P E B S Z K (tr_n 5 ty lo hi a b c l r) := gsp_at (gat_5 (gen_of ((ihl hw2.2).1 hw2.1))) ⟨show (5 : Int) ≠ 4 by decide, show (5 : Int) ≠ 6 by decide, show (5 : Int) ≠ 7 by decide⟩
        exact h
      by_cases q6 : k = 6
      · subst q6
        have hw2 : xt_w (tr_n 6 ty lo hi a b c l r) := hw
        rw [xt_w6] at hw2
        have h : gsp_P E B S Z K (tr_n 6 ty lo hi a b c l r) := gsp_6 ((ihl hw2.2.1).1 hw2.1) (gen_of ((ihr hw2.2.2.2).1 hw2.2.2.1))
        exact h
      by_cases q7 : k = 7
      · subst q7
        have hw2 : xt_w (tr_n 7 ty lo hi a b c l r) := hw
        rw [xt_w7] at hw2
        have h : gsp_P E B S Z K (tr_n 7 ty lo hi a b c l r) := gsp_7 ((ihl hw2.2.1).1 hw2.1) (gen_of ((ihr hw2.2.2.2).1 hw2.2.2.1))
        exact h
      by_cases q8 : k = 8
      · subst q8
        have hw2 : xt_w (tr_n 8 ty lo hi a b c l r) := hw
        rw [xt_w8] at hw2
        obtain ⟨h1, h2, h3, h4⟩ := hw2
        have hp := (ihr h4).2.1 h3
        cases r with
        | leaf =>
          have : xt_k (Std.DTreeMap.Internal.Impl.leaf : tr_T) = 0 := rfl
          omega
        | inner z2 d2 v2 x y =>
          obtain ⟨k2, ty2, lo2, hi2, a2, b2, c2⟩ := d2
          have ek2 : xt_k (.inner z2 (k2, ty2, lo2, hi2, a2, b2, c2) v2 x y) = k2 := rfl
          rw [ek2] at h3
          subst h3
          have hx : gen_P E B S Z K x := hp.1
          have hy : gen_P E B S Z K y := hp.2
          have h : gsp_P E B S Z K (tr_n 8 ty lo hi a b c l (tr_n 80 ty2 lo2 hi2 a2 b2 c2 x y)) := gsp_at (gat_8 (gen_of ((ihl h2).1 h1)) hx hy) ⟨show (8 : Int) ≠ 4 by decide, show (8 : Int) ≠ 6 by decide, show (8 : Int) ≠ 7 by decide⟩
          exact h
      by_cases q9 : k = 9
      · subst q9
        have hw2 : xt_w (tr_n 9 ty lo hi a b c l r) := hw
        rw [xt_w9] at hw2
        have h : gsp_P E B S Z K (tr_n 9 ty lo hi a b c l r) := gsp_at (gat_9 (gen_of ((ihl hw2.2).1 hw2.1))) ⟨show (9 : Int) ≠ 4 by decide, show (9 : Int) ≠ 6 by decide, show (9 : Int) ≠ 7 by decide⟩
        exact h
      have q10 : k = 10 := by omega
      subst q10
      have hw2 : xt_w (tr_n 10 ty lo hi a b c l r) := hw
      rw [xt_w10] at hw2
      have hc := (ihl hw2.2).2.2 hw2.1
      have h : gsp_P E B S Z K (tr_n 10 ty lo hi a b c l r) := gsp_at (gat_10 hc.1 hc.2) ⟨show (10 : Int) ≠ 4 by decide, show (10 : Int) ≠ 6 by decide, show (10 : Int) ≠ 7 by decide⟩
      exact h
    · rw [ek] at h
      subst h
      have hw2 : xt_w (tr_n 80 ty lo hi a b c l r) := hw
      rw [xt_w80] at hw2
      exact ⟨gen_of ((ihl hw2.2.1).1 hw2.1), gen_of ((ihr hw2.2.2.2).1 hw2.2.2.1)⟩
    · have q : k = 11 := by
        rcases h with h | h
        · exact absurd h (by simp)
        · exact h
      subst q
      have hw2 : xt_w (tr_n 11 ty lo hi a b c l r) := hw
      rw [xt_w11] at hw2
      have hr := (ihr hw2.2.2.2).2.2 hw2.2.2.1
      have h1 : gch_P E B S Z K (tr_n 11 ty lo hi a b c l r) := gch_11 (gen_of ((ihl hw2.2.1).1 hw2.1)) hr.1
      have h2 : gps_P E (tr_n 11 ty lo hi a b c l r) := gps_11 hr.2
      exact ⟨h1, h2⟩
/-- the code of a TERM, made by the reference -/
theorem gen_term (e : tr_T) (he : xt_e e) (hw : xt_w e) : gen_P E B S Z K e := gen_of ((gen_all e hw).1 he)
end GF
