/-! part 99.zzzzr: the reference: a case, all of it -/
/-- one ARM: its tests, its BLOCK, the JUMP behind it -/
def gar_R (B : Int → Int) (t ty W lo hi b c x4 x6 : Int) (Q0 : List Int) (ρ ρ' : js_S) (k : tr_T) (x4' x6' x8' : Int) : Prop := (gx_R (ρ 83 49) (ρ 83 52) ρ ρ' ∧ ρ' 83 49 = ρ 83 49 + W + st_ln k + 1 ∧ ρ' 83 54 = max (ρ 83 54) (st_mt k (t + 1))) ∧ (∃ vb : Int, ((0 ≤ vb ∧ vb ≤ 1000000000000000) ∧ min 400000 vb = min 400000 (st_cn B k)) ∧ x4' = x4 + W ∧ x6' = max x6 (x4' + vb + 1)) ∧ jw (fun i => ρ' 112 i) ((ρ 83 49 + W + st_ln k) :: Q0) (ρ' 83 49) x8' ∧ (ρ' 83 49 ≤ 8192 → ga_C ty lo hi b c t (ρ 83 49) (ρ 83 49 + W + st_ln k + 1) ρ' ∧ st_cd (ri_P ρ') k (t + 1) (ρ 83 49 + W) 0 ∧ rj_P ρ' (ρ 83 49 + W + st_ln k))
section GR
variable {E : js_E} {B : Int → Int} {S : Int → Prop} {Z K : Int → Int → Prop} {U : Int → Int → Int → Prop} {V : Int → Int → Int → Int → Prop} {k : tr_T}
theorem gar_b (hk0 : gli_P E B S Z K U V k) {f : Nat} {ρ ρ1 : js_S} {n t M N x1 x3 x4 x6 x8 ty W lo hi b c x12 : Int} {Q0 : List Int} {u13 : js_v} (hk : gsk_R B S Z K U V ρ) (n1 : 0 ≤ n ∧ n < N) (n7 : st_nd ρ k M n (ρ 102 n) 0) (hwk : st_w k ∧ st_g S Z K U V k ∧ st_r k) (h52 : 0 ≤ ρ 83 52 ∧ ρ 83 52 + N ≤ 8200) (h49 : 0 ≤ ρ 83 49 ∧ ρ 83 49 + (W + st_ln k + 1) ≤ 100000000) (h54 : t + 1 ≤ ρ 83 54 ∧ ρ 83 54 ≤ 1024 ∧ st_mt k (t + 1) ≤ 1024) (ht : 0 ≤ t) (hx : 0 ≤ x4 ∧ x4 ≤ 4000000000000000 ∧ 0 ≤ x6 ∧ x6 ≤ 4000000000000000) (hf : st_dp k + 1 ≤ (f : Int)) (hty : ty = 0 ∨ ty = 1) (hW : W = if ty = 1 then 10 else 5) (hx12 : x12 = if ty = 1 then ρ 83 49 + 9 else -1) (hj : jw (fun i => ρ 112 i) Q0 (ρ 83 49) x8) (X1 : gx_R (ρ 83 49) (ρ 83 52) ρ ρ1) (b1 : ρ1 83 49 = ρ 83 49 + W) (m1 : ρ1 83 54 = max (ρ 83 54) (t + 1)) (C1 : ρ1 83 49 ≤ 8192 → ga_C ty lo hi b c t (ρ 83 49) 0 ρ1) : ∃ (ρ' : js_S) (x6' x8' w13 : Int), js_J E f 257 142 [(2, 83), (0, x1), (0, t), (0, x3), (1, x4 + W), (9, 0), (1, x6), (9, 0), (0, x8), (0, n), (0, ty), (0, ρ 83 49 + 4), (0, x12), u13, (9, 0)] [] ρ1 = js_J E f 257 43 [(2, 83), (0, x1), (0, t), (0, x3), (1, x4 + W), (9, 0), (1, x6'), (9, 0), (0, x8'), (0, ρ 107 n), (0, ty), (0, ρ 83 49 + 4), (0, x12), (1, w13), (9, 0)] [] ρ' ∧ gar_R B t ty W lo hi b c x4 x6 Q0 ρ ρ' k (x4 + W) x6' x8' := by
  have l2 := st_ln_0 k
  have d7 := st_dp_7 k
  have w : js_w n = n := js_w_of (by omega) (by omega)
  have hn6 : 0 ≤ n ∧ n < 66000 := by omega
  have W1 : W = 5 ∨ W = 10 := by
    rw [hW]
    split <;> omega
  have m1' : ρ1 83 54 = ρ 83 54 := by omega
  replace C1 := hi_i C1
  replace hx12 := hi_i hx12
  have q1 : ρ1 83 52 = ρ 83 52 := X1 _ _ (by omega) (by omega) (by omega)
  obtain ⟨ρ2, vb, e2, ⟨g2, b2, m2, d2⟩, c2, c2'⟩ := gli_call (z := 0) hk0 (f := f - 1) (ρ := ρ1) (n := ρ 102 n) (t := t + 1) (M := M) (N := n) ⟨gsk_fr hk (fun x i q => X1 x i (by omega) (by omega) (by omega)), st_nd_fr n7 (fun x i q1 q2 => X1 x i (by omega) (by omega) (by omega)), hwk, ⟨by omega, by omega⟩, ⟨by omega, by omega⟩, ⟨by omega, by omega, h54.2.2⟩, ⟨by omega, by omega⟩⟩ (by omega)
  rw [q1] at g2
  rw [m1'] at m2
  replace d2 := hi_i d2
  have X2 : gx_R (ρ 83 49) (ρ 83 52) ρ ρ2 := gx_trans X1 g2 (by omega) (Int.le_refl _)
  have i102 : ρ1 102 n = ρ 102 n := X1 _ _ (by omega) (by omega) (by omega)
  obtain ⟨ρ3, e3, h3⟩ := r_plain (E := E) (f := f - 1) (ρ := ρ2) (x1 := 24) (x2 := x8) (x3 := 0) (by omega) ⟨by omega, by omega⟩
  have b3 := h3.1
  have X3 : gx_R (ρ 83 49) (ρ 83 52) ρ ρ3 := gx_trans X2 (gm_gx h3) (by omega) (Int.le_refl _)
  have i107 : ρ3 107 n = ρ 107 n := X3 _ _ (by omega) (by omega) (by omega)
  have wz : js_l (x4 + W + vb + 1) = x4 + W + vb + 1 := js_l_of (by omega) (by omega)
  have wx : js_l x6 = x6 := js_l_of (by omega) (by omega)
  have mx : (if x4 + W + vb + 1 < x6 then x6 else x4 + W + vb + 1) = max x6 (x4 + W + vb + 1) := by
    split <;> omega
  obtain ⟨ρ4, e4, f4, l4, l9⟩ := gar_l (E := E) (f := f) (ρ := ρ3) (n := n) (t := t) (x1 := x1) (x3 := x3) (x4 := x4 + W) (x6 := max x6 (x4 + W + vb + 1)) (x8 := ρ2 83 49) (x13 := vb) (ty := ty) (p := ρ 83 49) (x12 := x12) (by omega) hn6 hty ⟨h49.1, by omega⟩ (hi_e hx12)
  rw [i107] at e4
  have b4 : ρ4 83 49 = ρ3 83 49 := f4 _ _ (by omega)
  have X4 : gx_R (ρ 83 49) (ρ 83 52) ρ ρ4 := fun a i g1 g2 g3 => by rw [f4 a i (by omega), X3 a i g1 g2 g3]
  have jq2 : jw (fun i => ρ2 112 i) Q0 (ρ 83 49) x8 := jw_of Q0 _ _ (fun i hi' => X2 _ _ (by omega) (by omega) (by omega)) hj
  have e2e : ρ2 83 49 = ρ 83 49 + W + st_ln k := by omega
  refine ⟨ρ4, max x6 (x4 + W + vb + 1), ρ2 83 49, vb, ?_, ⟨X4, by omega, ?_⟩, ⟨vb, ⟨c2, c2'⟩, rfl, rfl⟩, ?_, fun hs => ?_⟩
  · rw [b_257_142, w, if_pos hn6, i102, k_257_153 (by omega) e2, b_257_156 (by omega), wz, wx, mx, k_257_178 (by omega) e3, b_257_181, e4]
  · rw [f4 _ _ (by omega), h3.2.2 _ _ (by omega) (by omega), m2]
  · refine ⟨e2e, ⟨by omega, by omega⟩, fun h8 => ?_⟩
    have e7 : ρ4 112 (ρ 83 49 + W + st_ln k) = x8 := by
      rw [f4 _ _ (by omega), ← e2e]
      exact (h3.2.1 (by omega)).2.1
    show jw (fun i => ρ4 112 i) Q0 (ρ 83 49 + W + st_ln k) (ρ4 112 (ρ 83 49 + W + st_ln k))
    rw [e7]
    refine jw_up Q0 (jw_of Q0 _ _ (fun i hi' => ?_) jq2) (by omega)
    show ρ4 112 i = ρ2 112 i
    rw [f4 _ _ (by omega), h3.2.2 _ _ (by omega) (by omega)]
  · have y12 : gy_R (ρ 83 49 + W) ρ1 ρ2 := gy_mono (gy_gx g2) (by omega)
    have o34 : ∀ a i : Int, ¬ (a = 83 ∧ i = 49) → ¬ (111 ≤ a ∧ a ≤ 115 ∧ i = ρ2 83 49) → ¬ (a = 112 ∧ (i = ρ 83 49 + 4 ∨ ty = 1 ∧ i = ρ 83 49 + 9)) → ρ4 a i = ρ2 a i := fun a i q1 q2 q3 => by rw [f4 a i q3, h3.2.2 a i q1 q2]
    have tgt : ρ3 83 49 = ρ 83 49 + W + st_ln k + 1 := by omega
    have w10 : ty = 1 → W = 10 := fun q => by rw [hW, if_pos q]
    refine ⟨?_, ?_, ?_⟩
    · refine ga_land (hi_e C1 (by omega)) hW (fun a i q1 q2 q3 q4 q5 => ?_) (fun i => ?_) ?_ ?_ (fun q => ?_)
      · rw [o34 a i (by omega) (by omega) q5, y12.1 a i q1 q2 (by omega)]
      · rw [o34 _ _ (by omega) (by omega) (by omega), y12.2.1]
      · rw [o34 _ _ (by omega) (by omega) (by omega), y12.2.2]
      · rw [l4 (by omega), tgt]
      · have := w10 q
        rw [l9 q (by omega), tgt]
    · have e := hi_e d2 (by omega)
      rw [b1] at e
      refine st_cd_of k _ _ _ (fun i I q1 q2 hI => ri_fr hI (fun a q3 q4 => o34 a i (by omega) (by omega) ?_) (fun i => o34 _ _ (by omega) (by omega) (by omega)) (o34 _ _ (by omega) (by omega) (by omega))) e
      intro hh
      rcases hh.2 with h | h
      · omega
      · have := w10 h.1
        omega
    · have c := h3.2.1 (by omega)
      rw [e2e] at c
      unfold rj_P
      rw [f4 _ _ (by omega), f4 _ _ (by omega), f4 _ _ (by omega), f4 _ _ (by omega)]
      exact ⟨c.1, c.2.2.1, c.2.2.2.1, c.2.2.2.2⟩
/-- the arms of a case from node n on, and what stands behind else -/
def gar_P (E : js_E) (B : Int → Int) (S : Int → Prop) (Z K : Int → Int → Prop) (U : Int → Int → Int → Prop) (V : Int → Int → Int → Int → Prop) (s : tr_T) : Prop := ∀ (f : Nat) (ρ : js_S) (n m t M N z x1 x3 x4 x6 x8 b c : Int) (Q0 : List Int) (u10 u11 u12 u13 : js_v), gsk_R B S Z K U V ρ → st_nd ρ s M N n m → (st_w s ∧ st_g S Z K U V s ∧ am_P b c s) → (0 ≤ ρ 83 52 ∧ ρ 83 52 + N ≤ 8200) → (0 ≤ ρ 83 49 ∧ ρ 83 49 + st_ln s ≤ 100000000) → (t + 1 ≤ ρ 83 54 ∧ ρ 83 54 ≤ 1024 ∧ st_mt s (t + 1) ≤ 1024) → 0 ≤ t → ((0 ≤ x3 ∧ x3 < 66000) ∧ ρ 105 x3 = b ∧ ρ 106 x3 = c ∧ (-2147483648 ≤ b ∧ b < 2147483648) ∧ -2147483648 ≤ c ∧ c < 2147483648) → ((0 ≤ x1 ∧ x1 < 66000) ∧ ρ 104 x1 = m ∧ (ρ 101 x1 = 0 ∧ m = -1 ∨ ρ 101 x1 = 1)) → M ≤ 8201 → (0 ≤ x4 ∧ x4 ≤ 2000000000000000 + 10 * max M 0) → (0 ≤ x6 ∧ x6 ≤ 4000000000000000) → jw (fun i => ρ 112 i) Q0 (ρ 83 49) x8 → st_dp s + 1 ≤ (f : Int) → ∃ (ρ' : js_S) (x4' x6' x8' y9 : Int) (Q1 : List Int) (v10 v11 v12 v13 : js_v), js_J E f 257 43 [(2, 83), (0, x1), (0, t), (0, x3), (1, x4), (9, 0), (1, x6), (9, 0), (0, x8), (0, n), u10, u11, u12, u13, (9, 0)] [] ρ = js_J E f 257 243 [(2, 83), (0, x1), (0, t), (0, x3), (1, x4'), (9, 0), (1, x6'), (9, 0), (0, x8'), (0, y9), v10, v11, v12, v13, (9, 0)] [] ρ' ∧ (gx_R (ρ 83 49) (ρ 83 52) ρ ρ' ∧ ρ' 83 49 = ρ 83 49 + st_ln s ∧ ρ' 83 54 = max (ρ 83 54) (st_mt s (t + 1))) ∧ (0 ≤ x4' ∧ x4' ≤ 4000000000000000 ∧ 0 ≤ x6' ∧ x6' ≤ 4000000000000000) ∧ min 400000 (max x6' x4') = min 400000 (max x6 (x4 + st_cn B s)) ∧ jw (fun i => ρ' 112 i) (Q1 ++ Q0) (ρ' 83 49) x8' ∧ (∀ x : Int, x ∈ Q1 → ρ 83 49 ≤ x) ∧ (ρ' 83 49 ≤ 8192 → st_cd (rq_P ρ' z Q1) s (t + 1) (ρ 83 49) z)
theorem st_nd_nil {ρ : js_S} {s : tr_T} {M N m : Int} (h : st_nd ρ s M N (-1) m) (hk : s = .leaf ∨ xt_k s = 90) : s = .leaf := by
  rcases hk with h1 | h1
  · exact h1
  · cases s with
    | leaf => rfl
    | inner z d v l r =>
      have hd : d.1 = 90 := h1
      rw [st_nd, if_pos hd] at h
      have := h.1.1
      omega
theorem gar_m0 {x4 x6 v c : Int} (h : 0 ≤ v ∧ v ≤ 1000000000000000) (h2 : min 400000 v = min 400000 c) (hx : 0 ≤ x4 ∧ 0 ≤ x6) : min 400000 (max x6 (min 1000000000000000 (x4 + v))) = min 400000 (max x6 (x4 + c)) := by omega
theorem gar_m1 {x4 x6 vb cb cr W x6' X : Int} (h : (0 ≤ vb ∧ vb ≤ 1000000000000000) ∧ min 400000 vb = min 400000 cb) (e6 : x6' = max x6 (x4 + W + vb + 1)) (hX : min 400000 X = min 400000 (max x6' (x4 + W + cr))) (hx : 0 ≤ x4 ∧ 0 ≤ x6) (hW : 0 ≤ W) : min 400000 X = min 400000 (max x6 (x4 + (W + max (cb + 1) cr))) := by omega
variable {ty lo hi a b' c' : Int} {l r : tr_T}
/-- no more arms -/
theorem gar_93 (hl : gli_P E B S Z K U V l) : gar_P E B S Z K U V (tr_n 93 ty lo hi a b' c' l r) := by
  intro f ρ n m t M N z x1 x3 x4 x6 x8 b c Q0 u10 u11 u12 u13 hk hn hw h52 h49 h54 ht he h1 hM hx4 hx6 hj hf
  obtain ⟨hw, hg, _⟩ := hw
  rw [st_nd93] at hn
  rw [st_w93] at hw
  rw [st_g93] at hg
  rw [st_ln93] at h49 ⊢
  rw [st_mt93] at h54 ⊢
  rw [st_cn93]
  have ed : st_dp (tr_n 93 ty lo hi a b' c' l r) = st_dp l := rfl
  rw [ed] at hf
  obtain ⟨n1, n2⟩ := hn
  subst n1
  have d7 := st_dp_7 l
  have w1 : js_w x1 = x1 := js_w_of (by omega) (by omega)
  have wn : js_w (-1) < 0 := by decide
  rcases h1.2.2 with ⟨q0, qm⟩ | q1
  · rw [qm] at n2
    have hl0 := st_nd_nil n2 hw.1
    subst hl0
    have e0 : st_ln (.leaf : tr_T) = 0 := rfl
    have e1 : st_mt (.leaf : tr_T) (t + 1) = 0 := rfl
    have e2 : st_cn B (.leaf : tr_T) = 0 := rfl
    rw [e0, e1, e2]
    refine ⟨ρ, x4, x6, x8, -1, [], u10, u11, u12, u13, ?_, ⟨gx_refl _ _ _, (Int.add_zero _).symm, by omega⟩, ⟨by omega, by omega, by omega, by omega⟩, by rw [Int.add_zero], hj, fun x hx => absurd hx (fun h => by cases h), fun _ => ?_⟩
    · rw [b_257_43, if_pos wn, w1, if_pos h1.1, q0, if_neg (show ¬ js_w 0 = 1 by decide)]
    · rw [st_cd93]
      trivial
  · obtain ⟨ρ2, v, e2, ⟨g2, b2, m2, d2⟩, c2, c2'⟩ := gli_call (z := z) hl (f := f - 1) (ρ := ρ) (n := m) (t := t + 1) (M := M) (N := N) ⟨hk, n2, ⟨hw.2, hg, trivial⟩, h52, h49, ⟨by omega, h54.2.1, h54.2.2⟩, ⟨by omega, by omega⟩⟩ (by omega)
    have vb : 0 ≤ x4 + v ∧ x4 + v ≤ 9000000000000000000 := by omega
    refine ⟨ρ2, min 1000000000000000 (x4 + v), x6, x8, -1, [], u10, u11, u12, u13, ?_, ⟨g2, b2, m2⟩, ⟨by omega, by omega, by omega, by omega⟩, gar_m0 c2 c2' ⟨hx4.1, hx6.1⟩, ?_, fun x hx => absurd hx (fun h => by cases h), fun hs => ?_⟩
    · rw [b_257_43, if_pos wn, w1, if_pos h1.1, q1, if_pos (show js_w 1 = 1 by decide), h1.2.1, k_257_234 (by omega) e2, b_257_237, k_257_238 (by omega) (r_bound' vb), b_257_241]
    · have l0 := st_ln_0 l
      refine jw_up _ (jw_of _ _ _ (fun i hi' => ?_) hj) (by omega)
      show ρ2 112 i = ρ 112 i
      exact g2 _ _ (by omega) (by omega) (by omega)
    · rw [st_cd93]
      exact st_cd_of l _ _ _ (fun i I _ _ hI => rq_ri hI (fun h => by cases h)) (d2 hs)
/-- one more arm -/
theorem gar_25 (hl : gli_P E B S Z K U V l) (hr0 : gar_P E B S Z K U V r) : gar_P E B S Z K U V (tr_n 25 ty lo hi a b' c' l r) := by
  intro f ρ n m t M N z x1 x3 x4 x6 x8 b c Q0 u10 u11 u12 u13 hk hn hw h52 h49 h54 ht he h1 hM hx4 hx6 hj hf
  obtain ⟨hw, hg, ham⟩ := hw
  obtain ⟨hb', hc', ham⟩ := ham rfl
  have hb2 : b' = b := hb'
  have hc2 : c' = c := hc'
  subst hb2 hc2
  rw [st_nd25] at hn
  rw [st_w25] at hw
  rw [st_g25] at hg
  rw [st_ln25] at h49 ⊢
  rw [st_mt25] at h54 ⊢
  rw [st_cn25]
  have ed : st_dp (tr_n 25 ty lo hi a b' c' l r) = max (st_dp l) (st_dp r) := rfl
  rw [ed] at hf
  obtain ⟨n1, n2, n3, n4, n5, n6, n7, n8⟩ := hn
  obtain ⟨⟨hty, hr1⟩, hw1, hw2, hw3, hw4⟩ := hw
  have hfl : st_dp l + 1 ≤ (f : Int) ∧ st_dp r + 1 ≤ (f : Int) := by omega
  have hmt : st_mt l (t + 1) ≤ 1024 ∧ st_mt r (t + 1) ≤ 1024 := by omega
  have h54' : t + 1 ≤ ρ 83 54 ∧ ρ 83 54 ≤ 1024 := ⟨h54.1, h54.2.1⟩
  clear hf ed h54
  have l1 := st_ln_0 l
  have l2 := st_ln_0 r
  have d7 := st_dp_7 l
  have hn6 : 0 ≤ n ∧ n < 66000 := by omega
  obtain ⟨W, hW⟩ : ∃ W : Int, W = if ty = 1 then 10 else 5 := ⟨_, rfl⟩
  have W1 : W = 5 ∨ W = 10 := by
    rw [hW]
    split <;> omega
  rw [← hW] at h49 ⊢
  obtain ⟨ρ1, x12, hx12, eA, ⟨X1, b1, m1⟩, C1⟩ : ∃ (ρ1 : js_S) (x12 : Int), (x12 = if ty = 1 then ρ 83 49 + 9 else -1) ∧ js_J E f 257 43 [(2, 83), (0, x1), (0, t), (0, x3), (1, x4), (9, 0), (1, x6), (9, 0), (0, x8), (0, n), u10, u11, u12, u13, (9, 0)] [] ρ = js_J E f 257 142 [(2, 83), (0, x1), (0, t), (0, x3), (1, x4 + W), (9, 0), (1, x6), (9, 0), (0, x8), (0, n), (0, ty), (0, ρ 83 49 + 4), (0, x12), u13, (9, 0)] [] ρ1 ∧ (gx_R (ρ 83 49) (ρ 83 52) ρ ρ1 ∧ ρ1 83 49 = ρ 83 49 + W ∧ ρ1 83 54 = max (ρ 83 54) (t + 1)) ∧ (ρ1 83 49 ≤ 8192 → ga_C ty lo hi b' c' t (ρ 83 49) 0 ρ1) := by
    rcases hty with h | h
    · subst h
      rw [if_neg (by decide)] at hW
      subst hW
      obtain ⟨ρ1, e, X, C⟩ := gar_t0 (E := E) (f := f) (ρ := ρ) (n := n) (t := t) (x1 := x1) (x3 := x3) (x4 := x4) (x6 := x6) (x8 := x8) (lo := lo) (hi := hi) (b := b') (c := c') (u10 := u10) (u11 := u11) (u12 := u12) (u13 := u13) (by omega) hn6 n4 n5 ⟨by omega, by omega⟩ he.1 he.2.1 he.2.2.1 he.2.2.2 ⟨ht, by omega⟩ ⟨by omega, by omega⟩ ⟨h49.1, by omega⟩
      exact ⟨ρ1, -1, (if_neg (by decide)).symm, e, X, C⟩
    · subst h
      rw [if_pos rfl] at hW
      subst hW
      obtain ⟨ρ1, e, X, C⟩ := gar_t1 (E := E) (f := f) (ρ := ρ) (n := n) (t := t) (x1 := x1) (x3 := x3) (x4 := x4) (x6 := x6) (x8 := x8) (lo := lo) (hi := hi) (b := b') (c := c') (u10 := u10) (u11 := u11) (u12 := u12) (u13 := u13) (by omega) hn6 n4 n5 n6 ⟨by omega, by omega⟩ ⟨by omega, by omega⟩ he.1 he.2.1 he.2.2.1 he.2.2.2 ⟨ht, by omega⟩ ⟨by omega, by omega⟩ ⟨h49.1, by omega⟩
      exact ⟨ρ1, ρ 83 49 + 9, (if_pos rfl).symm, e, X, C⟩
  obtain ⟨ρ2, y6, y8, w13, eB, ⟨X2, b2, m2⟩, ⟨vb, cb, _, ey6⟩, jq, code⟩ := gar_b (x1 := x1) (x3 := x3) (x8 := x8) (u13 := u13) (Q0 := Q0) (M := M) (N := N) hl hk ⟨n1.1, n2⟩ n7 ⟨hw2, hg.1, trivial⟩ h52 ⟨h49.1, by omega⟩ ⟨h54'.1, h54'.2, hmt.1⟩ ht ⟨hx4.1, by omega, hx6.1, hx6.2⟩ hfl.1 hty hW hx12 hj X1 b1 m1 C1
  clear C1 m1 b1 X1 hx12
  have yb : 0 ≤ y6 ∧ y6 ≤ 4000000000000000 := by
    have := cb.1
    omega
  have m2' : t + 1 ≤ ρ2 83 54 ∧ ρ2 83 54 ≤ 1024 := by omega
  replace m2 := hi_i m2
  replace ey6 := hi_i ey6
  replace cb := hi_i cb
  replace code := hi_i code
  have q2 : ρ2 83 52 = ρ 83 52 := X2 _ _ (by omega) (by omega) (by omega)
  have k2 : ∀ a i : Int, 84 ≤ a → a ≤ 109 → ρ2 a i = ρ a i := fun a i q1 q2 => X2 a i (by omega) (by omega) (by omega)
  obtain ⟨ρ3, z4, z6, z8, z9, Q1, v10, v11, v12, v13, e3, ⟨g3, b3, m3⟩, zb, cn3, jq3, hQ, d3⟩ := hr0 f ρ2 (ρ 107 n) m t (n + 1) N z x1 x3 (x4 + W) y6 y8 b' c' ((ρ 83 49 + W + st_ln l) :: Q0) (0, ty) (0, ρ 83 49 + 4) (0, x12) (1, w13) (gsk_fr hk (fun x i q => k2 x i (by omega) (by omega))) (st_nd_fr n8 (fun x i q1 q2 => k2 x i (by omega) (by omega))) ⟨hw4, hg.2, ham⟩ ⟨by omega, by omega⟩ ⟨by omega, by omega⟩ ⟨m2'.1, m2'.2, hmt.2⟩ ht ⟨he.1, by rw [k2 _ _ (by decide) (by decide)]; exact he.2.1, by rw [k2 _ _ (by decide) (by decide)]; exact he.2.2.1, he.2.2.2⟩ ⟨h1.1, by rw [k2 _ _ (by decide) (by decide)]; exact h1.2.1, by rw [k2 _ _ (by decide) (by decide)]; exact h1.2.2⟩ (by omega) ⟨by omega, by omega⟩ yb jq hfl.2
  replace m3 := hi_i m3
  replace cn3 := hi_i cn3
  replace d3 := hi_i d3
  rw [q2] at g3
  refine ⟨ρ3, z4, z6, z8, z9, Q1 ++ [ρ 83 49 + W + st_ln l], v10, v11, v12, v13, by rw [eA, eB, e3], ⟨gx_trans X2 g3 (by omega) (Int.le_refl _), by omega, ?_⟩, zb, gar_m1 (hi_e cb) (hi_e ey6) (hi_e cn3) ⟨hx4.1, hx6.1⟩ (by omega), ?_, fun x hx => ?_, fun hs => ?_⟩
  · rw [hi_e m3, hi_e m2]
    omega
  · rw [List.append_assoc]
    exact jq3
  · rcases List.mem_append.mp hx with h | h
    · have := hQ x h
      omega
    · have := List.mem_singleton.mp h
      omega
  · obtain ⟨⟨p1, p2, p3, p4, p5, p6⟩, p7, p8⟩ := hi_e code (by omega)
    have y23 : gy_R (ρ2 83 49) ρ2 ρ3 := gy_gx g3
    have nq : ∀ i : Int, i < ρ 83 49 + W + st_ln l → i ∉ Q1 ++ [ρ 83 49 + W + st_ln l] := fun i h h2 => by
      rcases List.mem_append.mp h2 with h3 | h3
      · have := hQ i h3
        omega
      · have := List.mem_singleton.mp h3
        omega
    have cv : ∀ (i : Int) (I : xt_I), i < ρ 83 49 + W + st_ln l → ri_P ρ2 i I → rq_P ρ3 z (Q1 ++ [ρ 83 49 + W + st_ln l]) i I := fun i I hi' hI => rq_ri (ri_gy y23 (by omega) hI) (nq i hi')
    have et : t + 1 - 1 = t := by omega
    rw [st_cd25, ← hW, et]
    refine ⟨cv _ _ (by omega) p1, cv _ _ (by omega) p2, cv _ _ (by omega) p3, cv _ _ (by omega) p4, cv _ _ (by omega) p5, fun q => ?_, st_cd_of l _ _ _ (fun i I _ _ hI => cv i I (by omega) hI) p7, Or.inr ⟨List.mem_append.mpr (Or.inr (List.mem_singleton.mpr rfl)), rfl, rj_gy y23 (by omega) p8⟩, ?_⟩
    · rw [if_pos q] at hW
      obtain ⟨s1, s2, s3, s4, s5⟩ := p6 q
      exact ⟨cv _ _ (by omega) s1, cv _ _ (by omega) s2, cv _ _ (by omega) s3, cv _ _ (by omega) s4, cv _ _ (by omega) s5⟩
    · have e := hi_e d3 hs
      rw [b2] at e
      refine st_cd_of r _ _ _ (fun i I g1 _ hI => rq_Q ⟨fun h => ?_, fun h => List.mem_append.mpr (Or.inl h)⟩ hI) e
      rcases List.mem_append.mp h with h3 | h3
      · exact h3
      · have := List.mem_singleton.mp h3
        omega
theorem gst_24v {x4 x6 c k v1 c1 k1 : Int} (h1 : gc_P c1 k1 v1) (hk1 : 0 ≤ k1 ∧ k1 ≤ 100000000) (hb : 0 ≤ x4 ∧ x4 ≤ 4000000000000000 ∧ 0 ≤ x6 ∧ x6 ≤ 4000000000000000) (h : min 400000 (max x6 x4) = min 400000 (max 0 (v1 + 1 + c))) (hc : 0 ≤ c1 + 1 + c) (hk : 0 ≤ k) (hcc : 0 ≤ c) : gsc_P (c1 + 1 + c) k (min 1000000000000000 (if x4 < x6 then x6 else x4)) := by
  unfold gsc_P
  unfold gc_P at h1
  split <;> omega
/-- case -/
theorem gst_24 (h : gar_P E B S Z K U V r) (hc : 0 ≤ xt_cn B l) (hcr : 0 ≤ st_cn B r) : gst_P E B S Z K U V (tr_n 24 ty lo hi a b' c' l r) := by
  intro f ρ n t M N hp hf
  obtain ⟨hk, hn, ⟨hw, hg, _⟩, h52, h49, h54, ht⟩ := hp
  rw [st_nd24] at hn
  rw [st_w24] at hw
  rw [st_g24] at hg
  rw [st_ln24] at h49
  rw [st_mt24] at h54
  have ed : st_dp (tr_n 24 ty lo hi a b' c' l r) = 2 + max (xt_dp l) (st_dp r) := rfl
  rw [ed] at hf
  obtain ⟨n1, n2, n3, ⟨n4, n4'⟩, n5, n6⟩ := hn
  have hfl : xt_dp l + 2 ≤ (f : Int) ∧ st_dp r + 2 ≤ (f : Int) := by omega
  have hmt : xt_mt l t ≤ 1024 ∧ t + 1 ≤ 1024 ∧ st_mt r (t + 1) ≤ 1024 := by omega
  have h54' : 0 ≤ ρ 83 54 ∧ ρ 83 54 ≤ 1024 := ⟨h54.1, h54.2.1⟩
  clear hf ed h54
  have l1 := xt_ln_0 l
  have l2 := st_ln_0 r
  have d6 := xt_dp_6 l
  have w : js_w n = n := js_w_of (by omega) (by omega)
  have hn6 : 0 ≤ n ∧ n < 66000 := by omega
  obtain ⟨ρ1, v1, e1, ⟨g1, b1, m1, d1⟩, c1⟩ := gen_term (E := E) (B := B) (S := S) (Z := Z) (K := K) l hw.1 hw.2.1 (f - 1 - 1) ρ (ρ 102 n) t M n 0 (gnp_st hk n5 ⟨hw.1, hw.2.1, hg.1, trivial⟩ (fun _ _ _ => rfl) ⟨h52.1, by omega⟩ ⟨h49.1, by omega⟩ ⟨h54'.1, h54'.2, hmt.1⟩ ht) (by omega)
  have m1' : 0 ≤ ρ1 83 54 ∧ ρ1 83 54 ≤ 1024 := by omega
  replace d1 := hi_i d1
  obtain ⟨ρ2, e2, m2, f2⟩ := r_temp (E := E) (f := f - 1 - 1) (ρ := ρ1) (t := t) ⟨ht.1, by omega⟩ ⟨m1'.1, by omega⟩
  have b2 : ρ2 83 49 = ρ1 83 49 := f2 _ _ (by omega)
  obtain ⟨ρ3, e3, h3⟩ := r_plain (E := E) (f := f - 1 - 1) (ρ := ρ2) (x1 := 2) (x2 := ρ1 83 53 + t) (x3 := 0) (by omega) ⟨by omega, by omega⟩
  have b3 := h3.1
  have X2 : gx_R (ρ 83 49) (ρ 83 52) ρ ρ2 := fun a i q1 q2 q3 => by rw [f2 a i (by omega), g1 a i q1 q2 q3]
  have X3 : gx_R (ρ 83 49) (ρ 83 52) ρ ρ3 := gx_trans X2 (gm_gx h3) (by omega) (Int.le_refl _)
  have q3 : ρ3 83 52 = ρ 83 52 := X3 _ _ (by omega) (by omega) (by omega)
  have m3 : ρ3 83 54 = max (ρ 83 54) (max (xt_mt l t) (t + 1)) := by
    rw [h3.2.2 _ _ (by omega) (by omega), m2, m1]
    omega
  have m3' : t + 1 ≤ ρ3 83 54 ∧ ρ3 83 54 ≤ 1024 := by omega
  clear m1 m2
  replace m3 := hi_i m3
  have k3 : ∀ a i : Int, 84 ≤ a → a ≤ 109 → ρ3 a i = ρ a i := fun a i q1 q2 => X3 a i (by omega) (by omega) (by omega)
  have nd := xt_nd_in n5 hw.1
  have rl := xt_r_e hw.1 trivial
  have v1b := c1.1
  obtain ⟨ρ4, x4, x6, x8, y9, Q1, v10, v11, v12, v13, e4, ⟨g4, b4, m4⟩, xb, cn4, jq, hQ, d4⟩ := h (f - 1) ρ3 (ρ 103 n) (ρ 104 n) t M n (ρ 83 49 + (xt_ln l + 1 + st_ln r)) n (ρ 102 n) (v1 + 1) 0 (-1) (xt_lo l) (xt_hi l) [] (9, 0) (9, 0) (9, 0) (9, 0) (gsk_fr hk (fun x i q => k3 x i (by omega) (by omega))) (st_nd_fr n6 (fun x i q1 q2 => k3 x i (by omega) (by omega))) ⟨hw.2.2.2.1, hg.2, hw.2.2.2.2⟩ ⟨by omega, by omega⟩ ⟨by omega, by omega⟩ ⟨m3'.1, m3'.2, hmt.2.2⟩ ht.1 ⟨⟨nd.1, by omega⟩, by rw [k3 _ _ (by decide) (by decide)]; exact nd.2.2.2.1, by rw [k3 _ _ (by decide) (by decide)]; exact nd.2.2.2.2, rl⟩ ⟨hn6, k3 _ _ (by decide) (by decide), by rw [k3 _ _ (by decide) (by decide), n4]; exact n4'⟩ (by omega) ⟨by omega, by omega⟩ ⟨Int.le_refl _, by decide⟩ rfl (by omega)
  rw [List.append_nil] at jq
  rw [q3] at g4
  replace d4 := hi_i d4
  have w4 : js_l x4 = x4 := js_l_of (by omega) (by omega)
  have w6 : js_l x6 = x6 := js_l_of (by omega) (by omega)
  have cc := gst_24v (k := xt_ln l + 1 + st_ln r) c1 ⟨l1, by omega⟩ xb cn4 (by omega) (by omega) hcr
  clear cn4
  have vb : 0 ≤ (if x4 < x6 then x6 else x4) ∧ (if x4 < x6 then x6 else x4) ≤ 9000000000000000000 := by split <;> omega
  obtain ⟨ρ5, e5, hO, hv⟩ := r_landAll (E := E) (f := f - 1 - 1) jq (by omega)
  have o83 : ∀ i : Int, ρ5 83 i = ρ4 83 i := fun i => hO _ _ (fun hh => absurd hh.1 (by decide))
  have i103 : ρ3 103 n = ρ 103 n := k3 _ _ (by decide) (by decide)
  have X4 : gx_R (ρ 83 49) (ρ 83 52) ρ ρ4 := gx_trans X3 g4 (by omega) (Int.le_refl _)
  have X5 : gx_R (ρ 83 49) (ρ 83 52) ρ ρ5 := fun x i q1 q2 q3 => by
    rw [hO x i (fun hh => q3 ⟨by omega, by omega, by have := hQ i hh.2; omega⟩), X4 x i q1 q2 q3]
  refine ⟨ρ5, _, ?_, ⟨X5, by rw [o83, st_ln24]; omega, by rw [o83, m4, hi_e m3, st_mt24]; omega, fun hs => ?_⟩, by rw [st_cn24, st_ln24]; exact cc⟩
  · have e257 : js_J E (f - 1) 257 0 [(2, 83), (0, n), (0, t), (9, 0), (9, 0), (9, 0), (9, 0), (9, 0), (9, 0), (9, 0), (9, 0), (9, 0), (9, 0), (9, 0), (9, 0)] [] ρ = js_r E (1, min 1000000000000000 (if x4 < x6 then x6 else x4)) ρ5 := by
      rw [b_257_0, w, if_pos hn6, k_257_10 (by omega) e1, b_257_13, k_257_21 (by omega) e2, b_257_24, k_257_25 (by omega) e3, b_257_28, w, if_pos hn6, i103, e4, b_257_243, k_257_246 (by omega) e5, b_257_249 (by omega), w4, w6, k_257_256 (by omega) (r_bound' vb), b_257_259]
    rw [b_247_0, w, if_pos hn6, n3, s_247_13_24 (by decide), b_247_338, k_247_341 (by omega) e257, b_247_344]
  · rw [o83] at hs
    have nq : ∀ i : Int, i < ρ3 83 49 → i ∉ Q1 := fun i hi' hq => by
      have := hQ i hq
      omega
    have o35 : ∀ a i : Int, ¬ (a = 83 ∧ (i = 49 ∨ i = 54)) → a ≠ 110 → ¬ (111 ≤ a ∧ a ≤ 115 ∧ ρ3 83 49 ≤ i) → ρ5 a i = ρ3 a i := fun a i q1 q2 q3 => by
      rw [hO a i (fun hh => nq i (by omega) hh.2), g4 a i q1 (by omega) q3]
    have o15 : ∀ a i : Int, ¬ (a = 83 ∧ (i = 49 ∨ i = 54)) → a ≠ 110 → ¬ (111 ≤ a ∧ a ≤ 115 ∧ ρ2 83 49 ≤ i) → ρ5 a i = ρ1 a i := fun a i q1 q2 q3 => by
      rw [o35 a i q1 q2 (by omega), h3.2.2 a i (by omega) (by omega), f2 a i (by omega)]
    rw [st_cd24]
    refine ⟨xt_cd_of l _ _ (fun i I q1 q2 hI => ri_fr hI (fun a q3 q4 => o15 a i (by omega) (by omega) (by omega)) (fun i => o15 _ _ (by omega) (by omega) (by omega)) (o15 _ _ (by omega) (by omega) (by omega))) (hi_e d1 (by omega)), ?_, ?_⟩
    · have j := gm_ri (k := 2) (x := t) (y := 0) h3 (by omega) (by rw [if_neg (by decide), if_neg (by decide), if_pos rfl, f2 _ _ (by omega)])
      exact ri_at (ri_fr j (fun a q3 q4 => o35 a _ (by omega) (by omega) (by omega)) (fun i => o35 _ _ (by omega) (by omega) (by omega)) (o35 _ _ (by omega) (by omega) (by omega))) (by omega)
    · have e := hi_e d4 (by omega)
      rw [show ρ3 83 49 = ρ 83 49 + xt_ln l + 1 by omega] at e
      rw [st_ln24]
      refine st_cd_of r _ _ _ (fun i I _ _ hI => rq_land hO (fun hi' => ?_) hI) e
      rw [hv (by omega) i hi']
      omega
end GR
