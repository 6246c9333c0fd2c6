/-! part 99.zzzzi: a loop -/
theorem sr_at {ρ : js_S} {i j t z : Int} {e : tr_T} (h : st_cd (ri_P ρ) e t i z) (q : i = j) : st_cd (ri_P ρ) e t j z := q ▸ h
theorem gt_f1 {R b' : Int} (hR : 1 ≤ R) (hb : 0 ≤ b') : b' ≤ R * b' := by
  have h := Int.mul_le_mul_of_nonneg_right hR hb
  rw [Int.one_mul] at h
  exact h
/-- the count of a loop -/
theorem gt_for {R c w : Int} (hR : 1 ≤ R) (hw : 0 ≤ w ∧ w ≤ 1000000000000000) (hc : min 400000 w = min 400000 c) (k : Int) (hk : 0 ≤ k) : gsc_P (7 + R * (c + 11)) k (if 1000000000000000 / (w + 11) < R then 1000000000000000 else min 1000000000000000 (7 + R * (w + 11))) := by
  have hc0 : 0 ≤ c := by omega
  have y1 := gt_f1 (b' := w + 11) hR (by omega)
  have y2 := gt_f1 (b' := c + 11) hR (by omega)
  by_cases q : 1000000000000000 / (w + 11) < R
  · rw [if_pos q]
    have a1 := Int.lt_ediv_add_one_mul_self 1000000000000000 (show 0 < w + 11 by omega)
    have a2 : (1000000000000000 / (w + 11) + 1) * (w + 11) ≤ R * (w + 11) := Int.mul_le_mul_of_nonneg_right (by omega) (by omega)
    by_cases q2 : c < 400000
    · have e : w = c := by omega
      subst e
      generalize R * (w + 11) = y at a2 y1 y2 ⊢
      generalize (1000000000000000 / (w + 11) + 1) * (w + 11) = y' at a1 a2
      unfold gsc_P
      omega
    · generalize R * (c + 11) = y at y2 ⊢
      unfold gsc_P
      omega
  · rw [if_neg q]
    by_cases q2 : c < 400000
    · have e : w = c := by omega
      subst e
      generalize R * (w + 11) = y at y1 y2 ⊢
      unfold gsc_P
      omega
    · generalize R * (c + 11) = y at y2 ⊢
      generalize R * (w + 11) = y' at y1 ⊢
      unfold gsc_P
      omega
theorem gt_forb {R w : Int} (hR : 1 ≤ R) (hw : 0 ≤ w ∧ w ≤ 1000000000000000) (q : ¬ 1000000000000000 / (w + 11) < R) : 0 ≤ 7 + R * (w + 11) ∧ 7 + R * (w + 11) < 9000000000000000000 := by
  have y1 := gt_f1 (b' := w + 11) hR (by omega)
  have a1 : R * (w + 11) ≤ 1000000000000000 / (w + 11) * (w + 11) := Int.mul_le_mul_of_nonneg_right (by omega) (by omega)
  have a2 := Int.ediv_mul_le 1000000000000000 (show w + 11 ≠ 0 by omega)
  generalize R * (w + 11) = y at a1 y1 ⊢
  generalize 1000000000000000 / (w + 11) * (w + 11) = y' at a1 a2
  omega
section GI
variable {E : js_E} {B : Int → Int} {S : Int → Prop} {Z K : Int → Int → Prop} {U : Int → Int → Int → Prop} {V : Int → Int → Int → Int → Prop} {ty lo hi a b c : Int} {l r : tr_T}
theorem gli_call (h : gli_P E B S Z K U V l) {f : Nat} {ρ : js_S} {n t M N z : Int} (hp : gsq_R B S Z K U V ρ l n t M N 0) (hf : st_dp l ≤ (f : Int)) : ∃ (ρ' : js_S) (v : Int), js_J E f 246 0 [(2, 83), (0, n), (0, t), (9, 0), (9, 0), (9, 0)] [] ρ = js_r E (1, v) ρ' ∧ gsr_R t z ρ ρ' l ∧ (0 ≤ v ∧ v ≤ 1000000000000000) ∧ min 400000 v = min 400000 (st_cn B l) := by
  obtain ⟨ρ', v, e1, h1, h2, h3⟩ := h f ρ n t M N n 0 z hp ⟨Int.le_refl _, by decide⟩ hf
  rw [Int.zero_add] at h3
  exact ⟨ρ', v, by rw [b_246_0, e1], h1, h2, h3⟩
theorem gst_27 (hl : gli_P E B S Z K U V l) : gst_P E B S Z K U V (tr_n 27 ty lo hi a b c l r) := by
  intro f ρ n t M N hp hf
  obtain ⟨hk, hn, ⟨hw, hg, hr⟩, h52, h49, h54, ht⟩ := hp
  rw [st_nd27] at hn
  rw [st_g27] at hg
  rw [st_w27] at hw
  rw [st_r27] at hr
  rw [st_ln27] at h49
  rw [st_mt27] at h54
  have ed : st_dp (tr_n 27 ty lo hi a b c l r) = 2 + st_dp l := rfl
  rw [ed] at hf
  have d7 := st_dp_7 l
  obtain ⟨n1, n2, n3, n7, n8⟩ := hn
  obtain ⟨ha, ⟨u88, u89⟩, ulo, uhi, uhi2⟩ := hk.2.1 a lo hi hg.2.1
  have l1 := st_ln_0 l
  have w : js_w n = n := js_w_of (by omega) (by omega)
  have wa : js_w a = a := js_w_of (by omega) (by omega)
  have wl : js_w lo = lo := js_w_of (by omega) (by omega)
  have wh : js_w hi = hi := js_w_of (by omega) (by omega)
  have hn6 : 0 ≤ n ∧ n < 66000 := by omega
  have s0 := gq_0 (ρ := ρ) h54.1
  obtain ⟨ρ1, e1, h1⟩ := r_emit (E := E) (f := f - 1 - 1) (ρ := ρ) (x1 := 0) (x2 := lo) (x3 := 0) (x4 := lo) (x6 := lo) ⟨h49.1, by omega⟩
  have s1 := gq_e (kd := 0) (x := lo) (y := 0) s0 (by omega) h1 (if_pos rfl).symm
  have b1 := s1.1.2.1
  obtain ⟨ρ2, e2, h2⟩ := r_plain (E := E) (f := f - 1 - 1) (ρ := ρ1) (x1 := 2) (x2 := ρ1 90 a) (x3 := 0) (by omega) ⟨by omega, by omega⟩
  have s2 := gq_e (kd := 1) (x := a) (y := 0) s1 (by omega) h2 (by rw [if_neg (by decide), if_pos rfl, Int.add_zero])
  have b2 := s2.1.2.1
  have X2 := s2.1.1
  obtain ⟨ρ3, e3, h3⟩ := r_emit (E := E) (f := f - 1 - 1) (ρ := ρ2) (x1 := 0) (x2 := hi) (x3 := 0) (x4 := hi) (x6 := hi) ⟨by omega, by omega⟩
  have s3 := gq_e (kd := 0) (x := hi) (y := 0) s2 (by omega) h3 (if_pos rfl).symm
  have b3 := s3.1.2.1
  obtain ⟨ρ4, e4, h4⟩ := r_plain (E := E) (f := f - 1 - 1) (ρ := ρ3) (x1 := 3) (x2 := 0) (x3 := 0) (by omega) ⟨by omega, by omega⟩
  have s4 := gq_e (kd := 0) (x := 0) (y := 0) s3 (by omega) h4 (if_pos rfl).symm
  have b4 := s4.1.2.1
  have X4 := s4.1.1
  obtain ⟨ρ5, e5, h5⟩ := r_emit (E := E) (f := f - 1 - 1) (ρ := ρ4) (x1 := 1) (x2 := ρ4 90 a) (x3 := 0) (x4 := lo) (x6 := hi + 1) ⟨by omega, by omega⟩
  have s5 := gq_e (kd := 1) (x := a) (y := 0) s4 (by omega) h5 (by rw [if_neg (by decide), if_pos rfl, Int.add_zero])
  have b5 := s5.1.2.1
  obtain ⟨ρ6, e6, h6⟩ := r_emit (E := E) (f := f - 1 - 1) (ρ := ρ5) (x1 := 14) (x2 := 0) (x3 := 0) (x4 := 0) (x6 := 1) ⟨by omega, by omega⟩
  have s6 := gq_e (kd := 0) (x := 0) (y := 0) s5 (by omega) h6 (if_pos rfl).symm
  have b6 := s6.1.2.1
  obtain ⟨ρ7, e7, h7⟩ := r_plain (E := E) (f := f - 1 - 1) (ρ := ρ6) (x1 := 25) (x2 := 0) (x3 := 0) (by omega) ⟨by omega, by omega⟩
  have b7 := h7.1
  have X7 : gx_R (ρ 83 49) (ρ 83 52) ρ ρ7 := gx_trans s6.1.1 (gm_gx h7) (by omega) (Int.le_refl _)
  have q7 : ρ7 83 52 = ρ 83 52 := X7 _ _ (by omega) (by omega) (by omega)
  have m7 : ρ7 83 54 = ρ 83 54 := by
    rw [h7.2.2 _ _ (by omega) (by omega)]
    have := s6.1.2.2
    omega
  obtain ⟨ρ8, v, e8, h8, c8, c8'⟩ := gli_call (z := 0) hl (f := f - 1 - 1) (ρ := ρ7) (n := ρ 103 n) (t := t) (M := M) (N := n) ⟨gsk_fr hk (fun x i q => X7 x i (by omega) (by omega) (by omega)), st_nd_fr n8 (fun x i q1 q2 => X7 x i (by omega) (by omega) (by omega)), ⟨hw.2.2, hg.2.2, hr.1⟩, ⟨by omega, by omega⟩, ⟨by omega, by omega⟩, ⟨by omega, by omega, h54.2.2⟩, ht⟩ (by omega)
  have p0 := gq_0 (ρ := ρ7) (by omega)
  have p8 := gq_s p0 (Int.le_refl _) h8
  have a8 := p8.1.2.1
  obtain ⟨ρ9, e9, h9⟩ := r_emit (E := E) (f := f - 1 - 1) (ρ := ρ8) (x1 := 0) (x2 := 1) (x3 := 0) (x4 := 1) (x6 := 1) ⟨by omega, by omega⟩
  have p9 := gq_e (kd := 0) (x := 1) (y := 0) p8 (by omega) h9 (if_pos rfl).symm
  have a9 := p9.1.2.1
  obtain ⟨ρ10, e10, h10⟩ := r_plain (E := E) (f := f - 1 - 1) (ρ := ρ9) (x1 := 3) (x2 := 0) (x3 := 0) (by omega) ⟨by omega, by omega⟩
  have p10 := gq_e (kd := 0) (x := 0) (y := 0) p9 (by omega) h10 (if_pos rfl).symm
  have a10 := p10.1.2.1
  obtain ⟨ρ11, e11, h11⟩ := r_emit (E := E) (f := f - 1 - 1) (ρ := ρ10) (x1 := 1) (x2 := ρ10 90 a) (x3 := 0) (x4 := lo) (x6 := hi) ⟨by omega, by omega⟩
  have p11 := gq_e (kd := 1) (x := a) (y := 0) p10 (by omega) h11 (by rw [if_neg (by decide), if_pos rfl, Int.add_zero])
  have a11 := p11.1.2.1
  obtain ⟨ρ12, e12, h12⟩ := r_emit (E := E) (f := f - 1 - 1) (ρ := ρ11) (x1 := 6) (x2 := 0) (x3 := 0) (x4 := lo + 1) (x6 := hi + 1) ⟨by omega, by omega⟩
  have p12 := gq_e (kd := 0) (x := 0) (y := 0) p11 (by omega) h12 (if_pos rfl).symm
  have a12 := p12.1.2.1
  obtain ⟨ρ13, e13, h13⟩ := r_plain (E := E) (f := f - 1 - 1) (ρ := ρ12) (x1 := 2) (x2 := ρ12 90 a) (x3 := 0) (by omega) ⟨by omega, by omega⟩
  have p13 := gq_e (kd := 1) (x := a) (y := 0) p12 (by omega) h13 (by rw [if_neg (by decide), if_pos rfl, Int.add_zero])
  have a13 := p13.1.2.1
  obtain ⟨ρ14, e14, h14⟩ := r_plain (E := E) (f := f - 1 - 1) (ρ := ρ13) (x1 := 24) (x2 := ρ2 83 49) (x3 := 0) (by omega) ⟨by omega, by omega⟩
  have p14 := gq_e (kd := 0) (x := ρ2 83 49) (y := 0) p13 (by omega) h14 (if_pos rfl).symm
  have a14 := p14.1.2.1
  obtain ⟨ρz, ez, la, fa⟩ := r_land (E := E) (f := f - 1 - 1) (ρ := ρ14) (i := ρ6 83 49) ⟨by omega, by omega⟩
  have kz : ρz 83 49 = ρ14 83 49 := fa _ _ (by omega)
  have X14 : gx_R (ρ 83 49) (ρ 83 52) ρ ρ14 := gx_trans X7 (by have e := p14.1.1; rw [q7] at e; exact e) (by omega) (Int.le_refl _)
  have Xz : gx_R (ρ 83 49) (ρ 83 52) ρ ρz := gx_trans X14 (gx_land (q := ρ 83 52) fa (Int.le_refl _)) (by omega) (Int.le_refl _)
  have i : ∀ (τ : js_S), gx_R (ρ 83 49) (ρ 83 52) ρ τ → τ 88 a = lo ∧ τ 89 a = hi := fun τ X => ⟨by rw [X _ _ (by omega) (by omega) (by omega)]; exact u88, by rw [X _ _ (by omega) (by omega) (by omega)]; exact u89⟩
  have up : ∀ {k m : Int} {P : js_S → Prop} {τ : js_S}, gq_S ρ7 k m P τ → gx_R (ρ 83 49) (ρ 83 52) ρ τ := fun h => gx_trans X7 (by have e := h.1.1; rw [q7] at e; exact e) (by omega) (Int.le_refl _)
  have i2 := i _ s2.1.1
  have i4 := i _ s4.1.1
  have i10 := i _ (up p10)
  have i11 := i _ (up p11)
  have iz := i _ Xz
  have i103 : ρ7 103 n = ρ 103 n := X7 _ _ (by omega) (by omega) (by omega)
  have hR : 1 ≤ hi - lo + 1 := by omega
  have cc := gt_for (c := st_cn B l) hR c8 c8' (st_ln l + 13) (by omega)
  have w11 : js_l (v + 11) = v + 11 := js_l_of (by omega) (by omega)
  have wR : js_l (hi - lo + 1) = hi - lo + 1 := js_l_of (by omega) (by omega)
  have wM : js_l 1000000000000000 = 1000000000000000 := js_l_of (by decide) (by decide)
  have dv : js_l ((1000000000000000 : Int).tdiv (v + 11)) = 1000000000000000 / (v + 11) := by
    rw [Int.tdiv_eq_ediv_of_nonneg (by decide)]
    have x1 : 0 ≤ 1000000000000000 / (v + 11) := Int.ediv_nonneg (by decide) (by omega)
    have x2 : 1000000000000000 / (v + 11) ≤ 1000000000000000 := Int.ediv_le_self _ (by decide)
    exact js_l_of (by omega) (by omega)
  have e261 : js_J E (f - 1) 261 0 [(2, 83), (0, n), (0, t), (9, 0), (9, 0), (9, 0), (9, 0), (9, 0), (9, 0), (9, 0), (9, 0), (9, 0)] [] ρ = js_r E (1, if 1000000000000000 / (v + 11) < hi - lo + 1 then 1000000000000000 else min 1000000000000000 (7 + (hi - lo + 1) * (v + 11))) ρz := by
    rw [b_261_0, w, if_pos hn6, n7, wa, if_pos ha, u88, wl, k_261_30 (by omega) e1, b_261_33, wa, if_pos ha, k_261_43 (by omega) e2, b_261_46, wa, if_pos ha, i2.2, wh, k_261_76 (by omega) e3, b_261_79, k_261_84 (by omega) e4, b_261_87, wa, if_pos ha, i4.1, i4.2, wl, wh, k_261_113 (by omega) e5, b_261_116, k_261_124 (by omega) e6, b_261_127, k_261_133 (by omega) e7, b_261_136, w, if_pos hn6, i103, k_261_146 (by omega) e8, b_261_149, k_261_157 (by omega) e9, b_261_160, k_261_165 (by omega) e10, b_261_168, wa, if_pos ha, i10.1, i10.2, wl, wh, k_261_192 (by omega) e11, b_261_195, wa, if_pos ha, i11.1, i11.2, wl, wh, k_261_219 (by omega) e12, b_261_222, wa, if_pos ha, k_261_232 (by omega) e13, b_261_235, k_261_242 (by omega) e14, b_261_245, k_261_249 (by omega) ez, b_261_252, wa, if_pos ha, w11, if_neg (show ¬ v + 11 = 0 by omega), iz.1, iz.2, wl, wh, wM, dv, wR]
    by_cases q : 1000000000000000 / (v + 11) < hi - lo + 1
    · rw [if_pos q, if_pos q, b_261_309]
    · rw [if_neg q, if_neg q, k_261_306 (by omega) (r_bound (gt_forb hR c8 q)), b_261_309]
  refine ⟨ρz, _, ?_, ⟨Xz, by rw [st_ln27]; omega, ?_, fun hs => ?_⟩, by rw [st_cn27, st_ln27]; exact cc⟩
  · rw [b_247_0, w, if_pos hn6, n3, n7, s_247_13_27 (by decide), b_247_352, k_247_355 (by omega) e261, b_247_358]
  · rw [st_mt27, fa _ _ (by omega)]
    have := p14.1.2.2
    omega
  · obtain ⟨⟨⟨⟨⟨⟨_, x1⟩, x2⟩, x3⟩, x4⟩, x5⟩, x6⟩ := s6.2.2 _ _ (gyy_gy (gy_trans (gy_mono (gy_gm h7) (show ρ 83 49 + (0 + 1 + 1 + 1 + 1 + 1 + 1) ≤ _ by omega)) (gy_trans (gy_mono (gy_gx p14.1.1) (by omega)) (gy_land (n := ρ 83 49 + (0 + 1 + 1 + 1 + 1 + 1 + 1)) fa (by omega)) (Int.le_refl _)) (Int.le_refl _)) (Int.le_refl _)) (s6.2.1 (by omega))
    obtain ⟨⟨⟨⟨⟨⟨⟨_, y0⟩, y1⟩, y2⟩, y3⟩, y4⟩, y5⟩, y6⟩ := p14.2.2 _ _ (gyy_land fa (Or.inl (by omega))) (p14.2.1 (by omega))
    have j7 := gm_ri (k := 0) (x := 0) (y := 0) h7 (by omega) (if_pos rfl).symm
    have j14 := ri_gx p14.1.1 (by omega) j7
    have jz := ri_land (x := ρ14 83 49) j14 (la (by omega)) fa
    have ez' : ρ14 83 49 = ρ 83 49 + 13 + st_ln l := by omega
    rw [ez'] at jz
    have e2' : ρ2 83 49 = ρ 83 49 + 2 := by omega
    rw [e2'] at y6
    rw [st_cd27]
    exact ⟨ri_at x1 (by omega), ri_at x2 (by omega), ri_at x3 (by omega), ri_at x4 (by omega), ri_at x5 (by omega), ri_at x6 (by omega), ri_at jz (by omega), sr_at y0 (by omega), ri_at y1 (by omega), ri_at y2 (by omega), ri_at y3 (by omega), ri_at y4 (by omega), ri_at y5 (by omega), ri_at y6 (by omega)⟩
end GI
