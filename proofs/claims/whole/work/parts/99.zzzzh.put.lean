/-! part 99.zzzzh: code made step by step; an element is set; a row is set -/
/-- what rows of code from p to n keep -/
def gyy_R (p n : Int) (ρ ρ' : js_S) : Prop := (∀ a i : Int, 111 ≤ a → a ≤ 115 → p ≤ i → i < n → ρ' a i = ρ a i) ∧ (∀ i : Int, ρ' 90 i = ρ 90 i) ∧ ρ' 83 53 = ρ 83 53
theorem gyy_gy {p n n' : Int} {ρ ρ' : js_S} (h : gy_R n ρ ρ') (hn : n' ≤ n) : gyy_R p n' ρ ρ' := ⟨fun a i g1 g2 g3 g4 => h.1 a i g1 g2 (by omega), h.2⟩
theorem gyy_mono {p n n' : Int} {ρ ρ' : js_S} (h : gyy_R p n ρ ρ') (hn : n' ≤ n) : gyy_R p n' ρ ρ' := ⟨fun a i g1 g2 g3 g4 => h.1 a i g1 g2 g3 (by omega), h.2⟩
theorem gyy_land {p n o : Int} {ρ ρ' : js_S} (h : ∀ a k : Int, ¬ (a = 112 ∧ k = o) → ρ' a k = ρ a k) (hn : o < p ∨ n ≤ o) : gyy_R p n ρ ρ' := ⟨fun a i g1 g2 g3 g4 => h a i (by omega), fun i => h _ _ (by omega), h _ _ (by omega)⟩
theorem ri_gyy {p n i : Int} {ρ ρ' : js_S} {I : xt_I} (h : gyy_R p n ρ ρ') (hp : p ≤ i) (hi : i < n) (hI : ri_P ρ i I) : ri_P ρ' i I := by
  obtain ⟨a1, a2, a3, a4, a5⟩ := hI
  have e : ∀ a : Int, 111 ≤ a → a ≤ 115 → ρ' a i = ρ a i := fun a g1 g2 => h.1 a i g1 g2 hp hi
  unfold ri_P
  rw [e 111 (by decide) (by decide), e 112 (by decide) (by decide), e 113 (by decide) (by decide), e 114 (by decide) (by decide), e 115 (by decide) (by decide), h.2.1, h.2.2]
  exact ⟨a1, a2, a3, a4, a5⟩
theorem xr_gyy {m n t p : Int} {ρ ρ' : js_S} {e : tr_T} (h : gyy_R m n ρ ρ') (hm : m ≤ p) (hp : p + xt_ln e ≤ n) (hc : xt_cd (ri_P ρ) e t p) : xt_cd (ri_P ρ') e t p := xt_cd_of e t p (fun i I g1 g2 hI => ri_gyy h (by omega) (by omega) hI) hc
theorem sr_gyy {m n t p z : Int} {ρ ρ' : js_S} {e : tr_T} (h : gyy_R m n ρ ρ') (hm : m ≤ p) (hp : p + st_ln e ≤ n) (hc : st_cd (ri_P ρ) e t p z) : st_cd (ri_P ρ') e t p z := st_cd_of e t p z (fun i I g1 g2 hI => ri_gyy h (by omega) (by omega) hI) hc
/-- from ρ0 on k instructions were made, m TEMPS used at most, of which P holds -/
def gq_S (ρ0 : js_S) (k m : Int) (P : js_S → Prop) (ρ : js_S) : Prop := (gx_R (ρ0 83 49) (ρ0 83 52) ρ0 ρ ∧ ρ 83 49 = ρ0 83 49 + k ∧ ρ 83 54 = max (ρ0 83 54) m) ∧ (ρ 83 49 ≤ 8192 → P ρ) ∧ ∀ τ τ' : js_S, gyy_R (ρ0 83 49) (ρ0 83 49 + k) τ τ' → P τ → P τ'
theorem ri_at {ρ : js_S} {i j : Int} {I : xt_I} (h : ri_P ρ i I) (e : i = j) : ri_P ρ j I := e ▸ h
theorem xr_at {ρ : js_S} {i j t : Int} {e : tr_T} (h : xt_cd (ri_P ρ) e t i) (q : i = j) : xt_cd (ri_P ρ) e t j := q ▸ h
theorem gq_0 {ρ : js_S} (h : 0 ≤ ρ 83 54) : gq_S ρ 0 0 (fun _ => True) ρ := ⟨⟨gx_refl _ _ _, (Int.add_zero _).symm, by omega⟩, fun _ => trivial, fun _ _ _ _ => trivial⟩
theorem gq_e {ρ0 ρ ρ' : js_S} {k m op f s lo hi kd x y : Int} {P : js_S → Prop} (h : gq_S ρ0 k m P ρ) (hk : 0 ≤ k) (h2 : gm_R ρ ρ' op f s lo hi) (hf : f = (if kd = 0 then x else if kd = 1 then ρ 90 x + y else if kd = 2 then ρ 83 53 + x else ρ 90 x)) : gq_S ρ0 (k + 1) m (fun τ => P τ ∧ ri_P τ (ρ0 83 49 + k) (op, kd, x, y, s, lo, hi)) ρ' := by
  obtain ⟨⟨a1, a2, a3⟩, a4, a5⟩ := h
  have b1 := h2.1
  refine ⟨⟨gx_trans a1 (gm_gx h2) (by omega) (Int.le_refl _), by omega, by rw [h2.2.2 _ _ (by omega) (by omega)]; exact a3⟩, fun hs => ⟨a5 _ _ (gyy_gy (gy_gm h2) (by omega)) (a4 (by omega)), ?_⟩, fun τ τ' hy hP => ⟨a5 _ _ (gyy_mono hy (by omega)) hP.1, ri_gyy hy (by omega) (by omega) hP.2⟩⟩
  rw [← a2]
  exact gm_ri h2 (by omega) hf
theorem gq_t {ρ0 ρ ρ' : js_S} {k m t : Int} {P : js_S → Prop} (h : gq_S ρ0 k m P ρ) (h1 : ρ' 83 54 = max (ρ 83 54) (t + 1)) (h2 : ∀ a i : Int, ¬ (a = 83 ∧ i = 54) → ρ' a i = ρ a i) : gq_S ρ0 k (max m (t + 1)) P ρ' := by
  obtain ⟨⟨a1, a2, a3⟩, a4, a5⟩ := h
  refine ⟨⟨fun a i g1 g2 g3 => by rw [h2 a i (by omega), a1 a i g1 g2 g3], by rw [h2 _ _ (by omega)]; exact a2, by omega⟩, fun hs => ?_, a5⟩
  rw [h2 _ _ (by omega)] at hs
  exact a5 _ _ (gyy_gy (gy_of (n := ρ0 83 49 + k) (fun a i q1 q2 => h2 a i (by omega))) (Int.le_refl _)) (a4 hs)
theorem gq_x {ρ0 ρ ρ' : js_S} {k m t : Int} {P : js_S → Prop} {e : tr_T} (h : gq_S ρ0 k m P ρ) (hk : 0 ≤ k) (h1 : gr_R t ρ ρ' e) : gq_S ρ0 (k + xt_ln e) (max m (xt_mt e t)) (fun τ => P τ ∧ xt_cd (ri_P τ) e t (ρ0 83 49 + k)) ρ' := by
  obtain ⟨⟨a1, a2, a3⟩, a4, a5⟩ := h
  obtain ⟨b1, b2, b3, b4⟩ := h1
  have l1 := xt_ln_0 e
  have q : ρ 83 52 = ρ0 83 52 := a1 _ _ (by omega) (by omega) (by omega)
  rw [q] at b1
  refine ⟨⟨gx_trans a1 b1 (by omega) (Int.le_refl _), by omega, by omega⟩, fun hs => ⟨a5 _ _ (gyy_gy (gy_gx b1) (by omega)) (a4 (by omega)), ?_⟩, fun τ τ' hy hP => ⟨a5 _ _ (gyy_mono hy (by omega)) hP.1, xr_gyy hy (by omega) (by omega) hP.2⟩⟩
  rw [← a2]
  exact b4 hs
theorem gq_s {ρ0 ρ ρ' : js_S} {k m t z : Int} {P : js_S → Prop} {e : tr_T} (h : gq_S ρ0 k m P ρ) (hk : 0 ≤ k) (h1 : gsr_R t z ρ ρ' e) : gq_S ρ0 (k + st_ln e) (max m (st_mt e t)) (fun τ => P τ ∧ st_cd (ri_P τ) e t (ρ0 83 49 + k) z) ρ' := by
  obtain ⟨⟨a1, a2, a3⟩, a4, a5⟩ := h
  obtain ⟨b1, b2, b3, b4⟩ := h1
  have l1 := st_ln_0 e
  have q : ρ 83 52 = ρ0 83 52 := a1 _ _ (by omega) (by omega) (by omega)
  rw [q] at b1
  refine ⟨⟨gx_trans a1 b1 (by omega) (Int.le_refl _), by omega, by omega⟩, fun hs => ⟨a5 _ _ (gyy_gy (gy_gx b1) (by omega)) (a4 (by omega)), ?_⟩, fun τ τ' hy hP => ⟨a5 _ _ (gyy_mono hy (by omega)) hP.1, sr_gyy hy (by omega) (by omega) hP.2⟩⟩
  rw [← a2]
  exact b4 hs
/-- a load -/
theorem gq_l {ρ0 ρ ρ1 ρ' : js_S} {k m t lo hi : Int} {P : js_S → Prop} (h : gq_S ρ0 k m P ρ) (hk : 0 ≤ k) (h1 : ρ1 83 54 = max (ρ 83 54) (t + 1)) (h2 : ∀ a i : Int, ¬ (a = 83 ∧ i = 54) → ρ1 a i = ρ a i) (h3 : gm_R ρ1 ρ' 1 (ρ 83 53 + t) 0 lo hi) : gq_S ρ0 (k + 1) (max m (t + 1)) (fun τ => P τ ∧ ri_P τ (ρ0 83 49 + k) (1, 2, t, 0, 0, lo, hi)) ρ' := gq_e (gq_t h h1 h2) hk h3 (by rw [if_neg (by decide), if_neg (by decide), if_pos rfl, h2 _ _ (by omega)])
theorem gt_put {c1 c2 k1 k2 v1 v2 : Int} (h1 : gc_P c1 k1 v1) (h2 : gc_P c2 k2 v2) (hk : 0 ≤ k1 ∧ 0 ≤ k2) : gsc_P (c1 + c2 + 6) (k1 + 1 + k2 + 5) (v1 + v2 + 6) := by
  unfold gc_P at h1 h2
  unfold gsc_P
  omega
section GH
variable {E : js_E} {B : Int → Int} {S : Int → Prop} {Z K : Int → Int → Prop} {U : Int → Int → Int → Prop} {V : Int → Int → Int → Int → Prop} {ty lo hi a b c : Int} {l r : tr_T}
theorem gst_21 : gst_P E B S Z K U V (tr_n 21 ty lo hi a b c l r) := by
  intro f ρ n t M N hp hf
  obtain ⟨hk, hn, ⟨hw, hg, hr⟩, h52, h49, h54, ht⟩ := hp
  rw [st_nd21] at hn
  rw [st_g21] at hg
  rw [st_w21] at hw
  rw [st_r21] at hr
  rw [st_ln21] at h49
  rw [st_mt21] at h54
  have ed : st_dp (tr_n 21 ty lo hi a b c l r) = 1 + max (xt_dp l) (xt_dp r) := rfl
  rw [ed] at hf
  have d6 := xt_dp_6 l
  have hfl : 1 + xt_dp l ≤ f ∧ 1 + xt_dp r ≤ f := by omega
  have hmt : xt_mt l t ≤ 1024 ∧ t + 2 ≤ 1024 ∧ xt_mt r (t + 1) ≤ 1024 := by omega
  have h54' : 0 ≤ ρ 83 54 ∧ ρ 83 54 ≤ 1024 := ⟨h54.1, h54.2.1⟩
  clear hf ed h54
  obtain ⟨n1, n2, n3, n7, n8, n9⟩ := hn
  have ha := hk.1.1 a hg.1
  have hz := hk.1.2.1 a c hg.2.1
  have l1 := xt_ln_0 l
  have l2 := xt_ln_0 r
  have hnl := xt_nd_in n8 hw.1
  have hnr := xt_nd_in n9 hw.2.2.1
  have rl := xt_r_e hw.1 hr.1
  have rr := xt_r_e hw.2.2.1 hr.2
  have w : js_w n = n := js_w_of (by omega) (by omega)
  have wa : js_w a = a := js_w_of (by omega) (by omega)
  have hn6 : 0 ≤ n ∧ n < 66000 := by omega
  have s0 := gq_0 (ρ := ρ) h54'.1
  obtain ⟨ρ1, v1, e1, h1, c1⟩ := gen_term (E := E) (B := B) (S := S) (Z := Z) (K := K) l hw.1 hw.2.1 (f - 1) ρ (ρ 104 n) t M n 0 (gnp_st hk n8 ⟨hw.1, hw.2.1, hg.2.2.1, hr.1⟩ (fun _ _ _ => rfl) ⟨h52.1, by omega⟩ ⟨h49.1, by omega⟩ ⟨h54'.1, h54'.2, hmt.1⟩ ht) (by omega)
  have s1 := gq_x s0 (Int.le_refl _) h1
  have b1 := s1.1.2.1
  have m1 : 0 ≤ ρ1 83 54 ∧ ρ1 83 54 ≤ 1024 := by have := s1.1.2.2; omega
  obtain ⟨ρ2, e2, t2, f2⟩ := r_temp (E := E) (f := f - 1) (ρ := ρ1) (t := t) ⟨ht.1, by omega⟩ (by omega)
  have s2 := gq_t s1 t2 f2
  have b2 := s2.1.2.1
  have k253 : ρ2 83 53 = ρ1 83 53 := f2 _ _ (by omega)
  obtain ⟨ρ3, e3, h3⟩ := r_plain (E := E) (f := f - 1) (ρ := ρ2) (x1 := 2) (x2 := ρ1 83 53 + t) (x3 := 0) (by omega) ⟨by omega, by omega⟩
  have s3 := gq_e (kd := 2) (x := t) (y := 0) s2 (by omega) h3 (by rw [if_neg (by decide), if_neg (by decide), if_pos rfl, k253])
  have b3 := s3.1.2.1
  have X3 := s3.1.1
  have q3 : ρ3 83 52 = ρ 83 52 := X3 _ _ (by omega) (by omega) (by omega)
  have m3 : 0 ≤ ρ3 83 54 ∧ ρ3 83 54 ≤ 1024 := by have := s3.1.2.2; omega
  obtain ⟨ρ4, v2, e4, h4, c4⟩ := gen_term (E := E) (B := B) (S := S) (Z := Z) (K := K) r hw.2.2.1 hw.2.2.2 (f - 1) ρ3 (ρ 103 n) (t + 1) M n 0 (gnp_st hk n9 ⟨hw.2.2.1, hw.2.2.2, hg.2.2.2, hr.2⟩ (fun x i q => X3 x i (by omega) (by omega) (by omega)) ⟨by omega, by omega⟩ ⟨by omega, by omega⟩ ⟨m3.1, m3.2, hmt.2.2⟩ ⟨by omega, by omega⟩) (by omega)
  have s4 := gq_x s3 (by omega) h4
  have b4 := s4.1.2.1
  have m4 : 0 ≤ ρ4 83 54 ∧ ρ4 83 54 ≤ 1024 := by have := s4.1.2.2; omega
  obtain ⟨ρ5, e5, t5, f5⟩ := r_temp (E := E) (f := f - 1) (ρ := ρ4) (t := t + 1) ⟨by omega, by omega⟩ (by omega)
  have s5 := gq_t s4 t5 f5
  have b5 := s5.1.2.1
  have k553 : ρ5 83 53 = ρ4 83 53 := f5 _ _ (by omega)
  obtain ⟨ρ6, e6, h6⟩ := r_plain (E := E) (f := f - 1) (ρ := ρ5) (x1 := 2) (x2 := ρ4 83 53 + (t + 1)) (x3 := 0) (by omega) ⟨by omega, by omega⟩
  have s6 := gq_e (kd := 2) (x := t + 1) (y := 0) s5 (by omega) h6 (by rw [if_neg (by decide), if_neg (by decide), if_pos rfl, k553])
  have b6 := s6.1.2.1
  have X6 := s6.1.1
  have m6 : 0 ≤ ρ6 83 54 ∧ ρ6 83 54 ≤ 1024 := by have := s6.1.2.2; omega
  obtain ⟨ρ7, ρ8, e8, ⟨t7, f7⟩, h8⟩ := r_load (E := E) (f := f - 1) (ρ := ρ6) (t := t) (n := ρ 104 n) (lo := xt_lo l) (hi := xt_hi l) (by omega) ⟨by omega, by omega⟩ (by rw [X6 _ _ (by omega) (by omega) (by omega)]; exact hnl.2.2.2.1) (by rw [X6 _ _ (by omega) (by omega) (by omega)]; exact hnl.2.2.2.2) rl ⟨ht.1, by omega⟩ ⟨m6.1, by omega⟩ ⟨by omega, by omega⟩
  have s8 := gq_l s6 (by omega) t7 f7 h8
  have b8 := s8.1.2.1
  obtain ⟨ρ9, e9, h9⟩ := r_plain (E := E) (f := f - 1) (ρ := ρ8) (x1 := 3) (x2 := 0) (x3 := 0) (by omega) ⟨by omega, by omega⟩
  have s9 := gq_e (kd := 0) (x := 0) (y := 0) s8 (by omega) h9 (if_pos rfl).symm
  have b9 := s9.1.2.1
  have X9 := s9.1.1
  have m9 : 0 ≤ ρ9 83 54 ∧ ρ9 83 54 ≤ 1024 := by have := s9.1.2.2; omega
  obtain ⟨ρa, ρb, eb, ⟨ta, fa⟩, hb'⟩ := r_load (E := E) (f := f - 1) (ρ := ρ9) (t := t + 1) (n := ρ 103 n) (lo := xt_lo r) (hi := xt_hi r) (by omega) ⟨by omega, by omega⟩ (by rw [X9 _ _ (by omega) (by omega) (by omega)]; exact hnr.2.2.2.1) (by rw [X9 _ _ (by omega) (by omega) (by omega)]; exact hnr.2.2.2.2) rr ⟨by omega, by omega⟩ ⟨m9.1, by omega⟩ ⟨by omega, by omega⟩
  have sb := gq_l s9 (by omega) ta fa hb'
  have bb := sb.1.2.1
  have Xb := sb.1.1
  obtain ⟨ρz, ez, hz'⟩ := r_plain (E := E) (f := f - 1) (ρ := ρb) (x1 := 5) (x2 := ρb 90 a) (x3 := c) (by omega) ⟨by omega, by omega⟩
  have sz := gq_e (kd := 1) (x := a) (y := 0) sb (by omega) hz' (by rw [if_neg (by decide), if_pos rfl, Int.add_zero])
  have i103 : ρ3 103 n = ρ 103 n := X3 _ _ (by omega) (by omega) (by omega)
  have i104 : ρ6 104 n = ρ 104 n := X6 _ _ (by omega) (by omega) (by omega)
  have i103b : ρ9 103 n = ρ 103 n := X9 _ _ (by omega) (by omega) (by omega)
  have i91 : ρb 91 a = c := by rw [Xb _ _ (by omega) (by omega) (by omega)]; exact hz.2
  have cc := gt_put c1 c4 ⟨l1, l2⟩
  refine ⟨ρz, v1 + v2 + 6, ?_, ⟨sz.1.1, by rw [st_ln21]; have := sz.1.2.1; omega, ?_, fun hs => ?_⟩, by rw [st_cn21, st_ln21]; exact cc⟩
  · rw [b_247_0, w, if_pos hn6, n3, n7, s_247_13_21 (by decide), b_247_91, w, if_pos hn6, k_247_99 (by omega) e1, b_247_102, k_247_108 (by omega) e2, b_247_111, k_247_112 (by omega) e3, b_247_115, w, if_pos hn6, i103, k_247_128 (by omega) e4, b_247_131, k_247_140 (by omega) e5, b_247_143, k_247_144 (by omega) e6, b_247_147, w, if_pos hn6, i104, k_247_156 (by omega) e8, b_247_159, k_247_163 (by omega) e9, b_247_166, w, if_pos hn6, i103b, k_247_177 (by omega) eb, b_247_180, wa, if_pos ha, i91, k_247_194 (by omega) ez, b_247_197]
  · rw [st_mt21]
    have := sz.1.2.2
    omega
  · obtain ⟨⟨⟨⟨⟨⟨⟨⟨_, p1⟩, p2⟩, p3⟩, p4⟩, p5⟩, p6⟩, p7⟩, p8⟩ := sz.2.1 hs
    rw [st_cd21]
    exact ⟨xr_at p1 (by omega), ri_at p2 (by omega), xr_at p3 (by omega), ri_at p4 (by omega), ri_at p5 (by omega), ri_at p6 (by omega), ri_at p7 (by omega), ri_at p8 (by omega)⟩
end GH
