/-! part 99.zzm: for in step -/
theorem fo_n {b0 c lo hi : Int} (h0 : 0 ≤ b0) (h1 : b0 ≤ 400000) (hc : 0 ≤ c) (l : lo ≤ hi) (l1 : -2000000000 ≤ lo) (l2 : hi ≤ 2000000000) {B2 B7 B9 : Int} (e2 : B2 = min 400000 (b0 + 2)) (e7 : B7 = min 400000 (b0 + 7)) (e9 : B9 = min 400000 (min 400000 (B7 + c) + 6)) : (if js_l (js_w B9 + ((js_w hi - js_w lo) * js_w (B9 - B2) + js_w (B7 - B2))) < js_l 400000 then js_w B9 + ((js_w hi - js_w lo) * js_w (B9 - B2) + js_w (B7 - B2)) else 400000) = min 400000 (b0 + (7 + (hi - lo + 1) * (c + 11))) := by
  rw [js_w_of (x := B9) (by omega) (by omega), js_w_of (x := hi) (by omega) (by omega), js_w_of (x := lo) (by omega) (by omega), js_w_of (x := B9 - B2) (by omega) (by omega), js_w_of (x := B7 - B2) (by omega) (by omega)]
  have q0 : 0 ≤ B9 - B2 := by omega
  have q1 : B9 - B2 ≤ 400000 := by omega
  have k0 : 0 ≤ hi - lo := by omega
  have k1 : hi - lo ≤ 4000000000 := by omega
  have pr0 : 0 ≤ (hi - lo) * (B9 - B2) := Int.mul_nonneg k0 q0
  have pr1 : (hi - lo) * (B9 - B2) ≤ 4000000000 * 400000 := Int.mul_le_mul k1 q1 q0 (by decide)
  have px0 : 0 ≤ (hi - lo) * (c + 11) := Int.mul_nonneg k0 (by omega)
  have px : (hi - lo + 1) * (c + 11) = (hi - lo) * (c + 11) + (c + 11) := by rw [Int.add_mul, Int.one_mul]
  rw [px, js_l_of (x := B9 + ((hi - lo) * (B9 - B2) + (B7 - B2))) (by omega) (by omega), js_l_of (x := 400000) (by decide) (by decide)]
  by_cases q : b0 + 13 + c ≤ 400000
  · have eq : B9 - B2 = c + 11 := by omega
    rw [eq]
    split <;> omega
  · rw [if_neg (by omega)]
    omega
theorem ef_R_cl {b u n t p : Int} {σ σ' : js_S} {L : List xt_I} (h : cl_R b u σ σ' L) (hn : n ≤ σ (8 + b) 6) : ef_R b n t p σ σ' := fun a i g => h.2.2.2.2 a i (fun hh => g (ef_D8 ⟨hh.1, by omega⟩)) (fun hh => g (ef_D9 ⟨hh.1, hh.2.1, by omega⟩))
theorem sF_99 {E : js_E} {b m v : Int} {σ ρ ρb : js_S} {R : Option (Outcome × ip_W)} (h : sF_P E b σ ρ ρb R) : sF_P E b σ ρ (js_up ρb 99 m v) R := sF_more h (fun a i _ g => js_up_na _ g)
/-- the code of a for -/
theorem fo_cd {b u m lo hi p x5 x6 : Int} {σb τ τ2 σ' : js_S} {t n9 q9 : Int} {r : tr_T} (hb : b = 0 ∨ b = 25) (hp : σb (8 + b) 6 = p) (hx6 : x6 = p + 6) (hx5 : x5 = p + 2) (h9 : n9 = p + 7 + st_ln r) (cA : cl_R b u σb τ [(0, 0, lo, 0, 0, lo, lo), (2, 1, m, 0, 0, 1, 0), (0, 0, hi, 0, 0, hi, hi), (3, 0, 0, 0, 0, 1, 0), (1, 1, m, 0, 0, lo, hi + 1), (14, 0, 0, 0, 0, 0, 1), (25, 0, 0, 0, 0, 1, 0)]) (sft : sf_R b (τ (8 + b) 6) t q9 (τ (7 + b) 1) τ τ2) (cm : st_cd (ci_P τ2 b u) r t (p + 7) 0) (cb : cl_P (ci_P τ2 b u) [(0, 0, 1, 0, 0, 1, 1), (3, 0, 0, 0, 0, 1, 0), (1, 1, m, 0, 0, lo, hi), (6, 0, 0, 0, 0, lo + 1, hi + 1), (2, 1, m, 0, 0, 1, 0), (24, 0, x5, 0, 0, 1, 0)] n9) (h8 : τ (8 + b) 6 ≤ 8192) (gB : hg_R τ2 b) (l1 : x6 < 8192 → σ' (10 + b) x6 = p + 13 + st_ln r) (l2 : ∀ a i : Int, ¬ (a = 10 + b ∧ i = x6) → ¬ (a = 8 + b ∧ i = 7) → σ' a i = τ2 a i) : st_cd (ci_P σ' b u) (tr_n 27 0 lo hi m 0 0 r .leaf) t p (p + st_ln (tr_n 27 0 lo hi m 0 0 r .leaf)) := by
  have ll := st_ln_0 r
  obtain ⟨_, A6r, _, Ac, _⟩ := cA
  have A6 : τ (8 + b) 6 = σb (8 + b) 6 + 7 := A6r
  have ca := cl_of (Q := ci_P τ2 b u) _ _ (fun i I g1 g2 hI => ci_sf hb sft (by rw [A6r]; exact g2) hI) (Ac h8)
  clear Ac
  have lnd : ∀ (i i' : Int) (I : xt_I), ci_P τ2 b u i I → i ≠ x6 → i = i' → ci_P σ' b u i' I := fun i i' I hI hi hh => by
    rw [← hh]
    exact ci_P_of hI (fun a h1 h2 => l2 a i (by omega) (by omega)) (by rw [l2 _ _ (by omega) (by omega)]; exact Int.le_refl _) (fun s g1 g2 => l2 _ _ (by omega) (by omega)) (fun s k g1 g2 g3 => by have := gB s g1 g2; exact l2 _ _ (by omega) (by omega))
  obtain ⟨a0, a1, a2, a3, a4, a5, a6, _⟩ := ca
  obtain ⟨c0, c1, c2, c3, c4, c5, _⟩ := cb
  have cm' : st_cd (ci_P σ' b u) r t (p + 7) 0 := st_cd_of r _ _ _ (fun i I g1 g2 hI => lnd i i I hI (by omega) rfl) cm
  have e6 : σb (8 + b) 6 + 1 + 1 + 1 + 1 + 1 + 1 = p + 6 := by omega
  rw [e6] at a6
  have jz : ci_P σ' b u (p + 6) (25, 0, p + 13 + st_ln r, 0, 0, 1, 0) := by
    obtain ⟨i1, i2, i3, i4, i5⟩ := a6
    rw [if_pos rfl] at i5
    refine ⟨(l2 _ _ (by omega) (by omega)).trans i1, (l2 _ _ (by omega) (by omega)).trans i2, (l2 _ _ (by omega) (by omega)).trans i3, (l2 _ _ (by omega) (by omega)).trans i4, ?_⟩
    rw [if_pos rfl]
    refine ⟨?_, (l2 _ _ (by omega) (by omega)).trans i5.2⟩
    have := l1 (by omega)
    rw [hx6] at this
    exact this
  rw [st_cd27]
  rw [hx5] at c5
  exact ⟨lnd _ _ _ a0 (by omega) (by omega), lnd _ _ _ a1 (by omega) (by omega), lnd _ _ _ a2 (by omega) (by omega), lnd _ _ _ a3 (by omega) (by omega), lnd _ _ _ a4 (by omega) (by omega), lnd _ _ _ a5 (by omega) (by omega), jz, cm', lnd _ _ _ c0 (by omega) (by omega), lnd _ _ _ c1 (by omega) (by omega), lnd _ _ _ c2 (by omega) (by omega), lnd _ _ _ c3 (by omega) (by omega), lnd _ _ _ c4 (by omega) (by omega), lnd _ _ _ c5 (by omega) (by omega)⟩
theorem fo_fr {b u x6 n t p : Int} {σ9 ρ9 τ2 σ' ρ' : js_S} {j9 : Nat} {L : List xt_I} {k a c1 c2 c3 c4 c5 : Int} (hb : b = 0 ∨ b = 25) (cB : cl_R b u σ9 τ2 L) (l2 : ∀ a i : Int, ¬ (a = 10 + b ∧ i = x6) → ¬ (a = 8 + b ∧ i = 7) → σ' a i = τ2 a i) (hw : nw_R ρ9 ρ' k c1 c2 c3 a c4 c5) (r9 : rd_R σ9 ρ9 j9) (h9 : n ≤ σ9 (8 + b) 6) (h6 : n ≤ x6) : rd_R σ' ρ' j9 ∧ ef_R b n t p σ9 σ' ∧ σ' (8 + b) 6 = τ2 (8 + b) 6 ∧ (∀ k : Int, k ≠ 6 → k ≠ 7 → σ' (8 + b) k = σ9 (8 + b) k) ∧ σ' (23 + b) 15 = σ9 (23 + b) 15 := by
  have hwO := hw.2.2.2.2.2.2
  have BO := cB.2.2.2.2
  have l9 : ∀ a i : Int, ¬ (a = 8 + b ∧ (i = 6 ∨ i = 7)) → ¬ (9 + b ≤ a ∧ a ≤ 14 + b) → σ' a i = σ9 a i := fun a i g1 g2 => by rw [l2 _ _ (by omega) (by omega), BO _ _ g1 (by omega)]
  exact ⟨rd_R_of r9 (fun i _ => l9 _ _ (by omega) (by omega)) (fun a i _ _ => l9 _ _ (by omega) (by omega)) (fun i _ _ => hwO _ _ (by omega) (by omega)) (fun i => hwO _ _ (by omega) (by omega)), ef_R_trans (ef_R_cl cB h9) (fun a i g => l2 a i (fun hh => g (ef_D9 ⟨by omega, by omega, by omega⟩)) (fun hh => g (ef_D8 ⟨hh.1, by omega⟩))), l2 _ _ (by omega) (by omega), fun k g1 g2 => l9 _ _ (by omega) (by omega), l9 _ _ (by omega) (by omega)⟩
/-- what is known of a for when its node is made -/
theorem fo_end {E : js_E} {b F s m lo hi mm x5 x6 : Int} {B U : Int → Int} {X : Int → Prop} {σ ρ σa ρa σb τ σ8 ρc σ9 ρ9 τ2 σ' ρ' : js_S} {j ja j9 : Nat} {r : tr_T} (hb : b = 0 ∨ b = 25) (hx : ux_R E b F B U X σ ρ) (hn : xn_R b σ ρ j) (hm : ρ 83 11 = m) (va : va_R E b F m s B X σ ρ j σa ρa ja) (u88 : ρa 88 m = lo) (u89 : ρa 89 m = hi) (upb : ∀ a i : Int, a < 137 → σb a i = σa a i) (cA : cl_R b (σ (8 + b) 8) σb τ [(0, 0, lo, 0, 0, lo, lo), (2, 1, m, 0, 0, 1, 0), (0, 0, hi, 0, 0, hi, hi), (3, 0, 0, 0, 0, 1, 0), (1, 1, m, 0, 0, lo, hi + 1), (14, 0, 0, 0, 0, 0, 1), (25, 0, 0, 0, 0, 1, 0)]) (o8 : of_R τ σ8) (sf8 : sf_R b (σ (8 + b) 6) (σ (8 + b) 10) (σ (23 + b) 15) m σ σ8) (hbl : bl_R E b F B U X 1 σ8 ρc (ja + 1) σ9 ρ9 j9 mm r) (y11 : ρc 83 11 = m + 1) (y33 : ρc 83 33 = ρ 83 33) (y44 : ρc 83 44 = ρ 83 44) (y10 : ρc 83 10 = ρ 83 10 + 1) (yA : ∀ a i : Int, 86 ≤ a → a ≤ 98 → ρc a i = ρa a i) (sgc : sg_R (ρ 83 33) m ρ ρc) (hx5 : x5 = σ (8 + b) 6 + 2) (hx6 : x6 = σ (8 + b) 6 + 6) (cB : cl_R b (σ (8 + b) 8) σ9 τ2 [(0, 0, 1, 0, 0, 1, 1), (3, 0, 0, 0, 0, 1, 0), (1, 1, m, 0, 0, lo, hi), (6, 0, 0, 0, 0, lo + 1, hi + 1), (2, 1, m, 0, 0, 1, 0), (24, 0, x5, 0, 0, 1, 0)]) (l1 : x6 < 8192 → σ' (10 + b) x6 = τ2 (8 + b) 6) (l2 : ∀ a i : Int, ¬ (a = 10 + b ∧ i = x6) → ¬ (a = 8 + b ∧ i = 7) → σ' a i = τ2 a i) (l7 : σ' (8 + b) 7 = (if js_l (js_w (τ2 (8 + b) 7) + ((js_w hi - js_w lo) * js_w (τ2 (8 + b) 7 - min 400000 (σa (8 + b) 7 + 2)) + js_w (τ (8 + b) 7 - min 400000 (σa (8 + b) 7 + 2)))) < js_l 400000 then js_w (τ2 (8 + b) 7) + ((js_w hi - js_w lo) * js_w (τ2 (8 + b) 7 - min 400000 (σa (8 + b) 7 + 2)) + js_w (τ (8 + b) 7 - min 400000 (σa (8 + b) 7 + 2))) else 400000)) (hw : nw_R ρ9 ρ' 27 0 0 0 m mm 0) : sr_R E b F B U X σ ρ j σ' ρ' j9 (ρ9 83 33) (tr_n 27 0 lo hi m 0 0 r .leaf) := by
  have m0 : 0 ≤ m := by have := hx.1.1.1.1; omega
  obtain ⟨_, ⟨_, hja⟩, _, _, _, ⟨h8, _, h15, h71⟩, _, _, ⟨k6, k7, k93, _, _, _, k88, k88', k89, _⟩, _⟩ := va
  have hlo : lo ≤ hi := by omega
  have bnd : σ' (8 + b) 7 = min 400000 (σ (8 + b) 7 + st_cn B (tr_n 27 0 lo hi m 0 0 r .leaf)) := by
    have A7 : τ (8 + b) 7 = min 400000 (σb (8 + b) 7 + 7) := cA.2.2.1
    have B7 : τ2 (8 + b) 7 = min 400000 (σ9 (8 + b) 7 + 6) := cB.2.2.1
    have v7 := h8 7 (by decide)
    have b7 : σb (8 + b) 7 = σ (8 + b) 7 := by rw [upb _ _ (by omega), v7]
    have w7 : σ8 (8 + b) 7 = τ (8 + b) 7 := o8 _ _ (by omega) (by omega)
    have z7 := hbl.2.2.1.1.2.2.2.1
    rw [st_cn27]
    exact l7.trans (fo_n (b0 := σ (8 + b) 7) (c := st_cn B r) hn.2.1.1 hn.2.1.2 hbl.2.2.2.1.2.2.1.2.1 hlo (by omega) (by omega) (by rw [v7]) (by rw [A7, b7]) (by rw [B7, z7, w7]))
  clear l7
  have n9 : σ (8 + b) 6 ≤ σ9 (8 + b) 6 := by
    have z6 := hbl.2.2.1.1.2.2.1
    have ll := st_ln_0 r
    have A6 : τ (8 + b) 6 = σb (8 + b) 6 + 7 := cA.2.1
    have w6 : σ8 (8 + b) 6 = τ (8 + b) 6 := o8 _ _ (by omega) (by omega)
    have b6 : σb (8 + b) 6 = σ (8 + b) 6 := by rw [upb _ _ (by omega), h8 6 (by decide)]
    omega
  have h9 := fo_fr hb cB l2 hw hbl.1.1 (n := σ (8 + b) 6) (t := σ (8 + b) 10) (p := σ (23 + b) 15) n9 (by omega)
  obtain ⟨r', F9', l26, g8, g23⟩ := h9
  have hn33 := hn.2.2.2.2.1.1
  have cA' := cA
  obtain ⟨⟨gA, _⟩, A6, _, _, AO⟩ := cA
  have A6 : τ (8 + b) 6 = σb (8 + b) 6 + 7 := A6
  have b6 : σb (8 + b) 6 = σ (8 + b) 6 := by rw [upb _ _ (by omega), h8 6 (by decide)]
  have tO : ∀ a i : Int, a < 137 → ¬ (a = 8 + b ∧ (i = 6 ∨ i = 7)) → ¬ (9 + b ≤ a ∧ a ≤ 14 + b) → τ a i = σa a i := fun a i g1 g2 g3 => by rw [AO a i g2 (by omega), upb a i g1]
  have w : ∀ k : Int, σ8 (8 + b) k = τ (8 + b) k := fun k => o8 _ _ (by omega) (by omega)
  have w6 := w 6
  have w8 : σ8 (8 + b) 8 = σ (8 + b) 8 := by rw [w 8, tO _ _ (by omega) (by omega) (by omega), h8 8 (by decide)]
  have w10 : σ8 (8 + b) 10 = σ (8 + b) 10 := by rw [w 10, tO _ _ (by omega) (by omega) (by omega), h8 10 (by decide)]
  have w11 : σ8 (8 + b) 11 = σ (8 + b) 11 := by rw [w 11, tO _ _ (by omega) (by omega) (by omega), h8 11 (by decide)]
  have w12 : σ8 (8 + b) 12 = σ (8 + b) 12 := by rw [w 12, tO _ _ (by omega) (by omega) (by omega), h8 12 (by decide)]
  have w15 : σ8 (23 + b) 15 = σ (23 + b) 15 := by rw [o8 _ _ (by omega) (by omega), tO _ _ (by omega) (by omega) (by omega), h15]
  have t71 : τ (7 + b) 1 = m + 1 := by rw [tO _ _ (by omega) (by omega) (by omega), h71]
  clear tO AO upb w h15 h71 h8
  obtain ⟨⟨r9, q9, dp9, F9, G9, m9, m9', kk9⟩, hL9, hC9, hT9, hu9⟩ := hbl
  have z6 := hC9.1.2.2.1
  have B6 : τ2 (8 + b) 6 = σ9 (8 + b) 6 + 6 := cB.2.1
  have ll := st_ln_0 r
  have hwO := hw.2.2.2.2.2.2
  have G9' : eg_R (ρ9 83 33) ρ9 ρ' := eg_R_nw hw
  have hu' := ux_ef hb hu9 F9' G9'
  have sf89 : sf_R b (σ (8 + b) 6) (σ (8 + b) 10) (σ (23 + b) 15) m σ σ9 := sf_R_trans sf8 F9 (by omega) (by omega) (by omega) (by omega)
  have zr : ∀ a : Int, 86 ≤ a → a ≤ 97 → ρ' a m = ρa a m := fun a g1 g2 => by rw [hwO _ _ (by omega) (by omega), G9 _ _ (by omega) (by omega) (by omega) (by omega) (by omega), yA _ _ (by omega) (by omega)]
  have hw1 := hw.1
  have e11' : ρ' 83 11 = ρ9 83 11 := hwO _ _ (by omega) (by omega)
  have tl := hT9.2.2.1.1
  push_cast at m9' tl
  have e10 : ρ' 83 10 = ρ 83 10 := by
    rw [hwO _ _ (by omega) (by omega), dp9, y10]
    omega
  have sg' : sg_R (ρ 83 33) (ρ 83 11) ρ ρ' := by
    rw [hm]
    exact sg_R_trans (sg_R_trans sgc G9 (by omega) (by omega)) (sg_R_eg (m := m) G9') (by omega) (Int.le_refl _)
  have sf' : sf_R b (σ (8 + b) 6) (σ (8 + b) 10) (σ (23 + b) 15) (ρ 83 11) σ σ' := by
    rw [hm]
    exact sf_R_trans sf89 (sf_R_ef hb (fun i g1 g2 => xs_ge hu9.1 i g1 (by omega)) F9') (Int.le_refl _) (Int.le_refl _) (Int.le_refl _) (Int.le_refl _)
  refine ⟨⟨r', by omega, e10, sf', sg', by omega, by omega, by omega⟩, ?_, ⟨⟨?_, ?_, ?_, bnd, ?_⟩, fun hs => ?_⟩, ⟨?_, ⟨show (20 : Int) ≤ 27 ∧ (27 : Int) ≤ 28 ∧ (27 : Int) ≠ 25 by decide, ?_, ?_⟩, ⟨?_, ?_, ?_⟩, by omega, by omega, hw.2.2.2.2.2.1, st_dz (x := 2 + st_dp r) rfl (by
    have a1 : st_dp r ≤ 2 * (400 - σ8 (23 + b) 15) + 6 * (65 - ρc 83 10) + 5 + 6 * 1 := hT9.2.2.2.2
    unfold zz_b
    omega)⟩, hu'⟩
  · obtain ⟨x, x1, x2, x3, x4⟩ := hL9
    exact ⟨x, x1, x2, by rw [hwO _ _ (by omega) (by omega), x3, y44], by rw [g8 12 (by decide) (by decide), x4, w12]⟩
  · rw [g23, hC9.1.1, w15]
  · rw [g8 10 (by decide) (by decide), hC9.1.2.1, w10]
  · rw [st_ln27]
    omega
  · rw [st_mt27, g8 11 (by decide) (by decide), hC9.1.2.2.2.2, w11, w10]
  · have F92 : ∀ n t p : Int, n ≤ σ9 (8 + b) 6 → ef_R b n t p σ9 τ2 := fun n t p hn => ef_R_cl cB hn
    have sfτ2 : sf_R b (τ (8 + b) 6) (σ8 (8 + b) 10) (σ8 (23 + b) 15) (τ (7 + b) 1) τ τ2 := sf_R_trans (sf_R_trans (sf_R_ef hb gA (ef_R_of o8)) F9 (by omega) (Int.le_refl _) (Int.le_refl _) (by omega)) (sf_R_ef (m := τ (7 + b) 1) hb (fun i g1 g2 => xs_ge hu9.1 i g1 (by omega)) (F92 _ (σ8 (8 + b) 10) (σ8 (23 + b) 15) (Int.le_refl _))) (by omega) (Int.le_refl _) (Int.le_refl _) (Int.le_refl _)
    have zc' := hC9.2 (by omega)
    have e7 : σ8 (8 + b) 6 = σ (8 + b) 6 + 7 := by omega
    rw [w10] at sfτ2
    rw [w8, w10, e7] at zc'
    have cm := st_cd_sf hb (sf_R_ef (n := σ9 (8 + b) 6) (t := 0) (p := 0) hb (xs_hg hu9.1) (F92 _ _ _ (Int.le_refl _))) (by omega) zc'
    exact fo_cd hb b6 hx6 hx5 (by omega) cA' sfτ2 cm (cB.2.2.2.1 (by omega)) (by omega) cB.1.1 (fun h => by rw [l1 h]; omega) l2
  · rw [st_nd27]
    refine ⟨⟨by omega, by omega⟩, by omega, hw.2.1.1, hw.2.2.1, ?_⟩
    rw [hw.2.2.2.1]
    exact st_nd_sg hT9.1 (sg_R_eg (m := 0) G9') (Int.le_refl _) (by omega)
  · rw [st_w27]
    exact ⟨hlo, hT9.2.1.1, hT9.2.1.2.1⟩
  · unfold st_G
    rw [st_g27]
    refine ⟨⟨m0, by omega, Or.inr ?_⟩, ⟨m0, by omega, ?_, ?_, by omega, by omega, by omega⟩, st_G_sg hT9.2.1.2.2 (sg_R_eg (m := ρ9 83 11) G9') (Int.le_refl _) (by omega) (by rw [hwO _ _ (by omega) (by omega)]; exact Int.le_refl _)⟩
    · rw [zr 86 (by decide) (by decide), zr 93 (by decide) (by decide)]
      exact ⟨by omega, k7, k93⟩
    · rw [zr 88 (by decide) (by decide)]
      exact u88
    · rw [zr 89 (by decide) (by decide)]
      exact u89
  · rw [st_ln27]
    omega
  · rw [st_cn27]
    have := Int.mul_nonneg (show 0 ≤ hi - lo + 1 by omega) (show 0 ≤ st_cn B r + 11 by have := hT9.2.2.1.2.1; omega)
    omega
  · rw [st_mt27, ← w10]
    exact hT9.2.2.1.2.2
section SI
variable {E : js_E} {d e : Nat} {b F : Int} {B U : Int → Int} {X : Int → Prop} {σ ρ : js_S} {j : Nat}
theorem y_forst {J0 : Nat} (hb : b = 0 ∨ b = 25) (hS : sa_P E b F B U X J0) (hJ : J0 ≤ j + 1) (hx : ux_R E b F B U X σ ρ) (hn : xn_R b σ ρ j) (hR : rd_R σ ρ j) (h5 : ρ 83 5 = 310) (hD : 1 ≤ ρ 83 10) (ht : σ (8 + b) 10 ≤ 2 * ρ 83 10) (hp : σ (23 + b) 15 ≤ 6 * ρ 83 10) (hd : 4 * (65 - ρ 83 10) + 31 ≤ (d : Int)) (he : 12 * (65 - ρ 83 10) + 33 ≤ (e : Int)) : sq_P E b F B U X σ ρ j (js_J E d 105 0 [(2, 22 + b), (9, 0), (9, 0), (9, 0), (9, 0), (9, 0), (9, 0), (9, 0), (9, 0), (9, 0)] [] σ) (js_J E e 242 0 [(2, 83), (9, 0), (9, 0), (9, 0), (9, 0)] [] ρ) := by
  have D1 := hR.2.2.2.2.2
  have hj0 := rd_j hR
  have hpl := hx.2.1
  have t123 : tk_m 123 = 123 := by decide
  rcases y_fhead (E := E) (d := d) (e := e) hb hx hR h5 (by omega) (by omega) with ⟨σa, ρa, ja, s, lo, hi, ec, er, va, k1, u88, u89⟩ | ⟨ρ', er, hf⟩
  · rw [ec, er]
    have va' := va
    obtain ⟨xa, ⟨ra, hja⟩, sfa, sga, ⟨h11, h10, h33, h44⟩, ⟨h8, h9, h15, h71⟩, ⟨hds, h19⟩, hF, ⟨k6, k7, k93, k92, k91, k91', k88, k88', k89, kty⟩, ⟨s5, s11⟩⟩ := va
    have hna := va_xn va' hn
    have m0 : 0 ≤ ρ 83 11 := hx.1.1.1.1
    have m4 : ρ 83 11 < 400 := by have := xa.1.1.2.1; omega
    have hge := js_sym_ge hds
    have gm : 0 ≤ ρ 83 11 ∧ ρ 83 11 < 400 := ⟨m0, m4⟩
    have wm : js_w (ρ 83 11) = ρ 83 11 := js_w_of (by omega) (by omega)
    have hja' := rd_j ra
    have hux := ux_new (s := s) hb hx rfl xa sfa sga h11 h19 hF ⟨k6, k7⟩ k93 k92 ⟨k91, k91'⟩ ⟨k88, k88', k89⟩ kty s5 s11 h9
    have v6 := h8 6 (by decide)
    have v7 := h8 7 (by decide)
    have v8 := h8 8 (by decide)
    have v10 := h8 10 (by decide)
    have v11 := h8 11 (by decide)
    have v12 := h8 12 (by decide)
    have s0 : σa s 0 = ρ 83 11 := by
      have := (xa.1.2.2.2.2.2.1 (ρ 83 11) m0 (by omega)).2.1
      rw [h19] at this
      exact this
    have hn0 := hn
    unfold xn_R at hn0
    have hna0 := hna
    unfold xn_R at hna0
    obtain ⟨τ, eA, cA⟩ := fo_A (E := E) (d := d) (u := σ (8 + b) 8) (σ := σa) (s := s) (m := ρ 83 11) (lo := lo) (hi := hi) hb (xn_cz hna ra) (xs_hg xa) (by omega) hds h19 m0 (by omega) (by rw [s11, hpl.2.2.1]; exact hpl.2.2.2.2.1) (by omega)
    have upb : ∀ a i : Int, a < 137 → js_up σa s 13 1 a i = σa a i := fun a i g => js_up_na _ (by omega)
    have upk : ∀ k : Int, k ≠ 13 → js_up σa s 13 1 s k = σa s k := fun k g => js_up_ni _ g
    have sfb : sf_R b (σ (8 + b) 6) (σ (8 + b) 10) (σ (23 + b) 15) (ρ 83 11) σ (js_up σa s 13 1) := sf_R_trans sfa (sf_R_13 (n := σ (8 + b) 6) (t := σ (8 + b) 10) (p := σ (23 + b) 15) (m := ρ 83 11) hb m0 m4 h19 hge) (Int.le_refl _) (Int.le_refl _) (Int.le_refl _) (Int.le_refl _)
    rw [eA]
    clear eA
    generalize js_up σa s 13 1 = σb at hux cA upb upk sfb
    have cA' := cA
    obtain ⟨⟨gA, zA⟩, A6, A7, Ac, AO⟩ := cA
    have A6 : τ (8 + b) 6 = σb (8 + b) 6 + 7 := A6
    have A7 : τ (8 + b) 7 = min 400000 (σb (8 + b) 7 + 7) := A7
    have b6 : σb (8 + b) 6 = σ (8 + b) 6 := by rw [upb _ _ (by omega), v6]
    have b7 : σb (8 + b) 7 = σ (8 + b) 7 := by rw [upb _ _ (by omega), v7]
    have hxb : ux_R E b F B U X τ (js_up ρa 99 (ρ 83 11) 1) := ux_ef hb hux (ef_R_cl (n := 0) (t := 0) (p := 0) cA' (by omega)) (eg_R_refl 0 _)
    have tO : ∀ a i : Int, a < 137 → ¬ (a = 8 + b ∧ (i = 6 ∨ i = 7)) → ¬ (9 + b ≤ a ∧ a ≤ 14 + b) → τ a i = σa a i := fun a i g1 g2 g3 => by rw [AO a i g2 (by omega), upb a i g1]
    have rτ : rd_R τ ρa ja := rd_R_of ra (fun i _ => tO _ _ (by omega) (by omega) (by omega)) (fun a i _ _ => tO _ _ (by omega) (by omega) (by omega)) (fun _ _ _ => rfl) (fun _ => rfl)
    have ts0 : τ s 0 = ρ 83 11 := by rw [AO _ _ (by omega) (by omega), upk 0 (by decide)]; exact s0
    rw [ts0]
    have sfτ : sf_R b (σ (8 + b) 6) (σ (8 + b) 10) (σ (23 + b) 15) (ρ 83 11) σ τ := sf_R_trans sfb (sf_R_ef (n := σ (8 + b) 6) (t := σ (8 + b) 10) (p := σ (23 + b) 15) (m := ρ 83 11) hb (fun i g1 g2 => xs_ge hux.1 i g1 (by rw [js_up_na _ (by decide)]; omega)) (ef_R_cl cA' (by omega))) (Int.le_refl _) (Int.le_refl _) (Int.le_refl _) (Int.le_refl _)
    obtain ⟨ρb, eo, og, hor⟩ := y_open (E := E) (d := d - 1 - 1) (e := e - 1) (k := 123) hxb.1.1.2.2.1 rτ (by omega) (by omega) (by unfold tk_V; omega) (by decide)
    rw [t123] at hor
    rw [k_242_100 (by omega) eo, b_242_103, wm, if_pos gm, js_iand11]
    have og' : og_R (js_up ρa 99 (ρ 83 11) 1) (js_up ρb 99 (ρ 83 11) 1) := fun a i g => by
      by_cases q : a = 99 ∧ i = ρ 83 11
      · rw [q.1, q.2, js_up_same, js_up_same]
      · rw [js_up_ne _ q, js_up_ne _ q]
        exact og a i g
    have uc : ∀ a i : Int, a ≠ 99 → js_up ρb 99 (ρ 83 11) 1 a i = ρb a i := fun a i g => js_up_na _ g
    have rfb : rf_R ρ ρb := rf_R_trans (rf_R_sg sga) (rf_R_eg (N := 0) (eg_R_og og))
    have x11 : ρb 83 11 = ρ 83 11 + 1 := by rw [og _ _ (by omega)]; exact h11
    have x33 : ρb 83 33 = ρ 83 33 := by rw [og _ _ (by omega)]; exact h33
    have x44 : ρb 83 44 = ρ 83 44 := by rw [og _ _ (by omega)]; exact h44
    rcases hor with ⟨σ8, j8, c8, hR8, o8, hj8, hD64, hD8⟩ | ⟨hFb, c8⟩
    · subst hj8
      have hx8 : ux_R E b F B U X σ8 (js_up ρb 99 (ρ 83 11) 1) := ux_ef hb hxb (ef_R_of (n := 0) (t := 0) (p := 0) o8) (eg_R_og (N := 0) og')
      have hRc : rd_R σ8 (js_up ρb 99 (ρ 83 11) 1) (ja + 1) := rd_R_of hR8 (fun _ _ => rfl) (fun _ _ _ _ => rfl) (fun i _ _ => uc _ _ (by decide)) (fun i => uc _ _ (by decide))
      have y11 : js_up ρb 99 (ρ 83 11) 1 83 11 = ρ 83 11 + 1 := by rw [uc _ _ (by decide)]; exact x11
      have y33 : js_up ρb 99 (ρ 83 11) 1 83 33 = ρ 83 33 := by rw [uc _ _ (by decide)]; exact x33
      have y44 : js_up ρb 99 (ρ 83 11) 1 83 44 = ρ 83 44 := by rw [uc _ _ (by decide)]; exact x44
      have y10 : js_up ρb 99 (ρ 83 11) 1 83 10 = ρ 83 10 + 1 := by rw [uc _ _ (by decide), hD8, h10]
      have yA : ∀ a i : Int, 86 ≤ a → a ≤ 98 → js_up ρb 99 (ρ 83 11) 1 a i = ρa a i := fun a i g1 g2 => by rw [uc _ _ (by omega), og _ _ (by omega)]
      have sgc : sg_R (ρ 83 33) (ρ 83 11) ρ (js_up ρb 99 (ρ 83 11) 1) := fun a i g1 g2 g3 g4 g5 => by rw [uc _ _ g5, og _ _ (by omega)]; exact sga a i g1 g2 g3 g4 g5
      clear og'
      generalize js_up ρb 99 (ρ 83 11) 1 = ρc at hx8 hRc y11 y33 y44 y10 yA sgc uc ⊢
      have w : ∀ k : Int, σ8 (8 + b) k = τ (8 + b) k := fun k => o8 _ _ (by omega) (by omega)
      have w6 := w 6
      have w7 := w 7
      have w8 : σ8 (8 + b) 8 = σ (8 + b) 8 := by rw [w 8, tO _ _ (by omega) (by omega) (by omega), v8]
      have w10 : σ8 (8 + b) 10 = σ (8 + b) 10 := by rw [w 10, tO _ _ (by omega) (by omega) (by omega), v10]
      have w11 : σ8 (8 + b) 11 = σ (8 + b) 11 := by rw [w 11, tO _ _ (by omega) (by omega) (by omega), v11]
      have w12 : σ8 (8 + b) 12 = σ (8 + b) 12 := by rw [w 12, tO _ _ (by omega) (by omega) (by omega), v12]
      have w15 : σ8 (23 + b) 15 = σ (23 + b) 15 := by rw [o8 _ _ (by omega) (by omega), tO _ _ (by omega) (by omega) (by omega), h15]
      have hn8 : xn_R b σ8 ρc (ja + 1) := by
        unfold xn_R
        push_cast
        omega
      have sf8 : sf_R b (σ (8 + b) 6) (σ (8 + b) 10) (σ (23 + b) 15) (ρ 83 11) σ σ8 := sf_R_trans sfτ (sf_R_ef (n := σ (8 + b) 6) (t := σ (8 + b) 10) (p := σ (23 + b) 15) (m := ρ 83 11) hb (fun i g1 g2 => xs_ge hxb.1 i g1 (by rw [js_up_na _ (by decide)]; omega)) (ef_R_of o8)) (Int.le_refl _) (Int.le_refl _) (Int.le_refl _) (Int.le_refl _)
      rcases y_blkin (E := E) (d := d - 1) (e := e - 1) (f := ρ 83 11) hb hS (by omega) hx8 hn8 hRc (by omega) (by omega) (by omega) (by omega) (by omega) ⟨m0, by omega⟩ with ⟨σ9, ρx, ρy, ρ9, j9, mm, r, el, ev, eh, ecb, hbl⟩ | ⟨ρx, ρy, ρ9, vv, el, ev, eh, hf⟩
      · have hn9 := xn_nextb hn8 hbl
        obtain ⟨⟨r9, q9, dp9, F9, G9, m9, m9', kk9⟩, hL9, hC9, hT9, hu9⟩ := id hbl
        have hn90 := hn9
        unfold xn_R at hn90
        have hj9 := rd_j r9
        have c55 : js_J E (d - 1) 55 0 [(2, 22 + b), (0, ρ 83 11), (2, -1), (9, 0)] [] τ = js_r0 E σ9 := by rw [b_55_0 hb, k_55_6 (by omega) c8, b_55_9]; exact ecb
        obtain ⟨f19, frow⟩ := F9.2.2.1 (ρ 83 11) m0 (by omega)
        have e198 : σ8 (19 + b) (ρ 83 11) = s := by rw [o8 _ _ (by omega) (by omega), tO _ _ (by omega) (by omega) (by omega), h19]
        rw [e198] at f19 frow
        have hsym9 := (hu9.1.1.2.2.2.2.2.1 (ρ 83 11) m0 (by omega)).1
        rw [f19] at hsym9
        have hst9 := hu9.1.2.2.2.1 (ρ 83 11) m0 (by omega)
        rw [f19] at hst9
        have s79 : ρ 83 11 < σ9 (7 + b) 1 := by rw [hu9.1.1.2.2.2.2.1]; omega
        have ll := st_ln_0 r
        have z6 := hC9.1.2.2.1
        obtain ⟨τ2, σ', eB, cB, l1, l2, l7⟩ := fo_B (E := E) (d := d) (u := σ (8 + b) 8) (σ := σ9) (s := s) (m := ρ 83 11) (lo := lo) (hi := hi) (x4 := min 400000 (σa (8 + b) 7 + 2)) (x5 := σa (8 + b) 6 + 2) (x6 := σa (8 + b) 6 + 6) (x7 := τ (8 + b) 7 - min 400000 (σa (8 + b) 7 + 2)) hb (xn_cz hn9 r9) (xs_hg hu9.1) (by omega) hsym9 f19 m0 s79 ⟨hst9.1, hst9.2.1⟩ (by omega) (by omega) (by omega)
        obtain ⟨ρ', er8, hw⟩ := r_node (E := E) (e := e - 1) (ρ := ρ9) (k := 27) (ty := 0) (lo := 0) (hi := 0) (a := ρ 83 11) (b := mm) (c := 0) r9.2.2.1.2.2.1 (by omega) (by omega) (by decide) (by decide)
        rw [k_105_197 hb (by omega) c55, eB, k_242_111 (by omega) el, b_242_114, k_242_119 (by omega) ev, b_242_122, k_242_124 (by omega) eh, b_242_127, k_242_137 (by omega) er8, b_242_140]
        exact Or.inl ⟨σ', ρ', j9, ρ9 83 33, tr_n 27 0 lo hi (ρ 83 11) 0 0 r .leaf, rfl, rfl, fo_end hb hx hn rfl va' u88 u89 upb cA' o8 sf8 hbl y11 y33 y44 y10 yA sgc (by rw [v6]) (by rw [v6]) cB l1 l2 l7 hw⟩
      · have c55 : sF_P E b σ ρ ρ9 (js_J E (d - 1) 55 0 [(2, 22 + b), (0, ρ 83 11), (2, -1), (9, 0)] [] τ) := by
          rw [b_55_0 hb, k_55_6 (by omega) c8, b_55_9]
          exact sF_up sf8.1 (rf_R_sg sgc) hf
        rw [k_242_111 (by omega) el, b_242_114, k_242_119 (by omega) ev, b_242_122, k_242_124 (by omega) eh, b_242_127, k_242_137 (by omega) (r_nodeF c55.2.1), b_242_140]
        obtain ⟨a1, a2, a3, a4, σz, a5, a6⟩ := c55
        rw [kt_105_197 hb (by omega) a5]
        exact Or.inr ⟨ρ9, 0, rfl, a1, a2, a3, a4, σz, rfl, a6⟩
    · have f0 : sF_P E b σ ρ ρb (th_P E τ (ρb 83 9)) := ⟨rfb, hFb, by omega, by omega, τ, rfl, sfτ.1, hxb.1.1.2.2.2.1, hxb.1.1.2.2.1⟩
      have f1 := sF_99 (m := ρ 83 11) (v := 1) f0
      have y11 : js_up ρb 99 (ρ 83 11) 1 83 11 = ρ 83 11 + 1 := by rw [uc _ _ (by decide)]; exact x11
      clear og'
      generalize js_up ρb 99 (ρ 83 11) 1 = ρc at f1 y11 ⊢
      have z11 : js_up ρc 83 10 (ρc 83 10 - 1) 83 11 = ρc 83 11 := js_up_ni _ (by decide)
      obtain ⟨ρ3, e3, h3⟩ := r_240F (E := E) (e := e - 1) (ρ := js_up ρc 83 10 (ρc 83 10 - 1)) (f := ρ 83 11) m0 (by omega) (by rw [z11]; omega) (by rw [z11]; omega)
      have f2 : sF_P E b σ ρ ρ3 (th_P E τ (ρb 83 9)) := sF_more f1 (fun a i g1 g2 => by rw [h3 a i g2, js_up_ne _ g1])
      have c55 : js_J E (d - 1) 55 0 [(2, 22 + b), (0, ρ 83 11), (2, -1), (9, 0)] [] τ = th_P E τ (ρb 83 9) := by rw [b_55_0 hb, kt_55_6 (by omega) c8]
      rw [kt_105_197 hb (by omega) c55, k_242_111 (by omega) (r_212F f1.2.1), b_242_114, k_242_119 (by omega) (r_leaveF f1.2.1 (by omega) (by decide) (by decide)), b_242_122, k_242_124 (by omega) e3, b_242_127, k_242_137 (by omega) (r_nodeF f2.2.1), b_242_140]
      exact Or.inr ⟨ρ3, 0, rfl, f2⟩
  · rw [er]
    exact Or.inr ⟨ρ', -1, rfl, hf⟩
end SI
