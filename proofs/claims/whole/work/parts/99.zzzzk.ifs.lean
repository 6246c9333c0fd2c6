/-! part 99.zzzzk: the reference: jumps that land together; one link of an if -/
section GK
variable {E : js_E} {f : Nat}
theorem r_landW (Q : List Int) : ∀ (ρ : js_S) (x1 Ex lim : Int) (ux : js_v), jw (fun i => ρ 112 i) Q lim Ex → lim ≤ 200000000 → ∃ ρ' : js_S, js_J E f 259 2 [(2, 83), (0, x1), (0, Ex), ux] [] ρ = js_r0 E ρ' ∧ (∀ a i : Int, ¬ (a = 112 ∧ i ∈ Q) → ρ' a i = ρ a i) ∧ (lim ≤ 8192 → ∀ q : Int, q ∈ Q → ρ' 112 q = ρ 83 49) := by
  induction Q with
  | nil =>
    intro ρ x1 Ex lim ux hj hl
    have hE : Ex = -1 := hj
    subst hE
    refine ⟨ρ, ?_, fun _ _ _ => rfl, fun _ q hq => absurd hq (fun h => by cases h)⟩
    rw [b_259_2, if_pos (show js_w (-1) < 0 by decide)]
  | cons q Q ih =>
    intro ρ x1 Ex lim ux hj hl
    obtain ⟨h1, ⟨h20, h21⟩, h3⟩ := hj
    subst h1
    have w : js_w Ex = Ex := js_w_of (by omega) (by omega)
    by_cases q8 : Ex < 8192
    · obtain ⟨ρ', e', hO, hv⟩ := ih (js_up ρ 112 Ex (ρ 83 49)) x1 (ρ 112 Ex) Ex (0, ρ 112 Ex) (jw_of Q _ _ (fun i hi => js_up_ni _ (by omega)) (h3 q8)) (by omega)
      rw [js_up_na _ (by decide)] at hv
      refine ⟨ρ', ?_, fun a i g => ?_, fun hs q0 hq => ?_⟩
      · rw [b_259_2, w, if_neg (show ¬ Ex < 0 by omega), if_pos q8, if_pos (show 0 ≤ Ex ∧ Ex < 8192 from ⟨h20, q8⟩)]
        exact e'
      · rw [hO a i (fun hh => g ⟨hh.1, List.mem_cons_of_mem _ hh.2⟩), js_up_ne _ (fun hh => g ⟨hh.1, by rw [hh.2]; exact List.mem_cons_self ..⟩)]
      · by_cases qq : q0 ∈ Q
        · exact hv (by omega) q0 qq
        · have e0 : q0 = Ex := by
            cases hq with
            | head => rfl
            | tail _ h => exact absurd h qq
          rw [hO _ _ (fun hh => qq hh.2), e0, js_up_same]
    · refine ⟨ρ, ?_, fun _ _ _ => rfl, fun hs => absurd hs (by omega)⟩
      rw [b_259_2, w, if_neg (show ¬ Ex < 0 by omega), if_neg q8]
theorem r_landAll {Q : List Int} {ρ : js_S} {x : Int} (hj : jw (fun i => ρ 112 i) Q (ρ 83 49) x) (hl : ρ 83 49 ≤ 200000000) : ∃ ρ' : js_S, js_J E f 259 0 [(2, 83), (0, x), (9, 0), (9, 0)] [] ρ = js_r0 E ρ' ∧ (∀ a i : Int, ¬ (a = 112 ∧ i ∈ Q) → ρ' a i = ρ a i) ∧ (ρ 83 49 ≤ 8192 → ∀ q : Int, q ∈ Q → ρ' 112 q = ρ 83 49) := by
  obtain ⟨ρ', e1, h1, h2⟩ := r_landW (E := E) (f := f) Q ρ x x (ρ 83 49) (9, 0) hj hl
  exact ⟨ρ', by rw [b_259_0, e1], h1, h2⟩
end GK
/-- a JUMP whose place is still open -/
def rj_P (ρ : js_S) (i : Int) : Prop := ρ 111 i = 24 ∧ ρ 113 i = 0 ∧ ρ 114 i = 1 ∧ ρ 115 i = 0
theorem rj_gy {n i : Int} {ρ ρ' : js_S} (h : gy_R n ρ ρ') (hi : i < n) (hI : rj_P ρ i) : rj_P ρ' i := by
  have e : ∀ a : Int, 111 ≤ a → a ≤ 115 → ρ' a i = ρ a i := fun a g1 g2 => h.1 a i g1 g2 hi
  unfold rj_P
  rw [e 111 (by decide) (by decide), e 113 (by decide) (by decide), e 114 (by decide) (by decide), e 115 (by decide) (by decide)]
  exact hI
theorem rj_o {i j : Int} {ρ ρ' : js_S} (h : ∀ a k : Int, ¬ (a = 112 ∧ k = j) → ρ' a k = ρ a k) (hI : rj_P ρ i) : rj_P ρ' i := by
  unfold rj_P
  rw [h _ _ (by omega), h _ _ (by omega), h _ _ (by omega), h _ _ (by omega)]
  exact hI
theorem sr_lo {ρ ρ' : js_S} {j t p z : Int} {e : tr_T} (h2 : ∀ a k : Int, ¬ (a = 112 ∧ k = j) → ρ' a k = ρ a k) (hj : j < p ∨ p + st_ln e ≤ j) (hc : st_cd (ri_P ρ) e t p z) : st_cd (ri_P ρ') e t p z := st_cd_of e t p z (fun i I g1 g2 hI => ri_lo h2 (by omega) hI) hc
/-- one link of an if: its e, its BLOCK, the JUMP behind it where more follows (h = 1) -/
def gih_R (B : Int → Int) (t h x3 x5 : Int) (Q0 : List Int) (ρ ρ' : js_S) (l k : tr_T) (x3' x5' x7' : Int) : Prop := (gx_R (ρ 83 49) (ρ 83 52) ρ ρ' ∧ ρ' 83 49 = ρ 83 49 + xt_ln l + 1 + st_ln k + h ∧ ρ' 83 54 = max (ρ 83 54) (max (xt_mt l t) (st_mt k t))) ∧ (∃ v1 vb : Int, gc_P (xt_cn B l) (xt_ln l) v1 ∧ ((0 ≤ vb ∧ vb ≤ 1000000000000000) ∧ min 400000 vb = min 400000 (st_cn B k)) ∧ x3' = x3 + (v1 + 1) ∧ x5' = max x5 (x3' + vb + h)) ∧ jw (fun i => ρ' 112 i) ((if h = 1 then [ρ 83 49 + xt_ln l + 1 + st_ln k] else []) ++ Q0) (ρ' 83 49) x7' ∧ (ρ' 83 49 ≤ 8192 → xt_cd (ri_P ρ') l t (ρ 83 49) ∧ ri_P ρ' (ρ 83 49 + xt_ln l) (25, 0, ρ 83 49 + xt_ln l + 1 + st_ln k + h, 0, 0, 1, 0) ∧ st_cd (ri_P ρ') k t (ρ 83 49 + xt_ln l + 1) 0 ∧ (h = 1 → rj_P ρ' (ρ 83 49 + xt_ln l + 1 + st_ln k)))
section GK2
variable {E : js_E} {B : Int → Int} {S : Int → Prop} {Z K : Int → Int → Prop} {U : Int → Int → Int → Prop} {V : Int → Int → Int → Int → Prop} {l k : tr_T}
theorem gif_hd (hk0 : gli_P E B S Z K U V k) {f : Nat} {ρ : js_S} {n t M N x1 x3 x5 x7 h hi : Int} {Q0 : List Int} {u9 u10 u12 : js_v} (hk : gsk_R B S Z K U V ρ) (n3 : ρ 106 n = hi) (hh : h = (if 0 < hi then 1 else 0)) (hhi : 0 ≤ hi ∧ hi ≤ 2) (n1 : 0 ≤ n ∧ n < N) (n7 : xt_nd ρ M l n (ρ 102 n) 0) (n8 : st_nd ρ k M n (ρ 103 n) 0) (hw : xt_e l ∧ xt_w l ∧ xt_g S Z K l ∧ xt_r l) (hwk : st_w k ∧ st_g S Z K U V k ∧ st_r k) (h52 : 0 ≤ ρ 83 52 ∧ ρ 83 52 + N ≤ 8200) (h49 : 0 ≤ ρ 83 49 ∧ ρ 83 49 + (xt_ln l + 1 + st_ln k + h) ≤ 100000000) (h54 : 0 ≤ ρ 83 54 ∧ ρ 83 54 ≤ 1024 ∧ xt_mt l t ≤ 1024 ∧ st_mt k t ≤ 1024) (ht : 0 ≤ t ∧ t ≤ 1024) (hx : 0 ≤ x3 ∧ x3 ≤ 9000000000000000000 ∧ 0 ≤ x5 ∧ x5 ≤ 9200000000000000000) (hf : xt_dp l + 1 ≤ (f : Int) ∧ st_dp k + 1 ≤ (f : Int)) (hj : jw (fun i => ρ 112 i) Q0 (ρ 83 49) x7) : ∃ (ρ' : js_S) (x3' x5' x7' o vb w12 : Int), js_J E f 260 11 [(2, 83), (0, x1), (0, t), (1, x3), (9, 0), (1, x5), (9, 0), (0, x7), (0, n), u9, u10, (9, 0), u12] [] ρ = js_J E f 260 118 [(2, 83), (0, x1), (0, t), (1, x3'), (9, 0), (1, x5'), (9, 0), (0, x7'), (0, n), (0, o), (1, vb), (9, 0), (0, w12)] [] ρ' ∧ gih_R B t h x3 x5 Q0 ρ ρ' l k x3' x5' x7' := by
  have l1 := xt_ln_0 l
  have l2 := st_ln_0 k
  have d6 := xt_dp_6 l
  have w : js_w n = n := js_w_of (by omega) (by omega)
  have hn6 : 0 ≤ n ∧ n < 66000 := by omega
  have hh2 : h = 0 ∨ h = 1 := by
    rw [hh]
    split <;> omega
  have s0 := gq_0 (ρ := ρ) h54.1
  obtain ⟨ρ1, v1, e1, h1, c1⟩ := gen_term (E := E) (B := B) (S := S) (Z := Z) (K := K) l hw.1 hw.2.1 (f - 1) ρ (ρ 102 n) t M n 0 (gnp_st hk n7 hw (fun _ _ _ => rfl) ⟨h52.1, by omega⟩ ⟨h49.1, by omega⟩ ⟨h54.1, h54.2.1, h54.2.2.1⟩ ht) (by omega)
  have s1 := gq_x s0 (Int.le_refl _) h1
  have b1 := s1.1.2.1
  obtain ⟨ρ2, e2, h2⟩ := r_plain (E := E) (f := f - 1) (ρ := ρ1) (x1 := 25) (x2 := 0) (x3 := 0) (by omega) ⟨by omega, by omega⟩
  have b2 := h2.1
  have X2 : gx_R (ρ 83 49) (ρ 83 52) ρ ρ2 := gx_trans s1.1.1 (gm_gx h2) (by omega) (Int.le_refl _)
  have q2 : ρ2 83 52 = ρ 83 52 := X2 _ _ (by omega) (by omega) (by omega)
  have m2 : ρ2 83 54 = max (ρ 83 54) (xt_mt l t) := by
    rw [h2.2.2 _ _ (by omega) (by omega)]
    have := s1.1.2.2
    omega
  have m2' : 0 ≤ ρ2 83 54 ∧ ρ2 83 54 ≤ 1024 := by omega
  obtain ⟨ρ3, vb, e3, h3, c3, c3'⟩ := gli_call (z := 0) hk0 (f := f - 1) (ρ := ρ2) (n := ρ 103 n) (t := t) (M := M) (N := n) ⟨gsk_fr hk (fun x i q => X2 x i (by omega) (by omega) (by omega)), st_nd_fr n8 (fun x i q1 q2 => X2 x i (by omega) (by omega) (by omega)), hwk, ⟨by omega, by omega⟩, ⟨by omega, by omega⟩, ⟨m2'.1, m2'.2, h54.2.2.2⟩, ht⟩ (by omega)
  obtain ⟨g3, b3, m3, d3⟩ := h3
  rw [q2] at g3
  have X3 : gx_R (ρ 83 49) (ρ 83 52) ρ ρ3 := gx_trans X2 g3 (by omega) (Int.le_refl _)
  have i103 : ρ2 103 n = ρ 103 n := X2 _ _ (by omega) (by omega) (by omega)
  have i106 : ρ3 106 n = hi := by rw [X3 _ _ (by omega) (by omega) (by omega)]; exact n3
  have whi : js_w hi = hi := js_w_of (by omega) (by omega)
  have v1b := c1.1
  have jq3 : jw (fun i => ρ3 112 i) Q0 (ρ 83 49) x7 := jw_of Q0 _ _ (fun i hi' => X3 _ _ (by omega) (by omega) (by omega)) hj
  have j2 := fun (hs : ρ1 83 49 < 8192) => gm_ri (k := 0) (x := 0) (y := 0) h2 hs (if_pos rfl).symm
  have wz : js_l (x3 + (v1 + 1) + vb + h) = x3 + (v1 + 1) + vb + h := js_l_of (by omega) (by omega)
  have wx : js_l x5 = x5 := js_l_of (by omega) (by omega)
  have mx : (if x3 + (v1 + 1) + vb + h < x5 then x5 else x3 + (v1 + 1) + vb + h) = max x5 (x3 + (v1 + 1) + vb + h) := by
    split <;> omega
  have eq1 : js_J E f 260 11 [(2, 83), (0, x1), (0, t), (1, x3), (9, 0), (1, x5), (9, 0), (0, x7), (0, n), u9, u10, (9, 0), u12] [] ρ = js_J E f 260 55 [(2, 83), (0, x1), (0, t), (1, x3 + (v1 + 1)), (9, 0), (1, x5), (9, 0), (0, x7), (0, n), (0, ρ1 83 49), u10, (9, 0), u12] [(1, vb)] ρ3 := by
    rw [b_260_11, w, if_neg (show ¬ n < 0 by omega), if_pos hn6, k_260_26 (by omega) e1, b_260_29, k_260_38 (by omega) e2, b_260_41, w, if_pos hn6, i103, k_260_52 (by omega) e3]
  have y12 : gy_R (ρ 83 49 + xt_ln l) ρ1 ρ2 := gy_mono (gy_gm h2) (by omega)
  have y23 : gy_R (ρ 83 49 + xt_ln l + 1) ρ2 ρ3 := gy_mono (gy_gx g3) (by omega)
  have y13 : gy_R (ρ 83 49 + xt_ln l) ρ1 ρ3 := gy_trans y12 y23 (by omega)
  by_cases qh : 0 < hi
  · rw [if_pos qh] at hh
    subst hh
    obtain ⟨ρ4, e4, h4⟩ := r_plain (E := E) (f := f - 1) (ρ := ρ3) (x1 := 24) (x2 := x7) (x3 := 0) (by omega) ⟨by omega, by omega⟩
    have b4 := h4.1
    obtain ⟨ρ5, e5, la, fa⟩ := r_land (E := E) (f := f - 1) (ρ := ρ4) (i := ρ1 83 49) ⟨by omega, by omega⟩
    have b5 : ρ5 83 49 = ρ4 83 49 := fa _ _ (by omega)
    have X4 : gx_R (ρ 83 49) (ρ 83 52) ρ ρ4 := gx_trans X3 (gm_gx h4) (by omega) (Int.le_refl _)
    have X5 : gx_R (ρ 83 49) (ρ 83 52) ρ ρ5 := gx_trans X4 (gx_land (q := ρ 83 52) fa (Int.le_refl _)) (by omega) (Int.le_refl _)
    refine ⟨ρ5, x3 + (v1 + 1), max x5 (x3 + (v1 + 1) + vb + 1), ρ3 83 49, ρ1 83 49, vb, 1, ?_, ⟨X5, by omega, ?_⟩, ⟨v1, vb, c1, ⟨c3, c3'⟩, rfl, rfl⟩, ?_, fun hs => ?_⟩
    · rw [eq1, b_260_55, w, if_pos hn6, i106, whi, if_pos qh, b_260_72, if_neg (show ¬ js_w 1 = 0 by decide), b_260_90 (by omega), if_neg (show ¬ js_w 1 = 0 by decide), wz, wx, mx, k_260_107 (by omega) e4, b_260_110, b_260_112, k_260_115 (by omega) e5]
    · rw [fa _ _ (by omega), h4.2.2 _ _ (by omega) (by omega), m3, m2]
      omega
    · have e3e : ρ3 83 49 = ρ 83 49 + xt_ln l + 1 + st_ln k := by omega
      show jw (fun i => ρ5 112 i) ((if (1 : Int) = 1 then [ρ 83 49 + xt_ln l + 1 + st_ln k] else []) ++ Q0) (ρ5 83 49) (ρ3 83 49)
      rw [if_pos rfl]
      refine ⟨e3e, ⟨by omega, by omega⟩, fun h8 => ?_⟩
      have e7 : ρ5 112 (ρ 83 49 + xt_ln l + 1 + st_ln k) = x7 := by
        rw [fa _ _ (by omega), ← e3e]
        exact (h4.2.1 (by omega)).2.1
      show jw (fun i => ρ5 112 i) Q0 (ρ 83 49 + xt_ln l + 1 + st_ln k) (ρ5 112 (ρ 83 49 + xt_ln l + 1 + st_ln k))
      rw [e7]
      refine jw_up Q0 (jw_of Q0 _ _ (fun i hi' => ?_) jq3) (by omega)
      show ρ5 112 i = ρ3 112 i
      rw [fa _ _ (by omega), h4.2.2 _ _ (by omega) (by omega)]
    · have y34 : gy_R (ρ 83 49 + xt_ln l + 1 + st_ln k) ρ3 ρ4 := gy_mono (gy_gm h4) (by omega)
      have y45 : gy_R (ρ 83 49 + xt_ln l) ρ4 ρ5 := gy_land fa (by omega)
      have j2' := j2 (by omega)
      have e1e : ρ1 83 49 = ρ 83 49 + xt_ln l := by omega
      refine ⟨?_, ?_, ?_, fun _ => ?_⟩
      · have x := (s1.2.1 (by omega)).2
        exact xr_gy (gy_trans y13 (gy_trans (gy_mono y34 (by omega)) y45 (Int.le_refl _)) (Int.le_refl _)) (Int.le_refl _) (xr_at x (by omega))
      · have x := ri_land (x := ρ4 83 49) (ri_gy y34 (by omega) (ri_gy y23 (by omega) j2')) (la (by omega)) fa
        have ee : ρ4 83 49 = ρ 83 49 + xt_ln l + 1 + st_ln k + 1 := by omega
        rw [ee] at x
        exact ri_at x e1e
      · have x := d3 (by omega)
        rw [b2, e1e] at x
        exact sr_lo fa (Or.inl (by omega)) (sr_gy y34 (Int.le_refl _) x)
      · have x := h4.2.1 (by omega)
        have e3e : ρ3 83 49 = ρ 83 49 + xt_ln l + 1 + st_ln k := by omega
        rw [e3e] at x
        exact rj_o fa ⟨x.1, x.2.2.1, x.2.2.2.1, x.2.2.2.2⟩
  · rw [if_neg qh] at hh
    subst hh
    obtain ⟨ρ5, e5, la, fa⟩ := r_land (E := E) (f := f - 1) (ρ := ρ3) (i := ρ1 83 49) ⟨by omega, by omega⟩
    have b5 : ρ5 83 49 = ρ3 83 49 := fa _ _ (by omega)
    have X5 : gx_R (ρ 83 49) (ρ 83 52) ρ ρ5 := gx_trans X3 (gx_land (q := ρ 83 52) fa (Int.le_refl _)) (by omega) (Int.le_refl _)
    refine ⟨ρ5, x3 + (v1 + 1), max x5 (x3 + (v1 + 1) + vb + 0), x7, ρ1 83 49, vb, 0, ?_, ⟨X5, by omega, ?_⟩, ⟨v1, vb, c1, ⟨c3, c3'⟩, rfl, rfl⟩, ?_, fun hs => ?_⟩
    · rw [eq1, b_260_55, w, if_pos hn6, i106, whi, if_neg qh, b_260_72, if_pos (show js_w 0 = 0 from rfl), b_260_90 (by omega), if_pos (show js_w 0 = 0 from rfl), wz, wx, mx, b_260_112, k_260_115 (by omega) e5]
    · rw [fa _ _ (by omega), m3, m2]
      omega
    · show jw (fun i => ρ5 112 i) ((if (0 : Int) = 1 then [ρ 83 49 + xt_ln l + 1 + st_ln k] else []) ++ Q0) (ρ5 83 49) x7
      rw [if_neg (by decide)]
      refine jw_up Q0 (jw_of Q0 _ _ (fun i hi' => ?_) jq3) (by omega)
      show ρ5 112 i = ρ3 112 i
      exact fa _ _ (by omega)
    · have y35 : gy_R (ρ 83 49 + xt_ln l) ρ3 ρ5 := gy_land fa (by omega)
      have j2' := j2 (by omega)
      have e1e : ρ1 83 49 = ρ 83 49 + xt_ln l := by omega
      refine ⟨?_, ?_, ?_, fun h0 => absurd h0 (by decide)⟩
      · have x := (s1.2.1 (by omega)).2
        exact xr_gy (gy_trans y13 y35 (Int.le_refl _)) (Int.le_refl _) (xr_at x (by omega))
      · have x := ri_land (x := ρ3 83 49) (ri_gy y23 (by omega) j2') (la (by omega)) fa
        have ee : ρ3 83 49 = ρ 83 49 + xt_ln l + 1 + st_ln k + 0 := by omega
        rw [ee] at x
        exact ri_at x e1e
      · have x := d3 (by omega)
        rw [b2, e1e] at x
        exact sr_lo fa (Or.inl (by omega)) x
end GK2
