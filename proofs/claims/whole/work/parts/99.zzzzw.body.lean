/-! part 99.zzzzw: the reference: code of one fun's body; what is known while a program is made -/
/-- where the cells of the n-th SYMBOL's fun begin -/
def un_c (ρ : js_S) (fb fr : Int → tr_T) : Nat → Int
  | 0 => po_a ρ (ρ 83 11).toNat
  | n + 1 => un_c ρ fb fr n + (if ρ 86 n = 4 then lo_c ρ n (ρ 83 11).toNat + max 0 (max (st_mt (fb n) 0) (xt_mt (fr n) 0)) else 0)
/-- the cell of a SYMBOL (of a fun: the place of its code) -/
def ac_A (ρ : js_S) (fb fr : Int → tr_T) (x : Int) : Int := if 1 ≤ ρ 86 x ∧ ρ 86 x ≤ 3 then po_a ρ x.toNat else if ρ 86 x = 4 then fn_p ρ fb fr x.toNat else un_c ρ fb fr (if ρ 93 x < 0 then (ρ 83 11).toNat else (ρ 93 x).toNat) + lo_c ρ (ρ 93 x) x.toNat
/-- its instruction i, with cells A, TEMPS from tb on -/
def rk_P (A : Int → Int) (tb : Int) (ρ : js_S) (i : Int) (I : xt_I) : Prop := ρ 111 i = I.1 ∧ ρ 112 i = (if I.2.1 = 0 then I.2.2.1 else if I.2.1 = 1 then A I.2.2.1 + I.2.2.2.1 else if I.2.1 = 2 then tb + I.2.2.1 else A I.2.2.1) ∧ ρ 113 i = I.2.2.2.2.1 ∧ ρ 114 i = I.2.2.2.2.2.1 ∧ ρ 115 i = I.2.2.2.2.2.2
theorem rk_fr {A : Int → Int} {tb i : Int} {ρ ρ' : js_S} {I : xt_I} (h : rk_P A tb ρ i I) (h1 : ∀ a : Int, 111 ≤ a → a ≤ 115 → ρ' a i = ρ a i) : rk_P A tb ρ' i I := by
  obtain ⟨a1, a2, a3, a4, a5⟩ := h
  unfold rk_P
  rw [h1 111 (by decide) (by decide), h1 112 (by decide) (by decide), h1 113 (by decide) (by decide), h1 114 (by decide) (by decide), h1 115 (by decide) (by decide)]
  exact ⟨a1, a2, a3, a4, a5⟩
theorem rk_ri {A : Int → Int} {tb i : Int} {ρ : js_S} {I : xt_I} {S K : Int → Prop} (h : ri_P ρ i I) (hg : xg_I S K I) (hS : ∀ x : Int, S x → ρ 90 x = A x) (hK : ∀ x : Int, K x → ρ 90 x = A x) (ht : ρ 83 53 = tb) : rk_P A tb ρ i I := by
  obtain ⟨a1, a2, a3, a4, a5⟩ := h
  refine ⟨a1, ?_, a3, a4, a5⟩
  rw [a2]
  by_cases q0 : I.2.1 = 0
  · rw [if_pos q0, if_pos q0]
  by_cases q1 : I.2.1 = 1
  · rw [if_neg q0, if_pos q1, if_neg q0, if_pos q1, hS _ (hg.1 q1)]
  by_cases q2 : I.2.1 = 2
  · rw [if_neg q0, if_neg q1, if_pos q2, if_neg q0, if_neg q1, if_pos q2, ht]
  · rw [if_neg q0, if_neg q1, if_neg q2, if_neg q0, if_neg q1, if_neg q2, hK _ (hg.2 ⟨q0, q1, q2⟩)]
/-- what the reference's making of code wants to know of SYMBOLS -/
theorem mk_gsk {ρ0 τ : js_S} {F : Int} {B : Int → Int} {K : Int → Int → Prop} (h11 : ρ0 83 11 ≤ 400) (hv : ∀ i : Int, 0 ≤ i → i < ρ0 83 11 → 0 ≤ ρ0 87 i ∧ ρ0 87 i < 1000) (hgs : gs_R ρ0 (fun _ => False)) (hK : ∀ s k : Int, K s k → (0 ≤ s ∧ s < ρ0 83 11 ∧ ρ0 86 s = 4 ∧ ρ0 91 s = k) ∧ τ 95 s = B s ∧ 0 ≤ B s ∧ B s ≤ 400000) (ht : ∀ a i : Int, a = 87 ∨ a = 88 ∨ a = 89 ∨ a = 91 → τ a i = ρ0 a i) : gsk_R B (sv_P ρ0 F) (sz_P ρ0) K (su_U ρ0) (su_V ρ0) τ := by
  refine ⟨⟨fun s hs => ⟨hs.1, ?_⟩, fun s c hs => ⟨⟨hs.1, ?_⟩, ?_⟩, fun s k hs => ?_⟩, fun s x y hs => ?_, fun s v x y hs => ?_⟩
  · have := hs.2.1
    omega
  · have := hs.2.1
    omega
  · rw [ht _ _ (by omega)]
    exact hs.2.2
  · obtain ⟨⟨a1, a2, a3, a4⟩, a5⟩ := hK s k hs
    have g := (hgs s a1 a2 (fun h => h)).2.2.2.2.1 a3
    refine ⟨⟨a1, ?_⟩, a5⟩
    have := g.2.2.2.1
    omega
  · obtain ⟨a1, a2, a3, a4, a5⟩ := hs
    rw [ht 88 s (by omega), ht 89 s (by omega)]
    exact ⟨⟨a1, by omega⟩, ⟨a3, a4⟩, a5⟩
  · obtain ⟨a1, a2, a3, ⟨a4, a4'⟩, a5, a6, a7⟩ := hs
    rw [ht 87 s (by omega), ht 88 s (by omega), ht 89 s (by omega)]
    exact ⟨⟨a1, by omega⟩, a3, hv s a1 (by omega), ⟨by omega, by omega⟩, ⟨by omega, by omega⟩, by omega, by omega⟩
section RW
variable {E : js_E} {d : Nat}
theorem r_body {ρ : js_S} {B : Int → Int} {S : Int → Prop} {Z K : Int → Int → Prop} {U : Int → Int → Int → Prop} {V : Int → Int → Int → Int → Prop} {x1 i N : Int} {ux3 : js_v} {fb fr : tr_T} (hd : 1220 ≤ d) (hi : 0 ≤ i ∧ i < 400) (hk : gsk_R B S Z K U V ρ) (hB : ∀ s k : Int, K s k → 0 ≤ B s) (hb : (fb = .leaf ∨ xt_k fb = 90) ∧ st_w fb ∧ st_g S Z K U V fb ∧ st_nd ρ fb 0 N (ρ 108 i) 0) (hr : fr = .leaf ∧ ρ 109 i = -1 ∨ xt_e fr ∧ xt_w fr ∧ xt_g S Z K fr ∧ xt_nd ρ 0 fr N (ρ 109 i) 0) (h52 : ρ 83 52 = 0 ∧ 0 ≤ N ∧ N ≤ 8200) (h49 : 0 ≤ ρ 83 49 ∧ ρ 83 49 + (st_ln fb + xt_ln fr + 1) ≤ 100000000) (h54 : ρ 83 54 = 0 ∧ st_mt fb 0 ≤ 1024 ∧ xt_mt fr 0 ≤ 1024) (hdp : st_dp fb ≤ 1210 ∧ xt_dp fr ≤ 1210) : ∃ (ρ' : js_S) (v w : Int), js_J E d 244 187 [(2, 83), (0, x1), (0, i), ux3, (9, 0)] [(0, 0), (0, ρ 108 i), (2, 83)] ρ = js_J E d 244 222 [(2, 83), (0, x1), (0, i), (1, v), (9, 0)] [(0, w)] ρ' ∧ (gx_R (ρ 83 49) 0 ρ ρ' ∧ ρ' 83 49 = ρ 83 49 + st_ln fb + xt_ln fr + 1 ∧ ρ' 83 54 = max 0 (max (st_mt fb 0) (xt_mt fr 0))) ∧ ((0 ≤ v ∧ v ≤ 3000000000000000) ∧ min 400000 (v + 1) = min 400000 (st_cn B fb + xt_cn B fr + 1)) ∧ (ρ' 83 49 ≤ 8192 → st_cd (ri_P ρ') fb 0 (ρ 83 49) 0 ∧ xt_cd (ri_P ρ') fr 0 (ρ 83 49 + st_ln fb) ∧ ri_P ρ' (ρ 83 49 + st_ln fb + xt_ln fr) (28, 0, 0, 0, 0, 1, 0)) := by
  have l1 := st_ln_0 fb
  have l2 := xt_ln_0 fr
  have wi : js_w i = i := js_w_of (by omega) (by omega)
  obtain ⟨ρ1, v1, e1, ⟨g1, b1, m1, d1⟩, c1, c1'⟩ := gli_call (z := 0) (gen_list (E := E) (B := B) hB fb hb.1 hb.2.1 hb.2.2.1) (f := d - 1) (ρ := ρ) (n := ρ 108 i) (t := 0) (M := 0) (N := N) ⟨hk, hb.2.2.2, ⟨hb.2.1, hb.2.2.1, trivial⟩, ⟨by omega, by omega⟩, ⟨h49.1, by omega⟩, ⟨by omega, by omega, h54.2.1⟩, ⟨by decide, by decide⟩⟩ (by omega)
  rw [h52.1] at g1
  have q1 : ρ1 83 52 = 0 := by rw [g1 _ _ (by omega) (by omega) (by omega)]; exact h52.1
  have i109 : ρ1 109 i = ρ 109 i := g1 _ _ (by omega) (by omega) (by omega)
  have cnr := hB
  obtain ⟨ρ2, v2, e2, X2, b2, m2, ⟨c2, c2'⟩, d2⟩ : ∃ (ρ2 : js_S) (v2 : Int), js_J E d 244 190 [(2, 83), (0, x1), (0, i), ux3, (9, 0)] [(1, v1)] ρ1 = js_J E d 244 214 [(2, 83), (0, x1), (0, i), (1, v2), (9, 0)] [] ρ2 ∧ gx_R (ρ1 83 49) 0 ρ1 ρ2 ∧ ρ2 83 49 = ρ1 83 49 + xt_ln fr ∧ ρ2 83 54 = max (ρ1 83 54) (xt_mt fr 0) ∧ ((0 ≤ v2 ∧ v2 ≤ 3000000000000000) ∧ min 400000 (v2 + 1) = min 400000 (st_cn B fb + xt_cn B fr + 1)) ∧ (ρ2 83 49 ≤ 8192 → xt_cd (ri_P ρ2) fr 0 (ρ1 83 49)) := by
    have cn0 := st_cn_nn hB fb hb.2.1 hb.2.2.1
    rcases hr with ⟨r1, r2⟩ | ⟨r1, r2, r3, r4⟩
    · subst r1
      have e0 : xt_ln (.leaf : tr_T) = 0 := rfl
      have e1' : xt_mt (.leaf : tr_T) 0 = 0 := rfl
      have e2' : xt_cn B (.leaf : tr_T) = 0 := rfl
      refine ⟨ρ1, v1, ?_, gx_refl _ _ _, by rw [e0]; omega, by rw [e1', m1]; omega, ⟨⟨c1.1, by omega⟩, by rw [e2']; omega⟩, fun _ => trivial⟩
      rw [b_244_190, wi, if_pos hi, i109, r2, if_pos (show js_w (-1) < 0 by decide)]
    · have nd := xt_nd_in r4 r1
      have cn1 := xt_cn_nn hB fr r2 r3
      have m1' : 0 ≤ ρ1 83 54 ∧ ρ1 83 54 ≤ 1024 := by omega
      obtain ⟨ρ2, v, e3, ⟨g2, b2, m2, d2⟩, c2⟩ := gen_term (E := E) (B := B) (S := S) (Z := Z) (K := K) fr r1 r2 (d - 1) ρ1 (ρ 109 i) 0 0 N 0 (gnp_st (gsk_fr hk (fun x k q => g1 x k (by omega) (by omega) (by omega))) (xt_nd_fr r4 (fun x k q1 q2 => g1 x k (by omega) (by omega) (by omega))) ⟨r1, r2, r3, trivial⟩ (fun _ _ _ => rfl) ⟨by omega, by omega⟩ ⟨by omega, by omega⟩ ⟨m1'.1, m1'.2, h54.2.2⟩ ⟨by decide, by decide⟩) (by omega)
      rw [q1] at g2
      have cb := c2.1
      have cb' := c2.2
      refine ⟨ρ2, v1 + v, ?_, g2, b2, m2, ⟨⟨by omega, by omega⟩, by omega⟩, d2⟩
      rw [b_244_190, wi, if_pos hi, i109, js_w_of (x := ρ 109 i) (by omega) (by omega), if_neg (show ¬ ρ 109 i < 0 by omega), k_244_209 (by omega) e3, b_244_212]
  obtain ⟨ρ3, e3, h3⟩ := r_plain (E := E) (f := d - 1) (ρ := ρ2) (x1 := 28) (x2 := 0) (x3 := 0) (by omega) ⟨by omega, by omega⟩
  have b3 := h3.1
  refine ⟨ρ3, v2, ρ2 83 49, ?_, ⟨gx_trans (gx_trans g1 X2 (by omega) (Int.le_refl _)) (gm_gx h3) (by omega) (Int.le_refl _), by omega, ?_⟩, ⟨c2, c2'⟩, fun hs => ?_⟩
  · rw [k_244_187 (by omega) e1, e2, b_244_214, k_244_219 (by omega) e3]
  · rw [h3.2.2 _ _ (by omega) (by omega), m2, m1, h54.1]
    omega
  · have y23 : gy_R (ρ2 83 49) ρ2 ρ3 := gy_gm h3
    have y12 : gy_R (ρ1 83 49) ρ1 ρ2 := gy_gx X2
    refine ⟨sr_gy (gy_trans y12 y23 (by omega)) (by omega) (d1 (by omega)), ?_, ri_at (gm_ri (k := 0) (x := 0) (y := 0) h3 (by omega) (if_pos rfl).symm) (by omega)⟩
    have e := d2 (by omega)
    rw [b1] at e
    exact xr_gy y23 (by omega) e
end RW
