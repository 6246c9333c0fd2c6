/-! part 99.zzzzz: the reference makes a program -/
/-- a program is made -/
def mf_R (B : Int → Int) (fb fr : Int → tr_T) (r : tr_T) (M : Nat) (ρ0 ρ : js_S) : Prop := (∀ a i : Int, ¬ (a = 83 ∧ 46 ≤ i ∧ i ≤ 54) → a ≠ 90 → a ≠ 95 → a ≠ 110 → ¬ (111 ≤ a ∧ a ≤ 115) → ρ a i = ρ0 a i) ∧ (ρ 83 49 = fn_p ρ0 fb fr M + st_ln r + 1 ∧ ρ 83 48 = un_c ρ0 fb fr M + lo_c ρ0 (-1) M + max 0 (st_mt r 0) ∧ ρ 83 50 = fn_p ρ0 fb fr M ∧ ρ 83 46 = po_k ρ0 1 M ∧ ρ 83 47 = po_k ρ0 2 M) ∧ (∀ x : Int, 0 ≤ x → x < M → 1 ≤ ρ0 86 x ∧ ρ0 86 x ≤ 7 → ρ 90 x = ac_A ρ0 fb fr x) ∧ ((∀ x : Int, 0 ≤ x → x < M → ρ0 86 x = 0 ∨ 8 ≤ ρ0 86 x → ρ 90 x = ρ0 90 x) ∧ ∀ x : Int, ρ0 86 x ≠ 4 → ρ 95 x = ρ0 95 x) ∧ (∀ i : Int, 0 ≤ i → i < M → ρ0 86 i = 4 → ρ 95 i = B i) ∧ (ρ 83 49 ≤ 8192 → (∀ i : Int, 0 ≤ i → i < M → ρ0 86 i = 4 → kc_P (ac_A ρ0 fb fr) fb fr ρ0 ρ i) ∧ st_cd (rk_P (ac_A ρ0 fb fr) (un_c ρ0 fb fr M + lo_c ρ0 (-1) M) ρ) r 0 (fn_p ρ0 fb fr M) 0 ∧ rk_P (ac_A ρ0 fb fr) (un_c ρ0 fb fr M + lo_c ρ0 (-1) M) ρ (fn_p ρ0 fb fr M + st_ln r) (29, 0, 0, 0, 0, 1, 0))
/-- the cycle's BLOCK -/
def mc_R (B : Int → Int) (fb fr : Int → tr_T) (r : tr_T) (M : Nat) (ρ0 : js_S) : Prop := ((r = .leaf ∨ xt_k r = 90) ∧ st_w r ∧ st_G ρ0 (-1) r ∧ st_nd ρ0 r 0 (ρ0 83 33) (ρ0 83 45) 0) ∧ st_mt r 0 ≤ 1024 ∧ st_dp r ≤ 1210 ∧ fn_p ρ0 fb fr M + st_ln r + 1 ≤ 50000000
section RZ
variable {E : js_E} {d : Nat} {B : Int → Int} {Bf : Int → Int → Int} {fb fr : Int → tr_T} {r : tr_T} {ρ0 : js_S} {M : Nat}
theorem mk_cyc {x1 x2 : Int} {ux3 : js_v} {ρ : js_S} (hp : mp_R B Bf fb fr M ρ0) (hc : mc_R B fb fr r M ρ0) (hd : 1225 ≤ d) (h : mk_R B fb fr M ρ0 ρ) : ∃ (ρ' : js_S) (v w : Int), js_J E d 244 260 [(2, 83), (0, x1), (0, x2), ux3, (9, 0)] [(0, -1), (2, 83)] ρ = js_J E d 244 291 [(2, 83), (0, x1), (1, v + 1), (9, 0), (9, 0)] [(0, w)] ρ' ∧ mf_R B fb fr r M ρ0 (js_up ρ' 83 48 (ρ' 83 48 + ρ' 83 54)) ∧ (0 ≤ v ∧ v ≤ 1000000000000000) ∧ min 400000 (v + 1) = min 400000 (st_cn B r + 1) := by
  obtain ⟨⟨hM, h11⟩, hv, hgs, h93, h33, hsz, hfun⟩ := hp
  obtain ⟨hr, mt1, dp1, hsz2⟩ := hc
  obtain ⟨hfr, ⟨k49, k48, k52, k46, k47⟩, hcell, ⟨hc1, hc2⟩, hbd, hcode⟩ := h
  have e11 : ρ 83 11 = M := by rw [hfr _ _ (by omega) (by decide) (by decide) (by decide) (by decide)]; exact h11
  have rows : ∀ a i : Int, 86 ≤ a → a ≤ 109 → a ≠ 90 → a ≠ 95 → ρ a i = ρ0 a i := fun a i g1 g2 g3 g4 => hfr a i (by omega) g3 g4 (by omega) (by omega)
  have r86 : ∀ x : Int, ρ 86 x = ρ0 86 x ∧ ρ 93 x = ρ0 93 x := fun x => ⟨rows _ _ (by decide) (by decide) (by decide) (by decide), rows _ _ (by decide) (by decide) (by decide) (by decide)⟩
  have lo : ∀ k : Nat, lo_c ρ (-1) k = lo_c ρ0 (-1) k := fun k => lo_c_eq3 k (fun i _ _ => ⟨rows _ _ (by decide) (by decide) (by decide) (by decide), rows _ _ (by decide) (by decide) (by decide) (by decide), rows _ _ (by decide) (by decide) (by decide) (by decide)⟩)
  obtain ⟨ρa, ea, pa1, ⟨pa2, pa3, pa4⟩, pa5⟩ := r_placeAll (E := E) (d := d - 1) (ρ0 := ρ) (M := M) (f := -1) hM e11 (by omega) (fun i g1 g2 => by rw [(r86 i).1]; exact (hv i g1 (by omega)).1) (fun i g1 g2 g3 => by
    rw [(r86 i).1] at g3
    rw [(r86 i).2]
    have := h93 i g1 g2 g3
    omega)
  rw [e11] at pa1 pa2 pa3
  have tM : ((M : Int)).toNat = M := by omega
  rw [tM, lo] at pa2 pa3
  have fa : ∀ a i : Int, ¬ (a = 83 ∧ (i = 48 ∨ i = 53 ∨ i = 54)) → a ≠ 90 → ρa a i = ρ a i := fun a i g1 g2 => pa5 a i g1 (fun hh => g2 hh.1)
  have fa90 : ∀ x : Int, ¬ pk_V ρ (-1) x → ρa 90 x = ρ 90 x := fun x hx => pa5 90 x (by omega) (fun hh => hx hh.2.2.2)
  have a49 : ρa 83 49 = fn_p ρ0 fb fr M := by rw [fa _ _ (by omega) (by decide)]; exact k49
  have b50 : js_up ρa 83 50 (ρa 83 49) 83 50 = ρa 83 49 := js_up_same _ _ _ _
  have bO : ∀ a i : Int, ¬ (a = 83 ∧ i = 50) → js_up ρa 83 50 (ρa 83 49) a i = ρa a i := fun a i g => js_up_ne _ g
  have eq1 : js_J E d 244 260 [(2, 83), (0, x1), (0, x2), ux3, (9, 0)] [(0, -1), (2, 83)] ρ = js_J E d 244 277 [(2, 83), (0, x1), (0, x2), ux3, (9, 0)] [(0, 0), (0, js_up ρa 83 50 (ρa 83 49) 83 45), (2, 83)] (js_up ρa 83 50 (ρa 83 49)) := by
    rw [k_244_260 (by omega) ea, b_244_263, bO _ _ (by omega)]
  generalize js_up ρa 83 50 (ρa 83 49) = ρb at b50 bO eq1
  have fb0 : ∀ a i : Int, ¬ (a = 83 ∧ (i = 48 ∨ i = 50 ∨ i = 53 ∨ i = 54)) → a ≠ 90 → ρb a i = ρ a i := fun a i g1 g2 => by rw [bO a i (by omega), fa a i (by omega) g2]
  have b49 : ρb 83 49 = fn_p ρ0 fb fr M := by rw [bO _ _ (by omega)]; exact a49
  have p0 := fn_p_0 (ρ0 := ρ0) (fb := fb) (fr := fr) M
  have l1 := st_ln_0 r
  have rowb : ∀ a i : Int, 100 ≤ a → a ≤ 109 → ρb a i = ρ0 a i := fun a i g1 g2 => by rw [fb0 a i (by omega) (by omega), rows a i (by omega) g2 (by omega) (by omega)]
  have e45 : ρb 83 45 = ρ0 83 45 := by rw [fb0 _ _ (by omega) (by decide), hfr _ _ (by omega) (by decide) (by decide) (by decide) (by decide)]
  have hK : ∀ s k : Int, sk_P ρ0 (-1) s k → (0 ≤ s ∧ s < ρ0 83 11 ∧ ρ0 86 s = 4 ∧ ρ0 91 s = k) ∧ ρb 95 s = B s ∧ 0 ≤ B s ∧ B s ≤ 400000 := fun s k hs => by
    obtain ⟨s1, s2, s3, s4, _⟩ := hs
    have bs := hfun s s1 (by omega) s3
    refine ⟨⟨s1, s2, s3, s4⟩, ?_, bs.2.2.2.2⟩
    rw [fb0 _ _ (by omega) (by decide)]
    exact hbd s s1 (by omega) s3
  have gk : gsk_R B (sv_P ρ0 (-1)) (sz_P ρ0) (sk_P ρ0 (-1)) (su_U ρ0) (su_V ρ0) ρb := mk_gsk (by omega) (fun i g1 g2 => (hv i g1 (by omega)).2) hgs hK (fun a i g => by rw [fb0 a i (by omega) (by omega), rows a i (by omega) (by omega) (by omega) (by omega)])
  have hB : ∀ s k : Int, sk_P ρ0 (-1) s k → 0 ≤ B s := fun s k hs => (hK s k hs).2.2.1
  have cn0 := st_cn_nn (U := su_U ρ0) (V := su_V ρ0) hB r hr.2.1 hr.2.2.1
  have q52 : ρb 83 52 = 0 := by rw [fb0 _ _ (by omega) (by decide)]; exact k52
  obtain ⟨ρ1, v, e1, ⟨g1, c49, m1, d1⟩, cv, cv'⟩ := gli_call (z := 0) (gen_list (E := E) (B := B) hB r hr.1 hr.2.1 hr.2.2.1) (f := d - 1) (ρ := ρb) (n := ρb 83 45) (t := 0) (M := 0) (N := ρ0 83 33) ⟨gk, by rw [e45]; exact st_nd_fr hr.2.2.2 (fun a i g1 g2 => rowb a i g1 (by omega)), ⟨hr.2.1, hr.2.2.1, trivial⟩, ⟨by omega, by omega⟩, ⟨by omega, by omega⟩, ⟨by rw [bO _ _ (by omega), pa4]; decide, by rw [bO _ _ (by omega), pa4]; decide, mt1⟩, ⟨by decide, by decide⟩⟩ (by omega)
  rw [q52] at g1
  obtain ⟨ρ2, e2, h2⟩ := r_plain (E := E) (f := d - 1) (ρ := ρ1) (x1 := 29) (x2 := 0) (x3 := 0) (by omega) ⟨by omega, by omega⟩
  have b2 := h2.1
  have X : gx_R (ρb 83 49) 0 ρb ρ2 := gx_trans g1 (gm_gx h2) (by omega) (Int.le_refl _)
  have c54 : ρ2 83 54 = max 0 (st_mt r 0) := by
    rw [h2.2.2 _ _ (by omega) (by omega), m1, bO _ _ (by omega), pa4]
  have e48 : ρ2 83 48 = un_c ρ0 fb fr M + lo_c ρ0 (-1) M := by rw [X _ _ (by omega) (by omega) (by omega), bO _ _ (by omega), pa2, k48]
  have e53 : ρ2 83 53 = un_c ρ0 fb fr M + lo_c ρ0 (-1) M := by rw [X _ _ (by omega) (by omega) (by omega), bO _ _ (by omega), pa3, k48]
  have fO : ∀ a i : Int, ¬ (a = 83 ∧ i = 48) → js_up ρ2 83 48 (ρ2 83 48 + ρ2 83 54) a i = ρ2 a i := fun a i g => js_up_ne _ g
  have f48 : js_up ρ2 83 48 (ρ2 83 48 + ρ2 83 54) 83 48 = ρ2 83 48 + ρ2 83 54 := js_up_same _ _ _ _
  refine ⟨ρ2, v, ρ1 83 49, ?_, ?_, cv, by omega⟩
  · rw [eq1, k_244_277 (by omega) e1, b_244_280, k_244_288 (by omega) e2]
  generalize js_up ρ2 83 48 (ρ2 83 48 + ρ2 83 54) = ρf at fO f48 ⊢
  have fe : ∀ a i : Int, ¬ (a = 83 ∧ (48 ≤ i ∧ i ≤ 50 ∨ i = 53 ∨ i = 54)) → a ≠ 90 → a ≠ 110 → ¬ (111 ≤ a ∧ a ≤ 115 ∧ fn_p ρ0 fb fr M ≤ i) → ρf a i = ρ a i := fun a i g1 g2 g4 g5 => by
    rw [fO a i (by omega), X a i (by omega) (by omega) (by omega), fb0 a i (by omega) g2]
  have e90 : ∀ x : Int, ρ2 90 x = ρa 90 x := fun x => by rw [X _ _ (by omega) (by omega) (by omega), bO _ _ (by omega)]
  have cell' : ∀ x : Int, 0 ≤ x → x < M → 1 ≤ ρ0 86 x ∧ ρ0 86 x ≤ 7 → ρ2 90 x = ac_A ρ0 fb fr x := fun x g1 g2 g3 => by
    rw [e90]
    by_cases qv : pk_V ρ (-1) x
    · rw [pa1 x g1 g2 qv, k48, lo]
      unfold pk_V at qv
      rw [(r86 x).1, (r86 x).2] at qv
      unfold ac_A
      rw [if_neg (by omega), if_neg (by omega), qv.2.2, if_pos (by decide), h11, tM]
    · rw [fa90 x qv]
      refine hcell x g1 (by omega) ?_
      unfold pk_V at qv
      rw [(r86 x).1, (r86 x).2] at qv
      have a := h93 x g1 g2
      unfold mk_S
      by_cases q5 : 5 ≤ ρ0 86 x
      · have a := a ⟨q5, g3.2⟩
        omega
      · omega
  refine ⟨fun a i g1 g2 g3 g4 g5 => ?_, ⟨?_, ?_, ?_, ?_, ?_⟩, fun x g1 g2 g3 => ?_, ⟨fun x g1 g2 g3 => ?_, fun x g1 => ?_⟩, fun i g1 g2 g3 => ?_, fun hs => ⟨fun i g1 g2 g3 => ?_, ?_, ?_⟩⟩
  · rw [fe a i (by omega) g2 g4 (by omega)]
    exact hfr a i (by omega) g2 g3 g4 g5
  · rw [fO _ _ (by omega)]
    omega
  · rw [f48, e48, c54]
  · rw [fO _ _ (by omega), X _ _ (by omega) (by omega) (by omega), b50, a49]
  · rw [fe _ _ (by omega) (by decide) (by decide) (by omega), k46, h11, tM]
  · rw [fe _ _ (by omega) (by decide) (by decide) (by omega), k47, h11, tM]
  · rw [fO _ _ (by omega)]
    exact cell' x g1 g2 g3
  · rw [fO _ _ (by omega), e90, fa90 x (fun hh => by unfold pk_V at hh; rw [(r86 x).1] at hh; omega)]
    exact hc1 x g1 (by omega) g3
  · rw [fe _ _ (by omega) (by decide) (by decide) (by omega)]
    exact hc2 x g1
  · rw [fe _ _ (by omega) (by decide) (by decide) (by omega)]
    exact hbd i g1 g2 g3
  · rw [fO _ _ (by omega)] at hs
    have ti : ((i.toNat : Nat) : Int) = i := by omega
    have le : fn_p ρ0 fb fr i.toNat + st_ln (fb i) + xt_ln (fr i) + 1 ≤ fn_p ρ0 fb fr M := by
      have a := fn_p_le (ρ := ρ0) (fb := fb) (fr := fr) (i := i.toNat) (by rw [ti]; exact g3) M (by omega)
      rw [ti] at a
      exact a
    refine kc_fr (hcode (by omega) i g1 g2 g3) le (fun a p q1 q2 q3 => ?_)
    rw [fe a p (by omega) (by omega) (by omega) (by omega)]
  · rw [fO _ _ (by omega)] at hs
    have cd := sr_gy (gy_gm h2) (by omega) (d1 (by omega))
    rw [b49] at cd
    refine st_cd_of _ _ _ _ (fun i I _ _ hI => rk_fr (rk_ri (A := ac_A ρ0 fb fr) (tb := un_c ρ0 fb fr M + lo_c ρ0 (-1) M) hI.1 hI.2 (fun x hx => cell' x hx.1 hx.2.1 hx.2.2) (fun x hx => cell' x hx.1 hx.2.1 hx.2.2) e53) (fun a q1 q2 => fO a i (by omega))) (st_cd_g (S1 := fun x => 0 ≤ x ∧ x < M ∧ 1 ≤ ρ0 86 x ∧ ρ0 86 x ≤ 7) (K1 := fun x => 0 ≤ x ∧ x < M ∧ 1 ≤ ρ0 86 x ∧ ρ0 86 x ≤ 7) (fun s hs' => ?_) (fun s k hs' => ?_) r _ _ _ hr.2.2.1 cd)
    · obtain ⟨x1', x2', x3⟩ := hs'
      exact ⟨x1', by omega, by omega, by omega⟩
    · obtain ⟨s1, s2, s3, s4, _⟩ := hs'
      have fs := (hfun s s1 (by omega) s3).2.2.2.1.2.2.2.2
      have gs := (hgs s s1 s2 (fun h => h)).2.2.2.2.1 s3
      refine ⟨⟨s1, by omega, by omega, by omega⟩, fun j j1 j2 => ?_⟩
      have f1 := fs (1 + j) (by omega) (by omega)
      have f2 := gs.2.2.2.2.1 (1 + j) (by omega) (by omega)
      rw [show s + 1 + j = s + (1 + j) by omega, f2.1]
      exact ⟨by omega, by omega, by decide, by decide⟩
  · rw [fO _ _ (by omega)] at hs
    have j := gm_ri (k := 0) (x := 0) (y := 0) h2 (by omega) (if_pos rfl).symm
    have e0 : ρ1 83 49 = fn_p ρ0 fb fr M + st_ln r := by omega
    rw [e0] at j
    exact rk_fr (rk_ri (S := fun _ => False) (K := fun _ => False) j xg_0 (fun _ h => h.elim) (fun _ h => h.elim) e53) (fun a q1 q2 => fO a _ (by omega))
/-- from the first instruction of make to its tests -/
theorem mk_all (hp : mp_R B Bf fb fr M ρ0) (hc : mc_R B fb fr r M ρ0) (hd : 1225 ≤ d) : ∃ (ρ' : js_S) (v w : Int), js_J E d 244 0 [(2, 83), (9, 0), (9, 0), (9, 0), (9, 0)] [] ρ0 = js_J E d 244 291 [(2, 83), (0, 0), (1, v + 1), (9, 0), (9, 0)] [(0, w)] ρ' ∧ mf_R B fb fr r M ρ0 (js_up ρ' 83 48 (ρ' 83 48 + ρ' 83 54)) ∧ (0 ≤ v ∧ v ≤ 1000000000000000) ∧ min 400000 (v + 1) = min 400000 (st_cn B r + 1) := by
  have hM := hp.1.1
  have h11 := hp.1.2
  have hv := hp.2.1
  have z0 : ∀ a i : Int, ¬ (a = 83 ∧ (46 ≤ i ∧ i ≤ 49 ∨ i = 52)) → js_up (js_up (js_up (js_up (js_up ρ0 83 48 0) 83 49 0) 83 52 0) 83 46 0) 83 47 0 a i = ρ0 a i := fun a i g => by rw [js_up_ne _ (by omega), js_up_ne _ (by omega), js_up_ne _ (by omega), js_up_ne _ (by omega), js_up_ne _ (by omega)]
  have z47 : js_up (js_up (js_up (js_up (js_up ρ0 83 48 0) 83 49 0) 83 52 0) 83 46 0) 83 47 0 83 47 = 0 := js_up_same _ _ _ _
  have z46 : js_up (js_up (js_up (js_up (js_up ρ0 83 48 0) 83 49 0) 83 52 0) 83 46 0) 83 47 0 83 46 = 0 := by rw [js_up_ni _ (by decide), js_up_same]
  have z52 : js_up (js_up (js_up (js_up (js_up ρ0 83 48 0) 83 49 0) 83 52 0) 83 46 0) 83 47 0 83 52 = 0 := by rw [js_up_ni _ (by decide), js_up_ni _ (by decide), js_up_same]
  have z49 : js_up (js_up (js_up (js_up (js_up ρ0 83 48 0) 83 49 0) 83 52 0) 83 46 0) 83 47 0 83 49 = 0 := by rw [js_up_ni _ (by decide), js_up_ni _ (by decide), js_up_ni _ (by decide), js_up_same]
  have z48 : js_up (js_up (js_up (js_up (js_up ρ0 83 48 0) 83 49 0) 83 52 0) 83 46 0) 83 47 0 83 48 = 0 := by rw [js_up_ni _ (by decide), js_up_ni _ (by decide), js_up_ni _ (by decide), js_up_ni _ (by decide), js_up_same]
  have eq0 : js_J E d 244 0 [(2, 83), (9, 0), (9, 0), (9, 0), (9, 0)] [] ρ0 = js_J E d 244 27 [(2, 83), (0, 0), (9, 0), (9, 0), (9, 0)] [] (js_up (js_up (js_up (js_up (js_up ρ0 83 48 0) 83 49 0) 83 52 0) 83 46 0) 83 47 0) := b_244_0
  generalize js_up (js_up (js_up (js_up (js_up ρ0 83 48 0) 83 49 0) 83 52 0) 83 46 0) 83 47 0 = ρ1 at z0 z46 z47 z48 z49 z52 eq0
  have r0 : ∀ a i : Int, a ≠ 83 → ρ1 a i = ρ0 a i := fun a i g => z0 a i (by omega)
  obtain ⟨ρ2, e2, p1, ⟨p2, p3, p4⟩, p5⟩ := r_ports (E := E) (d := d) (ρ0 := ρ1) (M := M) hM (by rw [z0 _ _ (by omega)]; exact h11) (fun i g1 g2 => by rw [r0 _ _ (by decide)]; exact (hv i g1 (by omega)).1) M 0 ρ1 (by omega) ⟨fun i g1 g2 => by omega, ⟨z48, z46, z47⟩, fun _ _ _ _ => rfl⟩
  have tM : ((M : Int)).toNat = M := by omega
  have q1 : ∀ k : Nat, po_a ρ1 k = po_a ρ0 k := fun k => po_a_eq k (fun i _ _ => ⟨r0 _ _ (by decide), r0 _ _ (by decide)⟩)
  have q2 : ∀ (x : Int) (k : Nat), po_k ρ1 x k = po_k ρ0 x k := fun x k => po_k_eq k (fun i _ _ => ⟨r0 _ _ (by decide), r0 _ _ (by decide)⟩)
  have h86 : ∀ x : Int, ρ1 86 x = ρ0 86 x := fun x => r0 _ _ (by decide)
  have h2 : mk_R B fb fr 0 ρ0 ρ2 := by
    refine ⟨fun a i g1 g2 g3 g4 g5 => ?_, ⟨?_, ?_, ?_, ?_, ?_⟩, fun x g1 g2 g3 => ?_, ⟨fun x g1 g2 g3 => ?_, fun x g1 => ?_⟩, fun i g1 g2 => by omega, fun _ i g1 g2 => by omega⟩
    · rw [p5 a i (by omega) (fun hh => g2 hh.1), z0 a i (by omega)]
    · rw [p5 _ _ (by omega) (by omega), z49]
      rfl
    · rw [p2, q1]
      show _ = po_a ρ0 (ρ0 83 11).toNat
      rw [h11, tM]
    · rw [p5 _ _ (by omega) (by omega), z52]
    · rw [p3, q2, h11, tM]
    · rw [p4, q2, h11, tM]
    · unfold mk_S at g3
      have k13 : 1 ≤ ρ0 86 x ∧ ρ0 86 x ≤ 3 := by omega
      rw [p1 x g1 (by omega) (by rw [h86]; exact k13), q1]
      unfold ac_A
      rw [if_pos k13]
    · rw [p5 _ _ (by omega) (fun hh => by have := hh.2.2.2; rw [h86] at this; omega), r0 _ _ (by decide)]
    · rw [p5 _ _ (by omega) (by omega), r0 _ _ (by decide)]
  obtain ⟨ρ3, vx3, e3, h3⟩ := mk_loop (E := E) (x1 := 0) hp hd M 0 ρ2 (9, 0) (by omega) h2
  obtain ⟨ρ4, v, w, e4, h4⟩ := mk_cyc (E := E) (x1 := 0) (x2 := M) (ux3 := vx3) hp hc hd h3
  refine ⟨ρ4, v, w, ?_, h4⟩
  have e2' : js_J E d 244 27 [(2, 83), (0, 0), (9, 0), (9, 0), (9, 0)] [] ρ1 = js_J E d 244 143 [(2, 83), (0, 0), (0, 0), (9, 0), (9, 0)] [] ρ2 := e2
  have e3' : js_J E d 244 143 [(2, 83), (0, 0), (0, 0), (9, 0), (9, 0)] [] ρ2 = js_J E d 244 260 [(2, 83), (0, 0), (0, M), vx3, (9, 0)] [(0, -1), (2, 83)] ρ3 := e3
  rw [eq0, e2', e3', e4]
end RZ
