/-! part 99.zzzzzb: the code of both is the same, place by place -/
section CF
variable {E : js_E} {b : Int} {B : Int → Int} {Bf : Int → Int → Int} {U : Int → Int} {fb fr : Int → tr_T} {r : tr_T} {σ ρ : js_S} {j : Nat}
def cs_V (ρ : js_S) (x : Int) : Prop := 0 ≤ x ∧ x < ρ 83 11 ∧ 1 ≤ ρ 86 x ∧ ρ 86 x ≤ 7
def cs_K (ρ : js_S) (x : Int) : Prop := 0 ≤ x ∧ x < ρ 83 11 ∧ ρ 86 x = 4
theorem cs_S {F x : Int} (h : sv_P ρ F x) : cs_V ρ x := by
  obtain ⟨a1, a2, a3⟩ := h
  exact ⟨a1, a2, by omega, by omega⟩
theorem cs_C (hgs : gs_R ρ (fun _ => False)) {s k : Int} (h : 0 ≤ s ∧ s < ρ 83 11 ∧ ρ 86 s = 4 ∧ ρ 91 s = k) : cs_K ρ s ∧ ∀ j : Int, 0 ≤ j → j < k → cs_V ρ (s + 1 + j) := by
  obtain ⟨s1, s2, s3, s4⟩ := h
  have gs := (hgs s s1 s2 (fun h => h)).2.2.2.2.1 s3
  refine ⟨⟨s1, s2, s3⟩, fun j j1 j2 => ?_⟩
  have f2 := gs.2.2.2.2.1 (1 + j) (by omega) (by omega)
  have f3 := gs.2.2.2.1
  unfold cs_V
  rw [show s + 1 + j = s + (1 + j) by omega, f2.1]
  exact ⟨by omega, by omega, by decide, by decide⟩
/-- one unit: its body, the e that it gives, its last INSTRUCTION -/
theorem code_un {σ1 σ2 ρ' : js_S} {u tb P0 : Int} {A : Int → Int} {tf tr : tr_T} {Il : xt_I} {S : Int → Prop} {Z K : Int → Int → Prop} {U' : Int → Int → Int → Prop} {V' : Int → Int → Int → Int → Prop} (hb : b = 0 ∨ b = 25) (hS : ∀ s : Int, S s → cs_V ρ s) (hK : ∀ s k : Int, K s k → cs_K ρ s ∧ ∀ j : Int, 0 ≤ j → j < k → cs_V ρ (s + 1 + j)) (hw : st_w tf) (hg : st_g S Z K U' V' tf) (hr : tr = .leaf ∨ xt_w tr ∧ xt_g S Z K tr) (hl : Il.2.1 = 0) (hc : st_cd (ci_P σ b u) tf 0 P0 0 ∧ xt_cd (ci_P σ b u) tr 0 (P0 + st_ln tf) ∧ ci_P σ b u (P0 + st_ln tf + xt_ln tr) Il) (hk : st_cd (rk_P A tb ρ') tf 0 P0 0 ∧ xt_cd (rk_P A tb ρ') tr 0 (P0 + st_ln tf) ∧ rk_P A tb ρ' (P0 + st_ln tf + xt_ln tr) Il) (hA : ∀ x : Int, cs_V ρ x → cl_A b σ σ1 A x) (hA4 : ∀ x : Int, cs_K ρ x → σ (σ (19 + b) x) 5 = A x) (hu : 0 ≤ u ∧ u < 401) (h16 : σ1 (16 + b) u = tb) (p : Int) (g1 : P0 ≤ p) (g2 : p < P0 + st_ln tf + xt_ln tr + 1) (hO : ∀ a : Int, 9 + b ≤ a → a ≤ 14 + b → σ1 a p = σ a p) (h2 : σ2 (10 + b) p = rl_f σ1 b p) (hO2 : ∀ a : Int, a ≠ 10 + b → σ2 a p = σ1 a p) : ce_P b σ2 ρ' p := by
  have go : ∀ I : xt_I, ci_P σ b u p I → rk_P A tb ρ' p I → xg_I (cs_V ρ) (cs_K ρ) I → ce_P b σ2 ρ' p := fun I a1 a2 a3 => ca_eq hb a1 a2 a3 hA hA4 hu h16 hO h2 hO2
  have l1 := st_ln_0 tf
  have l2 := xt_ln_0 tr
  by_cases q1 : p < P0 + st_ln tf
  · obtain ⟨I, ⟨a1, a2⟩, a3⟩ := st_cd_cov tf _ _ _ hw (st_cd_and tf _ _ _ (st_cd_g hS hK tf _ _ _ hg hc.1) hk.1) p g1 q1
    exact go I a1 a3 a2
  by_cases q2 : p < P0 + st_ln tf + xt_ln tr
  · rcases hr with h | ⟨h1, h3⟩
    · subst h
      have : xt_ln (Std.DTreeMap.Internal.Impl.leaf : tr_T) = 0 := rfl
      omega
    · obtain ⟨I, ⟨a1, a2⟩, a3⟩ := xt_cd_cov tr _ _ h1 (xt_cd_and tr _ _ (xt_cd_g hS hK tr _ _ h3 hc.2.1) hk.2.1) p (by omega) q2
      exact go I a1 a3 a2
  · have e : p = P0 + st_ln tf + xt_ln tr := by omega
    refine go Il (by rw [e]; exact hc.2.2) (by rw [e]; exact hk.2.2) ⟨fun h => ?_, fun h => absurd hl h.1⟩
    rw [hl] at h
    omega
theorem code_all {M N KK : Nat} {σ1 σ2 ρ' : js_S} (hb : b = 0 ∨ b = 25) (h : pg_R E b B Bf U fb fr r σ ρ j) (hM : ρ 83 11 = M) (hN : (N : Int) = fn_u ρ M + 1) (h400 : N ≤ 401) (hmf : mf_R B fb fr r M ρ ρ') (hs : us_R b (po_a ρ M) N σ σ1) (hl : ul_R b KK σ1 σ2) (hKK : σ (8 + b) 6 = KK) (h8 : KK ≤ 8192) (p : Int) (g1 : 0 ≤ p) (g2 : p < KK) : ce_P b σ2 ρ' p := by
  have tM : ((M : Int)).toNat = M := by omega
  have hgs := h.1.2.2.1
  have uni := h.2.2.2.2.2.1
  have cyc := h.2.2.2.2.2.2.1
  have cc := h.2.2.2.2.2.2.2.1 (by omega)
  rw [hM, tM] at uni cc
  have m49 := hmf.2.1.1
  have codes := hmf.2.2.2.2.2 (by omega)
  have f0 := fn_u_0 (ρ := ρ) M
  have hO : ∀ a : Int, 9 + b ≤ a → a ≤ 14 + b → σ1 a p = σ a p := fun a q1 q2 => hs.2 a p (by omega)
  have h2 := hl.1 p g1 g2
  have hO2 : ∀ a : Int, a ≠ 10 + b → σ2 a p = σ1 a p := fun a q => hl.2 a p (by omega)
  have hs' : us_R b (po_a ρ (ρ 83 11).toNat) N σ σ1 := by rw [hM, tM]; exact hs
  have hA : ∀ x : Int, cs_V ρ x → cl_A b σ σ1 (ac_A ρ fb fr) x := fun x hx => cl_all hb h (by rw [hM, tM]; exact hN) h400 hs' x hx.1 hx.2.1 hx.2.2
  have hA4 : ∀ x : Int, cs_K ρ x → σ (σ (19 + b) x) 5 = ac_A ρ fb fr x := fun x hx => by
    have a := (h.2.2.1 x hx.1 hx.2.1 hx.2.2).1.1.1
    rw [a]
    unfold ac_A
    rw [if_neg (by have := hx.2.2; omega), if_pos hx.2.2]
  by_cases q : p < fn_p ρ fb fr M
  · obtain ⟨i, i1, i2, i3, i4⟩ := fn_in M g1 q
    obtain ⟨hf, _⟩ := h.2.2.1 i (by omega) (by omega) i2
    have tn : (i : Int).toNat = i := by omega
    obtain ⟨⟨_, hU, _⟩, hbd, hrt, _, ⟨s15, _⟩, hcd⟩ := hf
    have cdi := hcd (by omega)
    have kdi := codes.1 i (by omega) (by omega) i2
    rw [tn] at hU cdi
    unfold kc_P at kdi
    rw [tn] at kdi
    have fu := fn_u_0 (ρ := ρ) i
    have fl := fn_u_lt (ρ := ρ) i2 M i1
    have e := un_eq h i (by omega)
    rw [hM, tM] at e s15
    refine code_un hb (S := sv_P ρ i) (K := sk_F ρ i) (tb := tb_c ρ fb fr i) (fun s hs' => cs_S hs') (fun s k hs' => cs_C hgs ⟨hs'.1, by have := hs'.2.1; omega, hs'.2.2.1, hs'.2.2.2.1⟩) hbd.2.1 hbd.2.2.1 ?_ rfl cdi kdi hA hA4 (by rw [hU]; omega) ?_ p i3 i4 hO h2 hO2
    · rcases hrt with a | a
      · exact Or.inl a.1
      · exact Or.inr ⟨a.2.1, a.2.2.1⟩
    · rw [hU] at s15 ⊢
      rw [(hs.1 (fn_u ρ i) fu.1 (by omega)).2, e, s15]
      unfold tb_c
      rw [tn, hM, tM]
  · have e := un_eq h M (by omega)
    rw [hM, tM] at e
    have lf : xt_ln (Std.DTreeMap.Internal.Impl.leaf : tr_T) = 0 := rfl
    have kk : (KK : Int) = fn_p ρ fb fr M + st_ln r + 1 := by
      rw [← hKK]
      exact uni.2.2.1
    refine code_un (tr := .leaf) (u := U (-1)) (tb := un_c ρ fb fr M + lo_c ρ (-1) M) (P0 := fn_p ρ fb fr M) (Il := (29, 0, 0, 0, 0, 1, 0)) hb (S := sv_P ρ (-1)) (Z := sz_P ρ) (K := sk_P ρ (-1)) (fun s hs' => cs_S hs') (fun s k hs' => cs_C hgs ⟨hs'.1, hs'.2.1, hs'.2.2.1, hs'.2.2.2.1⟩) cyc.2.1 cyc.2.2.1 (Or.inl rfl) rfl ⟨cc.1, trivial, by rw [lf, Int.add_zero]; exact cc.2⟩ ⟨codes.2.1, trivial, by rw [lf, Int.add_zero]; exact codes.2.2⟩ hA hA4 (by rw [uni.1.1]; omega) ?_ p (by omega) (by rw [lf]; omega) hO h2 hO2
    have s15 := uni.2.2.2.2.1
    rw [uni.1.1] at s15 ⊢
    rw [(hs.1 (fn_u ρ M) f0.1 (by omega)).2, e, s15]
end CF
