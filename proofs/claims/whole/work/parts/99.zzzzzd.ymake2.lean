/-! part 99.zzzzzd: both make the program; or it is too large for both -/
/-- what making a program leaves alone of the reference -/
def rm_F (ρ ρ' : js_S) : Prop := ∀ a i : Int, ¬ (a = 83 ∧ (i = 5 ∨ i = 9 ∨ 46 ≤ i ∧ i ≤ 54)) → a ≠ 90 → a ≠ 95 → a ≠ 110 → ¬ (111 ≤ a ∧ a ≤ 115) → ρ' a i = ρ a i
/-- both have made the program -/
def ym_R (E : js_E) (b : Int) (ρ σ' ρ' : js_S) : Prop := (ρ' 83 9 = 0 ∧ (0 ≤ ρ 83 11 ∧ ρ 83 11 ≤ 400 ∧ ρ' 83 11 = ρ 83 11 ∧ σ' (7 + b) 1 = ρ 83 11)) ∧ ((0 ≤ ρ' 83 49 ∧ ρ' 83 49 ≤ 8192 ∧ σ' (8 + b) 6 = ρ' 83 49) ∧ (0 ≤ ρ' 83 48 ∧ ρ' 83 48 ≤ E.1 ∧ σ' (7 + b) 2 = ρ' 83 48) ∧ σ' (7 + b) 3 = ρ' 83 50 ∧ (1 ≤ ρ' 83 51 ∧ ρ' 83 51 ≤ 100000 ∧ σ' (7 + b) 4 = ρ' 83 51) ∧ σ' (7 + b) 5 = ρ' 83 46 ∧ σ' (7 + b) 6 = ρ' 83 47) ∧ (∀ i : Int, 0 ≤ i → i < ρ 83 11 → sy_N E.1 σ' ρ' b i ∧ sy_F σ' ρ' b i ∧ σ' (σ' (19 + b) i) 5 = ρ' 90 i ∧ σ' (σ' (19 + b) i) 9 = ρ' 95 i) ∧ ∀ p : Int, 0 ≤ p → p < ρ' 83 49 → ce_P b σ' ρ' p
section YM2
variable {E : js_E} {d e : Nat} {b : Int} {B : Int → Int} {Bf : Int → Int → Int} {U : Int → Int} {fb fr : Int → tr_T} {r : tr_T} {σ ρ : js_S} {j M : Nat} {x1 x2 x3 x4 x5 : Int}
/-- the token at the end stands at the end -/
theorem rd_end (hR : rd_R σ ρ j) (h1 : ρ 83 5 = 1) : ρ 83 6 = ρ 83 4 := by
  have a := hR.2.1
  have tp := hR.2.2.1.1
  have p := tk_p_in tp j
  have k := rx_lex_end p.1 p.2 tp (by rw [← a.2.2.2.2.1]; exact h1)
  rw [a.2.2.1]
  exact k.1
/-- what placing leaves alone of the class -/
theorem pl_fr {N K T : Nat} {x : Int} {σ1 σ2 σ3 σ' : js_S} (hb : b = 0 ∨ b = 25) (hs : us_R b x N σ σ1) (hl : ul_R b K σ1 σ2) (h3 : σ3 = js_up σ2 (7 + b) 2 (un_b σ b x N)) (hm : pm_R b T T σ3 σ') : (∀ a i : Int, ¬ (15 + b ≤ a ∧ a ≤ 16 + b) → a ≠ 10 + b → ¬ (a = 7 + b ∧ i = 2) → i ≠ 5 ∨ a < 137 ∨ pm_O b T σ a → σ' a i = σ a i) ∧ σ' (7 + b) 2 = un_b σ b x N ∧ (∀ a i : Int, 9 + b ≤ a → a ≤ 14 + b → σ' a i = σ2 a i) ∧ (∀ i : Int, 0 ≤ i → i < T → 137 ≤ σ (19 + b) i → σ' (σ (19 + b) i) 5 = (if 0 ≤ σ (σ (19 + b) i) 11 ∧ σ (σ (19 + b) i) 11 < 401 then σ (σ (19 + b) i) 5 + σ1 (15 + b) (σ (σ (19 + b) i) 11) else σ (σ (19 + b) i) 5)) := by
  have f3 : ∀ a i : Int, ¬ (a = 7 + b ∧ i = 2) → σ3 a i = σ2 a i := fun a i g => by rw [h3, js_up_ne _ g]
  have g3 : ∀ a i : Int, ¬ (15 + b ≤ a ∧ a ≤ 16 + b) → a ≠ 10 + b → ¬ (a = 7 + b ∧ i = 2) → σ3 a i = σ a i := fun a i g1 g2 g3 => by rw [f3 a i g3, hl.2 a i (by omega), hs.2 a i (by omega)]
  have e19 : ∀ i : Int, σ3 (19 + b) i = σ (19 + b) i := fun i => g3 _ _ (by omega) (by omega) (by omega)
  refine ⟨fun a i q1 q2 q3 q4 => ?_, ?_, fun a i g1 g2 => ?_, fun i q1 q2 q3 => ?_⟩
  · rw [hm.2.2 a i ?_, g3 a i q1 q2 q3]
    rcases q4 with q | q | q
    · exact Or.inl q
    · exact Or.inr (Or.inl q)
    · refine Or.inr (Or.inr (fun k k1 k2 => ?_))
      rw [e19]
      exact q k k1 k2
  · rw [hm.2.2 _ _ (by omega), h3, js_up_same]
  · rw [hm.2.2 _ _ (by omega), f3 a i (by omega)]
  · have a := hm.1 i q1 q2
    unfold pl_f at a
    rw [e19] at a
    generalize σ (19 + b) i = s at q3 a ⊢
    have e11 := g3 s 11 (by omega) (by omega) (by omega)
    have e5 := g3 s 5 (by omega) (by omega) (by omega)
    have e15 : σ3 (15 + b) (σ3 s 11) = σ1 (15 + b) (σ3 s 11) := by rw [f3 _ _ (by omega), hl.2 _ _ (by omega)]
    rw [e15, e11, e5] at a
    exact a
theorem y_make (hb : b = 0 ∨ b = 25) (h : pg_R E b B Bf U fb fr r σ ρ j) (hR : rd_R σ ρ j) (h1 : ρ 83 5 = 1) (hE : ρ 83 55 = E.1) (hE2 : 0 ≤ E.1 ∧ E.1 < 2147483648) (hd : 12 ≤ d) (he : 1230 ≤ e) : (∃ σ' ρ' : js_S, js_J E d 112 108 [(2, 6 + b)] [] σ = js_r0 E σ' ∧ js_J E e 189 195 [(2, 83), (0, x1), (0, x2), (0, x3), (0, x4), (0, x5), (9, 0)] [(2, 83)] ρ = js_J E e 189 198 [(2, 83), (0, x1), (0, x2), (0, x3), (0, x4), (0, x5), (9, 0)] [] ρ' ∧ rm_F ρ ρ' ∧ fr_R b σ σ' ∧ ym_R E b ρ σ' ρ' ∧ ((∀ i : Int, 0 ≤ i → σ' 1 i = σ 1 i) ∧ sy_H E.1 σ' b ∧ cx_n σ') ∧ ∃ ρf : js_S, mf_R B fb fr r (ρ 83 11).toNat ρ ρf ∧ ρ' = js_up ρf 83 51 (st_cn B r + 1)) ∨ (∃ σ' ρ' : js_S, js_J E e 189 195 [(2, 83), (0, x1), (0, x2), (0, x3), (0, x4), (0, x5), (9, 0)] [(2, 83)] ρ = js_J E e 189 198 [(2, 83), (0, x1), (0, x2), (0, x3), (0, x4), (0, x5), (9, 0)] [] ρ' ∧ rx_F ρ' ∧ rm_F ρ ρ' ∧ js_J E d 112 108 [(2, 6 + b)] [] σ = th_P E σ' (ρ' 83 9) ∧ fr_R b σ σ' ∧ sy_H E.1 σ' b ∧ cx_n σ') := by
  have hj := rd_j hR
  have hY := h.1.1
  have m0 := hY.1.1
  have m4 := hY.1.2.1
  obtain ⟨M, hM⟩ : ∃ M : Nat, ρ 83 11 = M := ⟨(ρ 83 11).toNat, by omega⟩
  have tM : ((M : Int)).toNat = M := by omega
  obtain ⟨hp, hc⟩ := pg_mp h hM (by omega)
  have o9 := hR.2.2.1.2.2.1
  have cyc := h.2.2.2.2.2.2.1
  have uni := h.2.2.2.2.2.1
  rw [hM, tM] at uni
  have tot := h.2.2.2.2.1
  rw [hM, tM] at tot
  have f0 := fn_u_0 (ρ := ρ) M
  have p0 := fn_p_0 (ρ0 := ρ) (fb := fb) (fr := fr) M
  have l0 := st_ln_0 r
  have sz := hc.2.2.2
  have ct := ce_T_in hp hc
  have hun := un_eq h M (by omega)
  rw [hM, tM] at hun
  -- the class places
  obtain ⟨N, hN⟩ : ∃ N : Nat, (N : Int) = fn_u ρ M + 1 := ⟨(fn_u ρ M + 1).toNat, by omega⟩
  have h8 : σ (8 + b) 8 = N := by rw [hN]; exact uni.1.2
  have h6 : σ (8 + b) 6 = fn_p ρ fb fr M + st_ln r + 1 := uni.2.2.1
  obtain ⟨K, hK⟩ : ∃ K : Nat, (K : Int) = min 8192 (σ (8 + b) 6) := ⟨(min 8192 (σ (8 + b) 6)).toNat, by omega⟩
  obtain ⟨σ1, σ2, σ3, σ', ec, hs, hl, h3, hm⟩ := c_place (E := E) (d := d - 1) (b := b) (σ0 := σ) (T := M) (N := N) (M := K) hb (by omega) (by rw [← hM]; exact hY.2.2.2.2.1) (by omega) (fun i g1 g2 => by
    have a := hY.2.2.2.2.2.1 i g1 (by omega)
    refine ⟨a.1, ?_⟩
    have k9 := (hp.2.1 i g1 (by omega)).1
    by_cases q5 : 5 ≤ ρ 86 i ∧ ρ 86 i ≤ 7
    · have v := h.2.1 i g1 (by omega) q5
      rw [v.2.2]
      rcases v.1 with q | q
      · rw [q, uni.1.1]
        omega
      · have fu := (h.2.2.1 (ρ 93 i) q.1 (by omega) q.2.2).1.1.2.1
        have fz := fn_u_0 (ρ := ρ) (ρ 93 i).toNat
        rw [fu]
        omega
    · by_cases q4 : ρ 86 i = 4
      · rw [(h.2.2.1 i g1 (by omega) q4).1.1.2.2]
        omega
      · by_cases q3 : 1 ≤ ρ 86 i ∧ ρ 86 i ≤ 3
        · rw [(h.2.2.2.1.1 i g1 (by omega) q3).2]
          omega
        · rw [(h.2.2.2.1.2 i g1 (by omega) (by omega)).2]
          omega) (fun i k g1 g2 g3 g4 g5 => sy_Y_ne hY g1 (by omega) g3 (by omega) g5) (by omega) h8 (by omega) ⟨by omega, by omega⟩ (by omega)
  rw [tot.1] at hs h3
  obtain ⟨pf, p72, prow, psym⟩ := pl_fr hb hs hl h3 hm
  have ge : ∀ i : Int, 0 ≤ i → i < M → 137 ≤ σ (19 + b) i := fun i g1 g2 => js_sym_ge (hY.2.2.2.2.2.1 i g1 (by omega)).1
  have z19 : ∀ i : Int, σ' (19 + b) i = σ (19 + b) i := fun i => pf _ _ (by omega) (by omega) (by omega) (by omega)
  have frr : fr_R b σ σ' := fr_R_of hb (fun a i g1 g2 g3 g4 => pf a i (by omega) (by omega) (by omega) (by
    by_cases q : a < 137
    · exact Or.inr (Or.inl q)
    · refine Or.inr (Or.inr (fun k k1 k2 => ?_))
      have := g4 k k1 (by omega)
      omega))
  have c1 : ∀ a i : Int, a = -1 ∨ 0 ≤ a ∧ a ≤ 5 → σ' a i = σ a i := fun a i g => pf a i (by omega) (by omega) (by omega) (by omega)
  have hT : un_b σ b (po_a ρ M) N = ce_T fb fr r M ρ := by
    have e1 : N = (fn_u ρ M).toNat + 1 := by omega
    have ft : ((fn_u ρ M).toNat : Int) = fn_u ρ M := by omega
    have s15 := uni.2.2.2.2.1
    have s16 := uni.2.2.2.2.2
    rw [uni.1.1] at s15 s16
    rw [e1]
    show un_b σ b (po_a ρ M) (fn_u ρ M).toNat + σ (15 + b) ((fn_u ρ M).toNat : Nat) + σ (16 + b) ((fn_u ρ M).toNat : Nat) = _
    rw [hun, ft, s15, s16]
    rfl
  rw [hT] at p72
  have q6 : σ' (8 + b) 6 = fn_p ρ fb fr M + st_ln r + 1 := by rw [pf _ _ (by omega) (by omega) (by omega) (by omega)]; exact h6
  have q3 : σ' (7 + b) 3 = fn_p ρ fb fr M := by rw [pf _ _ (by omega) (by omega) (by omega) (by omega)]; exact uni.2.1
  have q4 : σ' (7 + b) 4 = min 400000 (st_cn B r + 1) := by rw [pf _ _ (by omega) (by omega) (by omega) (by omega)]; exact uni.2.2.2.1
  have cn0 := cyc.2.2.2.2.1
  have w6 : js_w (σ' (8 + b) 6) = fn_p ρ fb fr M + st_ln r + 1 := by rw [q6]; exact js_w_of (by omega) (by omega)
  have w2 : js_w (σ' (7 + b) 2) = ce_T fb fr r M ρ := by rw [p72]; exact js_w_of (by omega) (by omega)
  have wE : js_w E.1 = E.1 := js_w_of (by omega) (by omega)
  have w4 : js_w (σ' (7 + b) 4) = min 400000 (st_cn B r + 1) := by rw [q4]; exact js_w_of (by omega) (by omega)
  obtain ⟨ρf, hmf, hbig, hok⟩ := r_make (E := E) (d := e - 1) hp hc (by omega) hE hE2 o9 cn0
  have e112 : js_J E d 112 108 [(2, 6 + b)] [] σ = js_J E d 112 115 [(2, 6 + b)] [] σ' := by rw [b_112_108 hb, k_112_112 hb (by omega) ec]
  have mfr := hmf.1
  have cx : cx_n σ' := ⟨by rw [c1 _ _ (by omega)]; exact hY.2.2.1.1, by rw [c1 _ _ (by omega)]; exact hY.2.2.1.2⟩
  have sH : sy_H E.1 σ' b := fun i g1 g2 => by
    rw [z19]
    rcases hY.2.2.2.1 i g1 g2 with q | ⟨q1, q2⟩
    · exact Or.inl q
    · exact Or.inr ⟨js_desc_mono q1 (by rw [c1 _ _ (by omega)]; exact Int.le_refl _) (fun hh => pf _ _ (by omega) (by omega) (by omega) (by omega)), by have := js_sym_ge q1; rw [pf _ _ (by omega) (by omega) (by omega) (by omega)]; exact q2⟩
  by_cases hlg : lg_P B fb fr r M ρ E.1
  · obtain ⟨w, er⟩ := hbig hlg
    have n9 : ρf 83 9 = 0 := by rw [mfr _ _ (by omega) (by decide) (by decide) (by decide) (by decide)]; exact o9
    have s4 : 0 ≤ ρ 83 4 ∧ ρ 83 4 ≤ 8192 := ⟨by have := rd_end hR h1; have := hR.2.2.1.2.2.2.1; omega, hR.1.2.2.1⟩
    obtain ⟨hF, h9e⟩ := rx_bad_new (τ := ρf) (k := 11) (p := ρ 83 4) n9 (by decide) (by decide) s4.1 (by omega)
    have u9 : js_up (rx_bad ρf 11 (ρ 83 4)) 83 51 w 83 9 = 11 + 16 * ρ 83 4 := by rw [js_up_ni _ (by decide)]; exact h9e
    have pl : σ' 1 2 = ρ 83 4 := by
      rw [c1 _ _ (by omega), ← rd_end hR h1]
      exact hR.2.1.2.2.2.2.2.2.2.1
    refine Or.inr ⟨σ', js_up (rx_bad ρf 11 (ρ 83 4)) 83 51 w, ?_, rx_F_up hF (by decide) (by decide), fun a i g1 g2 g3 g4 g5 => ?_, ?_, frr, sH, cx⟩
    · rw [k_189_195 (by omega) er]
    · have bo : rx_bad ρf 11 (ρ 83 4) a i = ρf a i := by
        unfold rx_bad
        rw [js_up_ne _ (by omega), if_pos n9, js_up_ne _ (by omega)]
      rw [js_up_ne _ (by omega), bo]
      exact mfr a i (by omega) g2 g3 g4 g5
    · have go : js_J E d 112 157 [(2, 6 + b)] [] σ' = th_P E σ' (11 + 16 * ρ 83 4) := by
        rw [b_112_157 hb, pl, kt_112_170 (by omega) (c_fail cx (by omega))]
        rfl
      rw [e112, b_112_115 hb, w6, w2, wE, w4, u9, ← go]
      unfold lg_P at hlg
      by_cases z1 : 8192 < fn_p ρ fb fr M + st_ln r + 1
      · rw [if_pos z1]
      by_cases z2 : E.1 < ce_T fb fr r M ρ
      · rw [if_neg z1, if_pos z2]
      · rw [if_neg z1, if_neg z2, if_pos (by omega)]
  · have er := hok hlg
    unfold lg_P at hlg
    have v51 : js_up ρf 83 51 (st_cn B r + 1) 83 51 = st_cn B r + 1 := js_up_same _ _ _ _
    have vO : ∀ a i : Int, ¬ (a = 83 ∧ i = 51) → js_up ρf 83 51 (st_cn B r + 1) a i = ρf a i := fun a i g => js_up_ne _ g
    have v49 : js_up ρf 83 51 (st_cn B r + 1) 83 49 = fn_p ρ fb fr M + st_ln r + 1 := by rw [vO _ _ (by omega)]; exact hmf.2.1.1
    have v48 : js_up ρf 83 51 (st_cn B r + 1) 83 48 = ce_T fb fr r M ρ := by rw [vO _ _ (by omega)]; exact hmf.2.1.2.1
    have v50 : js_up ρf 83 51 (st_cn B r + 1) 83 50 = fn_p ρ fb fr M := by rw [vO _ _ (by omega)]; exact hmf.2.1.2.2.1
    have v46 : js_up ρf 83 51 (st_cn B r + 1) 83 46 = po_k ρ 1 M := by rw [vO _ _ (by omega)]; exact hmf.2.1.2.2.2.1
    have v47 : js_up ρf 83 51 (st_cn B r + 1) 83 47 = po_k ρ 2 M := by rw [vO _ _ (by omega)]; exact hmf.2.1.2.2.2.2
    have vf : ∀ a i : Int, ¬ (a = 83 ∧ 46 ≤ i ∧ i ≤ 54) → a ≠ 90 → a ≠ 95 → a ≠ 110 → ¬ (111 ≤ a ∧ a ≤ 115) → js_up ρf 83 51 (st_cn B r + 1) a i = ρ a i := fun a i g1 g2 g3 g4 g5 => by rw [vO a i (by omega), mfr a i g1 g2 g3 g4 g5]
    have hcode : ∀ p : Int, 0 ≤ p → p < fn_p ρ fb fr M + st_ln r + 1 → ce_P b σ2 ρf p := fun p g1 g2 => code_all hb h hM hN (by omega) hmf hs hl (by omega) (by omega) p g1 (by omega)
    refine Or.inl ⟨σ', js_up ρf 83 51 (st_cn B r + 1), ?_, by rw [k_189_195 (by omega) er], fun a i g1 g2 g3 g4 g5 => vf a i (by omega) g2 g3 g4 g5, frr, ⟨⟨?_, m0, m4, ?_, ?_⟩, ⟨⟨?_, ?_, ?_⟩, ⟨?_, ?_, ?_⟩, ?_, ⟨?_, ?_, ?_⟩, ?_, ?_⟩, fun i g1 g2 => ⟨?_, ?_, ?_, ?_⟩, fun p g1 g2 => ?_⟩, ⟨fun i _ => c1 _ _ (by omega), sH, cx⟩, ρf, by rw [hM, tM]; exact hmf, rfl⟩
    · rw [e112, b_112_115 hb, w6, w2, wE, w4, if_neg (by omega), if_neg (by omega), if_neg (by omega), b_112_173]
    · rw [vf _ _ (by omega) (by decide) (by decide) (by decide) (by decide)]
      exact o9
    · exact vf _ _ (by omega) (by decide) (by decide) (by decide) (by decide)
    · rw [pf _ _ (by omega) (by omega) (by omega) (by omega)]
      exact hY.2.2.2.2.1
    · rw [v49]; omega
    · rw [v49]; omega
    · rw [v49]; exact q6
    · rw [v48]; exact ct.1
    · rw [v48]; omega
    · rw [v48]; exact p72
    · rw [v50]; exact q3
    · rw [v51]; omega
    · rw [v51]; omega
    · rw [v51, q4]; omega
    · rw [v46, pf _ _ (by omega) (by omega) (by omega) (by omega)]
      exact tot.2.1
    · rw [v47, pf _ _ (by omega) (by omega) (by omega) (by omega)]
      exact tot.2.2
    · have a := hY.2.2.2.2.2.1 i g1 g2
      rw [sy_S_id] at a
      obtain ⟨a1, a2, a3, a4, a5⟩ := a
      have g := js_sym_ge a1
      unfold sy_N
      rw [z19]
      generalize σ (19 + b) i = s at a1 a2 a3 a4 g ⊢
      rw [vf 99 i (by omega) (by decide) (by decide) (by decide) (by decide), vf 97 i (by omega) (by decide) (by decide) (by decide) (by decide), pf s 0 (by omega) (by omega) (by omega) (by omega), pf s 13 (by omega) (by omega) (by omega) (by omega), pf s 14 (by omega) (by omega) (by omega) (by omega)]
      refine ⟨js_desc_mono a1 (by rw [c1 _ _ (by omega)]; exact Int.le_refl _) (fun _ => pf _ _ (by omega) (by omega) (by omega) (by omega)), a2, a3, a4, fun k k1 k2 => ?_⟩
      rw [vf 98 _ (by omega) (by decide) (by decide) (by decide) (by decide), pf _ _ (by omega) (by omega) (by omega) (by omega)]
      exact a5 k k1 k2
    · have a := hY.2.2.2.2.2.2 i g1 g2 (fun q => q)
      have g := ge i g1 (by omega)
      unfold sy_F at a ⊢
      rw [z19]
      generalize σ (19 + b) i = s at a g ⊢
      have x : ∀ k : Int, k ≠ 5 → σ' s k = σ s k := fun k hk => pf s k (by omega) (by omega) (by omega) (by omega)
      have y : ∀ k : Int, 86 ≤ k → k ≤ 96 → k ≠ 90 → k ≠ 95 → js_up ρf 83 51 (st_cn B r + 1) k i = ρ k i := fun k k1 k2 k3 k4 => vf k i (by omega) k3 k4 (by omega) (by omega)
      rw [x 1 (by decide), x 2 (by decide), x 3 (by decide), x 4 (by decide), x 6 (by decide), x 7 (by decide), x 8 (by decide), x 10 (by decide), x 12 (by decide), y 86 (by decide) (by decide) (by decide) (by decide), y 87 (by decide) (by decide) (by decide) (by decide), y 88 (by decide) (by decide) (by decide) (by decide), y 89 (by decide) (by decide) (by decide) (by decide), y 91 (by decide) (by decide) (by decide) (by decide), y 93 (by decide) (by decide) (by decide) (by decide), y 94 (by decide) (by decide) (by decide) (by decide), y 96 (by decide) (by decide) (by decide) (by decide), y 92 (by decide) (by decide) (by decide) (by decide)]
      exact a
    · have k9 := (hp.2.1 i g1 (by omega)).1
      rw [z19, psym i g1 (by omega) (ge i g1 (by omega)), vO _ _ (by omega)]
      by_cases q : 1 ≤ ρ 86 i ∧ ρ 86 i ≤ 7
      · rw [hmf.2.2.1 i g1 (by omega) q]
        rcases cl_all hb h (by rw [hM, tM]; exact hN) (by omega) (by rw [hM, tM]; exact hs) i g1 g2 q with ⟨z1, z2⟩ | ⟨z1, z2⟩
        · rw [z1, if_neg (by decide)]
          exact z2
        · rw [if_pos z1]
          exact z2
      · have a := h.2.2.2.1.2 i g1 g2 (by omega)
        rw [hmf.2.2.2.1.1 i g1 (by omega) (by omega), a.1, a.2, if_neg (by decide)]
        have z := (hY.2.1 i g1 (by omega)).2.2.2.2.2.2 g2
        rw [z.1]
    · have a := h.2.2.2.2.2.2.2.2.2.2.2 i g1 g2
      have g := ge i g1 (by omega)
      rw [z19, pf _ _ (by omega) (by omega) (by omega) (by omega), vO _ _ (by omega)]
      by_cases q : ρ 86 i = 4
      · rw [hmf.2.2.2.2.1 i g1 (by omega) q]
        exact a.2 q
      · rw [hmf.2.2.2.1.2 i q, a.1 q]
        exact ((hY.2.1 i g1 (by omega)).2.2.2.2.2.2 g2).2.symm
    · rw [v49] at g2
      obtain ⟨b1, b2, b3, b4, b5⟩ := hcode p g1 g2
      refine ⟨?_, ?_, ?_, ?_, ?_⟩
      · rw [prow _ _ (by omega) (by omega), vO _ _ (by omega)]; exact b1
      · rw [prow _ _ (by omega) (by omega), vO _ _ (by omega)]; exact b2
      · rw [prow _ _ (by omega) (by omega), vO _ _ (by omega)]; exact b3
      · rw [prow _ _ (by omega) (by omega), vO _ _ (by omega)]; exact b4
      · rw [prow _ _ (by omega) (by omega), vO _ _ (by omega)]; exact b5
end YM2
