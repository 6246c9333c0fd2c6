/-! part 99.zzzzzzzd: compile, as a call of the law -/
section LC
variable {E : js_E} {n b : Int} {d e : Nat} {σ ρ σ' ρ' : js_S} {T : Nat} {N ac zc : Int} {Fu : Int → Int → Int → Prop}
theorem ml_mv {c : Int} (hc : c = 0 ∨ c = 25) (h : ml_P E Fu ac zc c N T σ ρ) (h1 : ∀ a i : Int, 7 + c ≤ a → a ≤ 20 + c → σ' a i = σ a i) (h2 : ∀ a i : Int, 137 ≤ a → σ' a i = σ a i) (h0 : σ' (-1) 0 = σ (-1) 0) (m : mm_R T ρ ρ') : ml_P E Fu ac zc c N T σ' ρ' := by
  obtain ⟨p, w, st, ⟨o1, o2, o3, o4⟩, ii, pd, lh⟩ := h
  have m' := m
  obtain ⟨q, yS, _, _, _⟩ := m'
  have oo : ou_o ρ' T = ou_o ρ T := ou_o_e2 T (fun i i1 i2 => ⟨yS _ _ (by decide) i1 i2, yS _ _ (by decide) i1 i2⟩)
  have io : in_o ρ' T = in_o ρ T := in_o_e2 T (fun i i1 i2 => ⟨yS _ _ (by decide) i1 i2, yS _ _ (by decide) i1 i2⟩)
  refine ⟨pr_gen2 hc p h1 (fun k i k1 k2 => h2 _ _ (js_sym_ge (p.2.2.1 k k1 k2).1.1)) (by rw [h0]; exact Int.le_refl _) m, wc_mv w m, by rw [q _ (by decide)]; exact st, ⟨by rw [oo, q _ (by decide)]; exact o1, by rw [oo]; exact o2, by rw [oo]; exact o3, o4⟩, by rw [io]; exact ii, fun s t t1 t2 t3 t4 t5 => ?_, fun s s1 s2 s3 => ?_⟩
  · rw [yS 86 s (by decide) (by omega) (by omega)] at t4
    rw [yS 86 t (by decide) (by omega) (by omega)] at t5
    rw [yS 90 s (by decide) (by omega) (by omega), yS 91 s (by decide) (by omega) (by omega), yS 90 t (by decide) (by omega) (by omega)]
    exact pd s t t1 t2 t3 t4 t5
  · rw [yS 86 s (by decide) s1 s2] at s3
    rw [yS 88 s (by decide) s1 s2, yS 89 s (by decide) s1 s2]
    exact lh s s1 s2 s3
theorem lo_compile (h : LQ E n σ ρ) (hn : 0 ≤ n ∧ n ≤ 511) (hd : 330 ≤ d) (he : 1245 ≤ e) : LO E n d 299 [(2, 0), (9, 0), (9, 0)] e 189 [(2, 83), (9, 0), (9, 0), (9, 0), (9, 0), (9, 0), (9, 0)] σ ρ := by
  obtain ⟨hT, hH, b, ⟨hb, ⟨h4, h5, h56⟩, h55, hE⟩, hl⟩ := h
  obtain ⟨c, hcb⟩ : ∃ c : Int, c = 25 - b := ⟨_, rfl⟩
  have hc : c = 0 ∨ c = 25 := by omega
  have bc : b = 25 - c := by omega
  rw [← hcb] at h5
  have pre : (0 ≤ ρ 83 11 ∧ ρ 83 11 ≤ 400) ∧ (0 ≤ ρ 83 49 ∧ ρ 83 49 ≤ 8192) ∧ (∀ s : Int, 0 ≤ s → s < ρ 83 11 → ρ 92 s = 0 ∨ ρ 92 s = 1) ∧ ∀ i k : Int, 0 ≤ i → i < ρ 83 11 → 0 ≤ k → k < ρ 97 i → ρ 97 i ≤ 20 ∧ 0 ≤ ρ 98 (20 * i + k) ∧ ρ 98 (20 * i + k) < 127 := by
    rcases hl with h0 | ⟨_, Fu, ac, zc, N, T, hm, hN, _⟩
    · obtain ⟨_, ⟨_, a4⟩, ⟨_, a6⟩, _⟩ := h0
      exact ⟨by omega, by omega, fun s s1 s2 => absurd s2 (by omega), fun i k i1 i2 _ _ => absurd i2 (by omega)⟩
    · have hp := hm.1.1.2.1
      have p11 := hp.1.1
      refine ⟨by omega, ⟨hp.2.1.1.1, hp.2.1.1.2.1⟩, fun s s1 s2 => (hN s s1 (by omega)).2.1, fun i k i1 i2 k1 k2 => ?_⟩
      have g := hN i i1 (by omega)
      exact ⟨g.1.2, g.2.2 k k1 k2⟩
  obtain ⟨p11, p49, p92, p98⟩ := pre
  have hHc : sy_H E.1 σ c := (lh_of hc hH).2.1.1
  have hcx : cx_n σ := hH.1
  obtain ⟨ρk, hk, σ', ρ', er, hcs, hcm, h2, hs, hcx', res⟩ := y_comp (E := E) (c := c) (n := n) (d := d - 1) (e := e) hc hT (by omega) hcx hHc p11 p49 p92 h55 hE (by omega) (by omega)
  have z : ∀ a i : Int, ¬ (a = 83 ∧ i = 0) → js_up ρ 83 0 0 a i = ρ a i := fun a i g => js_up_ne _ g
  have kf : ∀ a i : Int, ¬ (116 ≤ a ∧ a ≤ 119) → ¬ (a = 83 ∧ (i = 0 ∨ i = 65 ∨ i = 66)) → ρk a i = ρ a i := fun a i g1 g2 => by rw [hk.1 a i g1 (by omega), z a i (by omega)]
  have ne : ∀ k : Int, 0 ≤ k → k < 400 → σ (19 + c) k < 0 ∨ 137 ≤ σ (19 + c) k := fun k q1 q2 => by
    rcases hHc k q1 q2 with q | q
    · exact Or.inl q
    · exact Or.inr (js_sym_ge q.1)
  have g1 := hH.1.1
  have lo : ∀ a i : Int, 0 ≤ a → a ≠ 1 → a ≠ 2 → a ≠ 4 → a ≠ 5 → ¬ (6 + c ≤ a ∧ a ≤ 30 + c) → a < 137 → σ' a i = σ a i := fun a i q1 q2 q3 q4 q5 q6 q7 => hcs.1 a i q1 q2 q3 q4 q5 q6 (by omega) (fun k k1 k2 => by
    have := ne k k1 k2
    omega)
  have s04 : σ' 0 4 = 6 + b := by rw [lo _ _ (by decide) (by decide) (by decide) (by decide) (by decide) (by omega) (by decide)]; exact h4
  have s05 : σ' 0 5 = 6 + c := by rw [lo _ _ (by decide) (by decide) (by decide) (by decide) (by decide) (by omega) (by decide)]; exact h5
  have by' : ∀ i : Int, ρ' 84 i = ρ 84 i := fun i => by rw [hcm _ _ (by omega) (by omega), kf _ _ (by omega) (by omega)]
  rcases res with ⟨ec, h9, Fu, ac, zc, N, T, hml, hN, hG⟩ | ⟨hF, et⟩
  · have u : ∀ a i : Int, ¬ (a = 0 ∧ (i = 4 ∨ i = 5)) → ¬ (a = 1 ∧ i = 0) → js_up (js_up (js_up σ' 1 0 0) 0 5 (6 + b)) 0 4 (6 + c) a i = σ' a i := fun a i q1 q2 => by rw [js_up_ne _ (by omega), js_up_ne _ (by omega), js_up_ne _ (by omega)]
    have u04 : js_up (js_up (js_up σ' 1 0 0) 0 5 (6 + b)) 0 4 (6 + c) 0 4 = 6 + c := js_up_same _ _ _ _
    have u05 : js_up (js_up (js_up σ' 1 0 0) 0 5 (6 + b)) 0 4 (6 + c) 0 5 = 6 + b := by rw [js_up_ni _ (by decide), js_up_same]
    have u10 : js_up (js_up (js_up σ' 1 0 0) 0 5 (6 + b)) 0 4 (6 + c) 1 0 = 0 := by rw [js_up_na _ (by decide), js_up_na _ (by decide), js_up_same]
    have c0 : js_J E d 299 0 [(2, 0), (9, 0), (9, 0)] [] σ = js_J E d 299 58 [(2, 0), (0, 0), (2, 6 + c)] [(2, 7 + c), (2, 56)] (js_up (js_up (js_up σ' 1 0 0) 0 5 (6 + b)) 0 4 (6 + c)) := by
      rw [b_299_0 hc h5, k_299_6 hc (by omega) ec, b_299_9, b_299_21, k_299_25 (by omega) b_115_0, b_299_28 hc (by rw [js_up_na _ (by decide)]; exact s05) hb (by rw [js_up_na _ (by decide)]; exact s04), if_pos (show js_w 0 = 0 from rfl)]
    generalize js_up (js_up (js_up σ' 1 0 0) 0 5 (6 + b)) 0 4 (6 + c) = σ8 at u u04 u05 u10 c0
    have w : ∀ a i : Int, ¬ (a = 83 ∧ i = 64) → js_up ρ' 83 64 1 a i = ρ' a i := fun a i g => js_up_ne _ g
    have w64 : js_up ρ' 83 64 1 83 64 = 1 := js_up_same _ _ _ _
    have r0 : js_J E e 189 198 [(2, 83), (0, ρk 83 48), (0, ρk 83 46), (0, ρk 83 47), (0, ρk 83 50), (0, ρk 83 51), (9, 0)] [] ρ' = js_J E e 189 256 [(2, 83), (0, ρk 83 48), (0, ρk 83 46), (0, ρk 83 47), (0, ρk 83 50), (0, ρk 83 51), (9, 0)] [(2, 83)] (js_up ρ' 83 64 1) := by
      rw [b_189_198, h9, if_neg (show ¬ 0 < js_w 0 by decide)]
    generalize js_up ρ' 83 64 1 = ρ7 at w w64 r0
    have hml' := ml_mv (σ' := σ8) (ρ' := ρ7) hc hml (fun a i q1 q2 => u a i (by omega) (by omega)) (fun a i q1 => u a i (by omega) (by omega)) (u _ _ (by omega) (by omega)) ⟨fun i g => w _ _ (by omega), fun a i g _ _ => w _ _ (by omega), fun i k _ _ _ _ => w _ _ (by omega), fun a p q1 q2 _ _ => w _ _ (by omega), fun a i q1 q2 => w _ _ (by omega)⟩
    obtain ⟨p, wf, st, ou, ii, pd, lh⟩ := hml'
    obtain ⟨σ9, ρ1, ρ2, l1, l2, l3, fσ, fρ, s562, hmh, h82⟩ := y_load (E := E) (e := e - 1) (d := d - 1) hc p wf st ou ii pd lh (by omega)
    have f9 : ∀ a i : Int, ¬ (56 ≤ a ∧ a ≤ 64) → a ≠ 79 → ¬ (a = 0 ∧ (i = 4 ∨ i = 5)) → ¬ (a = 1 ∧ i = 0) → σ9 a i = σ' a i := fun a i q1 q2 q3 q4 => by rw [fσ a i q1 q2, u a i q3 q4]
    have r9 : ∀ a i : Int, ¬ (a = 83 ∧ (i = 64 ∨ 77 ≤ i ∧ i ≤ 85)) → ¬ (120 ≤ a ∧ a ≤ 125) → ρ2 a i = ρ' a i := fun a i q1 q2 => by rw [fρ a i (by omega) q2, w a i (by omega)]
    have v2 : ρ2 83 2 = 0 := by rw [r9 _ _ (by omega) (by omega)]; exact h2
    refine ⟨σ9, ρ2, 0, 0, by rw [c0, k_299_58 (by omega) l1, b_299_61], by rw [er, r0, k_189_256 (by omega) l2, b_189_259, k_189_260 (by omega) l3, b_189_263], rfl, ⟨⟨⟨?_, by omega, by omega⟩, fun i i1 i2 => absurd i2 (by omega), fun i i1 i2 => ?_⟩, ?_, c, ⟨hc, ⟨?_, ?_, hmh.1.1.1⟩, ?_, hE⟩, Or.inr ⟨⟨s562, ?_, by omega⟩, Fu, ac, zc, N, T, hmh, fun i i1 i2 => ?_, fun p q1 q2 => ?_⟩⟩, fun a i q1 q2 => ?_, fun a i q => ?_⟩
    · rw [v2, fσ _ _ (by omega) (by omega)]
      exact u10
    · rw [r9 _ _ (by omega) (by omega), by']
      exact hT.2.2 i i1 i2
    · exact lq_H_cs hc hH hcs hs (fun a i q1 _ => f9 a i (by omega) (by omega) (by omega) (by omega)) (fun a i q1 q2 => f9 a i (by omega) (by omega) (by omega) (by omega)) (by rw [f9 _ _ (by omega) (by omega) (by omega) (by omega)]; omega) (by rw [f9 _ _ (by omega) (by omega) (by omega) (by omega)]; omega)
    · rw [fσ _ _ (by omega) (by omega)]
      exact u04
    · rw [fσ _ _ (by omega) (by omega), u05, bc]
    · rw [r9 _ _ (by omega) (by omega), hcm _ _ (by omega) (by omega), kf _ _ (by omega) (by omega)]
      exact h55
    · rw [fρ _ _ (by omega) (by omega)]
      exact w64
    · obtain ⟨n1, n2, n3⟩ := hN i i1 i2
      refine ⟨by rw [r9 _ _ (by omega) (by omega)]; exact n1, by rw [r9 _ _ (by omega) (by omega)]; exact n2, fun k k1 k2 => ?_⟩
      rw [r9 _ _ (by omega) (by omega)] at k2
      rw [r9 _ _ (by omega) (by omega)]
      exact n3 k k1 k2
    · rw [r9 _ _ (by omega) (by omega)] at q2
      rw [r9 _ _ (by omega) (by omega), r9 _ _ (by omega) (by omega), r9 _ _ (by omega) (by omega)]
      exact hG p q1 q2
    · rw [f9 a i (by omega) (by omega) (by omega) (by omega)]
      exact lo a i (by omega) (by omega) (by omega) (by omega) (by omega) (by omega) (by omega)
    · rw [r9 a i (by omega) (by omega), hcm a i (by omega) (by omega), kf a i (by omega) (by omega)]
  · obtain ⟨F0, F1, _⟩ := hF
    have wf : js_w (ρ' 83 9) = ρ' 83 9 := js_w_of (by omega) F1
    have n0 : js_up σ' 1 6 (ρ' 83 9) (-1) 0 = σ' (-1) 0 := js_up_na _ (by decide)
    have n1 : js_up σ' 1 6 (ρ' 83 9) (-1) 1 = σ' (-1) 1 := js_up_na _ (by decide)
    have g7 : 137 ≤ js_up σ' 1 6 (ρ' 83 9) (-1) 0 := by rw [n0]; exact hcx'.1
    have dn := js_ne_d (M := E.1) (σ := js_up σ' 1 6 (ρ' 83 9)) (c := 16) g7 (by decide)
    rw [n0] at dn
    have o2 : ∀ a i : Int, a ≠ σ' (-1) 0 → a ≠ -1 → js_ne (js_up σ' 1 6 (ρ' 83 9)) 16 a i = js_up σ' 1 6 (ρ' 83 9) a i := fun a i q1 q2 => js_ne_o (by rw [n0]; exact q1) q2
    have c20 := js_ne_0 (σ := js_up σ' 1 6 (ρ' 83 9)) (c := 16) g7
    have c21 := js_ne_1 (σ := js_up σ' 1 6 (ρ' 83 9)) (c := 16) g7
    rw [n0] at c20
    rw [n1] at c21
    have c' := hcx'.1
    have t16 : js_ne (js_up σ' 1 6 (ρ' 83 9)) 16 1 6 = ρ' 83 9 := by rw [o2 _ _ (by omega) (by decide), js_up_same]
    have t3 : ∀ a i : Int, a ≠ σ' (-1) 0 → a ≠ -1 → ¬ (a = 1 ∧ (i = 0 ∨ i = 6)) → js_up (js_ne (js_up σ' 1 6 (ρ' 83 9)) 16) 1 0 0 a i = σ' a i := fun a i q1 q2 q3 => by rw [js_up_ne _ (by omega), o2 a i q1 q2, js_up_ne _ (by omega)]
    have t30 : js_up (js_ne (js_up σ' 1 6 (ρ' 83 9)) 16) 1 0 0 (-1) 0 = σ' (-1) 0 + 1 := by rw [js_up_na _ (by decide)]; exact c20
    have t31 : js_up (js_ne (js_up σ' 1 6 (ρ' 83 9)) 16) 1 0 0 (-1) 1 = σ' (-1) 1 + 6 := by rw [js_up_na _ (by decide)]; exact c21
    have t10 : js_up (js_ne (js_up σ' 1 6 (ρ' 83 9)) 16) 1 0 0 1 0 = 0 := js_up_same _ _ _ _
    have c0 : js_J E d 299 0 [(2, 0), (9, 0), (9, 0)] [] σ = js_J E d 299 28 [(2, 0), (0, ρ' 83 9), (2, σ' (-1) 0)] [] (js_up (js_ne (js_up σ' 1 6 (ρ' 83 9)) 16) 1 0 0) := by
      rw [b_299_0 hc h5, kc_299_6_16 hc (by omega) et dn, b_299_12, t16, b_299_21x, k_299_25x (by omega) b_115_0]
    generalize js_up (js_ne (js_up σ' 1 6 (ρ' 83 9)) 16) 1 0 0 = σ9 at t3 t30 t31 t10 c0
    have c1 : js_J E d 299 0 [(2, 0), (9, 0), (9, 0)] [] σ = js_r E (0, ρ' 83 9) σ9 := by
      rw [c0, b_299_28x hc (by rw [t3 _ _ (by omega) (by decide) (by omega)]; exact s05) hb (by rw [t3 _ _ (by omega) (by decide) (by omega)]; exact s04), wf, if_neg (by omega), b_299_61]
    have y : ∀ a i : Int, ¬ (a = 83 ∧ i = 9) → js_up ρ' 83 9 0 a i = ρ' a i := fun a i g => js_up_ne _ g
    have c65 : js_up ρ' 83 9 0 83 65 = ρ 83 11 := by rw [y _ _ (by omega), hcm _ _ (by omega) (by omega), hk.2.1.1, z _ _ (by omega)]
    have c66 : js_up ρ' 83 9 0 83 66 = ρ 83 49 := by rw [y _ _ (by omega), hcm _ _ (by omega) (by omega), hk.2.1.2, z _ _ (by omega)]
    obtain ⟨ρ8, eb, hbb⟩ := r_back (E := E) (d := e - 1) (ρ := js_up ρ' 83 9 0) (by rw [c65]; exact p11) (by rw [c66]; exact p49) (fun s s1 s2 => by
      rw [c65] at s2
      have g := (hk.2.2.1 s s1 (by rw [z _ _ (by omega)]; exact s2)).2.2.2.2.2.2.1
      rw [y _ _ (by omega), hcm _ _ (by omega) (by omega), g, z _ _ (by omega)]
      exact p92 s s1 s2)
    obtain ⟨a1, a2, a3, a4, a5, a6⟩ := bk_all p98 hk hcm h2 hbb
    have r1 : js_J E e 189 0 [(2, 83), (9, 0), (9, 0), (9, 0), (9, 0), (9, 0), (9, 0)] [] ρ = js_r E (0, ρ' 83 9) (bk_S ρ8 (ρk 83 48) (ρk 83 46) (ρk 83 47) (ρk 83 50) (ρk 83 51)) := by
      rw [er, b_189_198, wf, if_pos F0, k_189_217 (by omega) eb, b_189_220]
      rfl
    generalize bk_S ρ8 (ρk 83 48) (ρk 83 46) (ρk 83 47) (ρk 83 50) (ρk 83 51) = ρ9 at a1 a2 a3 a4 a5 a6 r1
    have q9 : ∀ a i : Int, 0 ≤ a → a ≠ 1 → a ≠ 2 → a ≠ 4 → a ≠ 5 → ¬ (6 + c ≤ a ∧ a ≤ 30 + c) → a < 137 → σ9 a i = σ a i := fun a i q1 q2 q3 q4 q5 q6 q7 => by rw [t3 a i (by omega) (by omega) (by omega), lo a i q1 q2 q3 q4 q5 q6 q7]
    refine ⟨σ9, ρ9, ρ' 83 9, ρ' 83 9, c1, r1, rfl, ⟨⟨⟨by rw [a6]; exact t10, by omega, by omega⟩, fun i i1 i2 => absurd i2 (by omega), fun i i1 i2 => ?_⟩, ?_, b, ⟨hb, ⟨?_, ?_, ?_⟩, ?_, hE⟩, ?_⟩, fun a i q1 q2 => q9 a i (by omega) (by omega) (by omega) (by omega) (by omega) (by omega) (by omega), fun a i q => a5 a i (by omega) (by omega)⟩
    · rw [a5 _ _ (by decide) (by decide)]
      exact hT.2.2 i i1 i2
    · exact lq_H_cs hc hH hcs hs (fun a i q1 q2 => t3 a i (by omega) (by omega) (by omega)) (fun a i q1 q2 => t3 a i (by omega) (by omega) (by omega)) (by rw [t30]; omega) (by rw [t31]; omega)
    · rw [t3 _ _ (by omega) (by decide) (by omega)]
      exact s04
    · rw [t3 _ _ (by omega) (by decide) (by omega), s05, hcb]
    · rw [q9 _ _ (by decide) (by decide) (by decide) (by decide) (by decide) (by omega) (by decide)]
      exact h56
    · rw [a1 _ (by decide)]
      exact h55
    · rcases hl with h0 | ⟨⟨m1, m2, m3⟩, Fu, ac, zc, N, T, hm, hN, hG⟩
      · obtain ⟨⟨z1, z2⟩, ⟨z3, z4⟩, ⟨z5, z6⟩, z7, ⟨z8, z9⟩, ⟨y1, y2⟩, y3, y4⟩ := h0
        have qq : ∀ a i : Int, 56 ≤ a → a ≤ 82 → σ9 a i = σ a i := fun a i q1 q2 => q9 a i (by omega) (by omega) (by omega) (by omega) (by omega) (by omega) (by omega)
        have qb : ∀ a i : Int, 7 + b ≤ a → a ≤ 8 + b → σ9 a i = σ a i := fun a i q1 q2 => q9 a i (by omega) (by omega) (by omega) (by omega) (by omega) (by omega) (by omega)
        have rr : ∀ a i : Int, 120 ≤ a → a ≤ 130 → ρ9 a i = ρ a i := fun a i q1 q2 => a5 a i (by omega) (by omega)
        exact Or.inl ⟨⟨by rw [qq _ _ (by decide) (by decide)]; exact z1, by rw [a1 _ (by decide)]; exact z2⟩, ⟨by rw [qb _ _ (by omega) (by omega)]; exact z3, by rw [a1 _ (by decide)]; exact z4⟩, ⟨by rw [qb _ _ (by omega) (by omega)]; exact z5, by rw [a1 _ (by decide)]; exact z6⟩, by rw [qb _ _ (by omega) (by omega)]; exact z7, ⟨by rw [qq _ _ (by decide) (by decide)]; exact z8, by rw [a1 _ (by decide)]; exact z9⟩, ⟨by rw [qq _ _ (by decide) (by decide), rr _ _ (by decide) (by decide)]; exact y1, by rw [qq _ _ (by decide) (by decide), rr _ _ (by decide) (by decide)]; exact y2⟩, by rw [qq _ _ (by decide) (by decide), rr _ _ (by decide) (by decide)]; exact y3, by rw [qq _ _ (by decide) (by decide), rr _ _ (by decide) (by decide)]; exact y4⟩
      · have hp := hm.1.1.2.1
        have pT := hp.1.1.2.1
        have disj := (lh_of hc hH).2.2.1
        refine Or.inr ⟨⟨by rw [q9 _ _ (by decide) (by decide) (by decide) (by decide) (by decide) (by omega) (by decide)]; exact m1, by rw [a1 _ (by decide)]; exact m2, by rw [a1 _ (by decide)]; omega⟩, Fu, ac, zc, N, T, mh_mx hb hm (fun a i q1 q2 => q9 a i (by omega) (by omega) (by omega) (by omega) (by omega) (by omega) (by omega)) (fun k i k1 k2 => ?_) (fun a i q1 q2 q3 => q9 a i (by omega) (by omega) (by omega) (by omega) (by omega) (by omega) (by omega)) (by rw [t30]; have := hcs.2.2.2.1; omega) ⟨fun i g => a1 i (by omega), fun a i g i1 i2 => a2 a i g i1 (by omega), fun i k i1 i2 k1 k2 => a3 i k i1 (by omega) k1 k2, fun a p q1 q2 p1 p2 => a4 a p q1 q2 p1 p2, fun a i q1 q2 => a5 a i (by omega) (by omega)⟩, fun i i1 i2 => ?_, fun p q1 q2 => ?_⟩
        · have dd := (hp.2.2.1 k k1 k2).1.1
          have ge := js_sym_ge dd
          have lt := js_sym_lt dd ge
          have le := hcs.2.2.2.1
          rw [t3 _ _ (by omega) (by omega) (by omega)]
          refine hcs.1 _ i (by omega) (by omega) (by omega) (by omega) (by omega) (by omega) lt (fun j j1 j2 => ?_)
          have hk4 : k < 400 := by have := hp.1.1.1; omega
          by_cases y : 0 ≤ σ (19 + c) j
          · have g := disj j k j1 j2 k1 hk4 y
            rw [← bc] at g
            exact g
          · omega
        · obtain ⟨n1, n2, n3⟩ := hN i i1 i2
          refine ⟨by rw [a2 _ _ (by decide) i1 (by omega)]; exact n1, by rw [a2 _ _ (by decide) i1 (by omega)]; exact n2, fun k k1 k2 => ?_⟩
          rw [a2 97 _ (by decide) i1 (by omega)] at k2
          rw [a3 i k i1 (by omega) k1 k2]
          exact n3 k k1 k2
        · rw [a1 _ (by decide)] at q2
          rw [a4 111 p (by decide) (by decide) q1 q2, a4 114 p (by decide) (by decide) q1 q2, a4 115 p (by decide) (by decide) q1 q2]
          exact hG p q1 q2
end LC
