/-! part 99.zzzzzzzc: what compile leaves: the Symbols of both compilers; the reference's program brought back -/
/-- lq_H, seen from compiler c -/
def lh_P (E : js_E) (n c : Int) (σ : js_S) : Prop := (137 ≤ σ (-1) 0 ∧ 0 ≤ σ (-1) 1) ∧ (sy_H E.1 σ c ∧ sy_H E.1 σ (25 - c)) ∧ (∀ i k : Int, 0 ≤ i → i < 400 → 0 ≤ k → k < 400 → 0 ≤ σ (19 + c) i → σ (19 + c) i ≠ σ (19 + (25 - c)) k) ∧ σ (-1) 0 ≤ 137 + n + sy_c (σ (19 + c)) 400 + sy_c (σ (19 + (25 - c))) 400 ∧ σ (-1) 1 ≤ 2000000 + 6 * n + 15 * (sy_c (σ (19 + c)) 400 + sy_c (σ (19 + (25 - c))) 400)
section LH
variable {E : js_E} {c n : Int} {σ ρ σ' σ9 : js_S}
theorem lh_of (hc : c = 0 ∨ c = 25) (h : lq_H E n σ) : lh_P E n c σ := by
  obtain ⟨h1, ⟨h2, h3⟩, h4, h5, h6⟩ := h
  unfold lh_P
  rcases hc with q | q
  · have a1 : 19 + c = 19 := by omega
    have a2 : 19 + (25 - c) = 44 := by omega
    have a3 : 25 - c = 25 := by omega
    rw [a2, a1, a3, q]
    exact ⟨h1, ⟨h2, h3⟩, h4, h5, h6⟩
  · have a1 : 19 + c = 44 := by omega
    have a2 : 19 + (25 - c) = 19 := by omega
    have a3 : 25 - c = 0 := by omega
    rw [a2, a1, a3, q]
    exact ⟨h1, ⟨h3, h2⟩, fun i k i1 i2 k1 k2 g e => h4 k i k1 k2 i1 i2 (by rw [← e]; exact g) e.symm, by omega, by omega⟩
theorem lh_to (hc : c = 0 ∨ c = 25) (h : lh_P E n c σ) : lq_H E n σ := by
  unfold lh_P at h
  rcases hc with q | q
  · have a1 : 19 + c = 19 := by omega
    have a2 : 19 + (25 - c) = 44 := by omega
    have a3 : 25 - c = 25 := by omega
    rw [a2, a1, a3, q] at h
    exact h
  · have a1 : 19 + c = 44 := by omega
    have a2 : 19 + (25 - c) = 19 := by omega
    have a3 : 25 - c = 0 := by omega
    rw [a2, a1, a3, q] at h
    obtain ⟨h1, ⟨h2, h3⟩, h4, h5, h6⟩ := h
    exact ⟨h1, ⟨h3, h2⟩, fun i k i1 i2 k1 k2 g e => h4 k i k1 k2 i1 i2 (by rw [← e]; exact g) e.symm, by omega, by omega⟩
/-- the Symbols behind compile, in both compilers -/
theorem lq_H_cs (hc : c = 0 ∨ c = 25) (hH : lq_H E n σ) (hcs : cs_F c σ σ') (hs : sy_H E.1 σ' c) (u : ∀ a i : Int, 137 ≤ a → a < σ' (-1) 0 → σ9 a i = σ' a i) (r : ∀ a i : Int, 6 ≤ a → a ≤ 55 → σ9 a i = σ' a i) (h0 : σ' (-1) 0 ≤ σ9 (-1) 0 ∧ σ9 (-1) 0 ≤ σ' (-1) 0 + 1) (h1 : σ' (-1) 1 ≤ σ9 (-1) 1 ∧ σ9 (-1) 1 ≤ σ' (-1) 1 + 6) : lq_H E (n + 1) σ9 := by
  obtain ⟨⟨g1, g2⟩, ⟨g3, g4⟩, g5, g6, g7⟩ := lh_of hc hH
  obtain ⟨k1, k2, k3, k4, k5, k6, k7⟩ := hcs
  have ne : ∀ k : Int, 0 ≤ k → k < 400 → σ (19 + c) k < 0 ∨ 137 ≤ σ (19 + c) k := fun k q1 q2 => by
    rcases g3 k q1 q2 with q | q
    · exact Or.inl q
    · exact Or.inr (js_sym_ge q.1)
  have eb : ∀ i : Int, σ' (19 + (25 - c)) i = σ (19 + (25 - c)) i := fun i => k1 _ i (by omega) (by omega) (by omega) (by omega) (by omega) (by omega) (by omega) (fun k q1 q2 => by
    have := ne k q1 q2
    omega)
  have e9 : ∀ i : Int, σ9 (19 + (25 - c)) i = σ (19 + (25 - c)) i := fun i => by rw [r _ _ (by omega) (by omega), eb]
  have e9c : ∀ i : Int, σ9 (19 + c) i = σ' (19 + c) i := fun i => r _ _ (by omega) (by omega)
  have cb := sy_ce (f := σ9 (19 + (25 - c))) (g := σ (19 + (25 - c))) 400 (fun i _ _ => e9 i)
  have cc := sy_ce (f := σ9 (19 + c)) (g := σ' (19 + c)) 400 (fun i _ _ => e9c i)
  refine lh_to hc ⟨⟨by omega, by omega⟩, ⟨sy_H_mv hc hs e9c u h0.1, fun i i1 i2 => ?_⟩, fun i k i1 i2 q1 q2 g => ?_, by rw [cb, cc]; omega, by rw [cb, cc]; omega⟩
  · rw [e9]
    rcases g4 i i1 i2 with q | ⟨q1, q2⟩
    · exact Or.inl q
    · have ge := js_sym_ge q1
      have lt := js_sym_lt q1 ge
      have ef : ∀ j : Int, σ9 (σ (19 + (25 - c)) i) j = σ (σ (19 + (25 - c)) i) j := fun j => by
        rw [u _ _ ge (by omega)]
        refine k1 _ j (by omega) (by omega) (by omega) (by omega) (by omega) (by omega) lt (fun k x1 x2 => ?_)
        by_cases y : 0 ≤ σ (19 + c) k
        · exact g5 k i x1 x2 i1 i2 y
        · omega
      exact Or.inr ⟨js_desc_mono q1 (by omega) (fun _ => ef _), by rw [ef]; exact q2⟩
  · rw [e9c] at g ⊢
    rw [e9]
    by_cases y : 0 ≤ σ (19 + c) i
    · rw [k2 i i1 i2 y]
      exact g5 i k i1 i2 q1 q2 y
    · have z := k3 i i1 i2 (by omega)
      rcases g4 k q1 q2 with q | q
      · omega
      · have := js_sym_lt q.1 (js_sym_ge q.1)
        omega
end LH
/-- the reference's program, brought back behind a fault -/
def bk_S (ρ8 : js_S) (x1 x2 x3 x4 x5 : Int) : js_S := js_up (js_up (js_up (js_up (js_up ρ8 83 48 x1) 83 46 x2) 83 47 x3) 83 50 x4) 83 51 x5
section BK
variable {ρ ρk ρ' ρ8 : js_S}
theorem bk_o {x1 x2 x3 x4 x5 a i : Int} (h : ¬ (a = 83 ∧ (46 ≤ i ∧ i ≤ 48 ∨ i = 50 ∨ i = 51))) : bk_S ρ8 x1 x2 x3 x4 x5 a i = ρ8 a i := by
  unfold bk_S
  rw [js_up_ne _ (by omega), js_up_ne _ (by omega), js_up_ne _ (by omega), js_up_ne _ (by omega), js_up_ne _ (by omega)]
theorem bk_i {x1 x2 x3 x4 x5 : Int} : bk_S ρ8 x1 x2 x3 x4 x5 83 48 = x1 ∧ bk_S ρ8 x1 x2 x3 x4 x5 83 46 = x2 ∧ bk_S ρ8 x1 x2 x3 x4 x5 83 47 = x3 ∧ bk_S ρ8 x1 x2 x3 x4 x5 83 50 = x4 ∧ bk_S ρ8 x1 x2 x3 x4 x5 83 51 = x5 := by
  unfold bk_S
  refine ⟨?_, ?_, ?_, ?_, ?_⟩
  · rw [js_up_ni _ (by decide), js_up_ni _ (by decide), js_up_ni _ (by decide), js_up_ni _ (by decide), js_up_same]
  · rw [js_up_ni _ (by decide), js_up_ni _ (by decide), js_up_ni _ (by decide), js_up_same]
  · rw [js_up_ni _ (by decide), js_up_ni _ (by decide), js_up_same]
  · rw [js_up_ni _ (by decide), js_up_same]
  · rw [js_up_same]
theorem bk_all (h98 : ∀ i k : Int, 0 ≤ i → i < ρ 83 11 → 0 ≤ k → k < ρ 97 i → ρ 97 i ≤ 20 ∧ 0 ≤ ρ 98 (20 * i + k) ∧ ρ 98 (20 * i + k) < 127) (hk : kq_R (js_up ρ 83 0 0) ρk) (hm : cm_G ρk ρ') (h2 : ρ' 83 2 = 0) (hb : bb_R (js_up ρ' 83 9 0) ρ8) : (∀ i : Int, i = 11 ∨ 46 ≤ i ∧ i ≤ 51 ∨ 55 ≤ i ∧ i ≤ 64 ∨ 67 ≤ i → bk_S ρ8 (ρk 83 48) (ρk 83 46) (ρk 83 47) (ρk 83 50) (ρk 83 51) 83 i = ρ 83 i) ∧ (∀ a i : Int, 86 ≤ a ∧ a ≤ 95 ∨ a = 97 → 0 ≤ i → i < ρ 83 11 → bk_S ρ8 (ρk 83 48) (ρk 83 46) (ρk 83 47) (ρk 83 50) (ρk 83 51) a i = ρ a i) ∧ (∀ i k : Int, 0 ≤ i → i < ρ 83 11 → 0 ≤ k → k < ρ 97 i → bk_S ρ8 (ρk 83 48) (ρk 83 46) (ρk 83 47) (ρk 83 50) (ρk 83 51) 98 (20 * i + k) = ρ 98 (20 * i + k)) ∧ (∀ a p : Int, 111 ≤ a → a ≤ 115 → 0 ≤ p → p < ρ 83 49 → bk_S ρ8 (ρk 83 48) (ρk 83 46) (ρk 83 47) (ρk 83 50) (ρk 83 51) a p = ρ a p) ∧ (∀ a i : Int, ¬ (a = 83) → ¬ (86 ≤ a ∧ a ≤ 119) → bk_S ρ8 (ρk 83 48) (ρk 83 46) (ρk 83 47) (ρk 83 50) (ρk 83 51) a i = ρ a i) ∧ bk_S ρ8 (ρk 83 48) (ρk 83 46) (ρk 83 47) (ρk 83 50) (ρk 83 51) 83 2 = 0 := by
  obtain ⟨k0, ⟨k65, k66⟩, kS, kN, kC⟩ := hk
  obtain ⟨b0, ⟨b11, b49⟩, bS, bN, bC⟩ := hb
  have z : ∀ a i : Int, ¬ (a = 83 ∧ i = 0) → js_up ρ 83 0 0 a i = ρ a i := fun a i g => js_up_ne _ g
  have y : ∀ a i : Int, ¬ (a = 83 ∧ i = 9) → js_up ρ' 83 9 0 a i = ρ' a i := fun a i g => js_up_ne _ g
  have kf : ∀ a i : Int, ¬ (116 ≤ a ∧ a ≤ 119) → ¬ (a = 83 ∧ (i = 0 ∨ i = 65 ∨ i = 66)) → ρk a i = ρ a i := fun a i g1 g2 => by rw [k0 a i g1 (by omega), z a i (by omega)]
  rw [z _ _ (by omega)] at k65 k66
  have c65 : js_up ρ' 83 9 0 83 65 = ρ 83 11 := by rw [y _ _ (by omega), hm _ _ (by omega) (by omega)]; exact k65
  have c66 : js_up ρ' 83 9 0 83 66 = ρ 83 49 := by rw [y _ _ (by omega), hm _ _ (by omega) (by omega)]; exact k66
  have c116 : ∀ a i : Int, 116 ≤ a → a ≤ 119 → js_up ρ' 83 9 0 a i = ρk a i := fun a i g1 g2 => by rw [y _ _ (by omega), hm _ _ (by omega) (by omega)]
  rw [c65] at b11 bS bN
  rw [c66] at b49 bC
  obtain ⟨v48, v46, v47, v50, v51⟩ := bk_i (ρ8 := ρ8) (x1 := ρk 83 48) (x2 := ρk 83 46) (x3 := ρk 83 47) (x4 := ρk 83 50) (x5 := ρk 83 51)
  have o : ∀ a i : Int, ¬ (a = 83 ∧ (46 ≤ i ∧ i ≤ 48 ∨ i = 50 ∨ i = 51)) → bk_S ρ8 (ρk 83 48) (ρk 83 46) (ρk 83 47) (ρk 83 50) (ρk 83 51) a i = ρ8 a i := fun a i g => bk_o g
  generalize bk_S ρ8 (ρk 83 48) (ρk 83 46) (ρk 83 47) (ρk 83 50) (ρk 83 51) = ρ9 at v48 v46 v47 v50 v51 o ⊢
  have kk : ∀ i : Int, 46 ≤ i → i ≤ 51 → ρk 83 i = ρ 83 i := fun i g1 g2 => kf _ _ (by omega) (by omega)
  refine ⟨fun i g => ?_, fun a i g i1 i2 => ?_, fun i k i1 i2 q1 q2 => ?_, fun a p g1 g2 p1 p2 => ?_, fun a i g1 g2 => ?_, ?_⟩
  · by_cases q : i = 11
    · rw [q, o _ _ (by omega), b11]
    by_cases q49 : i = 49
    · rw [q49, o _ _ (by omega), b49]
    by_cases q48 : i = 48
    · rw [q48, v48, kk _ (by decide) (by decide)]
    by_cases q46 : i = 46
    · rw [q46, v46, kk _ (by decide) (by decide)]
    by_cases q47 : i = 47
    · rw [q47, v47, kk _ (by decide) (by decide)]
    by_cases q50 : i = 50
    · rw [q50, v50, kk _ (by decide) (by decide)]
    by_cases q51 : i = 51
    · rw [q51, v51, kk _ (by decide) (by decide)]
    · rw [o _ _ (by omega), b0 _ _ (by omega) (by omega) (by omega), y _ _ (by omega), hm _ _ (by omega) (by omega), kf _ _ (by omega) (by omega)]
  · have s := bS i i1 i2
    have t := kS i i1 (by rw [z _ _ (by omega)]; exact i2)
    unfold bb_S at s
    unfold kq_S at t
    rw [c116 _ _ (by decide) (by decide), c116 _ _ (by decide) (by decide), c116 _ _ (by decide) (by decide), c116 _ _ (by decide) (by decide), c116 _ _ (by decide) (by decide), c116 _ _ (by decide) (by decide), c116 _ _ (by decide) (by decide), c116 _ _ (by decide) (by decide), c116 _ _ (by decide) (by decide), c116 _ _ (by decide) (by decide), c116 _ _ (by decide) (by decide)] at s
    rw [z _ _ (by omega), z _ _ (by omega), z _ _ (by omega), z _ _ (by omega), z _ _ (by omega), z _ _ (by omega), z _ _ (by omega), z _ _ (by omega), z _ _ (by omega), z _ _ (by omega), z _ _ (by omega)] at t
    obtain ⟨s1, s2, s3, s4, s5, s6, s7, s8, s9, s10, s11⟩ := s
    obtain ⟨t1, t2, t3, t4, t5, t6, t7, t8, t9, t10, t11⟩ := t
    rw [o _ _ (by omega)]
    have ca : a = 86 ∨ a = 87 ∨ a = 88 ∨ a = 89 ∨ a = 90 ∨ a = 91 ∨ a = 92 ∨ a = 93 ∨ a = 94 ∨ a = 95 ∨ a = 97 := by omega
    rcases ca with rfl | rfl | rfl | rfl | rfl | rfl | rfl | rfl | rfl | rfl | rfl
    · rw [s1, t1]
    · rw [s2, t2]
    · rw [s3, t3]
    · rw [s4, t4]
    · rw [s5, t5]
    · rw [s6, t6]
    · rw [s7, t7]
    · rw [s8, t8]
    · rw [s9, t9]
    · rw [s10, t10]
    · rw [s11, t11]
  · obtain ⟨n1, n2, n3⟩ := h98 i k i1 i2 q1 q2
    rw [o _ _ (by omega), bN _ (by omega) (by omega), c116 _ _ (by decide) (by decide), kN _ (by omega) (by rw [z _ _ (by omega)]; omega), z _ _ (by omega), js_i2b_of (x := ρ 98 (20 * i + k)) (by omega) (by omega), js_i2b_of (by omega) (by omega)]
  · have s := bC p p1 p2
    have t := kC p p1 (by rw [z _ _ (by omega)]; exact p2)
    unfold bb_C at s
    unfold kq_C at t
    rw [c116 _ _ (by decide) (by decide), c116 _ _ (by decide) (by decide), c116 _ _ (by decide) (by decide), c116 _ _ (by decide) (by decide), c116 _ _ (by decide) (by decide)] at s
    rw [z _ _ (by omega), z _ _ (by omega), z _ _ (by omega), z _ _ (by omega), z _ _ (by omega)] at t
    obtain ⟨s1, s2, s3, s4, s5⟩ := s
    obtain ⟨t1, t2, t3, t4, t5⟩ := t
    rw [o _ _ (by omega)]
    have ca : a = 111 ∨ a = 112 ∨ a = 113 ∨ a = 114 ∨ a = 115 := by omega
    rcases ca with rfl | rfl | rfl | rfl | rfl
    · rw [s1, t1]
    · rw [s2, t2]
    · rw [s3, t3]
    · rw [s4, t4]
    · rw [s5, t5]
  · rw [o _ _ (by omega), b0 _ _ (by omega) (by omega) (by omega), y _ _ (by omega), hm _ _ (by omega) (by omega), kf _ _ (by omega) (by omega)]
  · rw [o _ _ (by omega), b0 _ _ (by omega) (by omega) (by omega), y _ _ (by omega)]
    exact h2
end BK
