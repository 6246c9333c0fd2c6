/-! part 99.zzl: rows of INSTRUCTIONS; the code of a for around its block -/
def cl_P (P : Int → xt_I → Prop) : List xt_I → Int → Prop
  | [], _ => True
  | I :: L, p => P p I ∧ cl_P P L (p + 1)
theorem cl_app {P : Int → xt_I → Prop} {I : xt_I} (L : List xt_I) : ∀ p : Int, cl_P P L p → P (p + (L.length : Int)) I → cl_P P (L ++ [I]) p := by
  induction L with
  | nil =>
    intro p _ h
    have e : p + (([] : List xt_I).length : Int) = p := by
      show p + ((0 : Nat) : Int) = p
      omega
    rw [e] at h
    exact ⟨h, trivial⟩
  | cons J L ih =>
    intro p hp h
    have e : p + ((J :: L).length : Int) = p + 1 + (L.length : Int) := by
      rw [List.length_cons]
      omega
    rw [e] at h
    exact ⟨hp.1, ih (p + 1) hp.2 h⟩
theorem cl_of {P Q : Int → xt_I → Prop} (L : List xt_I) : ∀ p : Int, (∀ (i : Int) (I : xt_I), p ≤ i → i < p + (L.length : Int) → P i I → Q i I) → cl_P P L p → cl_P Q L p := by
  induction L with
  | nil => intro p _ _; trivial
  | cons J L ih =>
    intro p h hp
    have e : ((J :: L).length : Int) = (L.length : Int) + 1 := by
      rw [List.length_cons]
      omega
    rw [e] at h
    exact ⟨h p J (Int.le_refl _) (by omega) hp.1, ih (p + 1) (fun i I g1 g2 => h i I (by omega) (by omega)) hp.2⟩
/-- a row of INSTRUCTIONS was put -/
def cl_R (b u : Int) (σ σ' : js_S) (L : List xt_I) : Prop := (hg_R σ' b ∧ cz_R σ' b) ∧ σ' (8 + b) 6 = σ (8 + b) 6 + (L.length : Int) ∧ σ' (8 + b) 7 = min 400000 (σ (8 + b) 7 + (L.length : Int)) ∧ (σ' (8 + b) 6 ≤ 8192 → cl_P (ci_P σ' b u) L (σ (8 + b) 6)) ∧ ∀ a i : Int, ¬ (a = 8 + b ∧ (i = 6 ∨ i = 7)) → ¬ (9 + b ≤ a ∧ a ≤ 14 + b ∧ σ (8 + b) 6 ≤ i ∧ i < σ' (8 + b) 6) → σ' a i = σ a i
theorem cl_0 {b u : Int} {σ : js_S} (hg : hg_R σ b) (hz : cz_R σ b) : cl_R b u σ σ [] := by
  refine ⟨⟨hg, hz⟩, ?_, ?_, fun _ => trivial, fun _ _ _ _ => rfl⟩
  · show σ (8 + b) 6 = σ (8 + b) 6 + ((0 : Nat) : Int)
    omega
  · show σ (8 + b) 7 = min 400000 (σ (8 + b) 7 + ((0 : Nat) : Int))
    have := hz.2.2
    omega
theorem cl_step {b u : Int} {σ σ' σ'' : js_S} {L : List xt_I} {I : xt_I} {op f s lo hi h : Int} (hb : b = 0 ∨ b = 25) (hc : cl_R b u σ σ' L) (he : em_R b σ' σ'' op f s lo hi h) (h2 : σ' (8 + b) 6 + 1 < 100000000) (hI : σ' (8 + b) 6 < 8192 → ci_P σ'' b u (σ' (8 + b) 6) I) : cl_R b u σ σ'' (L ++ [I]) := by
  obtain ⟨⟨hg, hz⟩, c6, c7, cc, cO⟩ := hc
  have hz' := cz_em hz h2 he
  have hF : ef_R b (σ' (8 + b) 6) 0 0 σ' σ'' := ef_R_em he (Int.le_refl _)
  have e : ((L ++ [I]).length : Int) = (L.length : Int) + 1 := by
    rw [List.length_append]
    show ((L.length + 1 : Nat) : Int) = _
    omega
  have n6 := he.1
  have n7 := he.2.1
  have l0 : 0 ≤ (L.length : Int) := Int.natCast_nonneg _
  refine ⟨⟨hg_ef hb hg hF, hz'⟩, by rw [e]; omega, ?_, fun hs => ?_, fun a i g1 g2 => ?_⟩
  · rw [e]
    have := hz.2.2
    omega
  · refine cl_app L _ (cl_of L _ (fun i J g1 g2 hJ => ?_) (cc (by omega))) ?_
    · exact ci_sf hb (sf_R_ef hb (fun i g1 g2 => hg i g1 g2) hF) (by omega) hJ
    · rw [← c6]
      exact hI (by omega)
  · rw [he.2.2.2 a i g1 (by omega), cO a i g1 (by omega)]
theorem cl_e0 {b u : Int} {σ σ' σ'' : js_S} {L : List xt_I} {op f s lo hi : Int} (hb : b = 0 ∨ b = 25) (hc : cl_R b u σ σ' L) (he : em_R b σ' σ'' op f s lo hi 0) (h2 : σ' (8 + b) 6 + 1 < 100000000) : cl_R b u σ σ'' (L ++ [(op, 0, f, 0, s, lo, hi)]) := cl_step hb hc he h2 (fun hs => em_ci0 he hs)
theorem cl_e1 {b u : Int} {σ σ' σ'' : js_S} {L : List xt_I} {op m x y s lo hi : Int} (hb : b = 0 ∨ b = 25) (hc : cl_R b u σ σ' L) (he : em_R b σ' σ'' op (σ' x 5 + y) s lo hi (sh_P (σ' x 11))) (h2 : σ' (8 + b) 6 + 1 < 100000000) (hx : σ' (19 + b) m = x) (hm : 0 ≤ m) (hm2 : m < σ' (7 + b) 1) : cl_R b u σ σ'' (L ++ [(op, 1, m, y, s, lo, hi)]) := cl_step hb hc he h2 (fun hs => em_ci1 hb (by rw [hx]; exact he) hs hm hm2 (hc.1.1 m hm hm2))
theorem cl_desc {E : js_E} {b u s : Int} {σ σ' : js_S} {L : List xt_I} (hb : b = 0 ∨ b = 25) (h : cl_R b u σ σ' L) (hds : js_desc E.1 σ s = some (0, 11, js_sym)) : js_desc E.1 σ' s = some (0, 11, js_sym) := by
  have hge := js_sym_ge hds
  have hO := h.2.2.2.2
  exact js_desc_mono hds (by rw [hO _ _ (by omega) (by omega)]; exact Int.le_refl _) (fun _ => hO _ _ (by omega) (by omega))
section SH
variable {E : js_E} {d : Nat} {b u : Int} {σ : js_S}
/-- the code of a for before its block -/
theorem fo_A (hb : b = 0 ∨ b = 25) {s m lo hi : Int} (hz : cz_R σ b) (hg : hg_R σ b) (hs : σ (8 + b) 6 ≤ 50000000) (hds : js_desc E.1 σ s = some (0, 11, js_sym)) (h19 : σ (19 + b) m = s) (hm : 0 ≤ m) (hm2 : m < σ (7 + b) 1) (hu : -1 ≤ σ s 11 ∧ σ s 11 < 1000) (hd : 6 ≤ d) : ∃ τ : js_S, js_J E d 105 79 [(2, 22 + b), (2, s), (0, lo), (0, hi), (9, 0), (9, 0), (9, 0), (9, 0), (9, 0), (9, 0)] [] σ = js_J E d 105 197 [(2, 22 + b), (2, s), (0, lo), (0, hi), (0, min 400000 (σ (8 + b) 7 + 2)), (0, σ (8 + b) 6 + 2), (0, σ (8 + b) 6 + 6), (0, τ (8 + b) 7 - min 400000 (σ (8 + b) 7 + 2)), (9, 0), (9, 0)] [(2, -1), (0, τ s 0), (2, 22 + b)] τ ∧ cl_R b u (js_up σ s 13 1) τ [(0, 0, lo, 0, 0, lo, lo), (2, 1, m, 0, 0, 1, 0), (0, 0, hi, 0, 0, hi, hi), (3, 0, 0, 0, 0, 1, 0), (1, 1, m, 0, 0, lo, hi + 1), (14, 0, 0, 0, 0, 0, 1), (25, 0, 0, 0, 0, 1, 0)] := by
  have hge := js_sym_ge hds
  have up : ∀ a i : Int, a < 137 → js_up σ s 13 1 a i = σ a i := fun a i g => js_up_na _ (by omega)
  have us : ∀ i : Int, i ≠ 13 → js_up σ s 13 1 s i = σ s i := fun i g => js_up_ni _ g
  have hds0 : js_desc E.1 (js_up σ s 13 1) s = some (0, 11, js_sym) := js_desc_mono hds (by rw [up _ _ (by omega)]; exact Int.le_refl _) (fun _ => us _ (by omega))
  have b6 := up (8 + b) 6 (by omega)
  have b7 := up (8 + b) 7 (by omega)
  have hz0 : cz_R (js_up σ s 13 1) b := by
    unfold cz_R at hz ⊢
    rw [b6, b7]
    exact hz
  have hg0 : hg_R (js_up σ s 13 1) b := fun i g1 g2 => by
    rw [up _ _ (by omega)] at g2
    rw [up _ _ (by omega)]
    exact hg i g1 g2
  have e19 : js_up σ s 13 1 (19 + b) m = s := by rw [up _ _ (by omega)]; exact h19
  have e7 : m < js_up σ s 13 1 (7 + b) 1 := by rw [up _ _ (by omega)]; exact hm2
  have s11 : js_up σ s 13 1 s 11 = σ s 11 := us 11 (by decide)
  rw [b_105_79 hds hb]
  generalize js_up σ s 13 1 = σ0 at up us hds0 b6 b7 hz0 hg0 e19 e7 s11 ⊢
  have c0 : cl_R b u σ0 σ0 [] := cl_0 hg0 hz0
  obtain ⟨s1, e1, n1⟩ := c_set (E := E) (d := d - 1) (σ := σ0) (op := 0) (x := lo) (lo := lo) (hi := lo) hb hz0 (by omega)
  have c1 := cl_e0 hb c0 n1 (by omega)
  have q1 := n1.1
  have O1 := c1.2.2.2.2
  obtain ⟨s2, e2, n2⟩ := c_store (E := E) (d := d - 1) (σ := s1) (x := s) (y := 0) hb c1.1.2 (by omega) (cl_desc hb c1 hds0) (by rw [O1 _ _ (by omega) (by omega), s11]; exact hu.1) (by rw [O1 _ _ (by omega) (by omega), s11]; exact hu.2)
  have c2 := cl_e1 (m := m) hb c1 n2 (by omega) (by rw [O1 _ _ (by omega) (by omega)]; exact e19) hm (by rw [O1 _ _ (by omega) (by omega)]; exact e7)
  have q2 := n2.1
  obtain ⟨s3, e3, n3⟩ := c_set (E := E) (d := d - 1) (σ := s2) (op := 0) (x := hi) (lo := hi) (hi := hi) hb c2.1.2 (by omega)
  have c3 := cl_e0 hb c2 n3 (by omega)
  have q3 := n3.1
  obtain ⟨s4, e4, n4⟩ := c_add (E := E) (d := d - 1) (σ := s3) (op := 3) (x := 0) hb c3.1.2 (by omega)
  have c4 := cl_e0 hb c3 n4 (by omega)
  have q4 := n4.1
  have O4 := c4.2.2.2.2
  obtain ⟨s5, e5, n5⟩ := c_load (E := E) (d := d - 1) (σ := s4) (x := s) (lo := lo) (hi := hi + 1) hb c4.1.2 (by omega) (cl_desc hb c4 hds0) (by rw [O4 _ _ (by omega) (by omega), s11]; exact hu.1) (by rw [O4 _ _ (by omega) (by omega), s11]; exact hu.2)
  have n5' : em_R b s4 s5 1 (s4 s 5 + 0) 0 lo (hi + 1) (sh_P (s4 s 11)) := by rw [Int.add_zero]; exact n5
  have c5 := cl_e1 (m := m) hb c4 n5' (by omega) (by rw [O4 _ _ (by omega) (by omega)]; exact e19) hm (by rw [O4 _ _ (by omega) (by omega)]; exact e7)
  have q5 := n5.1
  obtain ⟨s6, e6, n6⟩ := c_set (E := E) (d := d - 1) (σ := s5) (op := 14) (x := 0) (lo := 0) (hi := 1) hb c5.1.2 (by omega)
  have c6 := cl_e0 hb c5 n6 (by omega)
  have q6 := n6.1
  obtain ⟨s7, e7', n7⟩ := c_add (E := E) (d := d - 1) (σ := s6) (op := 25) (x := 0) hb c6.1.2 (by omega)
  have c7 := cl_e0 hb c6 n7 (by omega)
  have hds7 := cl_desc hb c7 hds0
  have w2 : s2 (8 + b) 7 = min 400000 (σ (8 + b) 7 + 2) := by
    have := c2.2.2.1
    rw [b7] at this
    exact this
  have w6 : s2 (8 + b) 6 = σ (8 + b) 6 + 2 := by omega
  have w66 : s6 (8 + b) 6 = σ (8 + b) 6 + 6 := by omega
  refine ⟨s7, ?_, c7⟩
  rw [k_105_92 hb (by omega) e1, b_105_95 hb, k_105_101 hb (by omega) e2, b_105_104 hb, k_105_130 hb (by omega) e3, b_105_133 hb, k_105_139 hb (by omega) e4, b_105_142 hb, k_105_152 hb (by omega) e5, b_105_155 hb, k_105_164 hb (by omega) e6, b_105_167 hb, k_105_174 hb (by omega) e7', b_105_177 hb hds7, w2, w6, w66]
/-- the code of a for behind its block -/
theorem fo_B (hb : b = 0 ∨ b = 25) {s m lo hi x4 x5 x6 x7 : Int} (hz : cz_R σ b) (hg : hg_R σ b) (hs : σ (8 + b) 6 ≤ 50000000) (hds : js_desc E.1 σ s = some (0, 11, js_sym)) (h19 : σ (19 + b) m = s) (hm : 0 ≤ m) (hm2 : m < σ (7 + b) 1) (hu : -1 ≤ σ s 11 ∧ σ s 11 < 1000) (hx6 : 0 ≤ x6) (hx6' : x6 < σ (8 + b) 6) (hd : 6 ≤ d) : ∃ τ σ' : js_S, js_J E d 105 200 [(2, 22 + b), (2, s), (0, lo), (0, hi), (0, x4), (0, x5), (0, x6), (0, x7), (9, 0), (9, 0)] [] σ = js_r0 E σ' ∧ cl_R b u σ τ [(0, 0, 1, 0, 0, 1, 1), (3, 0, 0, 0, 0, 1, 0), (1, 1, m, 0, 0, lo, hi), (6, 0, 0, 0, 0, lo + 1, hi + 1), (2, 1, m, 0, 0, 1, 0), (24, 0, x5, 0, 0, 1, 0)] ∧ (x6 < 8192 → σ' (10 + b) x6 = τ (8 + b) 6) ∧ (∀ a i : Int, ¬ (a = 10 + b ∧ i = x6) → ¬ (a = 8 + b ∧ i = 7) → σ' a i = τ a i) ∧ σ' (8 + b) 7 = (if js_l (js_w (τ (8 + b) 7) + ((js_w hi - js_w lo) * js_w (τ (8 + b) 7 - x4) + js_w x7)) < js_l 400000 then js_w (τ (8 + b) 7) + ((js_w hi - js_w lo) * js_w (τ (8 + b) 7 - x4) + js_w x7) else 400000) := by
  have hge := js_sym_ge hds
  have c0 : cl_R b u σ σ [] := cl_0 hg hz
  obtain ⟨s1, e1, n1⟩ := c_set (E := E) (d := d - 1) (σ := σ) (op := 0) (x := 1) (lo := 1) (hi := 1) hb hz (by omega)
  have c1 := cl_e0 hb c0 n1 (by omega)
  have q1 := n1.1
  obtain ⟨s2, e2, n2⟩ := c_add (E := E) (d := d - 1) (σ := s1) (op := 3) (x := 0) hb c1.1.2 (by omega)
  have c2 := cl_e0 hb c1 n2 (by omega)
  have q2 := n2.1
  have O2 := c2.2.2.2.2
  obtain ⟨s3, e3, n3⟩ := c_load (E := E) (d := d - 1) (σ := s2) (x := s) (lo := lo) (hi := hi) hb c2.1.2 (by omega) (cl_desc hb c2 hds) (by rw [O2 _ _ (by omega) (by omega)]; exact hu.1) (by rw [O2 _ _ (by omega) (by omega)]; exact hu.2)
  have n3' : em_R b s2 s3 1 (s2 s 5 + 0) 0 lo hi (sh_P (s2 s 11)) := by rw [Int.add_zero]; exact n3
  have c3 := cl_e1 (m := m) hb c2 n3' (by omega) (by rw [O2 _ _ (by omega) (by omega)]; exact h19) hm (by rw [O2 _ _ (by omega) (by omega)]; exact hm2)
  have q3 := n3.1
  obtain ⟨s4, e4, n4⟩ := c_set (E := E) (d := d - 1) (σ := s3) (op := 6) (x := 0) (lo := lo + 1) (hi := hi + 1) hb c3.1.2 (by omega)
  have c4 := cl_e0 hb c3 n4 (by omega)
  have q4 := n4.1
  have O4 := c4.2.2.2.2
  obtain ⟨s5, e5, n5⟩ := c_store (E := E) (d := d - 1) (σ := s4) (x := s) (y := 0) hb c4.1.2 (by omega) (cl_desc hb c4 hds) (by rw [O4 _ _ (by omega) (by omega)]; exact hu.1) (by rw [O4 _ _ (by omega) (by omega)]; exact hu.2)
  have c5 := cl_e1 (m := m) hb c4 n5 (by omega) (by rw [O4 _ _ (by omega) (by omega)]; exact h19) hm (by rw [O4 _ _ (by omega) (by omega)]; exact hm2)
  have q5 := n5.1
  obtain ⟨s6, e6, n6⟩ := c_add (E := E) (d := d - 1) (σ := s5) (op := 24) (x := x5) hb c5.1.2 (by omega)
  have c6 := cl_e0 hb c5 n6 (by omega)
  have q6 := n6.1
  obtain ⟨s7, e7, n7, O7⟩ := c_land (E := E) (d := d - 1) (σ := s6) (x := x6) hb c6.1.2 hx6 (by omega) (by omega)
  have w7 : s7 (8 + b) 7 = s6 (8 + b) 7 := O7 _ _ (by omega)
  refine ⟨s6, js_up s7 (8 + b) 7 (if js_l (js_w (s7 (8 + b) 7) + ((js_w hi - js_w lo) * js_w (s7 (8 + b) 7 - x4) + js_w x7)) < js_l 400000 then js_w (s7 (8 + b) 7) + ((js_w hi - js_w lo) * js_w (s7 (8 + b) 7 - x4) + js_w x7) else 400000), ?_, c6, fun h => ?_, fun a i g1 g2 => ?_, ?_⟩
  · rw [b_105_200 hb, k_105_208 hb (by omega) e1, b_105_211 hb, k_105_217 hb (by omega) e2, b_105_220 hb, k_105_228 hb (by omega) e3, b_105_231 hb, k_105_244 hb (by omega) e4, b_105_247 hb, k_105_253 hb (by omega) e5, b_105_256 hb, k_105_264 hb (by omega) e6, b_105_267 hb, k_105_274 hb (by omega) e7, b_105_277 hb, k_105_306 hb (by omega) (b_74_0 (by omega) hb), b_105_309]
  · rw [js_up_ne _ (by omega)]
    exact n7 h
  · rw [js_up_ne _ g2]
    exact O7 a i g1
  · rw [js_up_same, w7]
end SH
