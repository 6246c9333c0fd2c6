/-! part 99.a: the reference's constantOf, type, with and without a fault -/
theorem rx_lex_eq8 {σ τ : js_S} (h4 : τ 83 4 = σ 83 4) (h84 : ∀ i : Int, τ 84 i = σ 84 i) (h8 : τ 83 8 = σ 83 8) (p : Int) : rx_lex τ p = rx_lex σ p := by
  have ha := rx_at_eq h4 h84
  have hn : ∀ q : Int, rx_n τ q = rx_n σ q := fun q => by unfold rx_n; rw [h4]
  have hL : ∀ q : Int, rx_LDs τ q = rx_LDs σ q := fun q => by unfold rx_LDs; rw [ha, hn]
  have hD : ∀ q : Int, rx_Ds τ q = rx_Ds σ q := fun q => by unfold rx_Ds; rw [ha, hn]
  have h84' : τ 84 = σ 84 := funext h84
  have hw : ∀ f t : Int, rx_w1 τ f t = rx_w1 σ f t := fun f t => by unfold rx_w1; rw [h84']
  unfold rx_lex
  simp only [rx_fr_eq h4 h84 p, ha, hL, hD, hw, hn, h4, h8]
theorem rx_next_ag {σ τ : js_S} (h : ∀ i : Int, 4 ≤ i → i ≤ 10 → τ 83 i = σ 83 i) (h84 : ∀ i : Int, τ 84 i = σ 84 i) : ∀ i : Int, 4 ≤ i → i ≤ 10 → rx_next τ 83 i = rx_next σ 83 i := by
  intro i hi hi2
  have h4 := h 4 (by decide) (by decide)
  have h7 := h 7 (by decide) (by decide)
  have h8 := h 8 (by decide) (by decide)
  unfold rx_next
  rw [h7, rx_lex_eq8 h4 h84 h8, rx_fr_eq h4 h84]
  unfold rx_set js_up
  rw [h i hi hi2]
theorem rd_next_of {σ ρ ρ' : js_S} {j : Nat} (hr : rd_R σ (rx_next ρ) j) (h : ∀ i : Int, 4 ≤ i → i ≤ 10 → ρ' 83 i = ρ 83 i) (h84 : ∀ i : Int, ρ' 84 i = ρ 84 i) : rd_R σ (rx_next ρ') j :=
  rd_R_of hr (fun _ _ => rfl) (fun _ _ _ _ => rfl) (rx_next_ag h h84) (fun i => by rw [rx_next_o _ (by omega), rx_next_o _ (by omega), h84])
theorem rx_F_up {ρ : js_S} {i v : Int} (h : rx_F ρ) (h5 : i ≠ 5) (h9 : i ≠ 9) : rx_F (js_up ρ 83 i v) := by
  unfold rx_F at h ⊢
  rw [js_up_ni _ (by omega), js_up_ni _ (by omega)]
  exact h
/-- what types and constants leave alone of the reference -/
def tf_R (ρ ρ' : js_S) : Prop := ∀ a i : Int, ¬ (a = 83 ∧ (5 ≤ i ∧ i ≤ 9 ∨ 27 ≤ i ∧ i ≤ 32)) → ρ' a i = ρ a i
theorem tf_R_trans {σ σ' τ : js_S} (h : tf_R σ σ') (h2 : tf_R σ' τ) : tf_R σ τ := fun a i g => (h2 a i g).trans (h a i g)
theorem tf_R_up {ρ : js_S} {k x : Int} (hk : 27 ≤ k) (hk2 : k ≤ 32) : tf_R ρ (js_up ρ 83 k x) := fun a i g => js_up_ne _ (by omega)
theorem tf_R_next (ρ : js_S) : tf_R ρ (rx_next ρ) := fun a i g => rx_next_o _ (by omega)
theorem tf_R_bad (ρ : js_S) (k p : Int) : tf_R ρ (rx_bad ρ k p) := fun a i g => by
  unfold rx_bad
  rw [js_up_ne _ (by omega)]
  split
  · exact js_up_ne _ (by omega)
  · rfl
theorem tf_R_c1 (ρ : js_S) : tf_R ρ (rx_c1 ρ) := fun a i g => rx_c1_o ρ (by omega)
theorem tf_R_cs (ρ : js_S) : tf_R ρ (rx_cs ρ) := by
  unfold rx_cs
  simp only
  split
  · exact tf_R_trans (tf_R_c1 ρ) (tf_R_bad _ _ _)
  · split
    · exact tf_R_trans (tf_R_c1 ρ) (tf_R_trans (tf_R_up (by decide) (by decide)) (tf_R_up (by decide) (by decide)))
    · split
      · exact tf_R_trans (tf_R_c1 ρ) (tf_R_trans (tf_R_up (by decide) (by decide)) (tf_R_up (by decide) (by decide)))
      · exact tf_R_trans (tf_R_c1 ρ) (tf_R_trans (tf_R_trans (tf_R_trans (tf_R_up (by decide) (by decide)) (tf_R_up (by decide) (by decide))) (tf_R_bad _ _ _)) (tf_R_up (by decide) (by decide)))
theorem rx_cs_29 (ρ : js_S) : rx_cs ρ 83 29 = ρ 83 6 := by
  have hb : ∀ (τ : js_S) (k p : Int), rx_bad τ k p 83 29 = τ 83 29 := fun τ k p => by
    unfold rx_bad
    rw [js_up_ni _ (by decide)]
    split
    · exact js_up_ni _ (by decide)
    · rfl
  unfold rx_cs
  split
  · rw [hb, rx_c1_29]
  · split
    · rw [js_up_ni _ (by decide), js_up_ni _ (by decide), rx_c1_29]
    · split
      · rw [js_up_ni _ (by decide), js_up_ni _ (by decide), rx_c1_29]
      · rw [js_up_ni _ (by decide), hb, js_up_ni _ (by decide), js_up_ni _ (by decide), rx_c1_29]
/-- constantOf -/
def rx_co (ρ : js_S) (t : Int) : js_S := if rx_cs ρ 83 9 = 0 ∧ rx_cs ρ 83 27 ≠ t then rx_bad (rx_cs ρ) 5 (ρ 83 6) else rx_cs ρ
theorem tf_R_co (ρ : js_S) (t : Int) : tf_R ρ (rx_co ρ t) := by
  unfold rx_co
  split
  · exact tf_R_trans (tf_R_cs ρ) (tf_R_bad _ _ _)
  · exact tf_R_cs ρ
theorem rx_co_ok {ρ : js_S} {t : Int} (ht : 0 ≤ t) (hok : rx_ok ρ) (h : rx_ce ρ t = 0) : rx_co ρ t = rx_cs ρ ∧ rx_cs ρ 83 27 = t ∧ rx_cs ρ 83 9 = 0 := by
  have h4 := hok.2.2.2.1
  unfold rx_ce at h
  unfold rx_co
  by_cases q : rx_cs ρ 83 9 = 0
  · rw [if_neg (show ¬ rx_cs ρ 83 9 ≠ 0 from fun hh => hh q)] at h
    by_cases q2 : rx_cs ρ 83 27 = t
    · rw [if_neg (show ¬ (rx_cs ρ 83 9 = 0 ∧ rx_cs ρ 83 27 ≠ t) from fun hh => hh.2 q2)]
      exact ⟨rfl, q2, q⟩
    · rw [if_pos (show t ≠ -1 ∧ rx_cs ρ 83 27 ≠ t from ⟨by omega, q2⟩)] at h
      omega
  · rw [if_pos q] at h
    exact absurd h q
theorem rx_cs_9 {ρ : js_S} (hok : rx_ok ρ) : rx_cs ρ 83 9 = 0 ∨ rx_F (rx_cs ρ) := by
  by_cases q1 : rx_ck (rx_c1 ρ) (rx_cm ρ) = 0
  · by_cases q2 : rx_cm ρ = true ∧ rx_ct (rx_c1 ρ) ≠ 0
    · exact Or.inr (rx_cs_ty hok q1 q2.1 q2.2).1
    · have hm : rx_cm ρ = false ∨ rx_ct (rx_c1 ρ) = 0 := by
        by_cases h : rx_cm ρ = false
        · exact Or.inl h
        · refine Or.inr ?_
          by_cases h3 : rx_ct (rx_c1 ρ) = 0
          · exact h3
          · have : rx_cm ρ = true := by
              cases h5 : rx_cm ρ
              · exact absurd h5 h
              · rfl
            exact absurd ⟨this, h3⟩ q2
      refine Or.inl ?_
      rw [rx_cs_ok q1 hm, js_up_ni _ (by decide), js_up_ni _ (by decide)]
      exact (rx_c1_ok hok).2.2.1
  · exact Or.inr (rx_cs_bad hok q1).1
theorem rx_co_bad {ρ : js_S} {t : Int} (hok : rx_ok ρ) (h : rx_ce ρ t ≠ 0) (ht : 0 ≤ t) : rx_F (rx_co ρ t) ∧ rx_co ρ t 83 9 = rx_ce ρ t := by
  have h4 := hok.2.2.2.1
  have h5 := hok.2.2.2.2.1
  have h6 := hok.2.2.2.2.2.1
  have h0 := hok.1.2.1
  unfold rx_ce at h ⊢
  unfold rx_co
  by_cases q : rx_cs ρ 83 9 = 0
  · rw [if_neg (show ¬ rx_cs ρ 83 9 ≠ 0 from fun hh => hh q)] at h ⊢
    by_cases q2 : rx_cs ρ 83 27 = t
    · rw [if_neg (show ¬ (t ≠ -1 ∧ rx_cs ρ 83 27 ≠ t) from fun hh => hh.2 q2)] at h
      exact absurd rfl h
    · rw [if_pos (show t ≠ -1 ∧ rx_cs ρ 83 27 ≠ t from ⟨by omega, q2⟩), if_pos (show rx_cs ρ 83 9 = 0 ∧ rx_cs ρ 83 27 ≠ t from ⟨q, q2⟩)]
      exact rx_bad_ok q (by decide) (by decide) h4 (by omega)
  · rw [if_pos q, if_neg (show ¬ (rx_cs ρ 83 9 = 0 ∧ rx_cs ρ 83 27 ≠ t) from fun hh => q hh.1)]
    rcases rx_cs_9 hok with h | h
    · exact absurd h q
    · exact ⟨h, rfl⟩
theorem rx_cs_27 {ρ : js_S} (hok : rx_ok ρ) (hs : rs_ok ρ) (hv : rs_v ρ) (h8 : rx_c1 ρ 83 5 = 3 → 0 ≤ rx_c1 ρ 83 8 ∧ rx_c1 ρ 83 8 ≤ 2000000000) (h9 : rx_cs ρ 83 9 = 0) : 0 ≤ rx_cs ρ 83 27 ∧ rx_cs ρ 83 27 < 1000 ∧ -2000000000 ≤ rx_cs ρ 83 28 ∧ rx_cs ρ 83 28 ≤ 2000000000 := by
  have hs1 : rs_ok (rx_c1 ρ) := rs_ok_of hs (rx_c1_o ρ (by omega)) (fun i => rx_c1_o ρ (by omega)) (fun i => rx_c1_o ρ (by omega)) (fun i => rx_c1_o ρ (by omega))
  have hv1 : rs_v (rx_c1 ρ) := rs_v_of hv (fun i => rx_c1_o ρ (by omega)) (fun i => rx_c1_o ρ (by omega)) (fun i => rx_c1_o ρ (by omega)) (rx_c1_o ρ (by omega)) (fun i => rx_c1_o ρ (by omega)) (fun i => rx_c1_o ρ (by omega))
  by_cases q1 : rx_ck (rx_c1 ρ) (rx_cm ρ) = 0
  · have hin := rx_ct_in q1 hs1 hv1 h8
    by_cases q2 : rx_cm ρ = true ∧ rx_ct (rx_c1 ρ) ≠ 0
    · have := (rx_cs_ty hok q1 q2.1 q2.2).1.1
      omega
    · have hm : rx_cm ρ = false ∨ rx_ct (rx_c1 ρ) = 0 := by
        by_cases h : rx_cm ρ = false
        · exact Or.inl h
        · refine Or.inr ?_
          by_cases h3 : rx_ct (rx_c1 ρ) = 0
          · exact h3
          · have : rx_cm ρ = true := by
              cases h5 : rx_cm ρ
              · exact absurd h5 h
              · rfl
            exact absurd ⟨this, h3⟩ q2
      rw [rx_cs_ok q1 hm, js_up_ni (i := 28) (j := 27) _ (by decide), js_up_same, js_up_same]
      split
      · omega
      · omega
  · have := (rx_cs_bad hok q1).1.1
    omega
section RT
variable {E : js_E} {d : Nat} {ρ : js_S}
theorem r_constantOf (h : rx_ok ρ) (hs : rs_ok ρ) (hv : rs_v ρ) (hd : 4 ≤ d) (h8 : rx_c1 ρ 83 5 = 3 → 0 ≤ rx_c1 ρ 83 8 ∧ rx_c1 ρ 83 8 ≤ 2000000000) {t : Int} (ht : 0 ≤ t) (ht2 : t < 1000) : js_J E d 209 0 [(2, 83), (0, t)] [] ρ = js_r0 E (rx_co ρ t) := by
  have h27 := rx_cs_27 h hs hv h8
  rw [b_209_0, k_209_1 (by omega) (r_constant h hs hv (by omega) h8), b_209_4, js_w_of (x := t) (by omega) (by omega)]
  unfold rx_co
  by_cases q : rx_cs ρ 83 9 = 0
  · have h2 := h27 q
    rw [q, if_pos (show js_w 0 = 0 from rfl), js_w_of (x := rx_cs ρ 83 27) (by omega) (by omega)]
    by_cases q2 : rx_cs ρ 83 27 = t
    · rw [if_pos q2, b_209_28, if_neg (show ¬ ((0 : Int) = 0 ∧ rx_cs ρ 83 27 ≠ t) from fun hh => hh.2 q2)]
    · rw [if_neg q2, k_209_25 (by omega) (r_bad (by omega) (by omega)), b_209_28, if_pos (show (0 : Int) = 0 ∧ rx_cs ρ 83 27 ≠ t from ⟨rfl, q2⟩), rx_cs_29]
  · have hF : rx_F (rx_cs ρ) := (rx_cs_9 h).elim (fun hh => absurd hh q) id
    have f1 := hF.1
    have f2 := hF.2.1
    rw [js_w_of (x := rx_cs ρ 83 9) (by omega) (by omega), if_neg q, b_209_28, if_neg (show ¬ (rx_cs ρ 83 9 = 0 ∧ rx_cs ρ 83 27 ≠ t) from fun hh => q hh.1)]
/-- with a fault they only unwind -/
theorem r_constantF (h : rx_F ρ) (hd : 3 ≤ d) : js_J E d 203 0 [(2, 83), (9, 0), (9, 0)] [] ρ = js_r0 E (js_up ρ 83 29 (ρ 83 6)) := by
  have h1 := h.1
  have h2 := h.2.1
  have h3 := h.2.2
  have hF : rx_F (js_up ρ 83 29 (ρ 83 6)) := rx_F_up h (by decide) (by decide)
  have e5 := hF.2.2
  have f1 := hF.1
  have f2 := hF.2.1
  have w0 : js_w 0 = 0 := rfl
  have hfind : ∀ n : Nat, js_J E n 200 0 [(2, 83), (9, 0)] [] (js_up ρ 83 29 (ρ 83 6)) = js_r E (0, -1) (js_up ρ 83 29 (ρ 83 6)) := fun n => by
    rw [b_200_0, e5, if_neg (by decide)]
  rw [b_203_0, h3, if_neg (by decide), b_203_22, if_pos w0, b_203_31, k_203_32 (by omega) (hfind _), b_203_35, e5, if_neg (by decide), if_pos w0, if_neg (by decide), if_neg (by decide), b_203_111, e5, if_neg (by decide), k_203_182 (by omega) (r_bad (by omega) (by omega)), b_203_185, rx_bad_F hF]
theorem r_constantOfF (h : rx_F ρ) (hd : 4 ≤ d) {t : Int} : js_J E d 209 0 [(2, 83), (0, t)] [] ρ = js_r0 E (js_up ρ 83 29 (ρ 83 6)) := by
  have hF : rx_F (js_up ρ 83 29 (ρ 83 6)) := rx_F_up h (by decide) (by decide)
  have f1 := hF.1
  have f2 := hF.2.1
  rw [b_209_0, k_209_1 (by omega) (r_constantF h (by omega)), b_209_4, js_w_of (x := js_up ρ 83 29 (ρ 83 6) 83 9) (by omega) (by omega), if_neg (by omega), b_209_28]
/-- it goes on with the same fault -/
def fm_R (ρ ρ' : js_S) : Prop := tf_R ρ ρ' ∧ rx_F ρ' ∧ ρ' 83 9 = ρ 83 9
theorem fm_R_trans {σ σ' τ : js_S} (h : fm_R σ σ') (h2 : fm_R σ' τ) : fm_R σ τ := ⟨tf_R_trans h.1 h2.1, h2.2.1, h2.2.2.trans h.2.2⟩
theorem fm_R_up {k x : Int} (h : rx_F ρ) (hk : 27 ≤ k) (hk2 : k ≤ 32) : fm_R ρ (js_up ρ 83 k x) := ⟨tf_R_up hk hk2, rx_F_up h (by omega) (by omega), js_up_ni _ (by omega)⟩
theorem r_type_139F (h : rx_F ρ) (hd : 4 ≤ d) {x1 : Int} : ∃ ρ' : js_S, js_J E d 208 139 [(2, 83), (0, x1)] [] ρ = js_r0 E ρ' ∧ fm_R ρ ρ' := by
  have a1 := fm_R_up (k := 32) (x := ρ 83 28) h (by decide) (by decide)
  have a2 := fm_R_up (k := 30) (x := 0) a1.2.1 (by decide) (by decide)
  refine ⟨_, ?_, fm_R_trans a1 a2⟩
  rw [b_208_139, k_208_153 (by omega) (r_nextF a2.2.1.1 a2.2.1.2.1), b_208_156]
theorem r_type_112F (h : rx_F ρ) (hd : 4 ≤ d) {x1 : Int} : ∃ ρ' : js_S, js_J E d 208 112 [(2, 83), (0, x1)] [] ρ = js_r0 E ρ' ∧ fm_R ρ ρ' := by
  have f1 := h.1
  have f2 := h.2.1
  rw [b_208_112, js_w_of (x := ρ 83 9) (by omega) (by omega), if_neg (by omega)]
  exact r_type_139F h hd
theorem r_type_107F (h : rx_F ρ) (hd : 5 ≤ d) {x1 : Int} : ∃ ρ' : js_S, js_J E d 208 107 [(2, 83), (0, x1)] [] ρ = js_r0 E ρ' ∧ fm_R ρ ρ' := by
  have a1 := fm_R_up (k := 29) (x := ρ 83 6) h (by decide) (by decide)
  obtain ⟨ρ', e, f⟩ := r_type_112F (E := E) (d := d) (x1 := x1) a1.2.1 (by omega)
  refine ⟨ρ', ?_, fm_R_trans a1 f⟩
  rw [b_208_107, k_208_109 (by omega) (r_constantOfF h (by omega)), e]
theorem r_type_88F (h : rx_F ρ) (hd : 5 ≤ d) {x1 : Int} : ∃ ρ' : js_S, js_J E d 208 88 [(2, 83), (0, x1)] [] ρ = js_r0 E ρ' ∧ fm_R ρ ρ' := by
  have a1 := fm_R_up (k := 31) (x := ρ 83 28) h (by decide) (by decide)
  obtain ⟨ρ', e, f⟩ := r_type_107F (E := E) (d := d) (x1 := x1) a1.2.1 (by omega)
  refine ⟨ρ', ?_, fm_R_trans a1 f⟩
  rw [b_208_88, k_208_97 (by omega) (r_nextF a1.2.1.1 a1.2.1.2.1), b_208_100, k_208_104 (by omega) (r_takeF a1.2.1 (by omega) (by decide) (by decide)), e]
theorem r_typeF (h : rx_F ρ) (hd : 5 ≤ d) : ∃ ρ' : js_S, js_J E d 208 0 [(2, 83), (9, 0)] [] ρ = js_r0 E ρ' ∧ fm_R ρ ρ' := by
  have h3 := h.2.2
  have hfind : ∀ n : Nat, js_J E n 200 0 [(2, 83), (9, 0)] [] ρ = js_r E (0, -1) ρ := fun n => by
    rw [b_200_0, h3, if_neg (by decide)]
  have a1 := fm_R_up (k := 29) (x := ρ 83 6) h (by decide) (by decide)
  obtain ⟨ρ', e, f⟩ := r_type_88F (E := E) (d := d) (x1 := -1) a1.2.1 (by omega)
  refine ⟨ρ', ?_, fm_R_trans a1 f⟩
  rw [b_208_0, k_208_1 (by omega) (hfind _), b_208_4, h3, if_neg (by decide), if_pos (by decide), b_208_83, k_208_85 (by omega) (r_constantOfF h (by omega)), e]
end RT
