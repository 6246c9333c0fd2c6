/-! part 99.zzo: chains of jumps -/
/-- the jumps of a chain, the last one first: each holds the one ahead of it -/
def jw (R : Int → Int) : List Int → Int → Int → Prop
  | [], _, E => E = -1
  | q :: Q, lim, E => E = q ∧ (0 ≤ q ∧ q < lim) ∧ (q < 8192 → jw R Q q (R q))
theorem jw_of {R R' : Int → Int} (Q : List Int) : ∀ lim E : Int, (∀ i : Int, i < lim → R' i = R i) → jw R Q lim E → jw R' Q lim E := by
  induction Q with
  | nil => intro lim E _ h; exact h
  | cons q Q ih =>
    intro lim E h hj
    obtain ⟨h1, h2, h3⟩ := hj
    refine ⟨h1, h2, fun h8 => ?_⟩
    rw [h q h2.2]
    exact ih q _ (fun i hi => h i (by omega)) (h3 h8)
theorem jw_up {R : Int → Int} (Q : List Int) {lim lim' E : Int} (h : jw R Q lim E) (hl : lim ≤ lim') : jw R Q lim' E := by
  cases Q with
  | nil => exact h
  | cons q Q => exact ⟨h.1, ⟨h.2.1.1, by have := h.2.1.2; omega⟩, h.2.2⟩
theorem jw_in {R : Int → Int} (Q : List Int) : ∀ lim E q : Int, jw R Q lim E → lim ≤ 8192 → q ∈ Q → 0 ≤ q ∧ q < lim := by
  induction Q with
  | nil => intro lim E q _ _ h; cases h
  | cons q0 Q ih =>
    intro lim E q h h8 hq
    obtain ⟨h1, h2, h3⟩ := h
    cases hq with
    | head => exact h2
    | tail _ hq =>
      have := ih q0 _ q (h3 (by omega)) (by omega) hq
      omega
/-- an INSTRUCTION, or a JUMP whose place is still open -/
def cq_P (σ : js_S) (b u z : Int) (Q : Int → Prop) (i : Int) (I : xt_I) : Prop := (¬ Q i ∧ ci_P σ b u i I) ∨ (Q i ∧ I = (24, 0, z, 0, 0, 1, 0) ∧ σ (9 + b) i = 24 ∧ σ (11 + b) i = 0 ∧ σ (12 + b) i = 1 ∧ σ (13 + b) i = 0 ∧ σ (14 + b) i = 0)
theorem cq_land {b u z i : Int} {Q : Int → Prop} {σ σ' : js_S} {I : xt_I} (hb : b = 0 ∨ b = 25) (h : cq_P σ b u z Q i I) (hg : hg_R σ b) (hO : ∀ a i : Int, ¬ (a = 10 + b ∧ Q i) → σ' a i = σ a i) (hz : Q i → σ' (10 + b) i = z) : ci_P σ' b u i I := by
  rcases h with ⟨h1, h2⟩ | ⟨h1, h2, h3, h4, h5, h6, h7⟩
  · exact ci_P_of h2 (fun a _ _ => hO a i (fun hh => h1 hh.2)) (by rw [hO _ _ (fun hh => by omega)]; exact Int.le_refl _) (fun s _ _ => hO _ _ (fun hh => by omega)) (fun s k g1 g2 _ => hO _ _ (fun hh => by have := hg s g1 g2; omega))
  · rw [h2]
    refine ⟨(hO _ _ (fun hh => by omega)).trans h3, (hO _ _ (fun hh => by omega)).trans h4, (hO _ _ (fun hh => by omega)).trans h5, (hO _ _ (fun hh => by omega)).trans h6, ?_⟩
    rw [if_pos rfl]
    exact ⟨hz h1, (hO _ _ (fun hh => by omega)).trans h7⟩
theorem cq_sf {b n t p u z i : Int} {Q : Int → Prop} {σ σ' : js_S} {I : xt_I} (hb : b = 0 ∨ b = 25) (h : sf_R b n t p (σ (7 + b) 1) σ σ') (hn : i < n) (hI : cq_P σ b u z Q i I) : cq_P σ' b u z Q i I := by
  have o : ∀ a : Int, 9 + b ≤ a → a ≤ 14 + b → σ' a i = σ a i := fun a h1 h2 => h.2.1 a i (by omega) (by omega) (by unfold sf_D ef_D; omega)
  rcases hI with ⟨h1, h2⟩ | ⟨h1, h2, h3, h4, h5, h6, h7⟩
  · exact Or.inl ⟨h1, ci_sf hb h hn h2⟩
  · exact Or.inr ⟨h1, h2, (o _ (by omega) (by omega)).trans h3, (o _ (by omega) (by omega)).trans h4, (o _ (by omega) (by omega)).trans h5, (o _ (by omega) (by omega)).trans h6, (o _ (by omega) (by omega)).trans h7⟩
theorem cq_Q {b u z i : Int} {Q Q' : Int → Prop} {σ : js_S} {I : xt_I} (h : cq_P σ b u z Q i I) (hq : Q i ↔ Q' i) : cq_P σ b u z Q' i I := by
  rcases h with ⟨h1, h2⟩ | ⟨h1, h2⟩
  · exact Or.inl ⟨fun hh => h1 (hq.mpr hh), h2⟩
  · exact Or.inr ⟨hq.mp h1, h2⟩
theorem cq_ci {b u z i : Int} {Q : Int → Prop} {σ : js_S} {I : xt_I} (h : ci_P σ b u i I) (hq : ¬ Q i) : cq_P σ b u z Q i I := Or.inl ⟨hq, h⟩
/-- a JUMP was put -/
theorem cq_em {b u z x : Int} {Q : Int → Prop} {σ σ' : js_S} (he : em_R b σ σ' 24 x 0 1 0 0) (hs : σ (8 + b) 6 < 8192) (hq : Q (σ (8 + b) 6)) : cq_P σ' b u z Q (σ (8 + b) 6) (24, 0, z, 0, 0, 1, 0) := by
  obtain ⟨a1, a2, a3, a4, a5, a6⟩ := he.2.2.1 hs
  exact Or.inr ⟨hq, rfl, a1, a3, a4, a5, a6⟩
section SL
variable {E : js_E} {d : Nat} {b : Int}
theorem c_has {σ : js_S} {x : Int} (hb : b = 0 ∨ b = 25) (hz : cz_R σ b) (hx : -1 ≤ x ∧ x < 100000000) : js_J E d 92 0 [(2, 8 + b), (0, x)] [] σ = js_r E (0, if 0 ≤ x ∧ x < σ (8 + b) 6 ∧ x < 8192 then 1 else 0) σ := by
  unfold cz_R at hz
  rw [b_92_0 hb, js_w_of (x := x) (by omega) (by omega), js_w_of (x := σ (8 + b) 6) (by omega) (by omega)]
  by_cases q1 : x < 0
  · rw [if_pos q1, if_neg (by omega)]
  · rw [if_neg q1]
    by_cases q2 : x < σ (8 + b) 6
    · rw [if_pos q2]
      by_cases q3 : x < 8192
      · rw [if_pos q3, if_pos (by omega)]
      · rw [if_neg q3, if_neg (by omega)]
    · rw [if_neg q2, if_neg (by omega)]
theorem c_landW (hb : b = 0 ∨ b = 25) (hd : 1 ≤ d) (Q : List Int) : ∀ (σ : js_S) (x1 Ex k lim : Int) (ux : js_v), cz_R σ b → jw (fun i => σ (10 + b) i) Q lim Ex → lim ≤ σ (8 + b) 6 → 0 ≤ k → k + min lim 8192 ≤ 900000 → ∃ σ' : js_S, js_J E d 103 4 [(2, 8 + b), (0, x1), (0, Ex), (0, k), ux] [] σ = js_r0 E σ' ∧ (∀ a i : Int, ¬ (a = 10 + b ∧ i ∈ Q) → σ' a i = σ a i) ∧ (σ (8 + b) 6 ≤ 8192 → ∀ q : Int, q ∈ Q → σ' (10 + b) q = σ (8 + b) 6) := by
  induction Q with
  | nil =>
    intro σ x1 Ex k lim ux hz hj hl hk hm
    have hE : Ex = -1 := hj
    subst hE
    refine ⟨σ, ?_, fun _ _ _ => rfl, fun _ q hq => absurd hq (fun h => by cases h)⟩
    have ha := c_has (E := E) (d := d - 1) (x := -1) hb hz (by omega)
    rw [if_neg (by omega)] at ha
    by_cases q : js_w k < 1000000
    · rw [b_103_4, if_pos q, k_103_12 hb hd ha, b_103_15 hb, if_pos (show js_w 0 = 0 from rfl)]
    · rw [b_103_4, if_neg q]
  | cons q Q ih =>
    intro σ x1 Ex k lim ux hz hj hl hk hm
    obtain ⟨h1, ⟨h20, h21⟩, h3⟩ := hj
    subst h1
    have hz2 := hz
    unfold cz_R at hz2
    have ha := c_has (E := E) (d := d - 1) (x := Ex) hb hz (by omega)
    have hk2 : js_w k < 1000000 := by rw [js_w_of (by omega) (by omega)]; omega
    by_cases q8 : Ex < 8192
    · rw [if_pos (by omega)] at ha
      obtain ⟨σ', e', hO, hv⟩ := ih (js_up σ (10 + b) Ex (σ (8 + b) 6)) x1 (σ (10 + b) Ex) (k + 1) Ex (0, σ (10 + b) Ex) (by unfold cz_R; rw [js_up_na _ (by omega), js_up_na _ (by omega)]; exact hz) (jw_of Q _ _ (fun i hi => js_up_ni _ (by omega)) (h3 q8)) (by rw [js_up_na _ (by omega)]; omega) (by omega) (by omega)
      rw [js_up_na _ (by omega)] at hv
      refine ⟨σ', ?_, fun a i g => ?_, fun hs q0 hq => ?_⟩
      · rw [b_103_4, if_pos hk2, k_103_12 hb hd ha, b_103_15 hb, if_neg (show ¬ js_w 1 = 0 by decide), js_w_of (x := Ex) (by omega) (by omega), if_pos (by omega)]
        exact e'
      · rw [hO a i (fun hh => g ⟨hh.1, List.mem_cons_of_mem _ hh.2⟩), js_up_ne _ (fun hh => g ⟨hh.1, by rw [hh.2]; exact List.mem_cons_self ..⟩)]
      · by_cases qq : q0 ∈ Q
        · exact hv hs q0 qq
        · have e0 : q0 = Ex := by
            cases hq with
            | head => rfl
            | tail _ h => exact absurd h qq
          rw [hO _ _ (fun hh => qq hh.2), e0, js_up_same]
    · rw [if_neg (by omega)] at ha
      refine ⟨σ, ?_, fun _ _ _ => rfl, fun hs => absurd hs (by omega)⟩
      rw [b_103_4, if_pos hk2, k_103_12 hb hd ha, b_103_15 hb, if_pos (show js_w 0 = 0 from rfl)]
/-- all jumps of a chain land -/
theorem c_landAll {Q : List Int} {σ : js_S} {x : Int} (hb : b = 0 ∨ b = 25) (hd : 1 ≤ d) (hz : cz_R σ b) (hj : jw (fun i => σ (10 + b) i) Q (σ (8 + b) 6) x) : ∃ σ' : js_S, js_J E d 103 0 [(2, 8 + b), (0, x), (9, 0), (9, 0), (9, 0)] [] σ = js_r0 E σ' ∧ (∀ a i : Int, ¬ (a = 10 + b ∧ i ∈ Q) → σ' a i = σ a i) ∧ (σ (8 + b) 6 ≤ 8192 → ∀ q : Int, q ∈ Q → σ' (10 + b) q = σ (8 + b) 6) := by
  rw [b_103_0]
  exact c_landW hb hd Q σ x x 0 (σ (8 + b) 6) (9, 0) hz hj (Int.le_refl _) (by decide) (by omega)
end SL
