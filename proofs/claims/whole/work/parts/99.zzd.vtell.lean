/-! part 99.zzd: a name is told within a unit -/
theorem gs_told {ρ : js_S} {X : Int → Prop} {k : Int} (h : gs_R ρ X) : gs_R (rx_next (rx_told ρ k)) (fun i => X i ∨ i = ρ 83 11) := fun i g1 g2 g3 => by
  have e11 : rx_next (rx_told ρ k) 83 11 = ρ 83 11 + 1 := by rw [rx_next_o _ (by omega), rx_told_11]
  have e26 : rx_next (rx_told ρ k) 83 26 = ρ 83 26 := by rw [rx_next_o _ (by omega), rx_told_o ρ k (by omega) (by omega)]
  have o : ∀ a i : Int, 86 ≤ a → a ≤ 99 → a ≠ 98 → i ≠ ρ 83 11 → rx_next (rx_told ρ k) a i = ρ a i := fun a i h1 h2 h3 h4 => by rw [rx_next_o _ (by omega), rx_told_o ρ k (by omega) (by omega)]
  rw [e11] at g2
  have n1 : ¬ X i := fun hh => g3 (Or.inl hh)
  have n2 : i ≠ ρ 83 11 := fun hh => g3 (Or.inr hh)
  obtain ⟨a1, a2, a3, a4, a5, a6⟩ := h i g1 (by omega) n1
  unfold gs_P
  rw [e11, e26, o 86 i (by decide) (by decide) (by decide) n2, o 87 i (by decide) (by decide) (by decide) n2, o 88 i (by decide) (by decide) (by decide) n2, o 89 i (by decide) (by decide) (by decide) n2, o 91 i (by decide) (by decide) (by decide) n2, o 92 i (by decide) (by decide) (by decide) n2, o 93 i (by decide) (by decide) (by decide) n2, o 96 i (by decide) (by decide) (by decide) n2, o 99 i (by decide) (by decide) (by decide) n2]
  refine ⟨a1, fun q => ?_, a3, a4, fun q => ?_, a6⟩
  · obtain ⟨b1, b2⟩ := a2 q
    refine ⟨b1, ?_⟩
    rcases b2 with c | c | ⟨c1, c2, c3, c4⟩
    · exact Or.inl c
    · exact Or.inr (Or.inl c)
    · refine Or.inr (Or.inr ⟨c1, by omega, ?_, fun hh => hh.elim c4 (fun hh => by omega)⟩)
      rw [o 86 _ (by decide) (by decide) (by decide) (by omega)]
      exact c3
  · obtain ⟨b1, b2, b3, b4, b5, b6⟩ := a5 q
    refine ⟨b1, b2, b3, by omega, fun x x1 x2 => ?_, b6⟩
    obtain ⟨c1, c2⟩ := b5 x x1 x2
    refine ⟨?_, fun hh => hh.elim c2 (fun hh => by omega)⟩
    rw [o 86 _ (by decide) (by decide) (by decide) (by omega)]
    exact c1
theorem gs_X {ρ ρ' : js_S} {X : Int → Prop} {m : Int} (h : gs_R ρ X) (hX : X m) (h1 : ρ' 83 11 = ρ 83 11) (h2 : ρ' 83 26 = ρ 83 26) (h86 : ∀ i : Int, ρ' 86 i = ρ 86 i) (h3 : ∀ a i : Int, 86 ≤ a → a ≤ 99 → i ≠ m → ρ' a i = ρ a i) : gs_R ρ' X := fun i g1 g2 g3 => by
  rw [h1] at g2
  have ne : i ≠ m := fun hh => g3 (by rw [hh]; exact hX)
  have := h i g1 g2 g3
  unfold gs_P at this ⊢
  rw [h1, h2]
  simp only [h86, h3 87 i (by decide) (by decide) ne, h3 88 i (by decide) (by decide) ne, h3 89 i (by decide) (by decide) ne, h3 91 i (by decide) (by decide) ne, h3 92 i (by decide) (by decide) ne, h3 93 i (by decide) (by decide) ne, h3 96 i (by decide) (by decide) ne, h3 99 i (by decide) (by decide) ne]
  exact this
/-- what telling a name leaves alone of compiler b -/
def dm_R (b m : Int) (σ σ' : js_S) : Prop := (∀ a i : Int, 6 + b ≤ a → a ≤ 30 + b → a ≠ 19 + b → a ≠ 20 + b → ¬ (a = 7 + b ∧ i = 1) → σ' a i = σ a i) ∧ ∀ i : Int, 0 ≤ i → i < m → σ' (19 + b) i = σ (19 + b) i ∧ ∀ k : Int, σ' (σ (19 + b) i) k = σ (σ (19 + b) i) k
/-- a name is told: m is its number, s the class's symbol -/
def vd_R (E : js_E) (b F m k s : Int) (B : Int → Int) (X : Int → Prop) (σ ρ τ ρ2 : js_S) : Prop := xs_R E b F B (fun i => X i ∨ i = m) τ ρ2 ∧ fr_R b σ τ ∧ dm_R b m σ τ ∧ js_desc E.1 τ s = some (0, 11, js_sym) ∧ τ (19 + b) m = s ∧ (∃ n : Int, cx_new τ s m k n) ∧ (∀ i : Int, 0 ≤ i → i < m → σ (19 + b) i ≠ s) ∧ (0 ≤ m ∧ m < 400) ∧ ρ2 83 11 = m + 1 ∧ (ρ2 86 m = k ∧ ρ2 91 m = 1 ∧ ρ2 92 m = 0 ∧ ρ2 93 m = F ∧ ρ2 94 m = 0 ∧ ρ2 96 m = 0 ∧ ρ2 87 m = 0) ∧ (∀ a i : Int, ¬ (a = 83 ∧ (5 ≤ i ∧ i ≤ 8 ∨ i = 11)) → ¬ (86 ≤ a ∧ a ≤ 99 ∧ a ≠ 98 ∧ i = m) → ¬ (a = 98 ∧ 20 * m ≤ i) → ρ2 a i = ρ a i) ∧ τ (7 + b) 1 = m + 1
section SA
variable {E : js_E} {d e : Nat} {b F : Int} {B : Int → Int} {X : Int → Prop} {σ ρ : js_S} {j : Nat}
theorem y_vtell (hb : b = 0 ∨ b = 25) (hx : xs_R E b F B X σ ρ) (hR : rd_R σ ρ j) (hd : 8 ≤ d) (he : 3 ≤ e) {k : Int} (hk0 : 5 ≤ k) (hk9 : k ≤ 9) : (∃ (τ ρ2 : js_S) (s : Int) (j2 : Nat), js_J E d 35 0 [(2, 7 + b), (0, k), (0, 0), (2, 1), (9, 0), (9, 0)] [] σ = js_r E (2, s) τ ∧ js_J E e 198 0 [(2, 83), (0, k), (0, -1), (9, 0), (9, 0)] [] ρ = js_r E (0, ρ 83 11) ρ2 ∧ rd_R τ ρ2 j2 ∧ j < j2 ∧ vd_R E b F (ρ 83 11) k s B X σ ρ τ ρ2) ∨ (∃ ρ2 : js_S, js_J E d 35 0 [(2, 7 + b), (0, k), (0, 0), (2, 1), (9, 0), (9, 0)] [] σ = th_P E σ (ρ2 83 9) ∧ js_J E e 198 0 [(2, 83), (0, k), (0, -1), (9, 0), (9, 0)] [] ρ = js_r E (0, 0) ρ2 ∧ rx_F ρ2 ∧ tf_R ρ ρ2) := by
  obtain ⟨hY1, hk1, hgs, hun, hBB, h26, hst⟩ := hx
  have hok1 := hR.2.2.1
  have hs1 := hY1.1
  have rt := r_tell (E := E) (d := e) (k := k) (p := -1) hok1 hs1 he (by decide) (by have := hs1.1; omega)
  by_cases q1 : rx_tf ρ (-1) = 0
  · refine Or.inl ?_
    obtain ⟨τ, s, j2, e2, hR2, hY2, ht, hj2⟩ := y_tell (E := E) (d := d) (k := k) (pp := -1) hb hY1 hR hd (by omega) hk9 (Or.inl ⟨rfl, rfl⟩) (by have := hs1.1; omega) q1
    rw [if_pos q1] at rt
    have hm0 := hs1.1
    have m11 : rx_next (rx_told ρ k) 83 11 = ρ 83 11 + 1 := by rw [rx_next_o _ (by omega), rx_told_11]
    have hm4 : ρ 83 11 < 400 := by
      have := hY2.1.2.1
      rw [m11] at this
      omega
    have fr2 := fr_R_told hb hm0 hm4 ht
    have hk2 := kx_R_told (k := k) hk1 hm0
    obtain ⟨d1, d2, d3, d4, d5, d7, d8, d9, d10, d11, d12, d13⟩ := ht
    have hge := js_sym_ge d1
    have sne : ∀ i : Int, 0 ≤ i → i < ρ 83 11 → σ (19 + b) i ≠ s := fun i g1 g2 hh => by
      have a := hY1.2.2.2.2.2.1 i g1 g2
      have a0 := js_sym_lt a.1 (js_sym_ge a.1)
      rcases d4 with h | ⟨h, h'⟩
      · rcases hY1.2.2.2.1 (ρ 83 11) hm0 hm4 with h2 | h2
        · omega
        · have := a.2.1
          rw [hh, h, h2.2] at this
          omega
      · omega
    have dn2 : dm_R b (ρ 83 11) σ τ := ⟨fun a i g1 g2 g3 g4 g6 => d7 a i (by omega) (by omega) (by omega) (by omega) g6 (by omega) (by omega), fun i g1 g2 => by
      have a := js_sym_ge (hY1.2.2.2.2.2.1 i g1 g2).1
      exact ⟨d7 _ _ (by omega) (by omega) (by omega) (by omega) (by omega) (by omega) (by omega), fun k => d7 _ _ (sne i g1 g2) (by omega) (by omega) (by omega) (by omega) (by omega) (by omega)⟩⟩
    have u : ∀ a i : Int, ¬ (a = 83 ∧ (5 ≤ i ∧ i ≤ 8 ∨ i = 11)) → ¬ (86 ≤ a ∧ a ≤ 99 ∧ a ≠ 98 ∧ i = ρ 83 11) → ¬ (a = 98 ∧ 20 * ρ 83 11 ≤ i) → rx_next (rx_told ρ k) a i = ρ a i := fun a i g1 g2 g3 => by
      rw [rx_next_o _ (by omega)]
      by_cases q : a = 98
      · rw [q, rx_told_98, if_neg (by omega)]
      · exact rx_told_o ρ k (by omega) (by omega)
    have hx2 : xs_R E b F B (fun i => X i ∨ i = ρ 83 11) τ (rx_next (rx_told ρ k)) := by
      refine ⟨hY2, hk2, gs_told hgs, fun i g1 g2 => ?_, fun i g1 g2 g3 g4 => ?_, ?_, ?_⟩
      · rw [m11] at g2
        by_cases q : i = ρ 83 11
        · rw [q, d3, d2.2.2.2.2.2.2.2.2.2.2.2.1]
          exact ⟨by omega, by omega, fun _ => by rw [d3]; exact d2.2.2.2.2.2.2.2.2.2.1⟩
        · obtain ⟨b1, b2⟩ := dn2.2 i g1 (by omega)
          have q2 := hun i g1 (by omega)
          rw [b1, b2]
          exact ⟨q2.1, q2.2.1, u9_of q2.2.2 (u _ _ (by omega) (by omega) (by omega)) (by rw [b1, b2])⟩
      · rw [m11] at g2
        have q : i ≠ ρ 83 11 := fun hh => g3 (Or.inr hh)
        obtain ⟨b1, b2⟩ := dn2.2 i g1 (by omega)
        rw [u _ _ (by omega) (by omega) (by omega)] at g4
        rw [b1, b2]
        exact hBB i g1 (by omega) (fun hh => g3 (Or.inl hh)) g4
      · rw [u _ _ (by omega) (by omega) (by omega)]
        exact h26
      · rw [dn2.1 _ _ (by omega) (by omega) (by omega) (by omega) (by omega)]
        exact hst
    refine ⟨τ, rx_next (rx_told ρ k), s, j2, e2, rt, hR2, hj2, hx2, fr2, dn2, d1, d3, ⟨_, d2⟩, sne, ⟨hm0, hm4⟩, m11, ⟨?_, ?_, ?_, ?_, ?_, ?_, ?_⟩, u, d5⟩
    · rw [rx_next_o _ (by omega), rx_told_86]
    · rw [rx_next_o _ (by omega), rx_told_91]
    · rw [rx_next_o _ (by omega), rx_told_92]
    · rw [rx_next_o _ (by omega), rx_told_93, h26]
    · rw [rx_next_o _ (by omega), rx_told_94]
    · rw [rx_next_o _ (by omega), rx_told_96]
    · rw [rx_next_o _ (by omega), rx_told_87]
  · have e2 := y_tell_T (E := E) (d := d) (k := k) (pp := -1) hb hY1 hR hd (Or.inl ⟨rfl, rfl⟩) q1
    have hin := rx_tf_in ρ (-1)
    have hF := rx_bad1 hok1 (k := rx_tf ρ (-1)) (by omega) (by omega)
    rw [if_neg q1] at rt
    refine Or.inr ⟨_, ?_, rt, hF.1, tf_R_bad _ _ _⟩
    rw [e2, hF.2]
    rfl
end SA
/-- what reading of a name's symbol s is told leaves alone -/
def vp_R (b s : Int) (σ σ' : js_S) : Prop := ∀ a i : Int, ¬ (a = 1 ∧ (i = 1 ∨ i = 2 ∨ i = 3 ∨ i = 5 ∨ i = 11)) → a ≠ 2 → ¬ (a = 21 + b ∧ 0 ≤ i ∧ i ≤ 2) → ¬ (a = s ∧ 2 ≤ i ∧ i ≤ 12) → ¬ (a = 8 + b ∧ i = 9) → σ' a i = σ a i
theorem vp_R_refl (b s : Int) (σ : js_S) : vp_R b s σ σ := fun _ _ _ _ _ _ _ => rfl
theorem vp_R_trans {b s : Int} {σ σ' τ : js_S} (h : vp_R b s σ σ') (h2 : vp_R b s σ' τ) : vp_R b s σ τ := fun a i g1 g2 g3 g4 g5 => (h2 a i g1 g2 g3 g4 g5).trans (h a i g1 g2 g3 g4 g5)
theorem vp_R_lnf {b s : Int} {σ σ' : js_S} (h : lnf_R b s σ σ') : vp_R b s σ σ' := fun a i g1 g2 g3 g4 _ => h a i g1 g2 g3 (by omega)
theorem vp_R_tyf {b s : Int} {σ σ' : js_S} (h : tyf_R b s σ σ') : vp_R b s σ σ' := fun a i g1 g2 g3 g4 _ => h a i (by omega) g2 g3 (by omega)
theorem vp_R_cf {b s : Int} {σ σ' : js_S} (h : cf_R b σ σ') : vp_R b s σ σ' := fun a i g1 g2 g3 _ _ => h a i (by omega) g2 g3
theorem vp_R_tk {b s : Int} {σ σ' : js_S} (h : tk_fr σ σ') : vp_R b s σ σ' := fun a i g1 g2 _ _ _ => h a i (by omega) g2
theorem vp_R_s {b s k v : Int} {σ : js_S} (hk : 2 ≤ k) (hk2 : k ≤ 12) : vp_R b s σ (js_up σ s k v) := fun a i _ _ _ g4 _ => js_up_ne _ (by omega)
theorem fr_R_vp {b m s : Int} {τ σ : js_S} (hb : b = 0 ∨ b = 25) (hm : 0 ≤ m) (hm4 : m < 400) (hs : τ (19 + b) m = s) (h137 : 137 ≤ s) (h : vp_R b s τ σ) : fr_R b τ σ := fr_R_of hb (fun a i g1 g2 g3 g4 => by
  refine h a i (by omega) g2 (by omega) (fun hh => ?_) (by omega)
  rcases g4 m hm hm4 with q | q
  · omega
  · exact q (by rw [hs]; exact hh.1.symm))
theorem H_vp {M b s : Int} {τ σ : js_S} (hb : b = 0 ∨ b = 25) (hH : sy_H M τ b) (hn : cx_n τ) (h : vp_R b s τ σ) (hs : 137 ≤ s) : sy_H M σ b ∧ cx_n σ := by
  have m : ∀ i : Int, σ (-1) i = τ (-1) i := fun i => h _ _ (by omega) (by omega) (by omega) (by omega) (by omega)
  refine ⟨fun i g1 g2 => ?_, ?_⟩
  · rw [h (19 + b) i (by omega) (by omega) (by omega) (by omega) (by omega)]
    rcases hH i g1 g2 with q | ⟨q1, q2⟩
    · exact Or.inl q
    · have ge := js_sym_ge q1
      exact Or.inr ⟨js_desc_mono q1 (by rw [m]; exact Int.le_refl _) (fun _ => h _ _ (by omega) (by omega) (by omega) (by omega) (by omega)), by rw [h (τ (19 + b) i) 0 (by omega) (by omega) (by omega) (by omega) (by omega)]; exact q2⟩
  · unfold cx_n at hn ⊢
    rw [m, m]
    exact hn
/-- symbols stay as they were, but for the one that is told -/
theorem xs_vp {E : js_E} {b F m s : Int} {B : Int → Int} {X : Int → Prop} {τ ρ2 σ' ρ' : js_S} (hb : b = 0 ∨ b = 25) (h : xs_R E b F B X τ ρ2) (hX : X m) (hm : 0 ≤ m ∧ m < ρ2 83 11) (hs : τ (19 + b) m = s) (hp : vp_R b s τ σ') (hq : qf_R m ρ2 ρ') (hY : sy_Y E.1 σ' ρ' b 0 0 X) (h11 : -1 ≤ σ' s 11 ∧ σ' s 11 < 1000) (h9 : σ' s 9 = 0) : xs_R E b F B X σ' ρ' := by
  obtain ⟨hY1, hk1, hgs, hun, hBB, h26, hst⟩ := h
  have e11 : ρ' 83 11 = ρ2 83 11 := hq _ _ (by omega) (by omega)
  have e26 : ρ' 83 26 = ρ2 83 26 := hq _ _ (by omega) (by omega)
  have e19 : ∀ i : Int, σ' (19 + b) i = τ (19 + b) i := fun i => by
    have := js_sym_ge (hY1.2.2.2.2.2.1 m hm.1 hm.2).1
    exact hp _ _ (by omega) (by omega) (by omega) (by omega) (by omega)
  have fld : ∀ i k : Int, 0 ≤ i → i < ρ2 83 11 → i ≠ m → σ' (τ (19 + b) i) k = τ (τ (19 + b) i) k := fun i k g1 g2 g3 => by
    have ge := js_sym_ge (hY1.2.2.2.2.2.1 i g1 g2).1
    have ne := sy_Y_ne hY1 g1 g2 hm.1 hm.2 g3
    rw [hs] at ne
    exact hp _ _ (by omega) (by omega) (by omega) (by omega) (by omega)
  refine ⟨hY, kx_R_qf hk1 hX hq, gs_X hgs hX e11 e26 (fun i => hq _ _ (by omega) (by omega)) (fun a i g1 g2 g3 => hq _ _ (by omega) (by omega)), fun i g1 g2 => ?_, fun i g1 g2 g3 g4 => ?_, by rw [e26]; exact h26, ?_⟩
  · rw [e11] at g2
    rw [e19]
    by_cases q : i = m
    · rw [q, hs]
      exact ⟨h11.1, h11.2, fun _ => by rw [e19, hs]; exact h9⟩
    · have q2 := hun i g1 g2
      rw [fld i 11 g1 g2 q]
      exact ⟨q2.1, q2.2.1, u9_of q2.2.2 (hq _ _ (by omega) (by omega)) (by rw [e19, fld i 9 g1 g2 q])⟩
  · rw [e11] at g2
    have q : i ≠ m := fun hh => g3 (by rw [hh]; exact hX)
    rw [hq _ _ (by omega) (by omega)] at g4
    rw [e19, fld i 9 g1 g2 q]
    exact hBB i g1 g2 g3 g4
  · have := js_sym_ge (hY1.2.2.2.2.2.1 m hm.1 hm.2).1
    rw [hp _ _ (by omega) (by omega) (by omega) (by omega) (by omega)]
    exact hst
/-- place -/
def pc_S (σ : js_S) (b s : Int) : js_S := js_up (js_up (js_up (js_up σ s 7 (σ (22 + b) 0)) s 11 (σ (8 + b) 8)) s 5 (σ (8 + b) 9)) (8 + b) 9 (σ (8 + b) 9 + σ s 6)
theorem pc_o {σ : js_S} {b s a i : Int} (h1 : ¬ (a = s ∧ (i = 5 ∨ i = 7 ∨ i = 11))) (h2 : ¬ (a = 8 + b ∧ i = 9)) : pc_S σ b s a i = σ a i := by
  unfold pc_S
  rw [js_up_ne _ h2, js_up_ne _ (by omega), js_up_ne _ (by omega), js_up_ne _ (by omega)]
theorem pc_9 {σ : js_S} {b s : Int} : pc_S σ b s (8 + b) 9 = σ (8 + b) 9 + σ s 6 := js_up_same _ _ _ _
theorem pc_5 {σ : js_S} {b s : Int} (h : s ≠ 8 + b) : pc_S σ b s s 5 = σ (8 + b) 9 := by
  unfold pc_S
  rw [js_up_ne _ (by omega), js_up_same]
theorem pc_11 {σ : js_S} {b s : Int} (h : s ≠ 8 + b) : pc_S σ b s s 11 = σ (8 + b) 8 := by
  unfold pc_S
  rw [js_up_ne _ (by omega), js_up_ne _ (by omega), js_up_same]
theorem pc_7 {σ : js_S} {b s : Int} (h : s ≠ 8 + b) : pc_S σ b s s 7 = σ (22 + b) 0 := by
  unfold pc_S
  rw [js_up_ne _ (by omega), js_up_ne _ (by omega), js_up_ne _ (by omega), js_up_same]
theorem vp_R_pc {b s : Int} {σ : js_S} : vp_R b s σ (pc_S σ b s) := fun a i _ _ _ g4 g5 => pc_o (by omega) g5
theorem pc_54 {E : js_E} {d : Nat} {σ : js_S} {b s : Int} (hb : b = 0 ∨ b = 25) (hs : js_desc E.1 σ s = some (0, 11, js_sym)) : js_J E d 54 0 [(2, 22 + b), (2, s)] [] σ = js_r0 E (pc_S σ b s) := b_54_0 hb hs
theorem sy_Y_pc {M : Int} {σ ρ : js_S} {b p q : Int} {X : Int → Prop} {n s : Int} (hb : b = 0 ∨ b = 25) (h : sy_Y M σ ρ b p q X) (hX : X n) (hs : js_desc M σ s = some (0, 11, js_sym)) (h0 : σ s 0 = n) : sy_Y M (pc_S σ b s) ρ b p q X := by
  have ge := js_sym_ge hs
  have a1 := sy_Y_set (k := 7) (v := σ (22 + b) 0) hb h hX hs h0 (by decide) (by decide)
  have s1 : js_desc M (js_up σ s 7 (σ (22 + b) 0)) s = some (0, 11, js_sym) := js_desc_mono hs (by rw [js_up_ne _ (by omega)]; exact Int.le_refl _) (fun _ => js_up_ne _ (by omega))
  have a2 := sy_Y_set (k := 11) (v := σ (8 + b) 8) hb a1 hX s1 (by rw [js_up_ne _ (by omega)]; exact h0) (by decide) (by decide)
  have s2 : js_desc M (js_up (js_up σ s 7 (σ (22 + b) 0)) s 11 (σ (8 + b) 8)) s = some (0, 11, js_sym) := js_desc_mono hs (by rw [js_up_ne _ (by omega), js_up_ne _ (by omega)]; exact Int.le_refl _) (fun _ => by rw [js_up_ne _ (by omega), js_up_ne _ (by omega)])
  have a3 := sy_Y_set (k := 5) (v := σ (8 + b) 9) hb a2 hX s2 (by rw [js_up_ne _ (by omega), js_up_ne _ (by omega)]; exact h0) (by decide) (by decide)
  exact sy_Y_of a3 (fun a i hh => js_up_ne _ (by omega)) rfl (fun _ _ _ _ => rfl)
