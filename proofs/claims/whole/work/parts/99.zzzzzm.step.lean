/-! part 99.zzzzzm: one STEP, by both -/
/-- a CYCLE goes on in Run r as in the reference -/
def rn_R (Fu : Int → Int → Int → Prop) (ac zc N r : Int) (σ ρ : js_S) : Prop := (σ (58 + r) 0 = ρ 83 77 ∧ (ρ 83 77 = 1 ∨ ρ 83 77 = 2)) ∧ (σ (58 + r) 1 = ρ 83 79 ∧ ρ 83 79 = σ (58 + r) 3 + ρ 83 80 ∧ (0 ≤ σ (58 + r) 3 ∧ σ (58 + r) 3 ≤ 100000) ∧ (0 ≤ ρ 83 80 ∧ ρ 83 80 < ρ 83 51) ∧ (ρ 83 77 = 1 → σ (58 + r) 3 = 0)) ∧ (cq_R N (59 + r) 0 σ ρ ∧ cq_R N (62 + r) 1 σ ρ) ∧ md_R Fu ac zc (56 + r + 3 * ρ 83 77) (ρ 83 77 - 1) (ρ 83 78) σ ρ
/-- what a STEP leaves alone -/
def sc_F (r : Int) (σ σ' : js_S) : Prop := ∀ a i : Int, ¬ (58 + r ≤ a ∧ a ≤ 64 + r) → σ' a i = σ a i
def sr_F (ρ ρ' : js_S) : Prop := ∀ a i : Int, ¬ (a = 83 ∧ 77 ≤ i ∧ i ≤ 80) → ¬ (120 ≤ a ∧ a ≤ 124) → ρ' a i = ρ a i
theorem wc_of {Fu : Int → Int → Int → Prop} {ac zc N : Int} {ρ ρ' : js_S} (h : wc_P Fu ac zc N ρ) (h1 : ∀ a i : Int, 111 ≤ a → a ≤ 113 → ρ' a i = ρ a i) (h2 : ρ' 83 49 = ρ 83 49) : wc_P Fu ac zc N ρ' := by
  have e : ∀ a z l p : Int, wm_P Fu N ρ a z l p → wm_P Fu N ρ' a z l p := fun a z l p g => by
    unfold wm_P at g ⊢
    rw [h1 111 p (by decide) (by decide), h1 112 p (by decide) (by decide), h1 113 p (by decide) (by decide)]
    exact g
  refine ⟨fun a z l hf p p1 p2 => ?_, fun p p1 p2 => ?_⟩
  · rw [h2]
    exact ⟨(h.1 a z l hf p p1 p2).1, e _ _ _ _ (h.1 a z l hf p p1 p2).2⟩
  · rw [h2]
    exact ⟨(h.2 p p1 p2).1, e _ _ _ _ (h.2 p p1 p2).2⟩
/-- the reference's state when a CYCLE is through -/
def th_S (ρ : js_S) : js_S := js_up (js_up (js_up (js_up (js_up (js_up ρ 83 77 0) 83 79 0) 83 80 0) 83 85 0) 124 0 0) 124 1 0
theorem th_o {ρ : js_S} {a i : Int} (h : ¬ (a = 83 ∧ (i = 77 ∨ i = 79 ∨ i = 80 ∨ i = 85))) (h2 : ¬ (a = 124 ∧ (i = 0 ∨ i = 1))) : th_S ρ a i = ρ a i := by
  unfold th_S
  rw [js_up_ne _ (by omega), js_up_ne _ (by omega), js_up_ne _ (by omega), js_up_ne _ (by omega), js_up_ne _ (by omega), js_up_ne _ (by omega)]
section YS
variable {E : js_E} {d e : Nat} {Fu : Int → Int → Int → Prop} {ac zc b r N : Int} {T : Nat} {σ ρ : js_S}
theorem r_latch {k : Int} (he : 1 ≤ e) : js_J E e 273 0 [(2, 83), (0, k)] [] ρ = js_r0 E (th_S (js_up ρ 83 81 k)) := by
  rw [b_273_0, k_273_6 he b_274_0, b_273_9]
  rfl
/-- how a STEP ends -/
def ys_R (E : js_E) (e : Nat) (Fu : Int → Int → Int → Prop) (ac zc N r : Int) (ρ σ' ρ' : js_S) : Prop := (js_J E e 268 11 [(2, 83), (0, ρ 83 77 - 1), (9, 0)] [] ρ = js_r0 E ρ' ∧ ρ' 83 79 = ρ 83 79 + 1 ∧ rn_R Fu ac zc N r σ' ρ') ∨ ((σ' (58 + r) 0 = 0 ∧ σ' (58 + r) 1 = 0 ∧ cq_R N (59 + r) 0 σ' ρ' ∧ cq_R N (62 + r) 1 σ' ρ') ∧ ((∃ k : Int, (k = 1 ∨ k = 2) ∧ σ' (58 + r) 2 = k ∧ js_J E e 268 11 [(2, 83), (0, ρ 83 77 - 1), (9, 0)] [] ρ = js_r0 E (th_S (js_up ρ' 83 81 k))) ∨ ∃ p z : Int, (z = 0 ∨ z = 1) ∧ σ' (58 + r) 2 = (if z = 0 then 3 else 4) ∧ js_J E (e - 2) 276 0 [(2, 83), (9, 0), (9, 0), (9, 0), (9, 0)] [] ρ' = js_r E (0, z) ρ' ∧ js_J E e 268 11 [(2, 83), (0, ρ 83 77 - 1), (9, 0)] [] ρ = js_J E e 268 119 [(2, 83), (0, 1), (0, p)] [(2, 83)] ρ'))
theorem pr_fr {σ' ρ' : js_S} (hr : r = 0 ∨ r = 7 ∨ r = 14) (hb : b = 0 ∨ b = 25) (hp : pr_R E b T N σ ρ) (h1 : sc_F r σ σ') (h2 : sr_F ρ ρ') : pr_R E b T N σ' ρ' := by
  obtain ⟨⟨⟨a1, a2, a3⟩, a4, a5, a6⟩, ⟨⟨b1, b2, b3⟩, b4, ⟨b5, b6, b7⟩, b8, b9⟩, c1, c2, c3, c4⟩ := hp
  have x : ∀ i : Int, ¬ (77 ≤ i ∧ i ≤ 80) → ρ' 83 i = ρ 83 i := fun i g => h2 83 i (by omega) (by omega)
  have y : ∀ a i : Int, 84 ≤ a → a ≤ 119 → ρ' a i = ρ a i := fun a i g1 g2 => h2 a i (by omega) (by omega)
  have s : ∀ a i : Int, a < 58 → σ' a i = σ a i := fun a i g => h1 a i (by omega)
  have u : ∀ a i : Int, 137 ≤ a → σ' a i = σ a i := fun a i g => h1 a i (by omega)
  refine ⟨⟨⟨a1, by rw [x _ (by decide)]; exact a2, by rw [s _ _ (by omega)]; exact a3⟩, a4, by rw [x _ (by decide)]; exact a5, by rw [s _ _ (by omega)]; exact a6⟩, ⟨⟨by rw [x _ (by decide)]; exact b1, by rw [x _ (by decide)]; exact b2, by rw [x _ (by decide), s _ _ (by omega)]; exact b3⟩, by rw [x _ (by decide), s _ _ (by omega)]; exact b4, ⟨by rw [x _ (by decide)]; exact b5, by rw [x _ (by decide)]; exact b6, by rw [x _ (by decide), s _ _ (by omega)]; exact b7⟩, by rw [x _ (by decide), s _ _ (by omega)]; exact b8, by rw [x _ (by decide), s _ _ (by omega)]; exact b9⟩, fun i i1 i2 => ?_, fun p p1 p2 => ?_, fun i i1 i2 => ?_, fun i i1 i2 => ?_⟩
  · obtain ⟨⟨d1, d2⟩, d3, d4, d5, d6⟩ := c1 i i1 i2
    have g := js_sym_ge d1
    have k := s (19 + b) i (by omega)
    unfold sp_P
    rw [k, u _ _ g, u _ _ g, u _ _ g, u _ _ g, u _ _ g, u _ _ g, u _ _ g, u _ _ g, u _ _ g, u _ _ g, u _ _ g, y 86 _ (by decide) (by decide), y 87 _ (by decide) (by decide), y 88 _ (by decide) (by decide), y 89 _ (by decide) (by decide), y 90 _ (by decide) (by decide), y 91 _ (by decide) (by decide), y 92 _ (by decide) (by decide), y 93 _ (by decide) (by decide), y 94 _ (by decide) (by decide), y 95 _ (by decide) (by decide), y 97 _ (by decide) (by decide)]
    refine ⟨⟨js_desc_mono d1 (by rw [s _ _ (by omega)]; exact Int.le_refl _) (fun _ => u _ _ g), d2⟩, d3, d4, d5, fun k k1 k2 => ?_⟩
    rw [s _ _ (by omega), y 98 _ (by decide) (by decide)]
    exact d6 k k1 k2
  · rw [x _ (by decide)] at p2
    have a := c2 p p1 p2
    unfold ce_P at a ⊢
    rw [s _ _ (by omega), s _ _ (by omega), s _ _ (by omega), s _ _ (by omega), s _ _ (by omega), y 111 _ (by decide) (by decide), y 112 _ (by decide) (by decide), y 113 _ (by decide) (by decide), y 114 _ (by decide) (by decide), y 115 _ (by decide) (by decide)]
    exact a
  · rw [y 86 _ (by decide) (by decide)]
    exact c3 i i1 i2
  · rw [y 86 _ (by decide) (by decide), y 88 _ (by decide) (by decide), y 89 _ (by decide) (by decide), y 90 _ (by decide) (by decide), y 91 _ (by decide) (by decide), y 94 _ (by decide) (by decide)]
    exact c4 i i1 i2
/-- the running copy's INSTRUCTION, the other copy beside it -/
theorem rn_i {x0 o c : Int} (hb : b = 0 ∨ b = 25) (hr : r = 0 ∨ r = 7 ∨ r = 14) (hx : c = 0 ∧ x0 = 59 + r ∧ o = 1 ∨ c = 1 ∧ x0 = 62 + r ∧ o = 58659) (hp : pr_R E b T N σ ρ) (hw : wc_P Fu ac zc N ρ) (h1 : cq_R N (59 + r) 0 σ ρ) (h2 : cq_R N (62 + r) 1 σ ρ) (hm : md_R Fu ac zc x0 c (ρ 83 78) σ ρ) (hd : 20 ≤ d) (he : 20 ≤ e) {x y : Int} : ∃ (p : Int) (σ1 ρ1 ρ2 : js_S) (v u : Int), p = ρ 83 78 ∧ ((0 ≤ p ∧ p < 8192) ∧ ρ1 = js_up (js_up (js_up ρ 83 78 (p + 1)) 83 79 x) 83 80 y) ∧ js_J E d 147 0 [(2, x0), (2, 8 + b), (9, 0), (9, 0), (9, 0)] [] σ = js_r E (0, v) σ1 ∧ js_J E e 270 0 [(2, 83), (0, c), (0, ρ 111 p), (0, ρ 112 p), (0, ρ 113 p), (9, 0), (9, 0), (9, 0), (9, 0), (9, 0), (9, 0), (9, 0), (9, 0)] [] ρ1 = js_r E (0, u) ρ2 ∧ (∀ a i : Int, ¬ (59 + r ≤ a ∧ a ≤ 64 + r) → σ1 a i = σ a i) ∧ (∀ a i : Int, ¬ (a = 83 ∧ 78 ≤ i ∧ i ≤ 80) → ¬ (120 ≤ a ∧ a ≤ 124) → ρ2 a i = ρ a i) ∧ (ρ2 83 79 = x ∧ ρ2 83 80 = y) ∧ (cq_R N (59 + r) 0 σ1 ρ2 ∧ cq_R N (62 + r) 1 σ1 ρ2) ∧ (v = 2 ∧ u = 0 ∨ v = 1 ∧ u = 1 ∧ ρ 111 p = 29 ∨ v = 0 ∧ u = 1 ∧ ρ 111 p ≠ 29 ∧ md_R Fu ac zc x0 c (ρ2 83 78) σ1 ρ2) := by
  have hN := hp.1.2.1
  have hce := hp.2.2.2.1
  obtain ⟨m1, m2, m3, n, l, m4, m5⟩ := hm
  obtain ⟨_, _, _, ⟨hp0, _⟩, _⟩ := ms_un hw n _ l m5
  have h49 := hp.2.1.1
  have o1 : ∀ a i : Int, ¬ (a = 83 ∧ 78 ≤ i ∧ i ≤ 80) → js_up (js_up (js_up ρ 83 78 (ρ 83 78 + 1)) 83 79 x) 83 80 y a i = ρ a i := fun a i g => by rw [js_up_ne _ (by omega), js_up_ne _ (by omega), js_up_ne _ (by omega)]
  have a8 : js_up (js_up (js_up ρ 83 78 (ρ 83 78 + 1)) 83 79 x) 83 80 y 83 78 = ρ 83 78 + 1 := by rw [js_up_ni _ (by decide), js_up_ni _ (by decide), js_up_same]
  have a9 : js_up (js_up (js_up ρ 83 78 (ρ 83 78 + 1)) 83 79 x) 83 80 y 83 79 = x := by rw [js_up_ni _ (by decide), js_up_same]
  have a0 : js_up (js_up (js_up ρ 83 78 (ρ 83 78 + 1)) 83 79 x) 83 80 y 83 80 = y := js_up_same _ _ _ _
  generalize hρ : js_up (js_up (js_up ρ 83 78 (ρ 83 78 + 1)) 83 79 x) 83 80 y = ρ1 at o1 a8 a9 a0
  have q : ∀ a i : Int, a ≠ 83 → ρ1 a i = ρ a i := fun a i g => o1 a i (by omega)
  have hq : ∀ x' c', cq_R N x' c' σ ρ → cq_R N x' c' σ ρ1 := fun x' c' g => ⟨by rw [q _ _ (by decide)]; exact g.1, by rw [q _ _ (by decide)]; exact g.2.1, fun k k1 k2 => by rw [q _ _ (by decide)]; exact g.2.2 k k1 k2⟩
  have hm1 : md_R Fu ac zc x0 c (ρ 83 78) σ ρ1 := ⟨m1, by rw [q _ _ (by decide)]; exact m2, fun k k1 k2 => by
    rw [q _ _ (by decide)] at k2 ⊢
    exact m3 k k1 k2, n, l, by rw [q _ _ (by decide)]; exact m4, ms_bk n _ _ (fun k _ _ => q _ _ (by decide)) m5⟩
  have hce1 : ce_P b σ ρ1 (ρ 83 78) := by
    have a := hce _ hp0.1 hp0.2
    unfold ce_P at a ⊢
    rw [q _ _ (by decide), q _ _ (by decide), q _ _ (by decide), q _ _ (by decide), q _ _ (by decide)]
    exact a
  have hw1 : wc_P Fu ac zc N ρ1 := wc_of hw (fun a i g1 g2 => q a i (by omega)) (o1 _ _ (by omega))
  have h61 : σ (8 + b) 6 = ρ1 83 49 := by rw [o1 _ _ (by omega)]; exact h49.2.2
  have h491 : ρ1 83 49 ≤ 8192 := by rw [o1 _ _ (by omega)]; exact h49.2.1
  have big : js_isC E.1 x0 o ∧ (c = 0 ∧ o = 1 ∨ c = 1 ∧ o = 58659) ∧ (59 ≤ x0 ∧ x0 ≤ 76) ∧ cq_R N x0 c σ ρ1 := by
    rcases hx with ⟨c1, c2, c3⟩ | ⟨c1, c2, c3⟩
    · rw [c1, c2, c3]
      exact ⟨js_c1 hr, Or.inl ⟨rfl, rfl⟩, by omega, hq _ _ h1⟩
    · rw [c1, c2, c3]
      exact ⟨js_c2 hr, Or.inr ⟨rfl, rfl⟩, by omega, hq _ _ h2⟩
  obtain ⟨hC, hco, hx0, hq0⟩ := big
  obtain ⟨σ1, ρ2, v, u, e1, e2, f1, f2, f3, f4⟩ := y_inst (E := E) (d := d) (e := e) hb hx0 hC hco hN hd he hw1 hce1 h61 h491 hq0 hm1 a8
  rw [q _ _ (by decide), q _ _ (by decide), q _ _ (by decide)] at e2
  rw [q _ _ (by decide)] at f4
  refine ⟨ρ 83 78, σ1, ρ1, ρ2, v, u, rfl, ⟨⟨hp0.1, by omega⟩, hρ.symm⟩, e1, e2, fun a i g => ?_, fun a i g1 g2 => ?_, ⟨?_, ?_⟩, ?_, f4⟩
  · rcases hx with ⟨_, c2, _⟩ | ⟨_, c2, _⟩
    · exact f1 a i (by omega) (by omega) (by omega)
    · exact f1 a i (by omega) (by omega) (by omega)
  · rw [f2 a i (by omega) (by omega) (by omega) (by omega)]
    exact o1 a i g1
  · rw [f2 _ _ (by omega) (by omega) (by omega) (by omega)]
    exact a9
  · rw [f2 _ _ (by omega) (by omega) (by omega) (by omega)]
    exact a0
  · rcases hx with ⟨c1, c2, _⟩ | ⟨c1, c2, _⟩
    · subst c1 c2
      have g := hq _ _ h2
      refine ⟨f3, ?_, ?_, fun k k1 k2 => ?_⟩
      · rw [f1 _ _ (by omega) (by omega) (by omega), f2 _ _ (by omega) (by omega) (by omega) (by omega)]
        exact g.1
      · rw [f1 _ _ (by omega) (by omega) (by omega), f2 _ _ (by omega) (by omega) (by omega) (by omega)]
        exact g.2.1
      · rw [f1 _ _ (by omega) (by omega) (by omega), f2 _ _ (by omega) (by omega) (by omega) (by omega)]
        exact g.2.2 k k1 k2
    · subst c1 c2
      have g := hq _ _ h1
      refine ⟨⟨?_, ?_, fun k k1 k2 => ?_⟩, f3⟩
      · rw [f1 _ _ (by omega) (by omega) (by omega), f2 _ _ (by omega) (by omega) (by omega) (by omega)]
        exact g.1
      · rw [f1 _ _ (by omega) (by omega) (by omega), f2 _ _ (by omega) (by omega) (by omega) (by omega)]
        exact g.2.1
      · rw [f1 _ _ (by omega) (by omega) (by omega), f2 _ _ (by omega) (by omega) (by omega) (by omega)]
        exact g.2.2 k k1 k2
end YS
