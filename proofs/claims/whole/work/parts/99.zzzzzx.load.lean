/-! part 99.zzzzzx: the class's machine as new -/
section LX
variable {E : js_E} {d : Nat} {b r N : Int} {T : Nat} {σ ρ σ0 : js_S}
theorem c_clr1 {x0 o : Int} (hC : js_isC E.1 x0 o) (hE : 0 ≤ E.1 ∧ E.1 < 2147483648) {M : Nat} (hM : (M : Int) ≤ E.1) : ∀ (g k : Nat) (σ : js_S), g + k = M → (∀ a i : Int, ¬ (a = x0 + 2 ∧ 0 ≤ i ∧ i < M) → σ a i = σ0 a i) → (∀ i : Int, 0 ≤ i → i < k → σ (x0 + 2) i = 0) → ∃ σ' : js_S, js_J E d 119 12 [(2, x0), (0, M), (0, k)] [] σ = js_r0 E σ' ∧ (∀ a i : Int, ¬ (a = x0 + 2 ∧ 0 ≤ i ∧ i < M) → σ' a i = σ0 a i) ∧ ∀ i : Int, 0 ≤ i → i < M → σ' (x0 + 2) i = 0 := by
  intro g
  induction g with
  | zero =>
    intro k σ hg hf h
    have hk : k = M := by omega
    subst hk
    refine ⟨σ, ?_, hf, h⟩
    rw [b_119_12 hC hE.1, if_neg (show ¬ js_w (k : Int) < js_w (k : Int) by omega)]
  | succ g ih =>
    intro k σ hg hf h
    have wk : js_w (k : Int) = k := js_w_of (by omega) (by omega)
    have wM : js_w (M : Int) = M := js_w_of (by omega) (by omega)
    have wE : js_w E.1 = E.1 := js_w_of (by omega) (by omega)
    obtain ⟨σ', e, h2⟩ := ih (k + 1) (js_up σ (x0 + 2) k 0) (by omega) (fun a i q => by rw [js_up_ne _ (by omega), hf a i q]) (fun i i1 i2 => by
      by_cases q : i = k
      · rw [q, js_up_same]
      · rw [js_up_ni _ q]
        exact h i i1 (by push_cast at i2; omega))
    exact ⟨σ', by rw [b_119_12 hC hE.1, wk, wM, wE, if_pos (show (k : Int) < M by omega), if_pos (show (k : Int) < E.1 by omega), if_pos (show 0 ≤ (k : Int) ∧ (k : Int) < E.1 by omega), show (k : Int) + 1 = ((k + 1 : Nat) : Int) by push_cast; rfl, e], h2⟩
theorem c_clear {x0 o : Int} (hC : js_isC E.1 x0 o) (hE : 0 ≤ E.1 ∧ E.1 < 2147483648) (hN : 0 ≤ N ∧ N ≤ E.1) : ∃ σ' : js_S, js_J E d 119 0 [(2, x0), (0, N), (9, 0)] [] σ = js_r0 E σ' ∧ (∀ a i : Int, ¬ (a = x0 + 2 ∧ 0 ≤ i ∧ i < N) → ¬ (a = x0 ∧ (i = 0 ∨ i = 1)) → σ' a i = σ a i) ∧ (σ' x0 0 = 0 ∧ σ' x0 1 = 0) ∧ ∀ i : Int, 0 ≤ i → i < N → σ' (x0 + 2) i = 0 := by
  have z0 : ∀ a i : Int, ¬ (a = x0 ∧ (i = 0 ∨ i = 1)) → js_up (js_up σ x0 0 0) x0 1 0 a i = σ a i := fun a i g => by rw [js_up_ne _ (by omega), js_up_ne _ (by omega)]
  have z1 : js_up (js_up σ x0 0 0) x0 1 0 x0 0 = 0 := by rw [js_up_ni _ (by decide), js_up_same]
  have z2 : js_up (js_up σ x0 0 0) x0 1 0 x0 1 = 0 := js_up_same _ _ _ _
  have e0 : js_J E d 119 0 [(2, x0), (0, N), (9, 0)] [] σ = js_J E d 119 12 [(2, x0), (0, N), (0, 0)] [] (js_up (js_up σ x0 0 0) x0 1 0) := b_119_0 hC
  generalize js_up (js_up σ x0 0 0) x0 1 0 = σ1 at z0 z1 z2 e0
  have cN : ((N.toNat : Nat) : Int) = N := by omega
  obtain ⟨σ', e, f1, f2⟩ := c_clr1 (E := E) (d := d) (σ0 := σ1) hC hE (M := N.toNat) (by omega) N.toNat 0 σ1 (by omega) (fun _ _ _ => rfl) (fun i i1 i2 => by omega)
  rw [cN] at e f1 f2
  have e' : js_J E d 119 12 [(2, x0), (0, N), (0, 0)] [] σ1 = js_r0 E σ' := e
  exact ⟨σ', by rw [e0, e'], fun a i g1 g2 => by rw [f1 a i g1, z0 a i g2], ⟨by rw [f1 _ _ (by omega)]; exact z1, by rw [f1 _ _ (by omega)]; exact z2⟩, f2⟩
/-- Run r cleared -/
def rc_R (r N : Int) (σ σ' : js_S) : Prop := (∀ a i : Int, ¬ (58 + r ≤ a ∧ a ≤ 64 + r) → σ' a i = σ a i) ∧ (σ' (58 + r) 0 = 0 ∧ σ' (58 + r) 1 = 0) ∧ (σ' (59 + r) 0 = 0 ∧ σ' (59 + r) 1 = 0 ∧ σ' (62 + r) 0 = 0 ∧ σ' (62 + r) 1 = 0) ∧ ∀ i : Int, 0 ≤ i → i < N → σ' (61 + r) i = 0 ∧ σ' (64 + r) i = 0
theorem c_rclear (hr : r = 0 ∨ r = 7 ∨ r = 14) (hE : 0 ≤ E.1 ∧ E.1 < 2147483648) (hN : 0 ≤ N ∧ N ≤ E.1) (hd : 2 ≤ d) : ∃ σ' : js_S, js_J E d 118 0 [(2, 58 + r), (0, N)] [] σ = js_r0 E σ' ∧ rc_R r N σ σ' := by
  have z0 : ∀ a i : Int, a ≠ 58 + r → js_up (js_up (js_up (js_up σ (58 + r) 0 0) (58 + r) 1 0) (58 + r) 3 0) (58 + r) 2 0 a i = σ a i := fun a i g => by rw [js_up_na _ g, js_up_na _ g, js_up_na _ g, js_up_na _ g]
  have z1 : js_up (js_up (js_up (js_up σ (58 + r) 0 0) (58 + r) 1 0) (58 + r) 3 0) (58 + r) 2 0 (58 + r) 0 = 0 := by rw [js_up_ni _ (by decide), js_up_ni _ (by decide), js_up_ni _ (by decide), js_up_same]
  have z2 : js_up (js_up (js_up (js_up σ (58 + r) 0 0) (58 + r) 1 0) (58 + r) 3 0) (58 + r) 2 0 (58 + r) 1 = 0 := by rw [js_up_ni _ (by decide), js_up_ni _ (by decide), js_up_same]
  have e0 : js_J E d 118 0 [(2, 58 + r), (0, N)] [] σ = js_J E d 118 25 [(2, 58 + r), (0, N)] [(0, N), (2, 59 + r)] (js_up (js_up (js_up (js_up σ (58 + r) 0 0) (58 + r) 1 0) (58 + r) 3 0) (58 + r) 2 0) := b_118_0 hr
  generalize js_up (js_up (js_up (js_up σ (58 + r) 0 0) (58 + r) 1 0) (58 + r) 3 0) (58 + r) 2 0 = σ1 at z0 z1 z2 e0
  obtain ⟨σ2, e2, f2, ⟨a2, b2⟩, c2⟩ := c_clear (E := E) (d := d - 1) (σ := σ1) (js_c1 hr) hE hN
  obtain ⟨σ3, e3, f3, ⟨a3, b3⟩, c3⟩ := c_clear (E := E) (d := d - 1) (σ := σ2) (js_c2 hr) hE hN
  refine ⟨σ3, by rw [e0, k_118_25 hr (by omega) e2, b_118_28 hr, k_118_33 hr (by omega) e3, b_118_36], fun a i g => by rw [f3 a i (by omega) (by omega), f2 a i (by omega) (by omega), z0 a i (by omega)], ⟨by rw [f3 _ _ (by omega) (by omega), f2 _ _ (by omega) (by omega)]; exact z1, by rw [f3 _ _ (by omega) (by omega), f2 _ _ (by omega) (by omega)]; exact z2⟩, ⟨by rw [f3 _ _ (by omega) (by omega)]; exact a2, by rw [f3 _ _ (by omega) (by omega)]; exact b2, a3, b3⟩, fun i i1 i2 => ⟨?_, ?_⟩⟩
  · have a := c2 i i1 i2
    rw [show 59 + r + 2 = 61 + r by omega] at a
    rw [f3 _ _ (by omega) (by omega)]
    exact a
  · have a := c3 i i1 i2
    rw [show 62 + r + 2 = 64 + r by omega] at a
    exact a
/-- the CELLs by the SYMBOLs below k -/
def rs_I (N : Int) (ρ : js_S) (k : Nat) (σ0 σ : js_S) : Prop := (∀ a i : Int, a ≠ 61 → a ≠ 64 → σ a i = σ0 a i) ∧ ∀ i : Int, 0 ≤ i → i < N → σ 61 i = cv_k ρ i k * 1 ∧ σ 64 i = cv_k ρ i k * 58659
theorem rs_in (hb : b = 0 ∨ b = 25) (hp : pr_R E b T N σ0 ρ) (hd : 6 ≤ d) {k : Nat} (hk : k < T) (h23 : ρ 86 k = 2 ∨ ρ 86 k = 3) {L : Nat} (hL : ρ 91 k = L) : ∀ (g i : Nat) (σ : js_S), g + i = L → (∀ a i : Int, a ≠ 61 → a ≠ 64 → σ a i = σ0 a i) → (∀ j : Int, 0 ≤ j → j < N → σ 61 j = (if ρ 90 k ≤ j ∧ j < ρ 90 k + i then ρ 94 k else cv_k ρ j k) * 1 ∧ σ 64 j = (if ρ 90 k ≤ j ∧ j < ρ 90 k + i then ρ 94 k else cv_k ρ j k) * 58659) → ∃ σ' : js_S, js_J E d 117 61 [(2, 56), (0, k), (2, σ0 (19 + b) k), (0, ρ 90 k + i)] [] σ = js_J E d 117 92 [(2, 56), (0, k), (2, σ0 (19 + b) k), (0, ρ 90 k + L)] [] σ' ∧ rs_I N ρ (k + 1) σ0 σ' := by
  have hN := hp.1.2.1
  have hpt := hp.2.2.2.2.2 k (by omega) (by omega) (by omega)
  obtain ⟨⟨s0, _⟩, ⟨_, _, _, _, s5, s6⟩, ⟨_, s8, _⟩, _⟩ := hp.2.2.1 k (by omega) (by omega)
  have hge := js_sym_ge s0
  rw [hL] at s6
  intro g
  induction g with
  | zero =>
    intro i σ hgi hf h
    have hiL : i = L := by omega
    subst hiL
    have t0 : js_desc E.1 σ (σ0 (19 + b) k) = some (0, 11, js_sym) := js_desc_mono s0 (by rw [hf _ _ (by omega) (by omega)]; exact Int.le_refl _) (fun _ => hf _ _ (by omega) (by omega))
    refine ⟨σ, ?_, hf, fun j j1 j2 => ?_⟩
    · rw [b_117_61 t0, hf _ _ (by omega) (by omega), hf _ _ (by omega) (by omega), s5, s6, if_neg (show ¬ js_w (ρ 90 k + (i : Int)) < js_w (ρ 90 k + (i : Int)) by omega)]
    · have e : cv_k ρ j (k + 1) = if (ρ 86 k = 2 ∨ ρ 86 k = 3) ∧ ρ 90 k ≤ j ∧ j < ρ 90 k + ρ 91 k then ρ 94 k else cv_k ρ j k := rfl
      have a := h j j1 j2
      rw [e, hL]
      by_cases q : ρ 90 k ≤ j ∧ j < ρ 90 k + (i : Int)
      · rw [if_pos q] at a
        rw [if_pos ⟨h23, q⟩]
        exact a
      · rw [if_neg q] at a
        rw [if_neg (fun hh => q hh.2)]
        exact a
  | succ g ih =>
    intro i σ hgi hf h
    have t0 : js_desc E.1 σ (σ0 (19 + b) k) = some (0, 11, js_sym) := js_desc_mono s0 (by rw [hf _ _ (by omega) (by omega)]; exact Int.le_refl _) (fun _ => hf _ _ (by omega) (by omega))
    have wa : js_w (ρ 90 k + (i : Int)) = ρ 90 k + i := js_w_of (by omega) (by omega)
    have wL : js_w (ρ 90 k + (L : Int)) = ρ 90 k + L := js_w_of (by omega) (by omega)
    have wv : js_w (ρ 94 k) = ρ 94 k := js_w_of (by omega) (by omega)
    have hold := c_hold (E := E) (d := d - 1) (σ := σ) (x1 := ρ 90 k + i) (x2 := ρ 94 k) (r := 0) (Or.inl rfl) ⟨by omega, by omega⟩ ⟨by omega, by omega⟩ wa (by omega)
    simp only [Int.add_zero] at hold
    rw [wv] at hold
    have ec : js_J E d 117 61 [(2, 56), (0, k), (2, σ0 (19 + b) k), (0, ρ 90 k + i)] [] σ = js_J E d 117 61 [(2, 56), (0, k), (2, σ0 (19 + b) k), (0, ρ 90 k + i + 1)] [] (js_up (js_up σ 61 (ρ 90 k + i) (ρ 94 k * 1)) 64 (ρ 90 k + i) (ρ 94 k * 58659)) := by
      rw [b_117_61 t0, hf _ _ (by omega) (by omega), hf _ _ (by omega) (by omega), s5, s6, wa, wL, if_pos (show ρ 90 k + (i : Int) < ρ 90 k + (L : Int) by omega), hf _ _ (by omega) (by omega), s8, k_117_83 (by omega) hold, b_117_86]
    obtain ⟨σ', f1, f2⟩ := ih (i + 1) (js_up (js_up σ 61 (ρ 90 k + i) (ρ 94 k * 1)) 64 (ρ 90 k + i) (ρ 94 k * 58659)) (by omega) (fun a j q1 q2 => by rw [js_up_na _ q2, js_up_na _ q1, hf a j q1 q2]) (fun j j1 j2 => by
      have a := h j j1 j2
      by_cases q : j = ρ 90 k + i
      · rw [if_pos (show ρ 90 k ≤ j ∧ j < ρ 90 k + ((i + 1 : Nat) : Int) by push_cast; omega), js_up_na _ (by decide), q, js_up_same, js_up_same]
        exact ⟨rfl, rfl⟩
      · rw [js_up_na _ (by decide), js_up_ni _ q, js_up_ni _ q, js_up_na _ (by decide)]
        by_cases q2 : ρ 90 k ≤ j ∧ j < ρ 90 k + (i : Int)
        · rw [if_pos q2] at a
          rw [if_pos (show ρ 90 k ≤ j ∧ j < ρ 90 k + ((i + 1 : Nat) : Int) by push_cast; omega)]
          exact a
        · rw [if_neg q2] at a
          rw [if_neg (show ¬ (ρ 90 k ≤ j ∧ j < ρ 90 k + ((i + 1 : Nat) : Int)) by push_cast; omega)]
          exact a)
    rw [show ((i + 1 : Nat) : Int) = (i : Int) + 1 by push_cast; rfl, ← Int.add_assoc] at f1
    exact ⟨σ', by rw [ec, f1], f2⟩
theorem rs_out (hb : b = 0 ∨ b = 25) (hp : pr_R E b T N σ0 ρ) (h56 : σ0 56 1 = 7 + b) (hd : 8 ≤ d) : ∀ (g k : Nat) (σ : js_S) (u2 u3 : js_v), g + k = T → rs_I N ρ k σ0 σ → ∃ σ' : js_S, js_J E d 117 16 [(2, 56), (0, k), u2, u3] [] σ = js_r0 E (js_up (js_up (js_up (js_up σ' 56 3 0) 56 4 0) 56 8 0) 56 9 0) ∧ rs_I N ρ T σ0 σ' := by
  have hN := hp.1.2.1
  have hT := hp.1.1.1
  have p1 := hp.1.1.2.2
  intro g
  induction g with
  | zero =>
    intro k σ u2 u3 hgk hI
    have hk : k = T := by omega
    subst hk
    have q56 : σ 56 1 = 7 + b := by rw [hI.1 _ _ (by decide) (by decide)]; exact h56
    have q1 : σ (7 + b) 1 = k := by rw [hI.1 _ _ (by omega) (by omega)]; exact p1
    exact ⟨σ, by rw [b_117_16 hb q56, q1, if_neg (show ¬ js_w (k : Int) < js_w (k : Int) by omega)], hI⟩
  | succ g ih =>
    intro k σ u2 u3 hgk hI
    have u : ∀ a j : Int, a ≠ 61 → a ≠ 64 → σ a j = σ0 a j := hI.1
    have q56 : σ 56 1 = 7 + b := by rw [u _ _ (by decide) (by decide)]; exact h56
    have q1 : σ (7 + b) 1 = T := by rw [u _ _ (by omega) (by omega)]; exact p1
    have wk : js_w (k : Int) = k := js_w_of (by omega) (by omega)
    have wT : js_w (T : Int) = T := js_w_of (by omega) (by omega)
    obtain ⟨⟨s0, sg⟩, ⟨s1, _, _, _, s5, _⟩, _⟩ := hp.2.2.1 k (by omega) (by omega)
    have hge := js_sym_ge s0
    have k9 := hp.2.2.2.2.1 k (by omega) (by omega)
    have w86 : js_w (ρ 86 k) = ρ 86 k := js_w_of (by omega) (by omega)
    have t0 : js_desc E.1 σ (σ0 (19 + b) k) = some (0, 11, js_sym) := js_desc_mono s0 (by rw [u _ _ (by decide) (by decide)]; exact Int.le_refl _) (fun _ => u _ _ (by omega) (by omega))
    have cA : js_J E (d - 1) 67 0 [(2, 7 + b), (0, (k : Int))] [] σ = js_r E (2, σ (19 + b) k) σ := c_symAt hb (by omega) (by omega) (by omega)
    rw [u _ _ (by omega) (by omega)] at cA
    have ck : (k : Int) + 1 = ((k + 1 : Nat) : Int) := by push_cast; rfl
    have c0 : js_J E d 117 16 [(2, 56), (0, k), u2, u3] [] σ = js_J E d 117 40 [(2, 56), (0, k), (2, σ0 (19 + b) k), u3] [] σ := by
      rw [b_117_16 hb q56, q1, wk, wT, if_pos (show (k : Int) < T by omega), k_117_32 hb (by omega) cA, b_117_35, if_neg (show ¬ σ0 (19 + b) k < 0 by omega)]
    by_cases z : ρ 86 k = 2 ∨ ρ 86 k = 3
    · have pc := (hp.2.2.2.2.2 k (by omega) (by omega) (by omega)).1
      have cL : ((ρ 91 k).toNat : Int) = ρ 91 k := by omega
      obtain ⟨σ1, f1, f2⟩ := rs_in (E := E) (d := d) hb hp (by omega) (k := k) (by omega) z (L := (ρ 91 k).toNat) (by omega) (ρ 91 k).toNat 0 σ (by omega) hI.1 (fun j j1 j2 => by
        rw [if_neg (show ¬ (ρ 90 k ≤ j ∧ j < ρ 90 k + ((0 : Nat) : Int)) by omega)]
        exact hI.2 j j1 j2)
      rw [show ((0 : Nat) : Int) = 0 from rfl, Int.add_zero] at f1
      obtain ⟨σ', g1, g2⟩ := ih (k + 1) σ1 (2, σ0 (19 + b) k) (0, ρ 90 k + ((ρ 91 k).toNat : Int)) (by omega) f2
      have go : js_J E d 117 56 [(2, 56), (0, k), (2, σ0 (19 + b) k), u3] [] σ = js_r0 E (js_up (js_up (js_up (js_up σ' 56 3 0) 56 4 0) 56 8 0) 56 9 0) := by
        rw [b_117_56 t0, u _ _ (by omega) (by omega), s5, f1, b_117_92, ck, g1]
      refine ⟨σ', ?_, g2⟩
      rw [c0, b_117_40 t0, u _ _ (by omega) (by omega), s1, w86]
      by_cases z2 : ρ 86 k = 2
      · rw [if_pos z2, go]
      · rw [if_neg z2, if_pos (show ρ 86 k = 3 by omega), go]
    · obtain ⟨σ', g1, g2⟩ := ih (k + 1) σ (2, σ0 (19 + b) k) u3 (by omega) ⟨hI.1, fun j j1 j2 => by
        have e : cv_k ρ j (k + 1) = if (ρ 86 k = 2 ∨ ρ 86 k = 3) ∧ ρ 90 k ≤ j ∧ j < ρ 90 k + ρ 91 k then ρ 94 k else cv_k ρ j k := rfl
        rw [e, if_neg (fun hh => z hh.1)]
        exact hI.2 j j1 j2⟩
      refine ⟨σ', ?_, g2⟩
      rw [c0, b_117_40 t0, u _ _ (by omega) (by omega), s1, w86, if_neg (fun hh => z (Or.inl hh)), if_neg (fun hh => z (Or.inr hh)), b_117_92, ck, g1]
/-- the class's machine is as new -/
def rt_R (N : Int) (ρ : js_S) (T : Nat) (σ σ' : js_S) : Prop := (∀ a i : Int, ¬ (58 ≤ a ∧ a ≤ 64) → ¬ (a = 56 ∧ (i = 3 ∨ i = 4 ∨ i = 8 ∨ i = 9)) → σ' a i = σ a i) ∧ (σ' 58 0 = 0 ∧ σ' 58 1 = 0) ∧ (σ' 59 0 = 0 ∧ σ' 59 1 = 0 ∧ σ' 62 0 = 0 ∧ σ' 62 1 = 0) ∧ (∀ i : Int, 0 ≤ i → i < N → σ' 61 i = cv_k ρ i T * 1 ∧ σ' 64 i = cv_k ρ i T * 58659) ∧ σ' 56 3 = 0 ∧ σ' 56 4 = 0 ∧ σ' 56 8 = 0 ∧ σ' 56 9 = 0
theorem c_restart (hb : b = 0 ∨ b = 25) (hp : pr_R E b T N σ ρ) (h56 : σ 56 1 = 7 + b) (hd : 10 ≤ d) : ∃ σ' : js_S, js_J E d 117 0 [(2, 56), (9, 0), (9, 0), (9, 0)] [] σ = js_r0 E σ' ∧ rt_R N ρ T σ σ' := by
  have hN := hp.1.2.1
  have h2 := hp.1.2.2.2
  obtain ⟨σ1, e1, f1, f2, f3, f4⟩ := c_rclear (E := E) (d := d - 1) (σ := σ) (r := 0) (Or.inl rfl) ⟨by omega, hN.2.2.2⟩ ⟨hN.1, hN.2.1⟩ (by omega)
  simp only [Int.add_zero] at e1 f1 f2 f3 f4
  have hp1 : pr_R E b T N σ1 ρ := pr_gen hb hp (fun a i g => f1 a i (by omega)) (fun i _ => rfl) (fun _ _ _ _ => rfl)
  obtain ⟨σ2, e2, g1, g2⟩ := rs_out (E := E) (d := d) hb hp1 (by rw [f1 _ _ (by omega)]; exact h56) (by omega) T 0 σ1 (9, 0) (9, 0) (by omega) ⟨fun _ _ _ _ => rfl, fun i i1 i2 => by
    have z : cv_k ρ i 0 = 0 := rfl
    have a := f4 i i1 i2
    rw [z, a.1, a.2]
    exact ⟨by decide, by decide⟩⟩
  have e2' : js_J E d 117 16 [(2, 56), (0, 0), (9, 0), (9, 0)] [] σ1 = js_r0 E (js_up (js_up (js_up (js_up σ2 56 3 0) 56 4 0) 56 8 0) 56 9 0) := e2
  refine ⟨_, by rw [b_117_0 hb h56, h2, k_117_11 (by omega) e1, b_117_14, e2'], fun a i q1 q2 => ?_, ⟨?_, ?_⟩, ⟨?_, ?_, ?_, ?_⟩, fun i i1 i2 => ?_, ?_, ?_, ?_, ?_⟩
  · rw [js_up_ne _ (by omega), js_up_ne _ (by omega), js_up_ne _ (by omega), js_up_ne _ (by omega), g1 a i (by omega) (by omega), f1 a i (by omega)]
  · rw [js_up_na _ (by decide), js_up_na _ (by decide), js_up_na _ (by decide), js_up_na _ (by decide), g1 _ _ (by decide) (by decide)]
    exact f2.1
  · rw [js_up_na _ (by decide), js_up_na _ (by decide), js_up_na _ (by decide), js_up_na _ (by decide), g1 _ _ (by decide) (by decide)]
    exact f2.2
  · rw [js_up_na _ (by decide), js_up_na _ (by decide), js_up_na _ (by decide), js_up_na _ (by decide), g1 _ _ (by decide) (by decide)]
    exact f3.1
  · rw [js_up_na _ (by decide), js_up_na _ (by decide), js_up_na _ (by decide), js_up_na _ (by decide), g1 _ _ (by decide) (by decide)]
    exact f3.2.1
  · rw [js_up_na _ (by decide), js_up_na _ (by decide), js_up_na _ (by decide), js_up_na _ (by decide), g1 _ _ (by decide) (by decide)]
    exact f3.2.2.1
  · rw [js_up_na _ (by decide), js_up_na _ (by decide), js_up_na _ (by decide), js_up_na _ (by decide), g1 _ _ (by decide) (by decide)]
    exact f3.2.2.2
  · rw [js_up_na (b := 61) _ (by decide), js_up_na (b := 61) _ (by decide), js_up_na (b := 61) _ (by decide), js_up_na (b := 61) _ (by decide), js_up_na (b := 64) _ (by decide), js_up_na (b := 64) _ (by decide), js_up_na (b := 64) _ (by decide), js_up_na (b := 64) _ (by decide)]
    exact g2 i i1 i2
  · rw [js_up_ni _ (by decide), js_up_ni _ (by decide), js_up_ni _ (by decide), js_up_same]
  · rw [js_up_ni _ (by decide), js_up_ni _ (by decide), js_up_same]
  · rw [js_up_ni _ (by decide), js_up_same]
  · exact js_up_same _ _ _ _
end LX
