/-! part 99.zzzzzy: a new program is loaded, by both -/
/-- what is given for CELL i, by the SYMBOLs below k -/
def gk_v (ρ : js_S) (g0 : Int → Int) (i : Int) : Nat → Int
  | 0 => g0 i
  | k + 1 => if ρ 86 k = 1 ∧ ρ 90 k ≤ i ∧ i < ρ 90 k + ρ 91 k then in_v ρ k else gk_v ρ g0 i k
theorem gk_last {ρ : js_S} {g0 : Int → Int} {T s : Nat} (hs : s < T) (h1 : ρ 86 s = 1) (hdis : ∀ s t : Int, 0 ≤ s → s < t → t < T → ρ 86 s = 1 → ρ 86 t = 1 → ρ 90 s + ρ 91 s ≤ ρ 90 t) {j : Int} (hj : 0 ≤ j ∧ j < ρ 91 s) : ∀ g : Nat, s + 1 + g ≤ T → gk_v ρ g0 (ρ 90 s + j) (s + 1 + g) = in_v ρ s
  | 0, _ => by
    show (if ρ 86 s = 1 ∧ ρ 90 s ≤ ρ 90 s + j ∧ ρ 90 s + j < ρ 90 s + ρ 91 s then in_v ρ s else gk_v ρ g0 (ρ 90 s + j) s) = in_v ρ s
    rw [if_pos ⟨h1, by omega, by omega⟩]
  | g + 1, hg => by
    have e : gk_v ρ g0 (ρ 90 s + j) (s + 1 + g + 1) = (if ρ 86 (s + 1 + g : Nat) = 1 ∧ ρ 90 (s + 1 + g : Nat) ≤ ρ 90 s + j ∧ ρ 90 s + j < ρ 90 (s + 1 + g : Nat) + ρ 91 (s + 1 + g : Nat) then in_v ρ (s + 1 + g : Nat) else gk_v ρ g0 (ρ 90 s + j) (s + 1 + g)) := rfl
    rw [show s + 1 + (g + 1) = s + 1 + g + 1 by omega, e, if_neg (fun hh => by
      have := hdis s (s + 1 + g : Nat) (by omega) (by omega) (by omega) h1 hh.1
      omega)]
    exact gk_last hs h1 hdis hj g (by omega)
def ld_I (E : js_E) (ρ : js_S) (k : Nat) (σ0 σ : js_S) : Prop := (∀ a i : Int, a ≠ 79 → σ a i = σ0 a i) ∧ ∀ i : Int, 0 ≤ i → i < E.1 → σ 79 i = gk_v ρ (σ0 79) i k
section LY
variable {E : js_E} {d e : Nat} {Fu : Int → Int → Int → Prop} {ac zc b N : Int} {T : Nat} {σ ρ σ0 : js_S}
theorem ld_in (hb : b = 0 ∨ b = 25) (hp : pr_R E b T N σ0 ρ) {k : Nat} (hk : k < T) (h1 : ρ 86 k = 1) {L : Nat} (hL : ρ 91 k = L) : ∀ (g i : Nat) (σ : js_S), g + i = L → (∀ a i : Int, a ≠ 79 → σ a i = σ0 a i) → (∀ j : Int, 0 ≤ j → j < E.1 → σ 79 j = (if ρ 90 k ≤ j ∧ j < ρ 90 k + i then in_v ρ k else gk_v ρ (σ0 79) j k)) → ∃ σ' : js_S, js_J E d 116 74 [(2, 56), (2, 7 + b), (0, k), (2, σ0 (19 + b) k), (0, in_v ρ k), (0, ρ 90 k + i)] [] σ = js_J E d 116 113 [(2, 56), (2, 7 + b), (0, k), (2, σ0 (19 + b) k), (0, in_v ρ k), (0, ρ 90 k + L)] [] σ' ∧ ld_I E ρ (k + 1) σ0 σ' := by
  have hN := hp.1.2.1
  have hpt := hp.2.2.2.2.2 k (by omega) (by omega) (by omega)
  obtain ⟨⟨s0, _⟩, ⟨_, _, _, _, s5, s6⟩, _⟩ := hp.2.2.1 k (by omega) (by omega)
  have hge := js_sym_ge s0
  rw [hL] at s6
  intro g
  induction g with
  | zero =>
    intro i σ hgi hf h
    have hiL : i = L := by omega
    subst hiL
    have t0 : js_desc E.1 σ (σ0 (19 + b) k) = some (0, 11, js_sym) := js_desc_mono s0 (by rw [hf _ _ (by omega)]; exact Int.le_refl _) (fun _ => hf _ _ (by omega))
    refine ⟨σ, ?_, hf, fun j j1 j2 => ?_⟩
    · rw [b_116_74 t0 (by omega), hf _ _ (by omega), hf _ _ (by omega), s5, s6, if_neg (show ¬ js_w (ρ 90 k + (i : Int)) < js_w (ρ 90 k + (i : Int)) by omega)]
    · have e : gk_v ρ (σ0 79) j (k + 1) = if ρ 86 k = 1 ∧ ρ 90 k ≤ j ∧ j < ρ 90 k + ρ 91 k then in_v ρ k else gk_v ρ (σ0 79) j k := rfl
      have a := h j j1 j2
      rw [e, hL]
      by_cases q : ρ 90 k ≤ j ∧ j < ρ 90 k + (i : Int)
      · rw [if_pos q] at a
        rw [if_pos ⟨h1, q⟩]
        exact a
      · rw [if_neg q] at a
        rw [if_neg (fun hh => q hh.2)]
        exact a
  | succ g ih =>
    intro i σ hgi hf h
    have t0 : js_desc E.1 σ (σ0 (19 + b) k) = some (0, 11, js_sym) := js_desc_mono s0 (by rw [hf _ _ (by omega)]; exact Int.le_refl _) (fun _ => hf _ _ (by omega))
    have wa : js_w (ρ 90 k + (i : Int)) = ρ 90 k + i := js_w_of (by omega) (by omega)
    have wL : js_w (ρ 90 k + (L : Int)) = ρ 90 k + L := js_w_of (by omega) (by omega)
    have wE : js_w E.1 = E.1 := js_w_of (by omega) (by omega)
    have ec : js_J E d 116 74 [(2, 56), (2, 7 + b), (0, k), (2, σ0 (19 + b) k), (0, in_v ρ k), (0, ρ 90 k + i)] [] σ = js_J E d 116 74 [(2, 56), (2, 7 + b), (0, k), (2, σ0 (19 + b) k), (0, in_v ρ k), (0, ρ 90 k + i + 1)] [] (js_up σ 79 (ρ 90 k + i) (in_v ρ k)) := by
      rw [b_116_74 t0 (by omega), hf _ _ (by omega), hf _ _ (by omega), s5, s6, wa, wL, wE, if_pos (show ρ 90 k + (i : Int) < ρ 90 k + (L : Int) by omega), if_pos (show ρ 90 k + (i : Int) < E.1 by omega), if_pos (show 0 ≤ ρ 90 k + (i : Int) ∧ ρ 90 k + (i : Int) < E.1 by omega)]
    obtain ⟨σ', f1, f2⟩ := ih (i + 1) (js_up σ 79 (ρ 90 k + i) (in_v ρ k)) (by omega) (fun a j q1 => by rw [js_up_na _ q1, hf a j q1]) (fun j j1 j2 => by
      have a := h j j1 j2
      by_cases q : j = ρ 90 k + i
      · rw [if_pos (show ρ 90 k ≤ j ∧ j < ρ 90 k + ((i + 1 : Nat) : Int) by push_cast; omega), q, js_up_same]
      · rw [js_up_ni _ q]
        by_cases q2 : ρ 90 k ≤ j ∧ j < ρ 90 k + (i : Int)
        · rw [if_pos q2] at a
          rw [if_pos (show ρ 90 k ≤ j ∧ j < ρ 90 k + ((i + 1 : Nat) : Int) by push_cast; omega)]
          exact a
        · rw [if_neg q2] at a
          rw [if_neg (show ¬ (ρ 90 k ≤ j ∧ j < ρ 90 k + ((i + 1 : Nat) : Int)) by push_cast; omega)]
          exact a)
    rw [show ((i + 1 : Nat) : Int) = (i : Int) + 1 by push_cast; rfl, ← Int.add_assoc] at f1
    exact ⟨σ', by rw [ec, f1], f2⟩
theorem ld_out (hb : b = 0 ∨ b = 25) (hp : pr_R E b T N σ0 ρ) (h56 : σ0 56 1 = 7 + b) (hd : 2 ≤ d) : ∀ (g k : Nat) (σ : js_S) (u3 u4 u5 : js_v), g + k = T → ld_I E ρ k σ0 σ → ∃ (σ' : js_S) (v3 v4 v5 : js_v), js_J E d 116 12 [(2, 56), (2, 7 + b), (0, k), u3, u4, u5] [] σ = js_J E d 116 120 [(2, 56), (2, 7 + b), (0, T), v3, v4, v5] [(2, 56)] σ' ∧ ld_I E ρ T σ0 σ' := by
  have hN := hp.1.2.1
  have hT := hp.1.1.1
  have p1 := hp.1.1.2.2
  intro g
  induction g with
  | zero =>
    intro k σ u3 u4 u5 hgk hI
    have hk : k = T := by omega
    subst hk
    have q56 : σ 56 1 = 7 + b := by rw [hI.1 _ _ (by decide)]; exact h56
    have q1 : σ (7 + b) 1 = k := by rw [hI.1 _ _ (by omega)]; exact p1
    exact ⟨σ, u3, u4, u5, by rw [b_116_12 hb q56, q1, if_neg (show ¬ js_w (k : Int) < js_w (k : Int) by omega)], hI⟩
  | succ g ih =>
    intro k σ u3 u4 u5 hgk hI
    have u : ∀ a j : Int, a ≠ 79 → σ a j = σ0 a j := hI.1
    have q56 : σ 56 1 = 7 + b := by rw [u _ _ (by decide)]; exact h56
    have q1 : σ (7 + b) 1 = T := by rw [u _ _ (by omega)]; exact p1
    have wk : js_w (k : Int) = k := js_w_of (by omega) (by omega)
    have wT : js_w (T : Int) = T := js_w_of (by omega) (by omega)
    obtain ⟨⟨s0, sg⟩, ⟨s1, _, s3, s4, s5, _⟩, _⟩ := hp.2.2.1 k (by omega) (by omega)
    have hge := js_sym_ge s0
    have k9 := hp.2.2.2.2.1 k (by omega) (by omega)
    have w86 : js_w (ρ 86 k) = ρ 86 k := js_w_of (by omega) (by omega)
    have t0 : js_desc E.1 σ (σ0 (19 + b) k) = some (0, 11, js_sym) := js_desc_mono s0 (by rw [u _ _ (by decide)]; exact Int.le_refl _) (fun _ => u _ _ (by omega))
    have cA : js_J E (d - 1) 67 0 [(2, 7 + b), (0, (k : Int))] [] σ = js_r E (2, σ (19 + b) k) σ := c_symAt hb (by omega) (by omega) (by omega)
    rw [u _ _ (by omega)] at cA
    have ck : (k : Int) + 1 = ((k + 1 : Nat) : Int) := by push_cast; rfl
    have c0 : js_J E d 116 12 [(2, 56), (2, 7 + b), (0, k), u3, u4, u5] [] σ = js_J E d 116 36 [(2, 56), (2, 7 + b), (0, k), (2, σ0 (19 + b) k), u4, u5] [] σ := by
      rw [b_116_12 hb q56, q1, wk, wT, if_pos (show (k : Int) < T by omega), k_116_28 hb (by omega) cA, b_116_31, if_neg (show ¬ σ0 (19 + b) k < 0 by omega)]
    by_cases z : ρ 86 k = 1
    · obtain ⟨pc, p8, p9, _⟩ := hp.2.2.2.2.2 k (by omega) (by omega) (by omega)
      have w8 : js_w (ρ 88 k) = ρ 88 k := js_w_of p8.1 p8.2
      have w9 : js_w (ρ 89 k) = ρ 89 k := js_w_of p9.1 p9.2
      have cL : ((ρ 91 k).toNat : Int) = ρ 91 k := by omega
      obtain ⟨σ1, f1, f2⟩ := ld_in (E := E) (d := d) hb hp (k := k) (by omega) z (L := (ρ 91 k).toNat) (by omega) (ρ 91 k).toNat 0 σ (by omega) hI.1 (fun j j1 j2 => by
        rw [if_neg (show ¬ (ρ 90 k ≤ j ∧ j < ρ 90 k + ((0 : Nat) : Int)) by omega)]
        exact hI.2 j j1 j2)
      rw [show ((0 : Nat) : Int) = 0 from rfl, Int.add_zero] at f1
      obtain ⟨σ', v3, v4, v5, g1, g2⟩ := ih (k + 1) σ1 (2, σ0 (19 + b) k) (0, in_v ρ k) (0, ρ 90 k + ((ρ 91 k).toNat : Int)) (by omega) f2
      have go : js_J E d 116 66 [(2, 56), (2, 7 + b), (0, k), (2, σ0 (19 + b) k), u4, u5] [(0, in_v ρ k)] σ = js_J E d 116 120 [(2, 56), (2, 7 + b), (0, T), v3, v4, v5] [(2, 56)] σ' := by
        rw [b_116_66 t0, u _ _ (by omega), s5, f1, b_116_113, ck, g1]
      refine ⟨σ', v3, v4, v5, ?_, g2⟩
      rw [c0, b_116_36 t0, u _ _ (by omega), s1, w86, if_pos z, u _ _ (by omega), s3, w8, u _ _ (by omega), s4, w9]
      unfold in_v at go
      by_cases t1 : 0 < ρ 88 k
      · rw [if_pos (Or.inl t1)] at go
        rw [if_pos t1, b_116_62 t0, u _ _ (by omega), s3, go]
      · by_cases t2 : ρ 89 k < 0
        · rw [if_pos (Or.inr t2)] at go
          rw [if_neg t1, if_pos t2, b_116_62 t0, u _ _ (by omega), s3, go]
        · rw [if_neg (show ¬ (0 < ρ 88 k ∨ ρ 89 k < 0) by omega)] at go
          rw [if_neg t1, if_neg t2, go]
    · obtain ⟨σ', v3, v4, v5, g1, g2⟩ := ih (k + 1) σ (2, σ0 (19 + b) k) u4 u5 (by omega) ⟨hI.1, fun j j1 j2 => by
        have e : gk_v ρ (σ0 79) j (k + 1) = if ρ 86 k = 1 ∧ ρ 90 k ≤ j ∧ j < ρ 90 k + ρ 91 k then in_v ρ k else gk_v ρ (σ0 79) j k := rfl
        rw [e, if_neg (fun hh => z hh.1)]
        exact hI.2 j j1 j2⟩
      refine ⟨σ', v3, v4, v5, ?_, g2⟩
      rw [c0, b_116_36 t0, u _ _ (by omega), s1, w86, if_neg z, b_116_113, ck, g1]
theorem cv_eq {ρ ρ' : js_S} {i : Int} (h : ∀ a j : Int, 84 ≤ a → a ≤ 119 → ρ' a j = ρ a j) : ∀ k : Nat, cv_k ρ' i k = cv_k ρ i k
  | 0 => rfl
  | k + 1 => by
    show (if (ρ' 86 k = 2 ∨ ρ' 86 k = 3) ∧ ρ' 90 k ≤ i ∧ i < ρ' 90 k + ρ' 91 k then ρ' 94 k else cv_k ρ' i k) = (if (ρ 86 k = 2 ∨ ρ 86 k = 3) ∧ ρ 90 k ≤ i ∧ i < ρ 90 k + ρ 91 k then ρ 94 k else cv_k ρ i k)
    rw [cv_eq h k, h 86 _ (by decide) (by decide), h 90 _ (by decide) (by decide), h 91 _ (by decide) (by decide), h 94 _ (by decide) (by decide)]
theorem pr_pt (hp : pr_R E b T N σ ρ) : pt_K T ρ := by
  have hN := hp.1.2.1
  refine ⟨⟨hp.1.1.1, hp.1.1.2.1⟩, hp.2.2.2.2.1, fun s s1 s2 s3 => ?_⟩
  obtain ⟨a, b, c⟩ := hp.2.2.2.2.2 s s1 s2 s3
  exact ⟨⟨a.1, a.2.1, by omega⟩, b, c⟩
/-- a new program is loaded -/
theorem y_load (hb : b = 0 ∨ b = 25) (hp : pr_R E b T N σ ρ) (hw : wc_P Fu ac zc N ρ) (hst : ac ≤ ρ 83 50 ∧ ρ 83 50 < zc) (hou : ou_o ρ T = ρ 83 47 ∧ 0 ≤ ou_o ρ T ∧ ou_o ρ T ≤ N ∧ 16 * E.1 < 2147483648) (hin : in_o ρ T ≤ 4096) (hpd : pd_P T ρ) (hlh : ∀ s : Int, 0 ≤ s → s < T → ρ 86 s = 1 → ρ 88 s ≤ ρ 89 s) (hd : 14 ≤ d) : ∃ σ' ρ1 ρ2 : js_S, js_J E d 116 0 [(2, 56), (2, 7 + b), (9, 0), (9, 0), (9, 0), (9, 0)] [] σ = js_r0 E σ' ∧ js_J E e 263 0 [(2, 83), (9, 0), (9, 0), (9, 0)] [] ρ = js_r0 E ρ1 ∧ js_J E e 264 0 [(2, 83), (9, 0), (9, 0)] [] ρ1 = js_r0 E ρ2 ∧ (∀ a i : Int, ¬ (56 ≤ a ∧ a ≤ 64) → a ≠ 79 → σ' a i = σ a i) ∧ (∀ a i : Int, ¬ (a = 83 ∧ 77 ≤ i ∧ i ≤ 85) → ¬ (120 ≤ a ∧ a ≤ 125) → ρ2 a i = ρ a i) ∧ σ' 56 2 = 1 ∧ mh_R E Fu ac zc b N T σ' ρ2 ∧ ρ2 83 82 = 0 := by
  have hN := hp.1.2.1
  -- the class
  have z0 : ∀ a i : Int, ¬ (a = 56 ∧ (i = 1 ∨ i = 2)) → js_up (js_up σ 56 1 (7 + b)) 56 2 1 a i = σ a i := fun a i g => by rw [js_up_ne _ (by omega), js_up_ne _ (by omega)]
  have z1 : js_up (js_up σ 56 1 (7 + b)) 56 2 1 56 1 = 7 + b := by rw [js_up_ni _ (by decide), js_up_same]
  have z2 : js_up (js_up σ 56 1 (7 + b)) 56 2 1 56 2 = 1 := js_up_same _ _ _ _
  have e0 : js_J E d 116 0 [(2, 56), (2, 7 + b), (9, 0), (9, 0), (9, 0), (9, 0)] [] σ = js_J E d 116 12 [(2, 56), (2, 7 + b), (0, 0), (9, 0), (9, 0), (9, 0)] [] (js_up (js_up σ 56 1 (7 + b)) 56 2 1) := b_116_0
  generalize js_up (js_up σ 56 1 (7 + b)) 56 2 1 = σ1 at z0 z1 z2 e0
  have hp1 : pr_R E b T N σ1 ρ := pr_gen hb hp (fun a i g => z0 a i (by omega)) (fun i _ => rfl) (fun _ _ _ _ => rfl)
  obtain ⟨σ2, v3, v4, v5, e1, f1, f2⟩ := ld_out (E := E) (d := d) hb hp1 z1 (by omega) T 0 σ1 (9, 0) (9, 0) (9, 0) (by omega) ⟨fun _ _ _ => rfl, fun _ _ _ => rfl⟩
  have e1' : js_J E d 116 12 [(2, 56), (2, 7 + b), (0, 0), (9, 0), (9, 0), (9, 0)] [] σ1 = js_J E d 116 120 [(2, 56), (2, 7 + b), (0, (T : Int)), v3, v4, v5] [(2, 56)] σ2 := e1
  have hp2 : pr_R E b T N σ2 ρ := pr_gen hb hp1 (fun a i g => f1 a i (by omega)) (fun i _ => rfl) (fun _ _ _ _ => rfl)
  obtain ⟨σ3, e2, g1, g2, g3, g4, g5, g6, g7, g8⟩ := c_restart (E := E) (d := d - 1) hb hp2 (by rw [f1 _ _ (by decide)]; exact z1) (by omega)
  have ec : js_J E d 116 0 [(2, 56), (2, 7 + b), (9, 0), (9, 0), (9, 0), (9, 0)] [] σ = js_r0 E σ3 := by
    rw [e0, e1', k_116_120 (by omega) e2, b_116_123]
  -- the reference
  have pt := pr_pt hp
  obtain ⟨ρ1, e3, k1, k2⟩ := r_first (E := E) (d := e) pt hin
  have q1 : ∀ a i : Int, a ≠ 125 → ρ1 a i = ρ a i := fun a i g => k1 a i (by omega)
  have hp3 : pr_R E b T N σ ρ1 := pr_gen hb hp (fun _ _ _ => rfl) (fun i _ => q1 _ _ (by decide)) (fun a i _ _ => q1 _ _ (by omega))
  obtain ⟨ρ2, e4, l1, l2, l3, l4⟩ := r_anew (E := E) (d := e) (pr_pt hp3)
  have q2 : ∀ a i : Int, ¬ (a = 83 ∧ 77 ≤ i ∧ i ≤ 85) → ¬ (120 ≤ a ∧ a ≤ 124) → ρ2 a i = ρ1 a i := fun a i g1 g2 => l1 a i (by omega) (by omega)
  have y : ∀ a i : Int, 84 ≤ a → a ≤ 119 → ρ2 a i = ρ a i := fun a i g1 g2 => by rw [q2 a i (by omega) (by omega), q1 a i (by omega)]
  have x : ∀ i : Int, ¬ (i = 0 ∨ 77 ≤ i) → ρ2 83 i = ρ 83 i := fun i g => by rw [q2 _ _ (by omega) (by omega), q1 _ _ (by decide)]
  have s3 : ∀ a i : Int, ¬ (56 ≤ a ∧ a ≤ 64) → a ≠ 79 → σ3 a i = σ a i := fun a i q3 q4 => by rw [g1 a i (by omega) (by omega), f1 a i q4, z0 a i (by omega)]
  have hpf : pr_R E b T N σ3 ρ2 := pr_gen hb hp (fun a i g => s3 a i (by omega) (by omega)) x y
  have y1 : ∀ a i : Int, 84 ≤ a → a ≤ 119 → ρ1 a i = ρ a i := fun a i _ _ => q1 a i (by omega)
  refine ⟨σ3, ρ1, ρ2, ec, e3, e4, s3, fun a i r1 r2 => by rw [q2 a i r1 (by omega), q1 a i (by omega)], ?_, ⟨⟨⟨?_, hpf, ?_, ?_, ?_, ?_⟩, ⟨?_, ?_⟩, ⟨⟨?_, ?_, ?_⟩, ⟨?_, ?_⟩, ?_, 0, ?_⟩, ?_⟩, Or.inl ⟨⟨g2.1, l4 77 (by decide), g2.2, l4 79 (by decide)⟩, ?_, ?_⟩⟩, l4 82 (by decide)⟩
  · rw [g1 _ _ (by omega) (by omega), f1 _ _ (by decide)]
    exact z2
  · rw [g1 _ _ (by omega) (by omega), f1 _ _ (by decide)]
    exact z1
  · exact wc_of hw (fun a i r1 r2 => y a i (by omega) (by omega)) (x _ (by decide))
  · rw [x _ (by decide)]
    exact hst
  · rw [in_o_eq y]
    exact hin
  · intro s s1 s2 s4 i i1 i2
    rw [y 86 _ (by decide) (by decide)] at s4
    rw [y 91 _ (by decide) (by decide)] at i2
    have pc := (hp.2.2.2.2.2 s s1 s2 (by omega)).1
    have gl := gk_last (g0 := σ1 79) (s := s.toNat) (T := T) (ρ := ρ) (by omega) (by rw [show ((s.toNat : Nat) : Int) = s by omega]; exact s4) (fun s t t1 t2 t3 t4 t5 => hpd s t t1 t2 t3 (by omega) (by omega)) (j := i) (by rw [show ((s.toNat : Nat) : Int) = s by omega]; exact ⟨i1, i2⟩) (T - (s.toNat + 1)) (by omega)
    rw [show s.toNat + 1 + (T - (s.toNat + 1)) = T by omega, show ((s.toNat : Nat) : Int) = s by omega] at gl
    have a1 : σ3 79 (ρ 90 s + i) = in_v ρ s := by
      rw [g1 _ _ (by omega) (by omega), f2 _ (by omega) (by omega)]
      exact gl
    have a2 : ρ2 125 (in_o ρ s.toNat + i) = in_v ρ s := by
      rw [q2 _ _ (by omega) (by omega)]
      exact k2 s s1 s2 s4 i i1 i2
    rw [in_o_eq y, y 90 _ (by decide) (by decide), a1, a2, y 88 _ (by decide) (by decide), y 89 _ (by decide) (by decide)]
    have lh := hlh s s1 s2 s4
    unfold in_v
    by_cases t : 0 < ρ 88 s ∨ ρ 89 s < 0
    · rw [if_pos t]
      exact ⟨rfl, by omega, by omega⟩
    · rw [if_neg t]
      exact ⟨rfl, by omega, by omega⟩
  · rw [ou_o_eq y, x _ (by decide)]
    exact hou.1
  · rw [ou_o_eq y]
    exact ⟨hou.2.1, hou.2.2.1, hou.2.2.2, pd_eq hpd y⟩
  · rw [g5, l4 81 (by decide)]
  · rw [l4 81 (by decide)]
    decide
  · rw [l4 81 (by decide)]
    decide
  · rw [g6, l4 82 (by decide)]
  · rw [l4 82 (by decide)]
    decide
  · rw [g8, l4 83 (by decide)]
  · exact fq_0 g7 (l4 85 (by decide)) rfl
  · intro m m1 m2
    rw [l4 82 (by decide)] at m2
    omega
  · have a := l3 0 (by decide) (by decide)
    refine ⟨by rw [g3.1, a.1], by rw [g3.2.1, a.2.1], fun k r1 r2 => ?_⟩
    have c := l2 k r1 (by omega)
    have c2 := g4 k r1 r2
    rw [show (59 : Int) + 2 = 61 by decide, show (4096 : Int) * 0 + k = k by omega, c2.1, c.1, cv_eq y1, Int.mul_one]
  · have a := l3 1 (by decide) (by decide)
    refine ⟨by rw [g3.2.2.1, a.1], by rw [g3.2.2.2, a.2.1], fun k r1 r2 => ?_⟩
    have c := l2 k r1 (by omega)
    have c2 := g4 k r1 r2
    rw [show (62 : Int) + 2 = 64 by decide, show (4096 : Int) * 1 + k = 4096 + k by omega, c2.2, c.2, cv_eq y1, Int.mul_comm]
end LY
