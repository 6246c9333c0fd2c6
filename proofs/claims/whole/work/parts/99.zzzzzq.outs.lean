/-! part 99.zzzzzq: the outs of a CYCLE are kept, by both -/
theorem lw_eq {x y : Int} (h : js_l x = js_l y) : js_w x = js_w y := by
  rw [js_l_iff] at h
  rw [js_w_mod, js_w_mod]
  omega
/-- where the outs of SYMBOL k begin -/
def ou_o (ρ : js_S) : Nat → Int
  | 0 => 0
  | k + 1 => ou_o ρ k + (if ρ 86 k = 2 then ρ 91 k else 0)
theorem ou_o_up {ρ : js_S} {M : Nat} (h : ∀ s : Int, 0 ≤ s → s < M → ρ 86 s = 2 → 0 ≤ ρ 91 s) : ∀ g k : Nat, g + k ≤ M → 0 ≤ ou_o ρ k ∧ ou_o ρ k ≤ ou_o ρ (g + k) := by
  have z : ∀ k : Nat, k ≤ M → 0 ≤ ou_o ρ k := by
    intro k
    induction k with
    | zero => intro _; exact Int.le_refl 0
    | succ k ih =>
      intro hk
      have a := ih (by omega)
      have e : ou_o ρ (k + 1) = ou_o ρ k + (if ρ 86 k = 2 then ρ 91 k else 0) := rfl
      by_cases q : ρ 86 k = 2
      · have b := h k (by omega) (by omega) q
        rw [e, if_pos q]
        omega
      · rw [e, if_neg q]
        omega
  intro g
  induction g with
  | zero => intro k hk; exact ⟨z k (by omega), by rw [Nat.zero_add]; exact Int.le_refl _⟩
  | succ g ih =>
    intro k hk
    have a := ih k (by omega)
    have e : ou_o ρ (g + k + 1) = ou_o ρ (g + k) + (if ρ 86 (g + k : Nat) = 2 then ρ 91 (g + k : Nat) else 0) := rfl
    rw [show g + 1 + k = g + k + 1 by omega]
    by_cases q : ρ 86 (g + k : Nat) = 2
    · have b := h (g + k : Nat) (by omega) (by omega) q
      rw [e, if_pos q]
      omega
    · rw [e, if_neg q]
      omega
/-- m outs are in both rows, from S on in the class's row D, from R on in the reference's -/
def yo_I (D S R m : Int) (σ0 ρ0 σ ρ : js_S) : Prop := (∀ a i : Int, ¬ (a = D ∧ S ≤ i ∧ i < S + m) → σ a i = σ0 a i) ∧ (∀ a i : Int, ¬ (a = 126 ∧ R ≤ i ∧ i < R + m) → ρ a i = ρ0 a i) ∧ ∀ j : Int, 0 ≤ j → j < m → js_w (σ D (S + j)) = js_w (ρ 126 (R + j))
section YO
variable {E : js_E} {d e : Nat} {b r N D nD S R : Int} {T : Nat} {σ ρ σ0 ρ0 : js_S}
theorem yo_in (hb : b = 0 ∨ b = 25) (hr : r = 0 ∨ r = 7 ∨ r = 14) (hp : pr_R E b T N σ0 ρ0) (h1 : cq_R N (59 + r) 0 σ0 ρ0) (hD : D = 80 ∨ D = 81) (hA : ∀ σ : js_S, js_desc E.1 σ D = some (1, nD, [])) (hnD : nD < 2147483648) (hd : 6 ≤ d) {k : Nat} (hk : k < T) (h2 : ρ0 86 k = 2) {L : Nat} {O : Int} (hL : ρ0 91 k = L) (hO : 0 ≤ O) (hS : 0 ≤ S ∧ S + O + L ≤ nD) (hR : 0 ≤ R ∧ R + O + L ≤ 65536) : ∀ (g i : Nat) (σ ρ : js_S), g + i = L → yo_I D S R (O + i) σ0 ρ0 σ ρ → ∃ σ' ρ' : js_S, js_J E d 163 50 [(2, 56), (2, 58 + r), (2, D), (0, S), (0, S + O + i), (0, k), (2, σ0 (19 + b) k), (0, ρ0 90 k + i)] [] σ = js_J E d 163 97 [(2, 56), (2, 58 + r), (2, D), (0, S), (0, S + O + L), (0, k), (2, σ0 (19 + b) k), (0, ρ0 90 k + L)] [] σ' ∧ js_J E e 275 50 [(2, 83), (0, R + O + i), (0, k), (0, i)] [] ρ = js_J E e 275 89 [(2, 83), (0, R + O + L), (0, k), (0, L)] [] ρ' ∧ yo_I D S R (O + L) σ0 ρ0 σ' ρ' := by
  have hN := hp.1.2.1
  have hT := hp.1.1.1
  have hpt := hp.2.2.2.2.2 k (by omega) (by omega) (by omega)
  have wk : js_w (k : Int) = k := js_w_of (by omega) (by omega)
  have k4 : 0 ≤ (k : Int) ∧ (k : Int) < 400 := by omega
  obtain ⟨⟨s0, _⟩, ⟨_, _, _, _, s5, s6⟩, _⟩ := hp.2.2.1 k (by omega) (by omega)
  have hge := js_sym_ge s0
  rw [hL] at s6
  intro g
  induction g with
  | zero =>
    intro i σ ρ hgi hI
    have hiL : i = L := by omega
    subst hiL
    have u : ∀ a j : Int, a ≠ D → σ a j = σ0 a j := fun a j q => hI.1 a j (by omega)
    have t0 : js_desc E.1 σ (σ0 (19 + b) k) = some (0, 11, js_sym) := js_desc_mono s0 (by rw [u _ _ (by omega)]; exact Int.le_refl _) (fun _ => u _ _ (by omega))
    have e91 : ρ 91 k = i := by rw [hI.2.1 _ _ (by omega)]; exact hL
    refine ⟨σ, ρ, ?_, ?_, hI⟩
    · rw [b_163_50 t0 hA (by omega), u _ _ (by omega), u _ _ (by omega), s5, s6, if_neg (show ¬ js_w (ρ0 90 k + (i : Int)) < js_w (ρ0 90 k + (i : Int)) by omega)]
    · rw [b_275_50, wk, if_pos k4, e91, if_neg (show ¬ js_w (i : Int) < js_w (i : Int) by omega)]
  | succ g ih =>
    intro i σ ρ hgi hI
    have u : ∀ a j : Int, a ≠ D → σ a j = σ0 a j := fun a j q => hI.1 a j (by omega)
    have q : ∀ a j : Int, a ≠ 126 → ρ a j = ρ0 a j := fun a j q => hI.2.1 a j (by omega)
    have t0 : js_desc E.1 σ (σ0 (19 + b) k) = some (0, 11, js_sym) := js_desc_mono s0 (by rw [u _ _ (by omega)]; exact Int.le_refl _) (fun _ => u _ _ (by omega))
    have e91 : ρ 91 k = L := by rw [q _ _ (by decide)]; exact hL
    have wa : js_w (ρ0 90 k + (i : Int)) = ρ0 90 k + i := js_w_of (by omega) (by omega)
    have wL : js_w (ρ0 90 k + (L : Int)) = ρ0 90 k + L := js_w_of (by omega) (by omega)
    have wi : js_w (i : Int) = i := js_w_of (by omega) (by omega)
    have wl : js_w (L : Int) = L := js_w_of (by omega) (by omega)
    have wS : js_w (S + O + (i : Int)) = S + O + i := js_w_of (by omega) (by omega)
    have wR : js_w (R + O + (i : Int)) = R + O + i := js_w_of (by omega) (by omega)
    have wD : js_w nD = nD := js_w_of (by omega) (by omega)
    have c146 : js_J E (d - 1) 146 0 [(2, 58 + r), (0, 0)] [] σ = js_r E (2, 59 + r) σ := by rw [b_146_0 hr, if_pos (show js_w 0 = 0 from rfl)]
    have ec : js_J E d 163 50 [(2, 56), (2, 58 + r), (2, D), (0, S), (0, S + O + i), (0, k), (2, σ0 (19 + b) k), (0, ρ0 90 k + i)] [] σ = js_J E d 163 50 [(2, 56), (2, 58 + r), (2, D), (0, S), (0, S + O + i + 1), (0, k), (2, σ0 (19 + b) k), (0, ρ0 90 k + i + 1)] [] (js_up σ D (S + O + i) (σ0 (59 + r + 2) (ρ0 90 k + i))) := by
      rw [b_163_50 t0 hA (by omega), u _ _ (by omega), u _ _ (by omega), s5, s6, wa, wL, if_pos (show ρ0 90 k + (i : Int) < ρ0 90 k + (L : Int) by omega), wS, wD, if_pos (show S + O + (i : Int) < nD by omega), k_163_78 hr (by omega) c146, b_163_81, k_163_83 (js_c1 hr) (by omega) (c_read (js_c1 hr) ⟨by omega, by omega⟩ ⟨by omega, by omega⟩ wa), b_163_86 hA, wS, if_pos (show 0 ≤ S + O + (i : Int) ∧ S + O + (i : Int) < nD by omega), u _ _ (by omega)]
    have er : js_J E e 275 50 [(2, 83), (0, R + O + i), (0, k), (0, i)] [] ρ = js_J E e 275 50 [(2, 83), (0, R + O + i + 1), (0, k), (0, i + 1)] [] (js_up ρ 126 (R + O + i) (ρ0 120 (ρ0 90 k + i))) := by
      rw [b_275_50, wk, if_pos k4, e91, wi, wl, if_pos (show (i : Int) < L by omega), q 90 _ (by decide), wa, if_pos (show 0 ≤ ρ0 90 k + (i : Int) ∧ ρ0 90 k + (i : Int) < 8192 by omega), wR, if_pos (show 0 ≤ R + O + (i : Int) ∧ R + O + (i : Int) < 65536 by omega), q 120 _ (by decide)]
    have v := h1.2.2 (ρ0 90 k + i) (by omega) (by omega)
    rw [show (4096 : Int) * 0 + (ρ0 90 k + i) = ρ0 90 k + i by omega] at v
    have hI2 : yo_I D S R (O + ((i + 1 : Nat) : Int)) σ0 ρ0 (js_up σ D (S + O + i) (σ0 (59 + r + 2) (ρ0 90 k + i))) (js_up ρ 126 (R + O + i) (ρ0 120 (ρ0 90 k + i))) := by
      refine ⟨fun a j g => by rw [js_up_ne _ (by push_cast at g; omega), hI.1 a j (by push_cast at g; omega)], fun a j g => by rw [js_up_ne _ (by push_cast at g; omega), hI.2.1 a j (by push_cast at g; omega)], fun j j1 j2 => ?_⟩
      by_cases z : j = O + i
      · rw [z, show S + (O + (i : Int)) = S + O + i by omega, show R + (O + (i : Int)) = R + O + i by omega, js_up_same, js_up_same]
        exact lw_eq v
      · rw [js_up_ni _ (by omega), js_up_ni _ (by omega)]
        exact hI.2.2 j j1 (by push_cast at j2; omega)
    obtain ⟨σ', ρ', f1, f2, f3⟩ := ih (i + 1) _ _ (by omega) hI2
    rw [show ((i + 1 : Nat) : Int) = (i : Int) + 1 by push_cast; rfl, ← Int.add_assoc, ← Int.add_assoc] at f1
    rw [show ((i + 1 : Nat) : Int) = (i : Int) + 1 by push_cast; rfl, ← Int.add_assoc] at f2
    exact ⟨σ', ρ', by rw [ec, f1], by rw [er, f2], f3⟩
theorem yo_out (hb : b = 0 ∨ b = 25) (hr : r = 0 ∨ r = 7 ∨ r = 14) (hp : pr_R E b T N σ0 ρ0) (h56 : σ0 56 1 = 7 + b) (h1 : cq_R N (59 + r) 0 σ0 ρ0) (hD : D = 80 ∨ D = 81) (hA : ∀ σ : js_S, js_desc E.1 σ D = some (1, nD, [])) (hnD : nD < 2147483648) (hd : 8 ≤ d) (hS : 0 ≤ S ∧ S + ou_o ρ0 T ≤ nD) (hR : 0 ≤ R ∧ R + ou_o ρ0 T ≤ 65536) : ∀ (g k : Nat) (σ ρ : js_S) (u6 u7 w3 : js_v), g + k = T → yo_I D S R (ou_o ρ0 k) σ0 ρ0 σ ρ → ∃ (σ' ρ' : js_S) (w4 : js_v), js_J E d 163 6 [(2, 56), (2, 58 + r), (2, D), (0, S), (0, S + ou_o ρ0 k), (0, k), u6, u7] [] σ = js_r0 E σ' ∧ js_J E e 275 27 [(2, 83), (0, R + ou_o ρ0 k), (0, k), w3] [] ρ = js_J E e 275 106 [(2, 83), (0, R + ou_o ρ0 T), (0, T), w4] [(2, 83)] (js_up ρ' 83 82 (ρ' 83 82 + 1)) ∧ yo_I D S R (ou_o ρ0 T) σ0 ρ0 σ' ρ' := by
  have hN := hp.1.2.1
  have hT := hp.1.1.1
  have p1 := hp.1.1.2.2
  have p2 := hp.1.1.2.1
  have mono := ou_o_up (ρ := ρ0) (M := T) (fun s s1 s2 s3 => (hp.2.2.2.2.2 s s1 s2 (by omega)).1.1)
  intro g
  induction g with
  | zero =>
    intro k σ ρ u6 u7 w3 hgk hI
    have hk : k = T := by omega
    subst hk
    have q56 : σ 56 1 = 7 + b := by rw [hI.1 _ _ (by omega)]; exact h56
    have q1 : σ (7 + b) 1 = k := by rw [hI.1 _ _ (by omega)]; exact p1
    have q2 : ρ 83 11 = k := by rw [hI.2.1 _ _ (by omega)]; exact p2
    refine ⟨σ, ρ, w3, ?_, ?_, hI⟩
    · rw [b_163_6 hb q56, q1, if_neg (show ¬ js_w (k : Int) < js_w (k : Int) by omega)]
    · rw [b_275_27, q2, if_neg (show ¬ js_w (k : Int) < js_w (k : Int) by omega)]
  | succ g ih =>
    intro k σ ρ u6 u7 w3 hgk hI
    have u : ∀ a j : Int, a ≠ D → σ a j = σ0 a j := fun a j q => hI.1 a j (by omega)
    have q : ∀ a j : Int, a ≠ 126 → ρ a j = ρ0 a j := fun a j q => hI.2.1 a j (by omega)
    have q56 : σ 56 1 = 7 + b := by rw [u _ _ (by omega)]; exact h56
    have q1 : σ (7 + b) 1 = T := by rw [u _ _ (by omega)]; exact p1
    have q2 : ρ 83 11 = T := by rw [q _ _ (by decide)]; exact p2
    have wk : js_w (k : Int) = k := js_w_of (by omega) (by omega)
    have wT : js_w (T : Int) = T := js_w_of (by omega) (by omega)
    obtain ⟨⟨s0, sg⟩, ⟨s1, _, _, _, s5, _⟩, _⟩ := hp.2.2.1 k (by omega) (by omega)
    have hge := js_sym_ge s0
    have k9 := hp.2.2.2.2.1 k (by omega) (by omega)
    have w86 : js_w (ρ0 86 k) = ρ0 86 k := js_w_of (by omega) (by omega)
    have t0 : js_desc E.1 σ (σ0 (19 + b) k) = some (0, 11, js_sym) := js_desc_mono s0 (by rw [u _ _ (by omega)]; exact Int.le_refl _) (fun _ => u _ _ (by omega))
    have cA : js_J E (d - 1) 67 0 [(2, 7 + b), (0, (k : Int))] [] σ = js_r E (2, σ (19 + b) k) σ := c_symAt hb (by omega) (by omega) (by omega)
    rw [u _ _ (by omega)] at cA
    have ck : (k : Int) + 1 = ((k + 1 : Nat) : Int) := by push_cast; rfl
    have c0 : js_J E d 163 6 [(2, 56), (2, 58 + r), (2, D), (0, S), (0, S + ou_o ρ0 k), (0, k), u6, u7] [] σ = (if ρ0 86 k = 2 then js_J E d 163 50 [(2, 56), (2, 58 + r), (2, D), (0, S), (0, S + ou_o ρ0 k), (0, k), (2, σ0 (19 + b) k), (0, ρ0 90 k)] [] σ else js_J E d 163 97 [(2, 56), (2, 58 + r), (2, D), (0, S), (0, S + ou_o ρ0 k), (0, k), (2, σ0 (19 + b) k), u7] [] σ) := by
      rw [b_163_6 hb q56, q1, wk, wT, if_pos (show (k : Int) < T by omega), k_163_24 hb (by omega) cA, b_163_27, if_neg (show ¬ σ0 (19 + b) k < 0 by omega), b_163_34 t0, u _ _ (by omega), s1, w86, u _ _ (by omega), s5]
    have r0 : js_J E e 275 27 [(2, 83), (0, R + ou_o ρ0 k), (0, k), w3] [] ρ = (if ρ0 86 k = 2 then js_J E e 275 50 [(2, 83), (0, R + ou_o ρ0 k), (0, k), (0, 0)] [] ρ else js_J E e 275 89 [(2, 83), (0, R + ou_o ρ0 k), (0, k), w3] [] ρ) := by
      rw [b_275_27, q2, wk, wT, if_pos (show (k : Int) < T by omega), if_pos (show 0 ≤ (k : Int) ∧ (k : Int) < 400 by omega), q 86 _ (by decide), w86]
    have en : ou_o ρ0 (k + 1) = ou_o ρ0 k + (if ρ0 86 k = 2 then ρ0 91 k else 0) := rfl
    by_cases z : ρ0 86 k = 2
    · rw [if_pos z] at en
      have pc := (hp.2.2.2.2.2 k (by omega) (by omega) (by omega)).1
      have m1 := mono 0 k (by omega)
      have m2 := mono g (k + 1) (by omega)
      rw [show g + (k + 1) = T by omega] at m2
      have cL : ((ρ0 91 k).toNat : Int) = ρ0 91 k := by omega
      have hI0 : yo_I D S R (ou_o ρ0 k + ((0 : Nat) : Int)) σ0 ρ0 σ ρ := by
        rw [show ((0 : Nat) : Int) = 0 from rfl, Int.add_zero]
        exact hI
      obtain ⟨σ1, ρ1, f1, f2, f3⟩ := yo_in (E := E) (d := d) (e := e) hb hr hp h1 hD hA hnD (by omega) (k := k) (by omega) z (L := (ρ0 91 k).toNat) (O := ou_o ρ0 k) (by omega) m1.1 (S := S) (R := R) ⟨hS.1, by omega⟩ ⟨hR.1, by omega⟩ (ρ0 91 k).toNat 0 σ ρ (by omega) hI0
      rw [show ((0 : Nat) : Int) = 0 from rfl, Int.add_zero, Int.add_zero, cL, Int.add_assoc S, ← en] at f1
      rw [show ((0 : Nat) : Int) = 0 from rfl, Int.add_zero, cL, Int.add_assoc R, ← en] at f2
      rw [cL, ← en] at f3
      obtain ⟨σ', ρ', w4, g1, g2, g3⟩ := ih (k + 1) σ1 ρ1 (2, σ0 (19 + b) k) (0, ρ0 90 k + ρ0 91 k) (0, ρ0 91 k) (by omega) f3
      exact ⟨σ', ρ', w4, by rw [c0, if_pos z, f1, b_163_97, ck, g1], by rw [r0, if_pos z, f2, b_275_89, ck, g2], g3⟩
    · rw [if_neg z, Int.add_zero] at en
      obtain ⟨σ', ρ', w4, g1, g2, g3⟩ := ih (k + 1) σ ρ (2, σ0 (19 + b) k) u7 w3 (by omega) (by rw [en]; exact hI)
      rw [en] at g1 g2
      exact ⟨σ', ρ', w4, by rw [c0, if_neg z, b_163_97, ck, g1], by rw [r0, if_neg z, b_275_89, ck, g2], g3⟩
end YO
