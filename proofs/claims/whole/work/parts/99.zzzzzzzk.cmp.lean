/-! part 99.zzzzzzzk: the class holds the outs of a probe's Run against those kept -/
/-- out j of SYMBOL s is the same -/
def cm_E (σ ρ : js_S) (s j : Int) : Prop := js_l (σ 68 (ρ 90 s + j)) = js_l (js_w (σ 80 (ou_o ρ s.toNat + j)))
section CM
variable {E : js_E} {d : Nat} {b N : Int} {T : Nat} {σ ρ : js_S}
theorem c_cmI {k L : Nat} {x : Int} {O : Int} (hs : js_desc E.1 σ x = some (0, 11, js_sym)) (h5 : σ x 5 = ρ 90 k) (h6 : σ x 6 = L) (h90 : 0 ≤ ρ 90 k ∧ ρ 90 k + L ≤ N) (hO : O = ou_o ρ k) (hO0 : 0 ≤ O) (hOE : O + L ≤ E.1) (hN : 0 ≤ N ∧ N ≤ E.1 ∧ N ≤ 4096 ∧ E.1 < 2147483648) (hd : 4 ≤ d) : ∀ g i : Nat, g + i = L → ((∃ j : Int, (i : Int) ≤ j ∧ j < L ∧ ¬ cm_E σ ρ k j) ∧ js_J E d 165 61 [(2, 56), (0, O + i), (0, (k : Int)), (2, x), (0, ρ 90 k + i)] [] σ = js_r E (0, 4) σ) ∨ ((∀ j : Int, (i : Int) ≤ j → j < L → cm_E σ ρ k j) ∧ js_J E d 165 61 [(2, 56), (0, O + i), (0, (k : Int)), (2, x), (0, ρ 90 k + i)] [] σ = js_J E d 165 119 [(2, 56), (0, O + L), (0, (k : Int)), (2, x), (0, ρ 90 k + L)] [] σ) := by
  have wE : js_w E.1 = E.1 := js_w_of (by omega) (by omega)
  intro g
  induction g with
  | zero =>
    intro i hi
    have hi : i = L := by omega
    subst hi
    refine Or.inr ⟨fun j j1 j2 => by omega, ?_⟩
    rw [b_165_61 hs (by omega), h5, h6, if_neg (by omega)]
  | succ g ih =>
    intro i hi
    have w4 : js_w (ρ 90 k + i) = ρ 90 k + i := js_w_of (by omega) (by omega)
    have wl : js_w (ρ 90 k + (L : Int)) = ρ 90 k + L := js_w_of (by omega) (by omega)
    have w1 : js_w (O + i) = O + i := js_w_of (by omega) (by omega)
    have c6 : js_J E (d - 1) 146 0 [(2, 65), (0, 0)] [] σ = js_r E (2, 66) σ := by
      have x := b_146_0 (E := E) (d := d - 1) (σ := σ) (x1 := 0) (r := 7) (Or.inr (Or.inl rfl))
      rw [if_pos (show js_w 0 = 0 from rfl)] at x
      exact x
    have hC : js_isC E.1 66 1 := js_c1 (r := 7) (Or.inr (Or.inl rfl))
    have c8 : js_J E (d - 1) 148 0 [(2, 66), (0, ρ 90 k + i)] [] σ = js_r E (1, σ 68 (ρ 90 k + i)) σ := c_read hC ⟨by omega, by omega⟩ ⟨by omega, by omega⟩ w4
    have st : js_J E d 165 61 [(2, 56), (0, O + i), (0, (k : Int)), (2, x), (0, ρ 90 k + i)] [] σ = (if js_l (σ 68 (ρ 90 k + i)) = js_l (js_w (σ 80 (O + i))) then js_J E d 165 61 [(2, 56), (0, O + i + 1), (0, (k : Int)), (2, x), (0, ρ 90 k + i + 1)] [] σ else js_r E (0, 4) σ) := by
      rw [b_165_61 hs (by omega), h5, h6, w4, wl, if_pos (by omega), w1, wE, if_pos (by omega), k_165_89 (by omega) c6, b_165_92, k_165_94 hC (by omega) c8, b_165_97, w1, if_pos (by omega)]
    have tk : ((k : Int)).toNat = k := by omega
    by_cases q : js_l (σ 68 (ρ 90 k + i)) = js_l (js_w (σ 80 (O + i)))
    · have cq : cm_E σ ρ k i := by
        unfold cm_E
        rw [tk, ← hO]
        exact q
      rw [if_pos q, show O + (i : Int) + 1 = O + ((i + 1 : Nat) : Int) by push_cast; omega, show ρ 90 k + (i : Int) + 1 = ρ 90 k + ((i + 1 : Nat) : Int) by push_cast; omega] at st
      rcases ih (i + 1) (by omega) with ⟨⟨j, j1, j2, j3⟩, e1⟩ | ⟨a, e1⟩
      · exact Or.inl ⟨⟨j, by push_cast at j1; omega, j2, j3⟩, by rw [st, e1]⟩
      · refine Or.inr ⟨fun j j1 j2 => ?_, by rw [st, e1]⟩
        by_cases t : j = i
        · rw [t]
          exact cq
        · exact a j (by push_cast; omega) j2
    · rw [if_neg q] at st
      refine Or.inl ⟨⟨i, by omega, by omega, fun cq => ?_⟩, st⟩
      unfold cm_E at cq
      rw [tk, ← hO] at cq
      exact q cq
theorem c_cmS (hb : b = 0 ∨ b = 25) (hp : pr_R E b T N σ ρ) (h56 : σ 56 1 = 7 + b) (hou : ou_o ρ T ≤ E.1) (hd : 4 ≤ d) : ∀ (g k : Nat) (u3 u4 : js_v), g + k = T → ((∃ s j : Int, (k : Int) ≤ s ∧ s < T ∧ ρ 86 s = 2 ∧ 0 ≤ j ∧ j < ρ 91 s ∧ ¬ cm_E σ ρ s j) ∧ js_J E d 165 23 [(2, 56), (0, ou_o ρ k), (0, (k : Int)), u3, u4] [] σ = js_r E (0, 4) σ) ∨ ((∀ s j : Int, (k : Int) ≤ s → s < T → ρ 86 s = 2 → 0 ≤ j → j < ρ 91 s → cm_E σ ρ s j) ∧ js_J E d 165 23 [(2, 56), (0, ou_o ρ k), (0, (k : Int)), u3, u4] [] σ = js_r E (0, 0) σ) := by
  have hN := hp.1.2.1
  have hT := hp.1.1.1
  have p1 := hp.1.1.2.2
  have mono := ou_o_up (ρ := ρ) (M := T) (fun s s1 s2 s3 => (hp.2.2.2.2.2 s s1 s2 (by omega)).1.1)
  intro g
  induction g with
  | zero =>
    intro k u3 u4 hk
    have hk : k = T := by omega
    subst hk
    refine Or.inr ⟨fun s j s1 s2 => by omega, ?_⟩
    rw [b_165_23 hb h56, p1, if_neg (by omega)]
  | succ g ih =>
    intro k u3 u4 hk
    have wk : js_w (k : Int) = k := js_w_of (by omega) (by omega)
    have wT : js_w (T : Int) = T := js_w_of (by omega) (by omega)
    obtain ⟨⟨s0, sg⟩, ⟨s1, _, _, _, s5, s6⟩, _⟩ := hp.2.2.1 k (by omega) (by omega)
    have hge := js_sym_ge s0
    have k9 := hp.2.2.2.2.1 k (by omega) (by omega)
    have w86 : js_w (ρ 86 k) = ρ 86 k := js_w_of (by omega) (by omega)
    have cA : js_J E (d - 1) 67 0 [(2, 7 + b), (0, (k : Int))] [] σ = js_r E (2, σ (19 + b) k) σ := c_symAt hb (by omega) (by omega) (by omega)
    have m0 := mono (g + 1) k (by omega)
    rw [show g + 1 + k = T by omega] at m0
    have m1 := mono g (k + 1) (by omega)
    rw [show g + (k + 1) = T by omega] at m1
    have en : ou_o ρ (k + 1) = ou_o ρ k + (if ρ 86 k = 2 then ρ 91 k else 0) := rfl
    have st : js_J E d 165 23 [(2, 56), (0, ou_o ρ k), (0, (k : Int)), u3, u4] [] σ = (if ρ 86 k = 2 then js_J E d 165 61 [(2, 56), (0, ou_o ρ k), (0, (k : Int)), (2, σ (19 + b) k), (0, ρ 90 k)] [] σ else js_J E d 165 119 [(2, 56), (0, ou_o ρ k), (0, (k : Int)), (2, σ (19 + b) k), u4] [] σ) := by
      rw [b_165_23 hb h56, p1, wk, wT, if_pos (by omega), k_165_39 hb (by omega) cA, b_165_42, if_neg (by omega), b_165_47 s0, s1, w86, s5]
    have ck : (k : Int) + 1 = ((k + 1 : Nat) : Int) := by push_cast; rfl
    by_cases q : ρ 86 k = 2
    · rw [if_pos q] at st en
      obtain ⟨⟨o1, o2, o3⟩, _⟩ := hp.2.2.2.2.2 k (by omega) (by omega) (by omega)
      have lk : ((ρ 91 k).toNat : Int) = ρ 91 k := by omega
      have c := c_cmI (E := E) (d := d) (N := N) (σ := σ) (ρ := ρ) (k := k) (L := (ρ 91 k).toNat) (x := σ (19 + b) k) (O := ou_o ρ k) s0 s5 (by rw [s6]; omega) (by omega) rfl m0.1 (by omega) hN hd (ρ 91 k).toNat 0 (by omega)
      rw [lk, show ou_o ρ k + ((0 : Nat) : Int) = ou_o ρ k by omega, show ρ 90 k + ((0 : Nat) : Int) = ρ 90 k by omega] at c
      rcases c with ⟨⟨j, j1, j2, j3⟩, e1⟩ | ⟨a, e1⟩
      · exact Or.inl ⟨⟨k, j, by omega, by omega, q, by omega, j2, j3⟩, by rw [st, e1]⟩
      · have e2 : js_J E d 165 23 [(2, 56), (0, ou_o ρ k), (0, (k : Int)), u3, u4] [] σ = js_J E d 165 23 [(2, 56), (0, ou_o ρ (k + 1)), (0, ((k + 1 : Nat) : Int)), (2, σ (19 + b) k), (0, ρ 90 k + ρ 91 k)] [] σ := by rw [st, e1, b_165_119, ck, en]
        rcases ih (k + 1) (2, σ (19 + b) k) (0, ρ 90 k + ρ 91 k) (by omega) with ⟨⟨s, j, z1, z2⟩, e3⟩ | ⟨a2, e3⟩
        · exact Or.inl ⟨⟨s, j, by push_cast at z1; omega, z2⟩, by rw [e2, e3]⟩
        · refine Or.inr ⟨fun s j z1 z2 z3 z4 z5 => ?_, by rw [e2, e3]⟩
          by_cases t : s = k
          · rw [t] at z5 ⊢
            exact a j (by omega) z5
          · exact a2 s j (by push_cast; omega) z2 z3 z4 z5
    · rw [if_neg q] at st en
      have e2 : js_J E d 165 23 [(2, 56), (0, ou_o ρ k), (0, (k : Int)), u3, u4] [] σ = js_J E d 165 23 [(2, 56), (0, ou_o ρ (k + 1)), (0, ((k + 1 : Nat) : Int)), (2, σ (19 + b) k), u4] [] σ := by rw [st, b_165_119, ck, en, Int.add_zero]
      rcases ih (k + 1) (2, σ (19 + b) k) u4 (by omega) with ⟨⟨s, j, z1, z2⟩, e3⟩ | ⟨a2, e3⟩
      · exact Or.inl ⟨⟨s, j, by push_cast at z1; omega, z2⟩, by rw [e2, e3]⟩
      · refine Or.inr ⟨fun s j z1 z2 z3 z4 z5 => ?_, by rw [e2, e3]⟩
        have t : s ≠ k := fun t => q (by rw [← t]; exact z3)
        exact a2 s j (by push_cast; omega) z2 z3 z4 z5
theorem c_cmp (hb : b = 0 ∨ b = 25) (hp : pr_R E b T N σ ρ) (h56 : σ 56 1 = 7 + b) (hou : ou_o ρ T ≤ E.1) (h4 : σ 65 2 = 4) (hd : 4 ≤ d) : ((∃ s j : Int, 0 ≤ s ∧ s < T ∧ ρ 86 s = 2 ∧ 0 ≤ j ∧ j < ρ 91 s ∧ ¬ cm_E σ ρ s j) ∧ js_J E d 165 0 [(2, 56), (9, 0), (9, 0), (9, 0), (9, 0)] [] σ = js_r E (0, 4) σ) ∨ ((∀ s j : Int, 0 ≤ s → s < T → ρ 86 s = 2 → 0 ≤ j → j < ρ 91 s → cm_E σ ρ s j) ∧ js_J E d 165 0 [(2, 56), (9, 0), (9, 0), (9, 0), (9, 0)] [] σ = js_r E (0, 0) σ) := by
  have st : js_J E d 165 0 [(2, 56), (9, 0), (9, 0), (9, 0), (9, 0)] [] σ = js_J E d 165 23 [(2, 56), (0, 0), (0, 0), (9, 0), (9, 0)] [] σ := by rw [b_165_0, h4, if_pos (by decide)]
  rw [st]
  exact c_cmS hb hp h56 hou hd T 0 (9, 0) (9, 0) rfl
end CM
