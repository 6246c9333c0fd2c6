/-! part 99.zzzzzza: which SYMBOL a number of a port is, by both -/
theorem po_k_st {ρ : js_S} {M : Nat} {k : Int} (h : ∀ i : Int, 0 ≤ i → i < M → ρ 86 i = k → 0 ≤ ρ 91 i) : ∀ g m : Nat, g + m ≤ M → po_k ρ k m ≤ po_k ρ k (g + m) := by
  intro g
  induction g with
  | zero => intro m _; rw [Nat.zero_add]; exact Int.le_refl _
  | succ g ih =>
    intro m hm
    have a := ih m (by omega)
    have e : po_k ρ k (g + m + 1) = po_k ρ k (g + m) + (if ρ 86 (g + m : Nat) = k then ρ 91 (g + m : Nat) else 0) := rfl
    rw [show g + 1 + m = g + m + 1 by omega]
    by_cases q : ρ 86 (g + m : Nat) = k
    · have b := h (g + m : Nat) (by omega) (by omega) q
      rw [e, if_pos q]
      omega
    · rw [e, if_neg q]
      omega
section YP
variable {E : js_E} {d e : Nat} {b N K k0 : Int} {T : Nat} {σ ρ : js_S}
/-- number x from SYMBOL i on is place j of SYMBOL s -/
def pf_P (ρ : js_S) (K : Int) (T : Nat) (i : Nat) (x : Int) (s : Nat) (j : Int) : Prop := (i ≤ s ∧ s < T) ∧ ρ 86 s = K ∧ (0 ≤ j ∧ j < ρ 91 s) ∧ x = po_k ρ K s - po_k ρ K i + j
theorem y_at (hb : b = 0 ∨ b = 25) (hp : pr_R E b T N σ ρ) (hK : K = 1 ∨ K = 2) : ∀ (g i : Nat) (x : Int) (u : js_v), g + i = T → -2147483648 ≤ x ∧ x < 2147483648 → ((∀ d : Nat, 2 ≤ d → js_J E d 135 5 [(2, 7 + b), (0, K), (0, k0), (0, x), (0, i), u] [] σ = js_r E (0, -1) σ) ∧ js_J E e 280 5 [(2, 83), (0, K), (0, k0), (0, x), (0, i)] [] ρ = js_r E (0, -1) ρ ∧ (x < 0 ∨ po_k ρ K T - po_k ρ K i ≤ x)) ∨ (∃ (s : Nat) (j : Int), pf_P ρ K T i x s j ∧ (∀ d : Nat, 2 ≤ d → js_J E d 135 5 [(2, 7 + b), (0, K), (0, k0), (0, x), (0, i), u] [] σ = js_r E (0, ρ 90 s + j) σ) ∧ js_J E e 280 5 [(2, 83), (0, K), (0, k0), (0, x), (0, i)] [] ρ = js_r E (0, s) (js_up ρ 83 90 j)) := by
  have hT := hp.1.1.1
  have p1 := hp.1.1.2.2
  have p2 := hp.1.1.2.1
  have hN := hp.1.2.1
  have wK : js_w K = K := by rcases hK with q | q <;> rw [q] <;> decide
  have hlen : ∀ i : Int, 0 ≤ i → i < T → ρ 86 i = K → 0 ≤ ρ 91 i := fun i i1 i2 i3 => (hp.2.2.2.2.2 i i1 i2 (by omega)).1.1
  have mono := po_k_st hlen
  intro g
  induction g with
  | zero =>
    intro i x u hg hx
    have hi : i = T := by omega
    subst hi
    refine Or.inl ⟨fun d _ => ?_, ?_, by omega⟩
    · rw [b_135_5 hb, p1, if_neg (show ¬ js_w (i : Int) < js_w (i : Int) by omega)]
    · rw [b_280_5, p2, if_neg (show ¬ js_w (i : Int) < js_w (i : Int) by omega)]
  | succ g ih =>
    intro i x u hg hx
    have wi : js_w (i : Int) = i := js_w_of (by omega) (by omega)
    have wT : js_w (T : Int) = T := js_w_of (by omega) (by omega)
    have wx : js_w x = x := js_w_of hx.1 hx.2
    by_cases q0 : x < 0
    · refine Or.inl ⟨fun d _ => ?_, ?_, Or.inl q0⟩
      · rw [b_135_5 hb, p1, wi, wT, if_pos (show (i : Int) < T by omega), wx, if_pos q0]
      · rw [b_280_5, p2, wi, wT, if_pos (show (i : Int) < T by omega), wx, if_pos q0]
    · obtain ⟨⟨s0, sg⟩, ⟨s1, _, _, _, s5, s6⟩, _⟩ := hp.2.2.1 i (by omega) (by omega)
      have k9 := hp.2.2.2.2.1 i (by omega) (by omega)
      have w86 : js_w (ρ 86 i) = ρ 86 i := js_w_of (by omega) (by omega)
      have cA : ∀ d : Nat, js_J E (d - 1) 67 0 [(2, 7 + b), (0, (i : Int))] [] σ = js_r E (2, σ (19 + b) i) σ := fun d => c_symAt hb (by omega) (by omega) (by omega)
      have ck : (i : Int) + 1 = ((i + 1 : Nat) : Int) := by push_cast; rfl
      have c0 : ∀ d : Nat, 2 ≤ d → js_J E d 135 5 [(2, 7 + b), (0, K), (0, k0), (0, x), (0, i), u] [] σ = (if ρ 86 i = K then (if x < js_w (ρ 91 i) then js_r E (0, ρ 90 i + x) σ else js_J E d 135 65 [(2, 7 + b), (0, K), (0, k0), (0, x - ρ 91 i), (0, i), (2, σ (19 + b) i)] [] σ) else js_J E d 135 65 [(2, 7 + b), (0, K), (0, k0), (0, x), (0, i), (2, σ (19 + b) i)] [] σ) := fun d hd => by
        rw [b_135_5 hb, p1, wi, wT, if_pos (show (i : Int) < T by omega), wx, if_neg q0, k_135_21 hb (by omega) (cA d), b_135_24, if_neg (show ¬ σ (19 + b) i < 0 by omega), b_135_31 s0, s1, w86, wK, wx, s6, s5]
      have r0 : js_J E e 280 5 [(2, 83), (0, K), (0, k0), (0, x), (0, i)] [] ρ = (if ρ 86 i = K then (if x < js_w (ρ 91 i) then js_r E (0, i) (js_up ρ 83 90 x) else js_J E e 280 61 [(2, 83), (0, K), (0, k0), (0, x - ρ 91 i), (0, i)] [] ρ) else js_J E e 280 61 [(2, 83), (0, K), (0, k0), (0, x), (0, i)] [] ρ) := by
        rw [b_280_5, p2, wi, wT, if_pos (show (i : Int) < T by omega), wx, if_neg q0, if_pos (show 0 ≤ (i : Int) ∧ (i : Int) < 400 by omega), w86, wK]
      have en : po_k ρ K (i + 1) = po_k ρ K i + (if ρ 86 i = K then ρ 91 i else 0) := rfl
      by_cases q : ρ 86 i = K
      · have pc := (hp.2.2.2.2.2 i (by omega) (by omega) (by omega)).1
        have wl : js_w (ρ 91 i) = ρ 91 i := js_w_of (by omega) (by omega)
        rw [if_pos q] at en
        rw [r0, if_pos q, wl]
        by_cases q2 : x < ρ 91 i
        · rw [if_pos q2]
          exact Or.inr ⟨i, x, ⟨⟨Nat.le_refl _, by omega⟩, q, ⟨by omega, q2⟩, by omega⟩, fun d hd => by rw [c0 d hd, if_pos q, wl, if_pos q2], rfl⟩
        · rw [if_neg q2, b_280_61, ck]
          have c1 : ∀ d : Nat, 2 ≤ d → js_J E d 135 5 [(2, 7 + b), (0, K), (0, k0), (0, x), (0, i), u] [] σ = js_J E d 135 5 [(2, 7 + b), (0, K), (0, k0), (0, x - ρ 91 i), (0, ((i + 1 : Nat) : Int)), (2, σ (19 + b) i)] [] σ := fun d hd => by rw [c0 d hd, if_pos q, wl, if_neg q2, b_135_65, ck]
          rcases ih (i + 1) (x - ρ 91 i) (2, σ (19 + b) i) (by omega) (by omega) with ⟨a1, a2, a3⟩ | ⟨s, j, ⟨a1, a2, a3, a4⟩, a5, a6⟩
          · exact Or.inl ⟨fun d hd => by rw [c1 d hd, a1 d hd], a2, by omega⟩
          · exact Or.inr ⟨s, j, ⟨⟨by omega, a1.2⟩, a2, a3, by omega⟩, fun d hd => by rw [c1 d hd, a5 d hd], a6⟩
      · rw [if_neg q, Int.add_zero] at en
        rw [r0, if_neg q, b_280_61, ck]
        have c1 : ∀ d : Nat, 2 ≤ d → js_J E d 135 5 [(2, 7 + b), (0, K), (0, k0), (0, x), (0, i), u] [] σ = js_J E d 135 5 [(2, 7 + b), (0, K), (0, k0), (0, x), (0, ((i + 1 : Nat) : Int)), (2, σ (19 + b) i)] [] σ := fun d hd => by rw [c0 d hd, if_neg q, b_135_65, ck]
        rcases ih (i + 1) x (2, σ (19 + b) i) (by omega) hx with ⟨a1, a2, a3⟩ | ⟨s, j, ⟨a1, a2, a3, a4⟩, a5, a6⟩
        · exact Or.inl ⟨fun d hd => by rw [c1 d hd, a1 d hd], a2, by rw [en] at a3; exact a3⟩
        · exact Or.inr ⟨s, j, ⟨⟨by omega, a1.2⟩, a2, a3, by rw [en] at a4; exact a4⟩, fun d hd => by rw [c1 d hd, a5 d hd], a6⟩
/-- the class's SYMBOL of a CELL -/
theorem c_portAt (hb : b = 0 ∨ b = 25) (hp : pr_R E b T N σ ρ) (hpd : pd_P T ρ) (hK : K = 1 ∨ K = 2) (hd : 2 ≤ d) {s : Nat} {j : Int} (hs : s < T) (hk : ρ 86 s = K) (hj : 0 ≤ j ∧ j < ρ 91 s) : ∀ (g i : Nat) (u : js_v), g + i = s → js_J E d 134 10 [(2, 7 + b), (0, K), (0, k0), (0, ρ 90 s + j), (0, i), u] [] σ = js_r E (2, σ (19 + b) s) σ := by
  have hT := hp.1.1.1
  have p1 := hp.1.1.2.2
  have hN := hp.1.2.1
  have wK : js_w K = K := by rcases hK with q | q <;> rw [q] <;> decide
  have ps := (hp.2.2.2.2.2 s (by omega) (by omega) (by omega)).1
  have wa : js_w (ρ 90 s + j) = ρ 90 s + j := js_w_of (by omega) (by omega)
  have wT : js_w (T : Int) = T := js_w_of (by omega) (by omega)
  intro g
  induction g with
  | zero =>
    intro i u hg
    have hi : i = s := by omega
    subst hi
    have wi : js_w (i : Int) = i := js_w_of (by omega) (by omega)
    obtain ⟨⟨s0, sg⟩, ⟨s1, _, _, _, s5, s6⟩, _⟩ := hp.2.2.1 i (by omega) (by omega)
    have cA : js_J E (d - 1) 67 0 [(2, 7 + b), (0, (i : Int))] [] σ = js_r E (2, σ (19 + b) i) σ := c_symAt hb (by omega) (by omega) (by omega)
    rw [b_134_10 hb, p1, wi, wT, if_pos (show (i : Int) < T by omega), wa, if_neg (show ¬ ρ 90 i + j < 0 by omega), k_134_26 hb (by omega) cA, b_134_29, if_neg (show ¬ σ (19 + b) i < 0 by omega), b_134_36 s0, s1, hk, if_pos rfl, wa, s5, js_w_of (x := ρ 90 i) (by omega) (by omega), if_neg (show ¬ ρ 90 i + j < ρ 90 i by omega), s6, js_w_of (x := ρ 90 i + ρ 91 i) (by omega) (by omega), if_pos (show ρ 90 i + j < ρ 90 i + ρ 91 i by omega)]
  | succ g ih =>
    intro i u hg
    have wi : js_w (i : Int) = i := js_w_of (by omega) (by omega)
    obtain ⟨⟨s0, sg⟩, ⟨s1, _, _, _, s5, s6⟩, _⟩ := hp.2.2.1 i (by omega) (by omega)
    have k9 := hp.2.2.2.2.1 i (by omega) (by omega)
    have w86 : js_w (ρ 86 i) = ρ 86 i := js_w_of (by omega) (by omega)
    have cA : js_J E (d - 1) 67 0 [(2, 7 + b), (0, (i : Int))] [] σ = js_r E (2, σ (19 + b) i) σ := c_symAt hb (by omega) (by omega) (by omega)
    have ck : (i : Int) + 1 = ((i + 1 : Nat) : Int) := by push_cast; rfl
    have go := ih (i + 1) (2, σ (19 + b) i) (by omega)
    have c0 : js_J E d 134 10 [(2, 7 + b), (0, K), (0, k0), (0, ρ 90 s + j), (0, i), u] [] σ = js_J E d 134 36 [(2, 7 + b), (0, K), (0, k0), (0, ρ 90 s + j), (0, i), (2, σ (19 + b) i)] [] σ := by
      rw [b_134_10 hb, p1, wi, wT, if_pos (show (i : Int) < T by omega), wa, if_neg (show ¬ ρ 90 s + j < 0 by omega), k_134_26 hb (by omega) cA, b_134_29, if_neg (show ¬ σ (19 + b) i < 0 by omega)]
    rw [c0, b_134_36 s0, s1, w86, wK]
    by_cases q : ρ 86 i = K
    · have pi := (hp.2.2.2.2.2 i (by omega) (by omega) (by omega)).1
      have dis := hpd i s (by omega) (by omega) (by omega) (by omega) (by omega)
      rw [if_pos q, wa, s5, js_w_of (x := ρ 90 i) (by omega) (by omega), if_neg (show ¬ ρ 90 s + j < ρ 90 i by omega), s6, js_w_of (x := ρ 90 i + ρ 91 i) (by omega) (by omega), if_neg (show ¬ ρ 90 s + j < ρ 90 i + ρ 91 i by omega), b_134_72, ck, go]
    · rw [if_neg q, b_134_72, ck, go]
/-- no such port -/
theorem c_portNo (hb : b = 0 ∨ b = 25) (hp : pr_R E b T N σ ρ) (hd : 1 ≤ d) : js_J E d 134 10 [(2, 7 + b), (0, K), (0, k0), (0, -1), (0, 0), (9, 0)] [] σ = js_r E (2, -1) σ := by
  rw [b_134_10 hb, if_pos (show js_w (-1) < 0 by decide)]
  split <;> rfl
end YP
