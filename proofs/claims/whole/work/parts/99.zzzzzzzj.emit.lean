/-! part 99.zzzzzzzj: what the reference's GATE has seen, and what it keeps of the outs -/
section EM
variable {E : js_E} {e : Nat} {T : Nat} {ρ : js_S}
theorem js_r01 {A : Option (Outcome × ip_W)} {σ τ : js_S} (h0 : A = js_r E (0, 0) σ) (h1 : A = js_r E (0, 1) τ) : False := by
  have g := (js_r_inj (h0.symm.trans h1)).1
  have q := js_w_eq g
  exact absurd q (by decide)
/-- within SYMBOL s -/
theorem r_gateI {s : Int} {L : Nat} (hs : 0 ≤ s ∧ s < 400) (hL : ρ 91 s = L) (hL4 : L ≤ 4096) (h90 : 0 ≤ ρ 90 s ∧ ρ 90 s + L ≤ 4096) (h88 : -2147483648 ≤ ρ 88 s ∧ ρ 88 s < 2147483648) (h89 : -2147483648 ≤ ρ 89 s ∧ ρ 89 s < 2147483648) : ∀ (g i : Nat) (u3 : js_v), g + i = L → js_J E e 276 25 [(2, 83), (0, s), (0, (i : Int)), u3, (9, 0)] [] ρ = js_r E (0, 1) ρ → (∀ j : Int, i ≤ j → j < L → ρ 88 s ≤ js_l (ρ 120 (ρ 90 s + j)) ∧ js_l (ρ 120 (ρ 90 s + j)) ≤ ρ 89 s) ∧ ∃ u4 : js_v, js_J E e 276 107 [(2, 83), (0, s), (0, (L : Int)), u4, (9, 0)] [] ρ = js_r E (0, 1) ρ := by
  have ws : js_w s = s := js_w_of (by omega) (by omega)
  have wL : js_w (L : Int) = L := js_w_of (by omega) (by omega)
  have w88 : js_w (ρ 88 s) = ρ 88 s := js_w_of h88.1 h88.2
  have w89 : js_w (ρ 89 s) = ρ 89 s := js_w_of h89.1 h89.2
  have l88 : js_l (ρ 88 s) = ρ 88 s := js_l_of (by omega) (by omega)
  have l89 : js_l (ρ 89 s) = ρ 89 s := js_l_of (by omega) (by omega)
  intro g
  induction g with
  | zero =>
    intro i u3 hi h
    have hi : i = L := by omega
    subst hi
    rw [b_276_25, ws, if_pos hs, hL, if_neg (show ¬ js_w (i : Int) < js_w (i : Int) by omega)] at h
    exact ⟨fun j j1 j2 => by omega, u3, h⟩
  | succ g ih =>
    intro i u3 hi h
    have wi : js_w (i : Int) = i := js_w_of (by omega) (by omega)
    have wa : js_w (ρ 90 s + i) = ρ 90 s + i := js_w_of (by omega) (by omega)
    rw [b_276_25, ws, if_pos hs, hL, wi, wL, if_pos (show (i : Int) < L by omega), wa, if_pos (show 0 ≤ ρ 90 s + (i : Int) ∧ ρ 90 s + (i : Int) < 8192 by omega), w88, l88, w89, l89] at h
    by_cases q1 : js_l (ρ 120 (ρ 90 s + i)) < ρ 88 s
    · rw [if_pos q1] at h
      exact (js_r01 rfl h).elim
    rw [if_neg q1] at h
    by_cases q2 : ρ 89 s < js_l (ρ 120 (ρ 90 s + i))
    · rw [if_pos q2] at h
      exact (js_r01 rfl h).elim
    rw [if_neg q2] at h
    have fin : ∀ u : js_v, js_J E e 276 25 [(2, 83), (0, s), (0, ((i + 1 : Nat) : Int)), u, (9, 0)] [] ρ = js_r E (0, 1) ρ → (∀ j : Int, i ≤ j → j < L → ρ 88 s ≤ js_l (ρ 120 (ρ 90 s + j)) ∧ js_l (ρ 120 (ρ 90 s + j)) ≤ ρ 89 s) ∧ ∃ u4 : js_v, js_J E e 276 107 [(2, 83), (0, s), (0, (L : Int)), u4, (9, 0)] [] ρ = js_r E (0, 1) ρ := fun u hu => by
      obtain ⟨a, b⟩ := ih (i + 1) u (by omega) hu
      refine ⟨fun j j1 j2 => ?_, b⟩
      by_cases q : j = i
      · rw [q]
        omega
      · exact a j (by push_cast; omega) j2
    have wb : js_w (4096 + ρ 90 s + i) = 4096 + ρ 90 s + i := js_w_of (by omega) (by omega)
    rw [wb, if_pos (show 0 ≤ 4096 + ρ 90 s + (i : Int) ∧ 4096 + ρ 90 s + (i : Int) < 8192 by omega)] at h
    by_cases q3 : js_l (ρ 120 (4096 + ρ 90 s + i)) = js_l (58659 * ρ 120 (ρ 90 s + i))
    · rw [if_pos q3, show (i : Int) + 1 = ((i + 1 : Nat) : Int) by push_cast; rfl] at h
      exact fin _ h
    · rw [if_neg q3] at h
      exact (js_r01 rfl h).elim
/-- what holds of the reference's SYMBOLS for its outs -/
def ou_P (T : Nat) (ρ : js_S) : Prop := (T ≤ 400 ∧ ρ 83 11 = T) ∧ (∀ s : Int, 0 ≤ s → s < T → 0 ≤ ρ 86 s ∧ ρ 86 s ≤ 9) ∧ ∀ s : Int, 0 ≤ s → s < T → ρ 86 s = 2 → (0 ≤ ρ 91 s ∧ 0 ≤ ρ 90 s ∧ ρ 90 s + ρ 91 s ≤ 4096) ∧ (-2147483648 ≤ ρ 88 s ∧ ρ 88 s < 2147483648) ∧ -2147483648 ≤ ρ 89 s ∧ ρ 89 s < 2147483648
theorem ou_of {b N : Int} {σ : js_S} (hp : pr_R E b T N σ ρ) : ou_P T ρ := by
  have hN := hp.1.2.1
  refine ⟨⟨hp.1.1.1, hp.1.1.2.1⟩, hp.2.2.2.2.1, fun s s1 s2 s3 => ?_⟩
  have g := hp.2.2.2.2.2 s s1 s2 (by omega)
  exact ⟨⟨g.1.1, g.1.2.1, by omega⟩, g.2.1, g.2.2.1⟩
theorem r_gateS (hp : ou_P T ρ) : ∀ (g k : Nat) (u2 u3 : js_v), g + k = T → js_J E e 276 2 [(2, 83), (0, (k : Int)), u2, u3, (9, 0)] [] ρ = js_r E (0, 1) ρ → ∀ s : Int, k ≤ s → s < T → ρ 86 s = 2 → ∀ j : Int, 0 ≤ j → j < ρ 91 s → ρ 88 s ≤ js_l (ρ 120 (ρ 90 s + j)) ∧ js_l (ρ 120 (ρ 90 s + j)) ≤ ρ 89 s := by
  obtain ⟨⟨hT, h11⟩, h86, hout⟩ := hp
  intro g
  induction g with
  | zero => intro k u2 u3 hk _ s s1 s2 _ j _ _; omega
  | succ g ih =>
    intro k u2 u3 hk h s s1 s2 s3 j j1 j2
    have wk : js_w (k : Int) = k := js_w_of (by omega) (by omega)
    have wT : js_w (T : Int) = T := js_w_of (by omega) (by omega)
    have k9 := h86 k (by omega) (by omega)
    have w86 : js_w (ρ 86 k) = ρ 86 k := js_w_of (by omega) (by omega)
    rw [b_276_2, h11, wk, wT, if_pos (show (k : Int) < T by omega), if_pos (show 0 ≤ (k : Int) ∧ (k : Int) < 400 by omega), w86] at h
    have nx : ∀ u2 u3 : js_v, js_J E e 276 107 [(2, 83), (0, (k : Int)), u2, u3, (9, 0)] [] ρ = js_r E (0, 1) ρ → ∀ s : Int, (k : Int) + 1 ≤ s → s < T → ρ 86 s = 2 → ∀ j : Int, 0 ≤ j → j < ρ 91 s → ρ 88 s ≤ js_l (ρ 120 (ρ 90 s + j)) ∧ js_l (ρ 120 (ρ 90 s + j)) ≤ ρ 89 s := fun u2 u3 hn s s1 => by
      rw [b_276_107, show (k : Int) + 1 = ((k + 1 : Nat) : Int) by push_cast; rfl] at hn
      exact ih (k + 1) u2 u3 (by omega) hn s (by push_cast; omega)
    by_cases q : ρ 86 k = 2
    · rw [if_pos q] at h
      obtain ⟨⟨o1, o2, o3⟩, o4, o5⟩ := hout k (by omega) (by omega) q
      obtain ⟨a, u4, b⟩ := r_gateI (E := E) (e := e) (ρ := ρ) (s := k) (L := (ρ 91 k).toNat) (by omega) (by omega) (by omega) (by omega) o4 o5 (ρ 91 k).toNat 0 u3 (by omega) h
      by_cases t : s = k
      · rw [t] at j2 ⊢
        exact a j j1 (by omega)
      · exact nx _ _ b s (by omega) s2 s3 j j1 j2
    · rw [if_neg q] at h
      have t : s ≠ k := fun t => q (by rw [← t]; exact s3)
      exact nx _ _ h s (by omega) s2 s3 j j1 j2
theorem r_gate (hp : ou_P T ρ) (h : js_J E e 276 0 [(2, 83), (9, 0), (9, 0), (9, 0), (9, 0)] [] ρ = js_r E (0, 1) ρ) : ∀ s : Int, 0 ≤ s → s < T → ρ 86 s = 2 → ∀ j : Int, 0 ≤ j → j < ρ 91 s → ρ 88 s ≤ js_l (ρ 120 (ρ 90 s + j)) ∧ js_l (ρ 120 (ρ 90 s + j)) ≤ ρ 89 s := by
  rw [b_276_0] at h
  exact r_gateS hp T 0 _ _ rfl h
def em_F (R m : Int) (ρ0 ρ : js_S) : Prop := ∀ a i : Int, ¬ (a = 126 ∧ R ≤ i ∧ i < R + m) → ρ a i = ρ0 a i
theorem r_emI {ρ0 : js_S} {R O : Int} {k L : Nat} (hk : k < 400) (hL : ρ0 91 k = L) (h90 : 0 ≤ ρ0 90 k ∧ ρ0 90 k + L ≤ 4096) (hO : 0 ≤ O) (hR : 0 ≤ R ∧ R + O + L ≤ 65536) : ∀ (g i : Nat) (ρ : js_S), g + i = L → em_F R (O + i) ρ0 ρ → (∀ j : Int, 0 ≤ j → j < i → ρ 126 (R + O + j) = ρ0 120 (ρ0 90 k + j)) → ∃ ρ' : js_S, js_J E e 275 50 [(2, 83), (0, R + O + i), (0, (k : Int)), (0, (i : Int))] [] ρ = js_J E e 275 89 [(2, 83), (0, R + O + L), (0, (k : Int)), (0, (L : Int))] [] ρ' ∧ em_F R (O + L) ρ0 ρ' ∧ (∀ j : Int, 0 ≤ j → j < L → ρ' 126 (R + O + j) = ρ0 120 (ρ0 90 k + j)) ∧ ∀ j : Int, j < O → ρ' 126 (R + j) = ρ 126 (R + j) := by
  have wk : js_w (k : Int) = k := js_w_of (by omega) (by omega)
  have wL : js_w (L : Int) = L := js_w_of (by omega) (by omega)
  intro g
  induction g with
  | zero =>
    intro i ρ hi hf hv
    have hi : i = L := by omega
    subst hi
    refine ⟨ρ, ?_, hf, hv, fun _ _ => rfl⟩
    rw [b_275_50, wk, if_pos (by omega), hf _ _ (by omega), hL, if_neg (show ¬ js_w (i : Int) < js_w (i : Int) by omega)]
  | succ g ih =>
    intro i ρ hi hf hv
    have wi : js_w (i : Int) = i := js_w_of (by omega) (by omega)
    have w1 : js_w (R + O + i) = R + O + i := js_w_of (by omega) (by omega)
    have wa : js_w (ρ0 90 k + i) = ρ0 90 k + i := js_w_of (by omega) (by omega)
    have e120 : ρ 120 (ρ0 90 k + i) = ρ0 120 (ρ0 90 k + i) := hf _ _ (by omega)
    obtain ⟨ρ', e2, f2, v2, o2⟩ := ih (i + 1) (js_up ρ 126 (R + O + i) (ρ0 120 (ρ0 90 k + i))) (by omega) (fun a x q => by rw [js_up_ne _ (by push_cast at q; omega), hf a x (by push_cast at q; omega)]) (fun j j1 j2 => by
      by_cases q : j = i
      · rw [q, js_up_same]
      · rw [js_up_ni _ (by omega)]
        exact hv j j1 (by push_cast at j2; omega))
    refine ⟨ρ', ?_, f2, v2, fun j j1 => by rw [o2 j j1, js_up_ni _ (by omega)]⟩
    rw [b_275_50, wk, if_pos (by omega), hf 91 _ (by omega), hL, wi, wL, if_pos (by omega), hf 90 _ (by omega), wa, if_pos (by omega), w1, if_pos (by omega), e120, show R + O + (i : Int) + 1 = R + O + ((i + 1 : Nat) : Int) by push_cast; omega, show (i : Int) + 1 = ((i + 1 : Nat) : Int) by push_cast; rfl, e2]
theorem r_emS {ρ0 : js_S} {R : Int} (hp : ou_P T ρ0) (hR : 0 ≤ R ∧ R + ou_o ρ0 T ≤ 65536) : ∀ (g k : Nat) (ρ : js_S) (w3 : js_v), g + k = T → em_F R (ou_o ρ0 k) ρ0 ρ → (∀ s : Int, 0 ≤ s → s < k → ρ0 86 s = 2 → ∀ j : Int, 0 ≤ j → j < ρ0 91 s → ρ 126 (R + ou_o ρ0 s.toNat + j) = ρ0 120 (ρ0 90 s + j)) → ∃ (ρ' : js_S) (w4 : js_v), js_J E e 275 27 [(2, 83), (0, R + ou_o ρ0 k), (0, (k : Int)), w3] [] ρ = js_J E e 275 106 [(2, 83), (0, R + ou_o ρ0 T), (0, (T : Int)), w4] [(2, 83)] (js_up ρ' 83 82 (ρ' 83 82 + 1)) ∧ em_F R (ou_o ρ0 T) ρ0 ρ' ∧ ∀ s : Int, 0 ≤ s → s < T → ρ0 86 s = 2 → ∀ j : Int, 0 ≤ j → j < ρ0 91 s → ρ' 126 (R + ou_o ρ0 s.toNat + j) = ρ0 120 (ρ0 90 s + j) := by
  have hp' := hp
  obtain ⟨⟨hT, h11⟩, h86, hout⟩ := hp'
  have mono := ou_o_up (ρ := ρ0) (M := T) (fun s s1 s2 s3 => (hout s s1 s2 s3).1.1)
  intro g
  induction g with
  | zero =>
    intro k ρ w3 hk hf hv
    have hk : k = T := by omega
    subst hk
    refine ⟨ρ, w3, ?_, hf, hv⟩
    rw [b_275_27, hf 83 _ (by omega), h11, if_neg (show ¬ js_w (k : Int) < js_w (k : Int) by omega)]
  | succ g ih =>
    intro k ρ w3 hk hf hv
    have wk : js_w (k : Int) = k := js_w_of (by omega) (by omega)
    have wT : js_w (T : Int) = T := js_w_of (by omega) (by omega)
    have k9 := h86 k (by omega) (by omega)
    have w86 : js_w (ρ0 86 k) = ρ0 86 k := js_w_of (by omega) (by omega)
    have m0 := mono g.succ k (by omega)
    have m1 := mono g (k + 1) (by omega)
    rw [show g.succ + k = T by omega] at m0
    rw [show g + (k + 1) = T by omega] at m1
    have en : ou_o ρ0 (k + 1) = ou_o ρ0 k + (if ρ0 86 k = 2 then ρ0 91 k else 0) := rfl
    by_cases q : ρ0 86 k = 2
    · rw [if_pos q] at en
      obtain ⟨⟨o1, o2, o3⟩, _, _⟩ := hout k (by omega) (by omega) q
      have lk : ((ρ0 91 k).toNat : Int) = ρ0 91 k := by omega
      obtain ⟨ρ1, e1, f1, v1, o1'⟩ := r_emI (E := E) (e := e) (ρ0 := ρ0) (R := R) (O := ou_o ρ0 k) (k := k) (L := (ρ0 91 k).toNat) (by omega) (by omega) (by omega) m0.1 (by omega) (ρ0 91 k).toNat 0 ρ (by omega) (by rw [show ou_o ρ0 k + ((0 : Nat) : Int) = ou_o ρ0 k by omega]; exact hf) (fun j j1 j2 => by omega)
      rw [lk] at f1 e1 v1
      obtain ⟨ρ', w4, e2, h2⟩ := ih (k + 1) ρ1 (0, ρ0 91 k) (by omega) (by rw [en]; exact f1) (fun s s1 s2 s3 j j1 j2 => by
        by_cases t : s = k
        · rw [t] at j2 ⊢
          rw [show ((k : Int)).toNat = k by omega]
          exact v1 j j1 j2
        · have z := hv s s1 (by push_cast at s2; omega) s3 j j1 j2
          have ms := mono (k - (s.toNat + 1)) (s.toNat + 1) (by omega)
          rw [show k - (s.toNat + 1) + (s.toNat + 1) = k by omega] at ms
          have es : ou_o ρ0 (s.toNat + 1) = ou_o ρ0 s.toNat + (if ρ0 86 (s.toNat : Int) = 2 then ρ0 91 (s.toNat : Int) else 0) := rfl
          have ts : ((s.toNat : Nat) : Int) = s := by omega
          rw [ts, if_pos s3] at es
          rw [Int.add_assoc, o1' _ (by omega), ← Int.add_assoc]
          exact z)
      refine ⟨ρ', w4, ?_, h2⟩
      have e1' : js_J E e 275 50 [(2, 83), (0, R + ou_o ρ0 k), (0, (k : Int)), (0, 0)] [] ρ = js_J E e 275 89 [(2, 83), (0, R + ou_o ρ0 k + ρ0 91 k), (0, (k : Int)), (0, ρ0 91 k)] [] ρ1 := by
        have x := e1
        rw [show R + ou_o ρ0 k + ((0 : Nat) : Int) = R + ou_o ρ0 k by omega] at x
        exact x
      rw [b_275_27, hf 83 _ (by omega), h11, wk, wT, if_pos (by omega), if_pos (by omega), hf 86 _ (by omega), w86, if_pos q, e1', b_275_89, show (k : Int) + 1 = ((k + 1 : Nat) : Int) by push_cast; rfl, show R + ou_o ρ0 k + ρ0 91 k = R + ou_o ρ0 (k + 1) by rw [en]; omega, e2]
    · rw [if_neg q] at en
      obtain ⟨ρ', w4, e2, h2⟩ := ih (k + 1) ρ w3 (by omega) (by rw [en, Int.add_zero]; exact hf) (fun s s1 s2 s3 j j1 j2 => by
        have t : s ≠ k := fun t => q (by rw [← t]; exact s3)
        exact hv s s1 (by push_cast at s2; omega) s3 j j1 j2)
      refine ⟨ρ', w4, ?_, h2⟩
      rw [b_275_27, hf 83 _ (by omega), h11, wk, wT, if_pos (by omega), if_pos (by omega), hf 86 _ (by omega), w86, if_neg q, b_275_89, show (k : Int) + 1 = ((k + 1 : Nat) : Int) by push_cast; rfl, show R + ou_o ρ0 k = R + ou_o ρ0 (k + 1) by rw [en]; omega, e2]
end EM
