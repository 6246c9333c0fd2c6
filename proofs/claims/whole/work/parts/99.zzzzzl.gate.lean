/-! part 99.zzzzzl: THE GATE, by both -/
theorem js_c1 {M r : Int} (hr : r = 0 ∨ r = 7 ∨ r = 14) : js_isC M (59 + r) 1 := by
  rcases hr with q | q | q <;> subst q <;> exact fun σ => ⟨rfl, rfl, rfl⟩
theorem js_c2 {M r : Int} (hr : r = 0 ∨ r = 7 ∨ r = 14) : js_isC M (62 + r) 58659 := by
  rcases hr with q | q | q <;> subst q <;> exact fun σ => ⟨rfl, rfl, rfl⟩
/-- SYMBOL i of a program that runs is the same in both -/
def sp_P (M : Int) (σ ρ : js_S) (b i : Int) : Prop := (js_desc M σ (σ (19 + b) i) = some (0, 11, js_sym) ∧ 0 ≤ σ (19 + b) i) ∧ (σ (σ (19 + b) i) 1 = ρ 86 i ∧ σ (σ (19 + b) i) 2 = ρ 87 i ∧ σ (σ (19 + b) i) 3 = ρ 88 i ∧ σ (σ (19 + b) i) 4 = ρ 89 i ∧ σ (σ (19 + b) i) 5 = ρ 90 i ∧ σ (σ (19 + b) i) 6 = ρ 91 i) ∧ (σ (σ (19 + b) i) 7 = ρ 93 i ∧ σ (σ (19 + b) i) 8 = ρ 94 i ∧ σ (σ (19 + b) i) 9 = ρ 95 i ∧ σ (σ (19 + b) i) 12 = ρ 92 i) ∧ σ (σ (19 + b) i) 14 = ρ 97 i ∧ ∀ k : Int, 0 ≤ k → k < ρ 97 i → σ (20 + b) (20 * i + k) = ρ 98 (20 * i + k)
/-- a program that runs is the same in both: T SYMBOLs, N CELLs -/
def pr_R (E : js_E) (b : Int) (T : Nat) (N : Int) (σ ρ : js_S) : Prop := ((T ≤ 400 ∧ ρ 83 11 = T ∧ σ (7 + b) 1 = T) ∧ (0 ≤ N ∧ N ≤ E.1 ∧ N ≤ 4096 ∧ E.1 < 2147483648) ∧ ρ 83 48 = N ∧ σ (7 + b) 2 = N) ∧ ((0 ≤ ρ 83 49 ∧ ρ 83 49 ≤ 8192 ∧ σ (8 + b) 6 = ρ 83 49) ∧ σ (7 + b) 3 = ρ 83 50 ∧ (1 ≤ ρ 83 51 ∧ ρ 83 51 ≤ 100000 ∧ σ (7 + b) 4 = ρ 83 51) ∧ σ (7 + b) 5 = ρ 83 46 ∧ σ (7 + b) 6 = ρ 83 47) ∧ (∀ i : Int, 0 ≤ i → i < T → sp_P E.1 σ ρ b i) ∧ (∀ p : Int, 0 ≤ p → p < ρ 83 49 → ce_P b σ ρ p) ∧ (∀ s : Int, 0 ≤ s → s < T → 0 ≤ ρ 86 s ∧ ρ 86 s ≤ 9) ∧ ∀ s : Int, 0 ≤ s → s < T → 1 ≤ ρ 86 s ∧ ρ 86 s ≤ 3 → (0 ≤ ρ 91 s ∧ 0 ≤ ρ 90 s ∧ ρ 90 s + ρ 91 s ≤ N) ∧ (-2147483648 ≤ ρ 88 s ∧ ρ 88 s < 2147483648) ∧ (-2147483648 ≤ ρ 89 s ∧ ρ 89 s < 2147483648) ∧ (-2147483648 ≤ ρ 94 s ∧ ρ 94 s < 2147483648)
section YG
variable {E : js_E} {d e : Nat} {b r N : Int} {T : Nat} {σ ρ : js_S}
/-- the CELLs of one out -/
theorem ya_in (hr : r = 0 ∨ r = 7 ∨ r = 14) (hp : pr_R E b T N σ ρ) (h1 : cq_R N (59 + r) 0 σ ρ) (h2 : cq_R N (62 + r) 1 σ ρ) (hd : 2 ≤ d) {i : Int} (hi : 0 ≤ i ∧ i < T) (hk : ρ 86 i = 2) {L : Nat} (hL : ρ 91 i = L) : ∀ (g k : Nat) (u1 u2 : js_v), g + k = L → ∃ z : Int, js_J E d 161 5 [(2, 58 + r), (2, σ (19 + b) i), (0, ρ 90 i + k), u1, (9, 0)] [] σ = js_r E (0, z) σ ∧ (z = 0 ∧ js_J E e 276 25 [(2, 83), (0, i), (0, k), u2, (9, 0)] [] ρ = js_r E (0, 0) ρ ∨ z = 1 ∧ ∃ u3 : js_v, js_J E e 276 25 [(2, 83), (0, i), (0, k), u2, (9, 0)] [] ρ = js_J E e 276 107 [(2, 83), (0, i), (0, L), u3, (9, 0)] [] ρ) := by
  obtain ⟨⟨⟨hT, _, _⟩, hN, _, _⟩, _, hs, _, _, hpt⟩ := hp
  obtain ⟨⟨s0, _⟩, ⟨s1, s2, s3, s4, s5, s6⟩, _⟩ := hs i hi.1 hi.2
  obtain ⟨pc, p8, p9, _⟩ := hpt i hi.1 hi.2 (by omega)
  have wi : js_w i = i := js_w_of (by omega) (by omega)
  have i4 : 0 ≤ i ∧ i < 400 := by omega
  intro g
  induction g with
  | zero =>
    intro k u1 u2 hg
    have hkL : k = L := by omega
    subst hkL
    refine ⟨1, ?_, Or.inr ⟨rfl, u2, ?_⟩⟩
    · rw [b_161_5 s0 hr, s5, s6, hL, if_neg (show ¬ js_w (ρ 90 i + (k : Int)) < js_w (ρ 90 i + (k : Int)) by omega)]
    · rw [b_276_25, wi, if_pos i4, hL, if_neg (show ¬ js_w (k : Int) < js_w (k : Int) by omega)]
  | succ g ih =>
    intro k u1 u2 hg
    have wk : js_w (k : Int) = k := js_w_of (by omega) (by omega)
    have wL : js_w (L : Int) = L := js_w_of (by omega) (by omega)
    have wa : js_w (ρ 90 i + (k : Int)) = ρ 90 i + k := js_w_of (by omega) (by omega)
    have wb : js_w (ρ 90 i + (L : Int)) = ρ 90 i + L := js_w_of (by omega) (by omega)
    have wc : js_w (4096 + ρ 90 i + (k : Int)) = 4096 + ρ 90 i + k := js_w_of (by omega) (by omega)
    have v1 := h1.2.2 (ρ 90 i + k) (by omega) (by omega)
    have v2 := h2.2.2 (ρ 90 i + k) (by omega) (by omega)
    rw [show (4096 : Int) * 0 + (ρ 90 i + k) = ρ 90 i + k by omega] at v1
    rw [show (4096 : Int) * 1 + (ρ 90 i + k) = 4096 + ρ 90 i + k by omega] at v2
    have v3 : js_l (58659 * σ (59 + r + 2) (ρ 90 i + k)) = js_l (58659 * ρ 120 (ρ 90 i + k)) := lq_mul rfl v1
    have c1 : js_J E d 161 5 [(2, 58 + r), (2, σ (19 + b) i), (0, ρ 90 i + k), u1, (9, 0)] [] σ = (if js_l (ρ 120 (ρ 90 i + k)) < js_l (js_w (ρ 88 i)) then js_r E (0, 0) σ else (if js_l (js_w (ρ 89 i)) < js_l (ρ 120 (ρ 90 i + k)) then js_r E (0, 0) σ else (if js_l (ρ 120 (4096 + ρ 90 i + k)) = js_l (58659 * ρ 120 (ρ 90 i + k)) then js_J E d 161 5 [(2, 58 + r), (2, σ (19 + b) i), (0, ρ 90 i + k + 1), (1, σ (59 + r + 2) (ρ 90 i + k)), (9, 0)] [] σ else js_r E (0, 0) σ))) := by
      rw [b_161_5 s0 hr, s5, s6, hL, wa, wb, if_pos (show ρ 90 i + (k : Int) < ρ 90 i + (L : Int) by omega), k_161_23 hr (by omega) (c_read (js_c1 hr) ⟨by omega, by omega⟩ ⟨by omega, by omega⟩ wa), b_161_26 s0 hr, s3, s4, v1, k_161_52 hr (by omega) (c_read (js_c2 hr) ⟨by omega, by omega⟩ ⟨by omega, by omega⟩ wa), b_161_55, v2, v3]
    have r1 : js_J E e 276 25 [(2, 83), (0, i), (0, k), u2, (9, 0)] [] ρ = (if js_l (ρ 120 (ρ 90 i + k)) < js_l (js_w (ρ 88 i)) then js_r E (0, 0) ρ else (if js_l (js_w (ρ 89 i)) < js_l (ρ 120 (ρ 90 i + k)) then js_r E (0, 0) ρ else (if js_l (ρ 120 (4096 + ρ 90 i + k)) = js_l (58659 * ρ 120 (ρ 90 i + k)) then js_J E e 276 25 [(2, 83), (0, i), (0, k + 1), (1, ρ 120 (ρ 90 i + k)), (9, 0)] [] ρ else js_r E (0, 0) ρ))) := by
      rw [b_276_25, wi, if_pos i4, hL, wk, wL, if_pos (show (k : Int) < L by omega), wa, if_pos (show 0 ≤ ρ 90 i + (k : Int) ∧ ρ 90 i + (k : Int) < 8192 by omega), wc, if_pos (show 0 ≤ 4096 + ρ 90 i + (k : Int) ∧ 4096 + ρ 90 i + (k : Int) < 8192 by omega)]
    rw [c1, r1]
    by_cases t1 : js_l (ρ 120 (ρ 90 i + k)) < js_l (js_w (ρ 88 i))
    · exact ⟨0, by rw [if_pos t1], Or.inl ⟨rfl, by rw [if_pos t1]⟩⟩
    by_cases t2 : js_l (js_w (ρ 89 i)) < js_l (ρ 120 (ρ 90 i + k))
    · exact ⟨0, by rw [if_neg t1, if_pos t2], Or.inl ⟨rfl, by rw [if_neg t1, if_pos t2]⟩⟩
    by_cases t3 : js_l (ρ 120 (4096 + ρ 90 i + k)) = js_l (58659 * ρ 120 (ρ 90 i + k))
    · obtain ⟨z, e1, e2⟩ := ih (k + 1) (1, σ (59 + r + 2) (ρ 90 i + k)) (1, ρ 120 (ρ 90 i + k)) (by omega)
      rw [show ((k + 1 : Nat) : Int) = (k : Int) + 1 by push_cast; rfl, ← Int.add_assoc] at e1
      rw [show ((k + 1 : Nat) : Int) = (k : Int) + 1 by push_cast; rfl] at e2
      refine ⟨z, by rw [if_neg t1, if_neg t2, if_pos t3, e1], ?_⟩
      rw [if_neg t1, if_neg t2, if_pos t3]
      exact e2
    · exact ⟨0, by rw [if_neg t1, if_neg t2, if_neg t3], Or.inl ⟨rfl, by rw [if_neg t1, if_neg t2, if_neg t3]⟩⟩
theorem ya_out (hb : b = 0 ∨ b = 25) (hr : r = 0 ∨ r = 7 ∨ r = 14) (hp : pr_R E b T N σ ρ) (h1 : cq_R N (59 + r) 0 σ ρ) (h2 : cq_R N (62 + r) 1 σ ρ) (hd : 4 ≤ d) : ∀ (g k : Nat) (u u2 u3 : js_v), g + k = T → ∃ z : Int, (z = 0 ∨ z = 1) ∧ js_J E d 160 2 [(2, 58 + r), (2, 7 + b), (0, k), u] [] σ = js_r E (0, z) σ ∧ js_J E e 276 2 [(2, 83), (0, k), u2, u3, (9, 0)] [] ρ = js_r E (0, z) ρ := by
  have hp' := hp
  obtain ⟨⟨⟨hT, h11, h71⟩, hN, _, _⟩, _, hs, _, hk9, hpt⟩ := hp'
  intro g
  induction g with
  | zero =>
    intro k u u2 u3 hg
    have hk : k = T := by omega
    subst hk
    refine ⟨1, Or.inr rfl, ?_, ?_⟩
    · rw [b_160_2 hb, h71, if_neg (show ¬ js_w (k : Int) < js_w (k : Int) by omega)]
    · rw [b_276_2, h11, if_neg (show ¬ js_w (k : Int) < js_w (k : Int) by omega)]
  | succ g ih =>
    intro k u u2 u3 hg
    have wk : js_w (k : Int) = k := js_w_of (by omega) (by omega)
    have wT : js_w (T : Int) = T := js_w_of (by omega) (by omega)
    obtain ⟨⟨s0, sg⟩, ⟨s1, s2, s3, s4, s5, s6⟩, _⟩ := hs k (by omega) (by omega)
    have k9 := hk9 k (by omega) (by omega)
    have w86 : js_w (ρ 86 k) = ρ 86 k := js_w_of (by omega) (by omega)
    have ck : (k : Int) + 1 = ((k + 1 : Nat) : Int) := by push_cast; rfl
    have cA : js_J E (d - 1) 67 0 [(2, 7 + b), (0, (k : Int))] [] σ = js_r E (2, σ (19 + b) k) σ := c_symAt hb (by omega) (by omega) (by omega)
    have c0 : js_J E d 160 2 [(2, 58 + r), (2, 7 + b), (0, k), u] [] σ = (if ρ 86 k = 2 then js_J E d 160 30 [(2, 58 + r), (2, 7 + b), (0, k), (2, σ (19 + b) k)] [(2, σ (19 + b) k), (2, 58 + r)] σ else js_J E d 160 38 [(2, 58 + r), (2, 7 + b), (0, k), (2, σ (19 + b) k)] [] σ) := by
      rw [b_160_2 hb, h71, wk, wT, if_pos (show (k : Int) < T by omega), k_160_12 hb (by omega) cA, b_160_15, if_neg (show ¬ σ (19 + b) k < 0 by omega), b_160_20 s0, s1, w86]
    have r0 : js_J E e 276 2 [(2, 83), (0, k), u2, u3, (9, 0)] [] ρ = (if ρ 86 k = 2 then js_J E e 276 25 [(2, 83), (0, k), (0, 0), u3, (9, 0)] [] ρ else js_J E e 276 107 [(2, 83), (0, k), u2, u3, (9, 0)] [] ρ) := by
      rw [b_276_2, h11, wk, wT, if_pos (show (k : Int) < T by omega), if_pos (show 0 ≤ (k : Int) ∧ (k : Int) < 400 by omega), w86]
    by_cases q : ρ 86 k = 2
    · have pc := (hpt k (by omega) (by omega) (by omega)).1
      obtain ⟨z, e1, e2⟩ := ya_in (E := E) (d := d - 1) (e := e) (b := b) hr hp h1 h2 (by omega) (i := k) (by omega) q (L := (ρ 91 k).toNat) (by omega) (ρ 91 k).toNat 0 (9, 0) u3 (by omega)
      rw [show ((0 : Nat) : Int) = 0 from rfl, Int.add_zero] at e1
      have e3 : js_J E (d - 1) 161 0 [(2, 58 + r), (2, σ (19 + b) k), (9, 0), (9, 0), (9, 0)] [] σ = js_r E (0, z) σ := by
        rw [b_161_0 s0, s5, e1]
      rw [c0, r0, if_pos q, if_pos q, k_160_30 hr (by omega) e3, b_160_33]
      rcases e2 with ⟨hz, e4⟩ | ⟨hz, u4, e4⟩
      · have e4' : js_J E e 276 25 [(2, 83), (0, (k : Int)), (0, 0), u3, (9, 0)] [] ρ = js_r E (0, 0) ρ := e4
        exact ⟨0, Or.inl rfl, by rw [hz, if_pos (show js_w 0 = 0 from rfl)], e4'⟩
      · have e4' : js_J E e 276 25 [(2, 83), (0, (k : Int)), (0, 0), u3, (9, 0)] [] ρ = js_J E e 276 107 [(2, 83), (0, (k : Int)), (0, ((ρ 91 k).toNat : Int)), u4, (9, 0)] [] ρ := e4
        obtain ⟨z2, hz2, f1, f2⟩ := ih (k + 1) (2, σ (19 + b) k) (0, ((ρ 91 k).toNat : Int)) u4 (by omega)
        refine ⟨z2, hz2, ?_, ?_⟩
        · rw [hz, if_neg (show ¬ js_w 1 = 0 by decide), b_160_38, ck, f1]
        · rw [e4', b_276_107, ck, f2]
    · obtain ⟨z2, hz2, f1, f2⟩ := ih (k + 1) (2, σ (19 + b) k) u2 u3 (by omega)
      refine ⟨z2, hz2, ?_, ?_⟩
      · rw [c0, if_neg q, b_160_38, ck, f1]
      · rw [r0, if_neg q, b_276_107, ck, f2]
/-- both agree about the outs, or neither -/
theorem y_agree (hb : b = 0 ∨ b = 25) (hr : r = 0 ∨ r = 7 ∨ r = 14) (hp : pr_R E b T N σ ρ) (h1 : cq_R N (59 + r) 0 σ ρ) (h2 : cq_R N (62 + r) 1 σ ρ) (hd : 4 ≤ d) : ∃ z : Int, (z = 0 ∨ z = 1) ∧ js_J E d 160 0 [(2, 58 + r), (2, 7 + b), (9, 0), (9, 0)] [] σ = js_r E (0, z) σ ∧ js_J E e 276 0 [(2, 83), (9, 0), (9, 0), (9, 0), (9, 0)] [] ρ = js_r E (0, z) ρ := by
  obtain ⟨z, hz, f1, f2⟩ := ya_out (E := E) (d := d) (e := e) hb hr hp h1 h2 hd T 0 (9, 0) (9, 0) (9, 0) (by omega)
  have f1' : js_J E d 160 2 [(2, 58 + r), (2, 7 + b), (0, 0), (9, 0)] [] σ = js_r E (0, z) σ := f1
  have f2' : js_J E e 276 2 [(2, 83), (0, 0), (9, 0), (9, 0), (9, 0)] [] ρ = js_r E (0, z) ρ := f2
  exact ⟨z, hz, by rw [b_160_0, f1'], by rw [b_276_0, f2']⟩
end YG
