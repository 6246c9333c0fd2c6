/-! part 99.zzzzzp: a CYCLE begins, by both -/
/-- what is given for ins is the same -/
def gv_R (T : Nat) (σ ρ : js_S) : Prop := in_o ρ T ≤ 4096 ∧ ∀ s : Int, 0 ≤ s → s < T → ρ 86 s = 1 → ∀ i : Int, 0 ≤ i → i < ρ 91 s → σ 79 (ρ 90 s + i) = ρ 125 (in_o ρ s.toNat + i) ∧ ρ 88 s ≤ ρ 125 (in_o ρ s.toNat + i) ∧ ρ 125 (in_o ρ s.toNat + i) ≤ ρ 89 s
def yb_I (N r : Int) (σ0 ρ0 σ ρ : js_S) : Prop := (∀ a i : Int, a ≠ 61 + r → a ≠ 64 + r → σ a i = σ0 a i) ∧ (∀ a i : Int, a ≠ 120 → ρ a i = ρ0 a i) ∧ cq_R N (59 + r) 0 σ ρ ∧ cq_R N (62 + r) 1 σ ρ
section YB
variable {E : js_E} {d e : Nat} {Fu : Int → Int → Int → Prop} {ac zc b r N : Int} {T : Nat} {σ ρ σ0 ρ0 : js_S}
theorem c_hold {x1 x2 k : Int} (hr : r = 0 ∨ r = 7 ∨ r = 14) (hE : 0 ≤ E.1 ∧ E.1 < 2147483648) (hk : 0 ≤ k ∧ k < E.1) (h : js_w x1 = k) (hd : 4 ≤ d) : js_J E d 120 0 [(2, 58 + r), (0, x1), (0, x2)] [] σ = js_r0 E (js_up (js_up σ (61 + r) k (js_w x2 * 1)) (64 + r) k (js_w x2 * 58659)) := by
  have h1 : ∀ (x0 o y : Int) (τ : js_S), js_isC E.1 x0 o → js_J E (d - 1) 121 0 [(2, x0), (0, x1), (1, y), (9, 0)] [] τ = js_r0 E (js_up τ (x0 + 2) k (y * o)) := fun x0 o y τ hC => by
    rw [b_121_0 hC, k_121_8 hC (by omega) (c_write hC hE hk h), b_121_11]
  rw [b_120_0 hr, k_120_7 hr (by omega) (h1 _ _ _ _ (js_c1 hr)), b_120_10 hr, k_120_17 hr (by omega) (h1 _ _ _ _ (js_c2 hr)), b_120_20, show 59 + r + 2 = 61 + r by omega, show 62 + r + 2 = 64 + r by omega]
theorem yb_pr {hr : r = 0 ∨ r = 7 ∨ r = 14} (hb : b = 0 ∨ b = 25) (hp : pr_R E b T N σ0 ρ0) (h : yb_I N r σ0 ρ0 σ ρ) : pr_R E b T N σ ρ := pr_fr hr hb hp (fun a i g => h.1 a i (by omega) (by omega)) (fun a i _ g => h.2.1 a i (by omega))
theorem yb_in (hb : b = 0 ∨ b = 25) (hr : r = 0 ∨ r = 7 ∨ r = 14) (hp : pr_R E b T N σ0 ρ0) (hg : gv_R T σ0 ρ0) (hd : 6 ≤ d) {k : Nat} (hk : k < T) (h1 : ρ0 86 k = 1) {L : Nat} (hL : ρ0 91 k = L) (hoff : 0 ≤ in_o ρ0 k ∧ in_o ρ0 k + L ≤ 4096) : ∀ (g i : Nat) (σ ρ : js_S), g + i = L → yb_I N r σ0 ρ0 σ ρ → ∃ σ' ρ' : js_S, js_J E d 142 40 [(2, 56), (2, 58 + r), (0, k), (2, σ0 (19 + b) k), (0, ρ0 90 k + i)] [] σ = js_J E d 142 83 [(2, 56), (2, 58 + r), (0, k), (2, σ0 (19 + b) k), (0, ρ0 90 k + L)] [] σ' ∧ js_J E e 266 27 [(2, 83), (0, in_o ρ0 k + i), (0, k), (0, i)] [] ρ = js_J E e 266 94 [(2, 83), (0, in_o ρ0 k + L), (0, k), (0, L)] [] ρ' ∧ yb_I N r σ0 ρ0 σ' ρ' := by
  have hN := hp.1.2.1
  have hT := hp.1.1.1
  have hpt := hp.2.2.2.2.2 k (by omega) (by omega) (by omega)
  have wk : js_w (k : Int) = k := js_w_of (by omega) (by omega)
  have k4 : 0 ≤ (k : Int) ∧ (k : Int) < 400 := by omega
  intro g
  induction g with
  | zero =>
    intro i σ ρ hgi hI
    have hiL : i = L := by omega
    subst hiL
    have hpc := yb_pr (hr := hr) hb hp hI
    obtain ⟨⟨s0, _⟩, ⟨_, _, _, _, s5, s6⟩, _⟩ := hpc.2.2.1 k (by omega) (by omega)
    rw [hI.1 (19 + b) k (by omega) (by omega), hI.2.1 _ _ (by decide)] at s5 s6
    rw [hI.1 (19 + b) k (by omega) (by omega)] at s0
    rw [hL] at s6
    have e91 : ρ 91 k = i := by rw [hI.2.1 _ _ (by decide)]; exact hL
    refine ⟨σ, ρ, ?_, ?_, hI⟩
    · rw [b_142_40 s0 (by omega), s5, s6, if_neg (show ¬ js_w (ρ0 90 k + (i : Int)) < js_w (ρ0 90 k + (i : Int)) by omega)]
    · rw [b_266_27, wk, if_pos k4, e91, if_neg (show ¬ js_w (i : Int) < js_w (i : Int) by omega)]
  | succ g ih =>
    intro i σ ρ hgi hI
    have hpc := yb_pr (hr := hr) hb hp hI
    obtain ⟨⟨s0, _⟩, ⟨_, _, _, _, s5, s6⟩, _⟩ := hpc.2.2.1 k (by omega) (by omega)
    rw [hI.1 (19 + b) k (by omega) (by omega), hI.2.1 _ _ (by decide)] at s5 s6
    rw [hI.1 (19 + b) k (by omega) (by omega)] at s0
    rw [hL] at s6
    have e91 : ρ 91 k = L := by rw [hI.2.1 _ _ (by decide)]; exact hL
    have e90 : ρ 90 k = ρ0 90 k := hI.2.1 _ _ (by decide)
    have gv := hg.2 k (by omega) (by omega) h1 i (by omega) (by omega)
    rw [show (k : Int).toNat = k by omega] at gv
    have wa : js_w (ρ0 90 k + (i : Int)) = ρ0 90 k + i := js_w_of (by omega) (by omega)
    have wL : js_w (ρ0 90 k + (L : Int)) = ρ0 90 k + L := js_w_of (by omega) (by omega)
    have wE : js_w E.1 = E.1 := js_w_of (by omega) (by omega)
    have wi : js_w (i : Int) = i := js_w_of (by omega) (by omega)
    have wl : js_w (L : Int) = L := js_w_of (by omega) (by omega)
    have wo : js_w (in_o ρ0 k + (i : Int)) = in_o ρ0 k + i := js_w_of (by omega) (by omega)
    have wb : js_w (4096 + ρ0 90 k + (i : Int)) = 4096 + ρ0 90 k + i := js_w_of (by omega) (by omega)
    have v79 : σ 79 (ρ0 90 k + i) = ρ0 125 (in_o ρ0 k + i) := by rw [hI.1 _ _ (by omega) (by omega)]; exact gv.1
    have v125 : ρ 125 (in_o ρ0 k + i) = ρ0 125 (in_o ρ0 k + i) := hI.2.1 _ _ (by decide)
    have wv : js_w (ρ0 125 (in_o ρ0 k + i)) = ρ0 125 (in_o ρ0 k + i) := js_w_of (by omega) (by omega)
    have ec : js_J E d 142 40 [(2, 56), (2, 58 + r), (0, k), (2, σ0 (19 + b) k), (0, ρ0 90 k + i)] [] σ = js_J E d 142 40 [(2, 56), (2, 58 + r), (0, k), (2, σ0 (19 + b) k), (0, ρ0 90 k + i + 1)] [] (js_up (js_up σ (61 + r) (ρ0 90 k + i) (ρ0 125 (in_o ρ0 k + i) * 1)) (64 + r) (ρ0 90 k + i) (ρ0 125 (in_o ρ0 k + i) * 58659)) := by
      rw [b_142_40 s0 (by omega), s5, s6, wa, wL, wE, if_pos (show ρ0 90 k + (i : Int) < ρ0 90 k + (L : Int) by omega), if_pos (show ρ0 90 k + (i : Int) < E.1 by omega), if_pos (show 0 ≤ ρ0 90 k + (i : Int) ∧ ρ0 90 k + (i : Int) < E.1 by omega), v79, k_142_74 hr (by omega) (c_hold hr ⟨by omega, by omega⟩ ⟨by omega, by omega⟩ wa (by omega)), b_142_77, wv]
    have er : js_J E e 266 27 [(2, 83), (0, in_o ρ0 k + i), (0, k), (0, i)] [] ρ = js_J E e 266 27 [(2, 83), (0, in_o ρ0 k + i + 1), (0, k), (0, i + 1)] [] (js_up (js_up ρ 120 (ρ0 90 k + i) (ρ0 125 (in_o ρ0 k + i))) 120 (4096 + ρ0 90 k + i) (58659 * ρ0 125 (in_o ρ0 k + i))) := by
      rw [b_266_27, wk, if_pos k4, e91, wi, wl, if_pos (show (i : Int) < L by omega), wo, if_pos (show 0 ≤ in_o ρ0 k + (i : Int) ∧ in_o ρ0 k + (i : Int) < 4096 by omega), e90, wa, if_pos (show 0 ≤ ρ0 90 k + (i : Int) ∧ ρ0 90 k + (i : Int) < 8192 by omega), wb, if_pos (show 0 ≤ 4096 + ρ0 90 k + (i : Int) ∧ 4096 + ρ0 90 k + (i : Int) < 8192 by omega), v125, wv]
    have hI2 : yb_I N r σ0 ρ0 (js_up (js_up σ (61 + r) (ρ0 90 k + i) (ρ0 125 (in_o ρ0 k + i) * 1)) (64 + r) (ρ0 90 k + i) (ρ0 125 (in_o ρ0 k + i) * 58659)) (js_up (js_up ρ 120 (ρ0 90 k + i) (ρ0 125 (in_o ρ0 k + i))) 120 (4096 + ρ0 90 k + i) (58659 * ρ0 125 (in_o ρ0 k + i))) := by
      generalize ρ0 125 (in_o ρ0 k + i) = V
      refine ⟨fun a j g1 g2 => by rw [js_up_na _ g2, js_up_na _ g1, hI.1 a j g1 g2], fun a j g1 => by rw [js_up_na _ g1, js_up_na _ g1, hI.2.1 a j g1], ⟨?_, ?_, fun j j1 j2 => ?_⟩, ⟨?_, ?_, fun j j1 j2 => ?_⟩⟩
      · rw [js_up_na _ (by omega), js_up_na _ (by omega), js_up_na _ (by decide), js_up_na _ (by decide)]
        exact hI.2.2.1.1
      · rw [js_up_na _ (by omega), js_up_na _ (by omega), js_up_na _ (by decide), js_up_na _ (by decide)]
        exact hI.2.2.1.2.1
      · rw [show 59 + r + 2 = 61 + r by omega, js_up_na _ (by omega), js_up_ni (j := 4096 * 0 + j) _ (by omega)]
        by_cases q : j = ρ0 90 k + i
        · rw [q, js_up_same, show (4096 : Int) * 0 + (ρ0 90 k + i) = ρ0 90 k + i by omega, js_up_same, Int.mul_one]
        · rw [js_up_ni _ q, js_up_ni _ (by omega)]
          have a := hI.2.2.1.2.2 j j1 j2
          rw [show 59 + r + 2 = 61 + r by omega] at a
          exact a
      · rw [js_up_na _ (by omega), js_up_na _ (by omega), js_up_na _ (by decide), js_up_na _ (by decide)]
        exact hI.2.2.2.1
      · rw [js_up_na _ (by omega), js_up_na _ (by omega), js_up_na _ (by decide), js_up_na _ (by decide)]
        exact hI.2.2.2.2.1
      · rw [show 62 + r + 2 = 64 + r by omega]
        by_cases q : j = ρ0 90 k + i
        · rw [q, js_up_same, show (4096 : Int) * 1 + (ρ0 90 k + i) = 4096 + ρ0 90 k + i by omega, js_up_same, Int.mul_comm]
        · rw [js_up_ni _ q, js_up_na _ (by omega), js_up_ni _ (by omega), js_up_ni _ (by omega)]
          have a := hI.2.2.2.2.2 j j1 j2
          rw [show 62 + r + 2 = 64 + r by omega] at a
          exact a
    obtain ⟨σ', ρ', f1, f2, f3⟩ := ih (i + 1) _ _ (by omega) hI2
    rw [show ((i + 1 : Nat) : Int) = (i : Int) + 1 by push_cast; rfl, ← Int.add_assoc] at f1 f2
    exact ⟨σ', ρ', by rw [ec, f1], by rw [er, f2], f3⟩
theorem yb_out (hb : b = 0 ∨ b = 25) (hr : r = 0 ∨ r = 7 ∨ r = 14) (hp : pr_R E b T N σ0 ρ0) (h56 : σ0 56 1 = 7 + b) (hg : gv_R T σ0 ρ0) (hd : 8 ≤ d) : ∀ (g k : Nat) (σ ρ : js_S) (u3 u4 w3 : js_v), g + k = T → yb_I N r σ0 ρ0 σ ρ → ∃ (σ' ρ' : js_S) (u5 u6 w4 : js_v), js_J E d 142 2 [(2, 56), (2, 58 + r), (0, k), u3, u4] [] σ = js_J E d 142 97 [(2, 56), (2, 58 + r), (0, T), u5, u6] [(0, ρ0 83 50), (2, 58 + r)] σ' ∧ js_J E e 266 4 [(2, 83), (0, in_o ρ0 k), (0, k), w3] [] ρ = js_J E e 266 107 [(2, 83), (0, in_o ρ0 T), (0, T), w4] [(0, 0), (2, 83)] (js_up ρ' 83 79 0) ∧ yb_I N r σ0 ρ0 σ' ρ' := by
  have hN := hp.1.2.1
  have hT := hp.1.1.1
  have mono := in_o_up (ρ := ρ0) (M := T) (fun s s1 s2 s3 => (hp.2.2.2.2.2 s s1 s2 (by omega)).1.1)
  intro g
  induction g with
  | zero =>
    intro k σ ρ u3 u4 w3 hgk hI
    have hk : k = T := by omega
    subst hk
    have hpc := yb_pr (hr := hr) hb hp hI
    have p1 := hpc.1.1.2.2
    have p2 := hpc.1.1.2.1
    have p3 : σ (7 + b) 3 = ρ0 83 50 := by rw [hpc.2.1.2.1, hI.2.1 _ _ (by decide)]
    have q56 : σ 56 1 = 7 + b := by rw [hI.1 _ _ (by omega) (by omega)]; exact h56
    refine ⟨σ, ρ, u3, u4, w3, ?_, ?_, hI⟩
    · rw [b_142_2 hb q56, p1, if_neg (show ¬ js_w (k : Int) < js_w (k : Int) by omega), p3]
    · rw [b_266_4, p2, if_neg (show ¬ js_w (k : Int) < js_w (k : Int) by omega)]
  | succ g ih =>
    intro k σ ρ u3 u4 w3 hgk hI
    have hpc := yb_pr (hr := hr) hb hp hI
    have p1 := hpc.1.1.2.2
    have p2 := hpc.1.1.2.1
    have q56 : σ 56 1 = 7 + b := by rw [hI.1 _ _ (by omega) (by omega)]; exact h56
    have wk : js_w (k : Int) = k := js_w_of (by omega) (by omega)
    have wT : js_w (T : Int) = T := js_w_of (by omega) (by omega)
    obtain ⟨⟨s0, sg⟩, ⟨s1, _, _, _, s5, _⟩, _⟩ := hpc.2.2.1 k (by omega) (by omega)
    have k9 := hpc.2.2.2.2.1 k (by omega) (by omega)
    rw [hI.2.1 _ _ (by decide)] at k9
    have w86 : js_w (ρ0 86 k) = ρ0 86 k := js_w_of (by omega) (by omega)
    have cA : js_J E (d - 1) 67 0 [(2, 7 + b), (0, (k : Int))] [] σ = js_r E (2, σ (19 + b) k) σ := c_symAt hb (by omega) (by omega) (by omega)
    rw [hI.1 (19 + b) k (by omega) (by omega)] at s0 sg s1 s5 cA
    rw [hI.2.1 _ _ (by decide)] at s1 s5
    have ck : (k : Int) + 1 = ((k + 1 : Nat) : Int) := by push_cast; rfl
    have c0 : js_J E d 142 2 [(2, 56), (2, 58 + r), (0, k), u3, u4] [] σ = (if ρ0 86 k = 1 then js_J E d 142 40 [(2, 56), (2, 58 + r), (0, k), (2, σ0 (19 + b) k), (0, ρ0 90 k)] [] σ else js_J E d 142 83 [(2, 56), (2, 58 + r), (0, k), (2, σ0 (19 + b) k), u4] [] σ) := by
      rw [b_142_2 hb q56, p1, wk, wT, if_pos (show (k : Int) < T by omega), k_142_18 hb (by omega) cA, b_142_21, if_neg (show ¬ σ0 (19 + b) k < 0 by omega), b_142_26 s0, s1, w86, s5]
    have r0 : js_J E e 266 4 [(2, 83), (0, in_o ρ0 k), (0, k), w3] [] ρ = (if ρ0 86 k = 1 then js_J E e 266 27 [(2, 83), (0, in_o ρ0 k), (0, k), (0, 0)] [] ρ else js_J E e 266 94 [(2, 83), (0, in_o ρ0 k), (0, k), w3] [] ρ) := by
      rw [b_266_4, p2, wk, wT, if_pos (show (k : Int) < T by omega), if_pos (show 0 ≤ (k : Int) ∧ (k : Int) < 400 by omega), hI.2.1 86 _ (by decide), w86]
    have en : in_o ρ0 (k + 1) = in_o ρ0 k + (if ρ0 86 k = 1 then ρ0 91 k else 0) := rfl
    by_cases q : ρ0 86 k = 1
    · rw [if_pos q] at en
      have pc := (hp.2.2.2.2.2 k (by omega) (by omega) (by omega)).1
      have m1 := mono 0 k (by omega)
      have m2 := mono g (k + 1) (by omega)
      rw [show g + (k + 1) = T by omega] at m2
      have cL : ((ρ0 91 k).toNat : Int) = ρ0 91 k := by omega
      have hg1 := hg.1
      obtain ⟨σ1, ρ1, f1, f2, f3⟩ := yb_in (E := E) (d := d) (e := e) hb hr hp hg (by omega) (k := k) (by omega) q (L := (ρ0 91 k).toNat) (by omega) ⟨m1.1, by omega⟩ (ρ0 91 k).toNat 0 σ ρ (by omega) hI
      rw [show ((0 : Nat) : Int) = 0 from rfl, Int.add_zero] at f1 f2
      obtain ⟨σ', ρ', u5, u6, w4, h1, h2, h3⟩ := ih (k + 1) σ1 ρ1 (2, σ0 (19 + b) k) (0, ρ0 90 k + ((ρ0 91 k).toNat : Int)) (0, ((ρ0 91 k).toNat : Int)) (by omega) f3
      refine ⟨σ', ρ', u5, u6, w4, ?_, ?_, h3⟩
      · rw [c0, if_pos q, f1, b_142_83, ck, h1]
      · rw [r0, if_pos q, f2, b_266_94, ck, ← h2, cL, en]
    · rw [if_neg q, Int.add_zero] at en
      obtain ⟨σ', ρ', u5, u6, w4, h1, h2, h3⟩ := ih (k + 1) σ ρ (2, σ0 (19 + b) k) u4 w3 (by omega) hI
      refine ⟨σ', ρ', u5, u6, w4, ?_, ?_, h3⟩
      · rw [c0, if_neg q, b_142_83, ck, h1]
      · rw [r0, if_neg q, b_266_94, ck, ← h2, en]
/-- a CYCLE begins -/
theorem y_begin (hb : b = 0 ∨ b = 25) (hr : r = 0 ∨ r = 7 ∨ r = 14) (hp : pr_R E b T N σ ρ) (h56 : σ 56 1 = 7 + b) (hg : gv_R T σ ρ) (hst : ac ≤ ρ 83 50 ∧ ρ 83 50 < zc) (h1 : cq_R N (59 + r) 0 σ ρ) (h2 : cq_R N (62 + r) 1 σ ρ) (hd : 10 ≤ d) (he : 3 ≤ e) : ∃ σ' ρ' : js_S, js_J E d 142 0 [(2, 56), (2, 58 + r), (9, 0), (9, 0), (9, 0)] [] σ = js_r0 E σ' ∧ js_J E e 266 0 [(2, 83), (9, 0), (9, 0), (9, 0)] [] ρ = js_r0 E ρ' ∧ sc_F r σ σ' ∧ sr_F ρ ρ' ∧ rn_R Fu ac zc N r σ' ρ' := by
  have hN := hp.1.2.1
  have hbd := hp.2.1.2.2.1
  obtain ⟨σ1, ρ1, u5, u6, w4, f1, f2, f3⟩ := yb_out (E := E) (d := d) (e := e) hb hr hp h56 hg (by omega) T 0 σ ρ (9, 0) (9, 0) (9, 0) (by omega) ⟨fun _ _ _ _ => rfl, fun _ _ _ => rfl, h1, h2⟩
  obtain ⟨i1, i2, i3, i4⟩ := f3
  have f1' : js_J E d 142 2 [(2, 56), (2, 58 + r), (0, 0), (9, 0), (9, 0)] [] σ = js_J E d 142 97 [(2, 56), (2, 58 + r), (0, (T : Int)), u5, u6] [(0, ρ 83 50), (2, 58 + r)] σ1 := f1
  have f2' : js_J E e 266 4 [(2, 83), (0, 0), (0, 0), (9, 0)] [] ρ = js_J E e 266 107 [(2, 83), (0, in_o ρ T), (0, (T : Int)), w4] [(0, 0), (2, 83)] (js_up ρ1 83 79 0) := f2
  have ec : js_J E d 142 0 [(2, 56), (2, 58 + r), (9, 0), (9, 0), (9, 0)] [] σ = js_r0 E (js_up (js_up (js_up (js_up (js_up (js_up (js_up (js_up σ1 (58 + r) 0 1) (58 + r) 1 0) (58 + r) 3 0) (58 + r) 2 0) (59 + r) 0 0) (59 + r) 1 0) (59 + r) 2 (ρ 83 50)) (59 + r) 3 0) := by
    rw [b_142_0, f1', k_142_97 hr (by omega) (by rw [b_143_0 hr, k_143_25 hr (by omega) (b_144_0 (js_c1 hr)), b_143_28]), b_142_100]
  have er : js_J E e 266 0 [(2, 83), (9, 0), (9, 0), (9, 0)] [] ρ = js_r0 E (js_up (js_up (js_up (js_up (js_up (js_up (js_up ρ1 83 79 0) 83 77 1) 83 78 (ρ 83 50)) 83 80 0) 121 0 0) 122 0 0) 124 0 0) := by
    have q50 : js_up ρ1 83 79 0 83 50 = ρ 83 50 := by rw [js_up_ni _ (by decide), i2 _ _ (by decide)]
    rw [b_266_0, f2', k_266_107 (by omega) (by rw [b_267_0, show js_w 0 = 0 from rfl, if_pos (by decide)]), b_266_110, q50]
    rfl
  have a1 : ∀ a i : Int, ¬ (a = 58 + r ∧ 0 ≤ i ∧ i ≤ 3) → ¬ (a = 59 + r ∧ 0 ≤ i ∧ i ≤ 3) → js_up (js_up (js_up (js_up (js_up (js_up (js_up (js_up σ1 (58 + r) 0 1) (58 + r) 1 0) (58 + r) 3 0) (58 + r) 2 0) (59 + r) 0 0) (59 + r) 1 0) (59 + r) 2 (ρ 83 50)) (59 + r) 3 0 a i = σ1 a i := fun a i g1 g2 => by rw [js_up_ne _ (by omega), js_up_ne _ (by omega), js_up_ne _ (by omega), js_up_ne _ (by omega), js_up_ne _ (by omega), js_up_ne _ (by omega), js_up_ne _ (by omega), js_up_ne _ (by omega)]
  have b0 : js_up (js_up (js_up (js_up (js_up (js_up (js_up (js_up σ1 (58 + r) 0 1) (58 + r) 1 0) (58 + r) 3 0) (58 + r) 2 0) (59 + r) 0 0) (59 + r) 1 0) (59 + r) 2 (ρ 83 50)) (59 + r) 3 0 (58 + r) 0 = 1 := by rw [js_up_na _ (by omega), js_up_na _ (by omega), js_up_na _ (by omega), js_up_na _ (by omega), js_up_ni _ (by decide), js_up_ni _ (by decide), js_up_ni _ (by decide), js_up_same]
  have b1 : js_up (js_up (js_up (js_up (js_up (js_up (js_up (js_up σ1 (58 + r) 0 1) (58 + r) 1 0) (58 + r) 3 0) (58 + r) 2 0) (59 + r) 0 0) (59 + r) 1 0) (59 + r) 2 (ρ 83 50)) (59 + r) 3 0 (58 + r) 1 = 0 := by rw [js_up_na _ (by omega), js_up_na _ (by omega), js_up_na _ (by omega), js_up_na _ (by omega), js_up_ni _ (by decide), js_up_ni _ (by decide), js_up_same]
  have b3 : js_up (js_up (js_up (js_up (js_up (js_up (js_up (js_up σ1 (58 + r) 0 1) (58 + r) 1 0) (58 + r) 3 0) (58 + r) 2 0) (59 + r) 0 0) (59 + r) 1 0) (59 + r) 2 (ρ 83 50)) (59 + r) 3 0 (58 + r) 3 = 0 := by rw [js_up_na _ (by omega), js_up_na _ (by omega), js_up_na _ (by omega), js_up_na _ (by omega), js_up_ni _ (by decide), js_up_same]
  have d0 : js_up (js_up (js_up (js_up (js_up (js_up (js_up (js_up σ1 (58 + r) 0 1) (58 + r) 1 0) (58 + r) 3 0) (58 + r) 2 0) (59 + r) 0 0) (59 + r) 1 0) (59 + r) 2 (ρ 83 50)) (59 + r) 3 0 (59 + r) 0 = 0 := by rw [js_up_ni _ (by decide), js_up_ni _ (by decide), js_up_ni _ (by decide), js_up_same]
  have d1 : js_up (js_up (js_up (js_up (js_up (js_up (js_up (js_up σ1 (58 + r) 0 1) (58 + r) 1 0) (58 + r) 3 0) (58 + r) 2 0) (59 + r) 0 0) (59 + r) 1 0) (59 + r) 2 (ρ 83 50)) (59 + r) 3 0 (59 + r) 1 = 0 := by rw [js_up_ni _ (by decide), js_up_ni _ (by decide), js_up_same]
  have d2 : js_up (js_up (js_up (js_up (js_up (js_up (js_up (js_up σ1 (58 + r) 0 1) (58 + r) 1 0) (58 + r) 3 0) (58 + r) 2 0) (59 + r) 0 0) (59 + r) 1 0) (59 + r) 2 (ρ 83 50)) (59 + r) 3 0 (59 + r) 2 = ρ 83 50 := by rw [js_up_ni _ (by decide), js_up_same]
  have d3 : js_up (js_up (js_up (js_up (js_up (js_up (js_up (js_up σ1 (58 + r) 0 1) (58 + r) 1 0) (58 + r) 3 0) (58 + r) 2 0) (59 + r) 0 0) (59 + r) 1 0) (59 + r) 2 (ρ 83 50)) (59 + r) 3 0 (59 + r) 3 = 0 := js_up_same _ _ _ _
  generalize js_up (js_up (js_up (js_up (js_up (js_up (js_up (js_up σ1 (58 + r) 0 1) (58 + r) 1 0) (58 + r) 3 0) (58 + r) 2 0) (59 + r) 0 0) (59 + r) 1 0) (59 + r) 2 (ρ 83 50)) (59 + r) 3 0 = σ2 at ec a1 b0 b1 b3 d0 d1 d2 d3
  have r1 : ∀ a i : Int, ¬ (a = 83 ∧ 77 ≤ i ∧ i ≤ 80) → ¬ ((a = 121 ∨ a = 122 ∨ a = 124) ∧ i = 0) → js_up (js_up (js_up (js_up (js_up (js_up (js_up ρ1 83 79 0) 83 77 1) 83 78 (ρ 83 50)) 83 80 0) 121 0 0) 122 0 0) 124 0 0 a i = ρ1 a i := fun a i g1 g2 => by rw [js_up_ne _ (by omega), js_up_ne _ (by omega), js_up_ne _ (by omega), js_up_ne _ (by omega), js_up_ne _ (by omega), js_up_ne _ (by omega), js_up_ne _ (by omega)]
  have r7 : js_up (js_up (js_up (js_up (js_up (js_up (js_up ρ1 83 79 0) 83 77 1) 83 78 (ρ 83 50)) 83 80 0) 121 0 0) 122 0 0) 124 0 0 83 77 = 1 := by rw [js_up_na _ (by decide), js_up_na _ (by decide), js_up_na _ (by decide), js_up_ni _ (by decide), js_up_ni _ (by decide), js_up_same]
  have r8 : js_up (js_up (js_up (js_up (js_up (js_up (js_up ρ1 83 79 0) 83 77 1) 83 78 (ρ 83 50)) 83 80 0) 121 0 0) 122 0 0) 124 0 0 83 78 = ρ 83 50 := by rw [js_up_na _ (by decide), js_up_na _ (by decide), js_up_na _ (by decide), js_up_ni _ (by decide), js_up_same]
  have r9 : js_up (js_up (js_up (js_up (js_up (js_up (js_up ρ1 83 79 0) 83 77 1) 83 78 (ρ 83 50)) 83 80 0) 121 0 0) 122 0 0) 124 0 0 83 79 = 0 := by rw [js_up_na _ (by decide), js_up_na _ (by decide), js_up_na _ (by decide), js_up_ni _ (by decide), js_up_ni _ (by decide), js_up_ni _ (by decide), js_up_same]
  have r0 : js_up (js_up (js_up (js_up (js_up (js_up (js_up ρ1 83 79 0) 83 77 1) 83 78 (ρ 83 50)) 83 80 0) 121 0 0) 122 0 0) 124 0 0 83 80 = 0 := by rw [js_up_na _ (by decide), js_up_na _ (by decide), js_up_na _ (by decide), js_up_same]
  have ra : js_up (js_up (js_up (js_up (js_up (js_up (js_up ρ1 83 79 0) 83 77 1) 83 78 (ρ 83 50)) 83 80 0) 121 0 0) 122 0 0) 124 0 0 121 0 = 0 := by rw [js_up_na _ (by decide), js_up_na _ (by decide), js_up_same]
  have rb : js_up (js_up (js_up (js_up (js_up (js_up (js_up ρ1 83 79 0) 83 77 1) 83 78 (ρ 83 50)) 83 80 0) 121 0 0) 122 0 0) 124 0 0 122 0 = 0 := by rw [js_up_na _ (by decide), js_up_same]
  have rd : js_up (js_up (js_up (js_up (js_up (js_up (js_up ρ1 83 79 0) 83 77 1) 83 78 (ρ 83 50)) 83 80 0) 121 0 0) 122 0 0) 124 0 0 124 0 = 0 := js_up_same _ _ _ _
  generalize js_up (js_up (js_up (js_up (js_up (js_up (js_up ρ1 83 79 0) 83 77 1) 83 78 (ρ 83 50)) 83 80 0) 121 0 0) 122 0 0) 124 0 0 = ρ2 at er r1 r7 r8 r9 r0 ra rb rd
  refine ⟨σ2, ρ2, ec, er, fun a i g => by rw [a1 a i (by omega) (by omega), i1 a i (by omega) (by omega)], fun a i g1 g2 => by rw [r1 a i g1 (by omega), i2 a i (by omega)], ⟨by rw [b0, r7], by rw [r7]; exact Or.inl rfl⟩, ⟨by rw [b1, r9], by rw [r9, b3, r0]; rfl, by rw [b3]; decide, ?_, fun _ => b3⟩, ⟨⟨by rw [d0, ra], by rw [d1, rb], fun k k1 k2 => ?_⟩, ⟨?_, ?_, fun k k1 k2 => ?_⟩⟩, ?_⟩
  · rw [r0, r1 _ _ (by omega) (by omega), i2 _ _ (by decide)]
    omega
  · rw [a1 _ _ (by omega) (by omega), r1 _ _ (by omega) (by omega)]
    exact i3.2.2 k k1 k2
  · rw [a1 _ _ (by omega) (by omega), r1 _ _ (by omega) (by omega)]
    exact i4.1
  · rw [a1 _ _ (by omega) (by omega), r1 _ _ (by omega) (by omega)]
    exact i4.2.1
  · rw [a1 _ _ (by omega) (by omega), r1 _ _ (by omega) (by omega)]
    exact i4.2.2 k k1 k2
  · rw [r7, r8, show (56 : Int) + r + 3 * 1 = 59 + r by omega, show (1 : Int) - 1 = 0 by decide]
    exact ⟨d2, by rw [d3, rd], fun k k1 k2 => by rw [rd] at k2; omega, 0, 17, by rw [rd]; rfl, rfl, hst.1, hst.2⟩
end YB
