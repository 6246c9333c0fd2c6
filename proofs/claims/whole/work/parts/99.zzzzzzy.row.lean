/-! part 99.zzzzzzy: kinds of tokens; the row of tokens -/
section TR
variable {E : js_E} {d : Nat} {σ ρ : js_S} {k : Int}
theorem rn_s {P : Int → Bool} (h : k < ρ 83 4) (hp : P (rx_at ρ k) = true) : rx_run P (rx_at ρ) (rx_n ρ k) k = rx_run P (rx_at ρ) (rx_n ρ (k + 1)) (k + 1) := by
  have e : rx_n ρ k = rx_n ρ (k + 1) + 1 := by unfold rx_n; omega
  rw [e]
  show (if P (rx_at ρ k) then rx_run P (rx_at ρ) (rx_n ρ (k + 1)) (k + 1) else k) = _
  rw [if_pos hp]
theorem rn_0 {P : Int → Bool} (hp : P (rx_at ρ k) = false) : ∀ n : Nat, rx_run P (rx_at ρ) n k = k
  | 0 => rfl
  | n + 1 => by
    show (if P (rx_at ρ k) then rx_run P (rx_at ρ) n (k + 1) else k) = _
    rw [hp]
    rfl
theorem skip_fuel : ∀ (n m : Nat) (p : Int), rx_n ρ p ≤ n → rx_n ρ p ≤ m → p ≤ ρ 83 4 → rx_skip ρ n p = rx_skip ρ m p := by
  have z : ∀ (m : Nat) (p : Int), rx_n ρ p = 0 → p ≤ ρ 83 4 → rx_skip ρ m p = rx_bls ρ p := fun m p h0 hp => by
    cases m with
    | zero => rfl
    | succ m =>
      have b := rx_bls_in hp
      have e : rx_at ρ (rx_bls ρ p) = 0 := rx_at_0 (by unfold rx_n at h0; omega)
      show (if rx_at ρ (rx_bls ρ p) = 47 ∧ rx_at ρ (rx_bls ρ p + 1) = 47 then rx_skip ρ m (rx_nls ρ (rx_bls ρ p)) else rx_bls ρ p) = _
      rw [if_neg (fun g => by rw [e] at g; exact absurd g.1 (by decide))]
  intro n
  induction n with
  | zero =>
    intro m p h1 h2 hp
    rw [z 0 p (by omega) hp, z m p (by omega) hp]
  | succ n ih =>
    intro m p h1 h2 hp
    cases m with
    | zero => rw [z (n + 1) p (by omega) hp, z 0 p (by omega) hp]
    | succ m =>
      show (if rx_at ρ (rx_bls ρ p) = 47 ∧ rx_at ρ (rx_bls ρ p + 1) = 47 then rx_skip ρ n (rx_nls ρ (rx_bls ρ p)) else rx_bls ρ p) = (if rx_at ρ (rx_bls ρ p) = 47 ∧ rx_at ρ (rx_bls ρ p + 1) = 47 then rx_skip ρ m (rx_nls ρ (rx_bls ρ p)) else rx_bls ρ p)
      by_cases q : rx_at ρ (rx_bls ρ p) = 47 ∧ rx_at ρ (rx_bls ρ p + 1) = 47
      · rw [if_pos q, if_pos q]
        have b := rx_bls_in hp
        have lt : rx_bls ρ p < ρ 83 4 := by
          by_cases g : rx_bls ρ p < ρ 83 4
          · exact g
          · have e : rx_at ρ (rx_bls ρ p) = 0 := rx_at_0 (by omega)
            rw [e] at q
            exact absurd q.1 (by decide)
        have go := rx_nls_go lt (by rw [q.1]; decide)
        have ni := rx_nls_in (Int.le_of_lt lt)
        exact ih m _ (by unfold rx_n at h1 ⊢; omega) (by unfold rx_n at h2 ⊢; omega) ni.2
      · rw [if_neg q, if_neg q]
theorem skip_bls {p q : Int} (h : rx_bls ρ p = rx_bls ρ q) (n : Nat) : rx_skip ρ n p = rx_skip ρ n q := by
  cases n with
  | zero => exact h
  | succ n =>
    show (if rx_at ρ (rx_bls ρ p) = 47 ∧ rx_at ρ (rx_bls ρ p + 1) = 47 then rx_skip ρ n (rx_nls ρ (rx_bls ρ p)) else rx_bls ρ p) = (if rx_at ρ (rx_bls ρ q) = 47 ∧ rx_at ρ (rx_bls ρ q + 1) = 47 then rx_skip ρ n (rx_nls ρ (rx_bls ρ q)) else rx_bls ρ q)
    rw [h]
theorem fr_bl (h : k < ρ 83 4) (hb : rx_bl (rx_at ρ k) = true) : rx_fr ρ k = rx_fr ρ (k + 1) := by
  have e : rx_bls ρ k = rx_bls ρ (k + 1) := rn_s h hb
  unfold rx_fr
  rw [skip_bls e, skip_fuel (rx_n ρ k) (rx_n ρ (k + 1)) (k + 1) (by unfold rx_n; omega) (Nat.le_refl _) (by omega)]
theorem fr_cm (h : k < ρ 83 4) (hc : rx_cmt ρ k = true) : rx_fr ρ k = rx_fr ρ (rx_nls ρ k) := by
  unfold rx_cmt at hc
  simp only [Bool.and_eq_true, decide_eq_true_eq] at hc
  have b : rx_bls ρ k = k := rn_0 (by rw [hc.1]; decide) _
  have e : rx_n ρ k = (rx_n ρ k - 1) + 1 := by unfold rx_n; omega
  have go := rx_nls_go h (by rw [hc.1]; decide)
  have ni := rx_nls_in (Int.le_of_lt h)
  unfold rx_fr
  rw [e]
  show (if rx_at ρ (rx_bls ρ k) = 47 ∧ rx_at ρ (rx_bls ρ k + 1) = 47 then rx_skip ρ (rx_n ρ k - 1) (rx_nls ρ (rx_bls ρ k)) else rx_bls ρ k) = _
  rw [b, if_pos hc]
  exact skip_fuel _ _ _ (by unfold rx_n; omega) (Nat.le_refl _) ni.2
theorem fr_tk (h : k < ρ 83 4) (hb : rx_bl (rx_at ρ k) = false) (hc : rx_cmt ρ k = false) : rx_fr ρ k = k := by
  have b : rx_bls ρ k = k := rn_0 hb _
  have e : rx_n ρ k = (rx_n ρ k - 1) + 1 := by unfold rx_n; omega
  unfold rx_fr
  rw [e]
  show (if rx_at ρ (rx_bls ρ k) = 47 ∧ rx_at ρ (rx_bls ρ k + 1) = 47 then rx_skip ρ (rx_n ρ k - 1) (rx_nls ρ (rx_bls ρ k)) else rx_bls ρ k) = _
  rw [b, if_neg (fun g => by
    unfold rx_cmt at hc
    rw [g.1, g.2] at hc
    exact absurd hc (by decide))]
theorem lex_fr {p q : Int} (h : rx_fr ρ p = rx_fr ρ q) : rx_lex ρ p = rx_lex ρ q := by
  unfold rx_lex
  rw [h]
theorem tk_2_1 (c e : Int) : tk_2 c e = 1 ↔ rx_m2 c e = 0 := by
  unfold tk_2 rx_m2
  repeat' split
  all_goals omega
/-- what stands between tokens -/
def rx_bw (ρ : js_S) (k : Int) : Bool := rx_bl (rx_at ρ k) || rx_cmt ρ k
/-- a token's end -/
theorem lex_end (h : tq_R σ ρ) (h0 : 0 ≤ k) (h1 : k < ρ 83 4) (hw : rx_bw ρ k = false) : bt_k ρ k = (rx_lex ρ k).1 ∧ rx_fr ρ k = k ∧ k < bt_k ρ k := by
  unfold rx_bw at hw
  rw [Bool.or_eq_false_iff] at hw
  have f := fr_tk h1 hw.1 hw.2
  have c3 : ¬ rx_cmt ρ k = true := by rw [hw.2]; decide
  have m2 := tk_2_1 (rx_at ρ k) (rx_at ρ (k + 1))
  unfold bt_k rx_lex
  simp only [f]
  rw [if_neg (show ¬ ρ 83 4 ≤ k by omega)]
  by_cases q1 : rx_L (rx_at ρ k) = true
  · have e : rx_LDs ρ k = rx_LDs ρ (k + 1) := rn_s h1 (by unfold rx_LD; rw [q1]; rfl)
    have i := rx_run_in rx_LD (rx_at ρ) (rx_n ρ (k + 1)) (k + 1)
    rw [if_pos q1, if_pos q1]
    refine ⟨e.symm, trivial, ?_⟩
    show k < rx_run rx_LD (rx_at ρ) (rx_n ρ (k + 1)) (k + 1)
    omega
  · rw [if_neg q1, if_neg q1]
    by_cases q2 : rx_D (rx_at ρ k) = true
    · have e : rx_Ds ρ k = rx_Ds ρ (k + 1) := rn_s h1 q2
      have i := rx_run_in rx_D (rx_at ρ) (rx_n ρ (k + 1)) (k + 1)
      rw [if_pos q2, if_pos q2]
      refine ⟨e.symm, trivial, ?_⟩
      show k < rx_run rx_D (rx_at ρ) (rx_n ρ (k + 1)) (k + 1)
      omega
    · rw [if_neg q2, if_neg q2, if_neg c3]
      by_cases q3 : rx_m2 (rx_at ρ k) (rx_at ρ (k + 1)) = 0
      · rw [if_pos (m2.mpr q3), if_pos q3]
        exact ⟨rfl, trivial, by omega⟩
      · rw [if_neg (fun g => q3 (m2.mp g)), if_neg q3]
        exact ⟨rfl, trivial, by omega⟩
theorem c_kind (h : tq_R σ ρ) (h0 : 0 ≤ k) (h1 : k < ρ 83 4) (hd : 6 ≤ d) : js_J E d 29 0 [(2, 1), (0, k), (0, bt_k ρ k), (9, 0)] [] σ = js_r E (0, if rx_bw ρ k = true then 4 else tk_m (rx_lex ρ k).2.1) σ := by
  have h8 := h.2.2.2
  have a := rx_at_in h.2.2.1 h0
  have a2 := rx_at_in h.2.2.1 (k := k + 1) (by omega)
  have wa : js_w (rx_at ρ k) = rx_at ρ k := js_w_of (by omega) (by omega)
  rw [b_29_0, k_29_2 (by omega) (c_sAt h h0 (by omega)), b_29_5, wa]
  by_cases q1 : rx_at ρ k = 32
  · rw [if_pos q1, if_pos (show rx_bw ρ k = true by unfold rx_bw rx_bl; simp [q1])]
  by_cases q2 : rx_at ρ k = 10
  · rw [if_neg q1, if_pos q2, if_pos (show rx_bw ρ k = true by unfold rx_bw rx_bl; simp [q2])]
  rw [if_neg q1, if_neg q2, k_29_20 (by omega) (c_isC h h0 (by omega) (by omega)), b_29_23]
  by_cases q3 : rx_cmt ρ k = true
  · rw [if_neg (fun g => by rw [(rx_b_w _).mp g] at q3; cases q3), if_pos (show rx_bw ρ k = true by unfold rx_bw; simp [q3])]
  have q3' : rx_cmt ρ k = false := by simpa using q3
  have hbl : rx_bl (rx_at ρ k) = false := by unfold rx_bl; simp [q1, q2]
  have hw : rx_bw ρ k = false := by unfold rx_bw; rw [hbl, q3']; rfl
  obtain ⟨e1, f, lt⟩ := lex_end h h0 h1 hw
  have i := rx_lex_in h.2.2.1 (p := k) h0 (by omega)
  rw [if_pos ((rx_b_w _).mpr q3'), if_neg (show ¬ rx_bw ρ k = true by rw [hw]; decide), k_29_29 (by omega) (c_isL (by omega) (by omega)), b_29_32]
  have wl : js_w (bt_k ρ k - k) = bt_k ρ k - k := js_w_of (by omega) (by omega)
  by_cases q4 : rx_L (rx_at ρ k) = true
  · have et : bt_k ρ k = rx_LDs ρ k := by
      rw [e1]
      unfold rx_lex
      simp only [f]
      rw [if_neg (show ¬ ρ 83 4 ≤ k by omega), if_pos q4]
    have ek : (rx_lex ρ k).2.1 = if rx_w1 ρ k (rx_LDs ρ k) = 2 ∧ 20 < rx_LDs ρ k - k then 2000 else rx_w1 ρ k (rx_LDs ρ k) := by
      unfold rx_lex
      simp only [f]
      rw [if_neg (show ¬ ρ 83 4 ≤ k by omega), if_pos q4]
    rw [if_neg (fun g => by rw [(rx_b_w _).mp g] at q4; cases q4), wl, ek, ← et]
    by_cases q5 : 20 < bt_k ρ k - k
    · have e2 : rx_w1 ρ k (bt_k ρ k) = 2 := find_long q5 rx_kws 0 (by decide)
      rw [if_pos q5, b_29_55, if_pos ⟨e2, q5⟩]
      rfl
    · rw [if_neg q5, k_29_52 (by omega) (c_word h h0 (by omega) (by omega)), b_29_55, if_neg (fun g => q5 g.2)]
      rfl
  · have q4' : rx_L (rx_at ρ k) = false := by simpa using q4
    rw [if_pos ((rx_b_w _).mpr q4'), k_29_57 (by omega) (c_isD (by omega) (by omega)), b_29_60, wl]
    by_cases q5 : rx_D (rx_at ρ k) = true
    · have et : bt_k ρ k = rx_Ds ρ k := by
        rw [e1]
        unfold rx_lex
        simp only [f]
        rw [if_neg (show ¬ ρ 83 4 ≤ k by omega), if_neg q4, if_pos q5]
      have ek : (rx_lex ρ k).2.1 = if 10 < rx_Ds ρ k - k ∨ 2000000000 < rx_nv (rx_at ρ) k (rx_n ρ k) k 0 then 2000 else 3 := by
        unfold rx_lex
        simp only [f]
        rw [if_neg (show ¬ ρ 83 4 ≤ k by omega), if_neg q4, if_pos q5]
      rw [if_neg (fun g => by rw [(rx_b_w _).mp g] at q5; cases q5), ek, ← et]
      by_cases q6 : 10 < bt_k ρ k - k
      · rw [if_pos q6, if_pos (Or.inl q6)]
        rfl
      · have ev : rx_nv (rx_at ρ) k (rx_n ρ k) k 0 = cn_v (rx_at ρ) k (bt_k ρ k - k).toNat 0 0 := by
          have g := nv_cn (s := rx_at ρ) (f := k) (rx_n ρ k) k 0 (Int.le_refl _) (by show rx_Ds ρ k - k ≤ 11; omega)
          rw [g, Int.sub_self, et]
          rfl
        have nb := rx_nv_in (s := rx_at ρ) (f := k) (rx_n ρ k) k 0 (Int.le_refl _) (Int.le_refl _) (fun _ => by rw [Int.sub_self]; decide) (by decide)
        have wv : js_l (rx_nv (rx_at ρ) k (rx_n ρ k) k 0) = rx_nv (rx_at ρ) k (rx_n ρ k) k 0 := js_l_of (by omega) (by omega)
        have cnum : js_J E (d - 1) 31 0 [(2, 1), (0, k), (0, bt_k ρ k - k), (9, 0), (9, 0), (9, 0)] [] σ = js_r E (1, rx_nv (rx_at ρ) k (rx_n ρ k) k 0) σ := by
          rw [b_31_0, c_num h ⟨h0, by omega⟩ (by omega) (bt_k ρ k - k).toNat 0 0 (by omega) (Int.le_refl _) (by omega), ev]
        rw [if_neg q6, k_29_76 (by omega) cnum, b_29_79, wv]
        by_cases q7 : 2000000000 < rx_nv (rx_at ρ) k (rx_n ρ k) k 0
        · rw [if_pos q7, if_pos (Or.inr q7)]
          rfl
        · rw [if_neg q7, if_neg (fun g => g.elim q6 q7)]
          rfl
    · have q5' : rx_D (rx_at ρ k) = false := by simpa using q5
      have ek : (rx_lex ρ k).2.1 = if rx_m2 (rx_at ρ k) (rx_at ρ (k + 1)) = 0 then rx_m1 (rx_at ρ k) else rx_m2 (rx_at ρ k) (rx_at ρ (k + 1)) := by
        unfold rx_lex
        simp only [f]
        rw [if_neg (show ¬ ρ 83 4 ≤ k by omega), if_neg q4, if_neg q5]
      have eb : bt_k ρ k = if tk_2 (rx_at ρ k) (rx_at ρ (k + 1)) = 1 then k + 1 else k + 2 := by
        unfold bt_k
        rw [if_neg q4, if_neg q5, if_neg q3]
      have m2 := tk_2_1 (rx_at ρ k) (rx_at ρ (k + 1))
      rw [if_pos ((rx_b_w _).mpr q5'), ek]
      by_cases q6 : rx_m2 (rx_at ρ k) (rx_at ρ (k + 1)) = 0
      · rw [if_pos (m2.mpr q6)] at eb
        have mk := mk_cls ⟨(rx_at ρ k).toNat, by omega⟩
        simp only [Int.toNat_of_nonneg a.1] at mk
        rw [if_neg (show ¬ bt_k ρ k - k = 2 by omega), b_29_111 (by omega) mk.2, if_pos q6]
        unfold rx_m1
        by_cases q7 : rx_at ρ k ∈ rx_mk
        · have r : 33 ≤ rx_at ρ k ∧ rx_at ρ k ≤ 126 := by
            unfold rx_mk at q7
            simp only [List.mem_cons, List.not_mem_nil, or_false] at q7
            omega
          rw [if_neg (fun g => (mk.1.mp g) q7), if_pos q7]
          unfold tk_m
          rw [if_neg (by omega), if_neg (by omega), if_neg (by omega), if_neg (by omega)]
        · rw [if_pos (mk.1.mpr q7), if_neg q7]
          rfl
      · rw [if_neg (fun g => q6 (m2.mp g))] at eb
        have r : 200 ≤ rx_m2 (rx_at ρ k) (rx_at ρ (k + 1)) ∧ rx_m2 (rx_at ρ k) (rx_at ρ (k + 1)) ≤ 206 := by
          revert q6
          unfold rx_m2
          repeat' split
          all_goals omega
        rw [if_pos (show bt_k ρ k - k = 2 by omega), k_29_104 (by omega) (c_sAt h (by omega) (by omega)), k_29_107 (by omega) (c_m2 (by omega) (by omega)), b_29_110, if_neg q6]
        unfold tk_2 tk_m
        rw [if_neg q6, if_neg (by omega), if_neg (by omega), if_neg (by omega), if_pos (by omega)]
end TR
