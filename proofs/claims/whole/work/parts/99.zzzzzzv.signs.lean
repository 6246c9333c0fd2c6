/-! part 99.zzzzzzv: the class's reading of signs, words and numbers, as the reference's -/
/-- the tape that both read -/
def tq_R (σ ρ : js_S) : Prop := σ 1 0 = ρ 83 4 ∧ (∀ i : Int, 0 ≤ i → i < ρ 83 4 → σ 3 i = ρ 84 i) ∧ rx_tp ρ ∧ ρ 83 4 ≤ 8192
theorem m2_cls : ∀ c e : Fin 128, (if (rx_m2 (c.val : Int) (e.val : Int)) = 0 then (1 : Int) else rx_m2 (c.val : Int) (e.val : Int) - 72) = (if (e.val : Int) = 61 then (if (c.val : Int) = 33 then 132 else if (c.val : Int) = 60 then 129 else if (c.val : Int) = 61 then 131 else if (c.val : Int) = 62 then 130 else 1) else if (c.val : Int) = (e.val : Int) then (if (c.val : Int) = 46 then 128 else if (c.val : Int) = 38 then 133 else if (c.val : Int) = 124 then 134 else 1) else 1) := by
  intro c e
  unfold rx_m2
  have hc := c.isLt
  have he := e.isLt
  repeat' split
  all_goals omega
theorem kw_cls : ∀ i : Fin 106, js_sg 1 (i.val : Int) = rx_c85 (i.val : Int) := by decide +kernel
theorem mk_cls : ∀ c : Fin 128, (js_w (js_sx 0 (js_w (js_i2c (c.val : Int)))) < 0 ↔ ¬ (c.val : Int) ∈ rx_mk) ∧ (0 ≤ js_w (js_i2c (c.val : Int)) ∧ js_w (js_i2c (c.val : Int)) < 128) := by decide +kernel
theorem by_cls : ∀ x : Fin 256, js_iand (js_i2b (js_i2b (x.val : Int))) 255 = (x.val : Int) := by decide +kernel
section TS
variable {E : js_E} {d : Nat} {σ ρ : js_S}
theorem c_sAt (h : tq_R σ ρ) {k : Int} (h0 : 0 ≤ k) (h1 : k < 2147483648) : js_J E d 24 0 [(2, 1), (0, k)] [] σ = js_r E (0, rx_at ρ k) σ := by
  obtain ⟨a1, a2, a3, a4⟩ := h
  have wk : js_w k = k := js_w_of (by omega) (by omega)
  have wn : js_w (ρ 83 4) = ρ 83 4 := js_w_of (by have := a3.1; omega) (by omega)
  unfold rx_at
  rw [b_24_0, wk, if_neg (by omega), a1, wn]
  by_cases q : k < ρ 83 4
  · rw [if_pos q, if_pos q, if_pos (show 0 ≤ k ∧ k < 8192 by omega), a2 k h0 q]
  · rw [if_neg q, if_neg q]
theorem c_isL {c : Int} (h0 : -2147483648 ≤ c) (h1 : c < 2147483648) : js_J E d 25 0 [(0, c)] [] σ = js_r E (0, rx_b (rx_L c)) σ := by
  have w : js_w c = c := js_w_of h0 h1
  rw [b_25_0, b_25_12, b_25_24, w]
  unfold rx_L rx_b
  by_cases q1 : c < 97
  · by_cases q2 : c < 65
    · rw [if_pos q1, if_pos q2, if_neg (show ¬ c = 95 by omega)]
      simp [show ¬ 97 ≤ c by omega, show ¬ 65 ≤ c by omega, show ¬ c = 95 by omega]
    · by_cases q3 : 90 < c
      · by_cases q4 : c = 95
        · rw [if_pos q1, if_neg q2, if_pos q3, if_pos q4]
          simp [q4]
        · rw [if_pos q1, if_neg q2, if_pos q3, if_neg q4]
          simp [show ¬ 97 ≤ c by omega, show ¬ c ≤ 90 by omega, q4]
      · rw [if_pos q1, if_neg q2, if_neg q3]
        simp [show 65 ≤ c by omega, show c ≤ 90 by omega]
  · by_cases q2 : 122 < c
    · rw [if_neg q1, if_pos q2, if_neg (show ¬ c < 65 by omega), if_pos (show 90 < c by omega), if_neg (show ¬ c = 95 by omega)]
      simp [show ¬ c ≤ 122 by omega, show ¬ c ≤ 90 by omega, show ¬ c = 95 by omega]
    · rw [if_neg q1, if_neg q2]
      simp [show 97 ≤ c by omega, show c ≤ 122 by omega]
theorem c_isD {c : Int} (h0 : -2147483648 ≤ c) (h1 : c < 2147483648) : js_J E d 26 0 [(0, c)] [] σ = js_r E (0, rx_b (rx_D c)) σ := by
  have w : js_w c = c := js_w_of h0 h1
  rw [b_26_0, w]
  unfold rx_D rx_b
  by_cases q1 : c < 48
  · rw [if_pos q1]
    simp [show ¬ 48 ≤ c by omega]
  · by_cases q2 : 57 < c
    · rw [if_neg q1, if_pos q2]
      simp [show ¬ c ≤ 57 by omega]
    · rw [if_neg q1, if_neg q2]
      simp [show 48 ≤ c by omega, show c ≤ 57 by omega]
/-- does a comment begin at k? -/
def rx_cmt (ρ : js_S) (k : Int) : Bool := decide (rx_at ρ k = 47) && decide (rx_at ρ (k + 1) = 47)
theorem c_isC (h : tq_R σ ρ) {k : Int} (h0 : 0 ≤ k) (h1 : k < 2147483000) (hd : 1 ≤ d) : js_J E d 27 0 [(2, 1), (0, k)] [] σ = js_r E (0, rx_b (rx_cmt ρ k)) σ := by
  have a := rx_at_in h.2.2.1 h0
  have c := rx_at_in h.2.2.1 (k := k + 1) (by omega)
  have wa : js_w (rx_at ρ k) = rx_at ρ k := js_w_of (by omega) (by omega)
  have wc : js_w (rx_at ρ (k + 1)) = rx_at ρ (k + 1) := js_w_of (by omega) (by omega)
  unfold rx_cmt rx_b
  rw [b_27_0, k_27_2 hd (c_sAt h h0 (by omega)), b_27_5, wa]
  by_cases q1 : rx_at ρ k = 47
  · rw [if_pos q1, k_27_14 hd (c_sAt h (by omega) (by omega)), b_27_17, wc]
    by_cases q2 : rx_at ρ (k + 1) = 47
    · rw [if_pos q2]
      simp [q1, q2]
    · rw [if_neg q2]
      simp [q2]
  · rw [if_neg q1]
    simp [q1]
/-- a mark of two signs as the class numbers it (1: none) -/
def tk_2 (c e : Int) : Int := if rx_m2 c e = 0 then 1 else rx_m2 c e - 72
theorem c_m2 {c e : Int} (hc : 0 ≤ c ∧ c < 128) (he : 0 ≤ e ∧ e < 128) : js_J E d 28 0 [(0, c), (0, e)] [] σ = js_r E (0, tk_2 c e) σ := by
  have wc : js_w c = c := js_w_of (by omega) (by omega)
  have we : js_w e = e := js_w_of (by omega) (by omega)
  have g := m2_cls ⟨c.toNat, by omega⟩ ⟨e.toNat, by omega⟩
  simp only [Int.toNat_of_nonneg hc.1, Int.toNat_of_nonneg he.1] at g
  unfold tk_2
  rw [g, b_28_0, wc, we]
  by_cases q : e = 61
  · rw [if_pos q, if_pos q]
    by_cases q1 : c = 33
    · rw [if_pos q1, s_28_7_33 (by rw [wc]; exact q1), b_28_60]
    by_cases q2 : c = 60
    · rw [if_neg q1, if_pos q2, s_28_7_60 (by rw [wc]; exact q2), b_28_48]
    by_cases q3 : c = 61
    · rw [if_neg q1, if_neg q2, if_pos q3, s_28_7_61 (by rw [wc]; exact q3), b_28_56]
    by_cases q4 : c = 62
    · rw [if_neg q1, if_neg q2, if_neg q3, if_pos q4, s_28_7_62 (by rw [wc]; exact q4), b_28_52]
    · rw [if_neg q1, if_neg q2, if_neg q3, if_neg q4, s_28_7_d (by rw [wc]; omega), b_28_64]
  · rw [if_neg q, if_neg q]
    by_cases q1 : c = e
    · rw [if_pos q1, if_pos q1]
      by_cases q2 : c = 46
      · rw [if_pos q2, if_pos q2]
      by_cases q3 : c = 38
      · rw [if_neg q2, if_neg q2, if_pos q3, if_pos q3]
      by_cases q4 : c = 124
      · rw [if_neg q2, if_neg q2, if_neg q3, if_neg q3, if_pos q4, if_pos q4]
      · rw [if_neg q2, if_neg q2, if_neg q3, if_neg q3, if_neg q4, if_neg q4]
    · rw [if_neg q1, if_neg q1]
theorem c_LDs (h : tq_R σ ρ) {k : Int} (hd : 1 ≤ d) : ∀ (n : Nat) (p : Int), n = rx_n ρ p → 0 ≤ p → p ≤ ρ 83 4 → js_J E d 23 15 [(2, 1), (0, k), (0, p)] [] σ = js_r E (0, rx_run rx_LD (rx_at ρ) n p) σ := by
  have hs := h.2.2.1.1
  have h8 := h.2.2.2
  intro n
  induction n with
  | zero =>
    intro p hn h0 h1
    have e : p = ρ 83 4 := by unfold rx_n at hn; omega
    rw [b_23_15, h.1, e, if_neg (Int.lt_irrefl _)]
    rfl
  | succ n ih =>
    intro p hn h0 h1
    have lt : p < ρ 83 4 := by unfold rx_n at hn; omega
    have a := rx_at_in h.2.2.1 h0
    have wp : js_w p = p := js_w_of (by omega) (by omega)
    have wn : js_w (ρ 83 4) = ρ 83 4 := js_w_of (by omega) (by omega)
    have i1 := ih (p + 1) (by unfold rx_n at hn ⊢; omega) (by omega) (by omega)
    rw [b_23_15, h.1, wp, wn, if_pos lt, k_23_25 hd (c_sAt h h0 (by omega)), k_23_28 hd (c_isL (by omega) (by omega)), b_23_31]
    unfold rx_run
    by_cases q1 : rx_L (rx_at ρ p) = true
    · rw [if_neg (fun g => by rw [(rx_b_w _).mp g] at q1; cases q1), b_23_45, i1]
      simp [rx_LD, q1]
    · have q1' : rx_L (rx_at ρ p) = false := by simpa using q1
      rw [if_pos ((rx_b_w _).mpr q1'), k_23_36 hd (c_sAt h h0 (by omega)), k_23_39 hd (c_isD (by omega) (by omega)), b_23_42]
      by_cases q2 : rx_D (rx_at ρ p) = true
      · rw [if_neg (fun g => by rw [(rx_b_w _).mp g] at q2; cases q2), b_23_45, i1]
        simp [rx_LD, q2]
      · have q2' : rx_D (rx_at ρ p) = false := by simpa using q2
        rw [if_pos ((rx_b_w _).mpr q2')]
        simp [rx_LD, q1', q2']
theorem c_Ds (h : tq_R σ ρ) {k : Int} (hd : 1 ≤ d) : ∀ (n : Nat) (p : Int), n = rx_n ρ p → 0 ≤ p → p ≤ ρ 83 4 → js_J E d 23 62 [(2, 1), (0, k), (0, p)] [] σ = js_r E (0, rx_run rx_D (rx_at ρ) n p) σ := by
  have hs := h.2.2.1.1
  have h8 := h.2.2.2
  intro n
  induction n with
  | zero =>
    intro p hn h0 h1
    have e : p = ρ 83 4 := by unfold rx_n at hn; omega
    rw [b_23_62, h.1, e, if_neg (Int.lt_irrefl _)]
    rfl
  | succ n ih =>
    intro p hn h0 h1
    have lt : p < ρ 83 4 := by unfold rx_n at hn; omega
    have a := rx_at_in h.2.2.1 h0
    have wp : js_w p = p := js_w_of (by omega) (by omega)
    have wn : js_w (ρ 83 4) = ρ 83 4 := js_w_of (by omega) (by omega)
    have i1 := ih (p + 1) (by unfold rx_n at hn ⊢; omega) (by omega) (by omega)
    rw [b_23_62, h.1, wp, wn, if_pos lt, k_23_72 hd (c_sAt h h0 (by omega)), k_23_75 hd (c_isD (by omega) (by omega)), b_23_78]
    unfold rx_run
    by_cases q2 : rx_D (rx_at ρ p) = true
    · rw [if_neg (fun g => by rw [(rx_b_w _).mp g] at q2; cases q2), i1]
      simp [q2]
    · have q2' : rx_D (rx_at ρ p) = false := by simpa using q2
      rw [if_pos ((rx_b_w _).mpr q2')]
      simp [q2']
theorem c_nls (h : tq_R σ ρ) {k : Int} (hd : 1 ≤ d) : ∀ (n : Nat) (p : Int), n = rx_n ρ p → 0 ≤ p → p ≤ ρ 83 4 → js_J E d 23 95 [(2, 1), (0, k), (0, p)] [] σ = js_r E (0, rx_run rx_nl (rx_at ρ) n p) σ := by
  have hs := h.2.2.1.1
  have h8 := h.2.2.2
  intro n
  induction n with
  | zero =>
    intro p hn h0 h1
    have e : p = ρ 83 4 := by unfold rx_n at hn; omega
    rw [b_23_95, h.1, e, if_neg (Int.lt_irrefl _)]
    rfl
  | succ n ih =>
    intro p hn h0 h1
    have lt : p < ρ 83 4 := by unfold rx_n at hn; omega
    have a := rx_at_in h.2.2.1 h0
    have wp : js_w p = p := js_w_of (by omega) (by omega)
    have wn : js_w (ρ 83 4) = ρ 83 4 := js_w_of (by omega) (by omega)
    have wa : js_w (rx_at ρ p) = rx_at ρ p := js_w_of (by omega) (by omega)
    have i1 := ih (p + 1) (by unfold rx_n at hn ⊢; omega) (by omega) (by omega)
    rw [b_23_95, h.1, wp, wn, if_pos lt, k_23_105 hd (c_sAt h h0 (by omega)), b_23_108, wa]
    unfold rx_run rx_nl
    by_cases q2 : rx_at ρ p = 10
    · rw [if_pos q2]
      simp [q2]
    · rw [if_neg q2, i1]
      simp [q2]
      rfl
/-- where the class's token (or what stands between) at k ends -/
def bt_k (ρ : js_S) (k : Int) : Int := if rx_L (rx_at ρ k) = true then rx_LDs ρ (k + 1) else (if rx_D (rx_at ρ k) = true then rx_Ds ρ (k + 1) else (if rx_cmt ρ k = true then rx_nls ρ (k + 1) else (if tk_2 (rx_at ρ k) (rx_at ρ (k + 1)) = 1 then k + 1 else k + 2)))
theorem tk_2_in {c e : Int} : 1 ≤ tk_2 c e ∧ tk_2 c e ≤ 134 := by
  unfold tk_2 rx_m2
  repeat' split
  all_goals omega
theorem c_behind (h : tq_R σ ρ) {k : Int} (h0 : 0 ≤ k) (h1 : k < ρ 83 4) (hd : 2 ≤ d) : js_J E d 23 0 [(2, 1), (0, k), (9, 0)] [] σ = js_r E (0, bt_k ρ k) σ := by
  have h8 := h.2.2.2
  have a := rx_at_in h.2.2.1 h0
  have c := rx_at_in h.2.2.1 (k := k + 1) (by omega)
  unfold bt_k
  rw [b_23_0, k_23_6 (by omega) (c_sAt h h0 (by omega)), k_23_9 (by omega) (c_isL (by omega) (by omega)), b_23_12]
  by_cases q1 : rx_L (rx_at ρ k) = true
  · rw [if_neg (fun g => by rw [(rx_b_w _).mp g] at q1; cases q1), if_pos q1, c_LDs h (by omega) _ _ rfl (by omega) (by omega)]
    rfl
  · have q1' : rx_L (rx_at ρ k) = false := by simpa using q1
    rw [if_pos ((rx_b_w _).mpr q1'), if_neg q1, k_23_53 (by omega) (c_sAt h h0 (by omega)), k_23_56 (by omega) (c_isD (by omega) (by omega)), b_23_59]
    by_cases q2 : rx_D (rx_at ρ k) = true
    · rw [if_neg (fun g => by rw [(rx_b_w _).mp g] at q2; cases q2), if_pos q2, c_Ds h (by omega) _ _ rfl (by omega) (by omega)]
      rfl
    · have q2' : rx_D (rx_at ρ k) = false := by simpa using q2
      rw [if_pos ((rx_b_w _).mpr q2'), if_neg q2, k_23_89 (by omega) (c_isC h h0 (by omega) (by omega)), b_23_92]
      by_cases q3 : rx_cmt ρ k = true
      · rw [if_neg (fun g => by rw [(rx_b_w _).mp g] at q3; cases q3), if_pos q3, c_nls h (by omega) _ _ rfl (by omega) (by omega)]
        rfl
      · have q3' : rx_cmt ρ k = false := by simpa using q3
        have t2 := tk_2_in (c := rx_at ρ k) (e := rx_at ρ (k + 1))
        have wt : js_w (tk_2 (rx_at ρ k) (rx_at ρ (k + 1))) = tk_2 (rx_at ρ k) (rx_at ρ (k + 1)) := js_w_of (by omega) (by omega)
        rw [if_pos ((rx_b_w _).mpr q3'), if_neg q3, k_23_121 (by omega) (c_sAt h h0 (by omega)), b_23_124, k_23_126 (by omega) (c_sAt h (by omega) (by omega)), k_23_129 (by omega) (c_m2 (by omega) (by omega)), b_23_132, wt]
        by_cases q4 : tk_2 (rx_at ρ k) (rx_at ρ (k + 1)) = 1
        · rw [if_pos q4, if_pos q4]
        · rw [if_neg q4, if_neg q4, show k + 1 + 1 = k + 2 by omega]
end TS
