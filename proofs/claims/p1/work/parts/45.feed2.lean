/-! part 45: append, and both loops of the reference's feed -/
section LPD
variable {L : Nat} {xs : Nat → Int32}
theorem lp_e0 : (0 : Int32).toInt = 0 := by decide
/-- what append does to length and tape, from a shift on -/
def lp_ap (x : Int64) (n : Nat) (s l : Int32) (tp : Nat → Int32) : Int32 × (Nat → Int32) := match n with
  | 0 => (l, tp)
  | n + 1 => if cg x s = 0 then lp_ap x n (s + (-8)) l tp else lp_ap x n (s + (-8)) (l + 1) (upd tp l.toNatClampNeg (vp_nar .byte (cg x s).toInt8.toInt32))
theorem lp_le5 {s g : Int32} {x : Int64} {v : Value} : ip_le [(3, .int s), (1, .long x), (0, v)] [(3, .int s), (4, .int g), (1, .long x), (0, v)] :=
  ip_le_of (by simp) (by simp) (by simp [ip_get])
theorem lp_in {l : Int32} {n : Nat} (h0 : 0 ≤ l.toInt) (h1 : l.toInt < n) : ip_in l n = true := by
  unfold ip_in
  simp only [Bool.and_eq_true, decide_eq_true_eq]
  refine ⟨?_, ?_⟩
  · rw [Int32.lt_iff_toInt_lt, lp_e0]
    omega
  · show l.toInt.toNat < n
    omega
theorem lp_l1 {l : Int32} (h0 : 0 ≤ l.toInt) (h1 : l.toInt < 100000) : (l + 1).toInt = l.toInt + 1 := by
  rw [Int32.toInt_add]
  have e : (1 : Int32).toInt = 1 := by decide
  rw [e, Int.bmod_eq_of_le (by omega) (by omega)]
theorem ap_run (hL : L < 2 ^ 31) (Q : Nat → Int32) (Y : Nat → Int64) (sg : Nat → Int32) (x : Int64) : ∀ (n : Nat) (s l : Int32) (tp : Nat → Int32), n ≤ 8 → s.toInt = 8 * (n : Int) - 8 → 0 ≤ l.toInt → l.toInt + n ≤ 8192 →
    ip_rn (vt_tb vt_P (vt_Ro L xs)) 20 15 3 [(3, .int s), (1, .long x), (0, .ref 0)] [] (il_w (rdw Q Y l sg tp)) (.returned none) (il_w (rdw Q Y (lp_ap x n s l tp).1 sg (lp_ap x n s l tp).2)) := by
  intro n
  induction n with
  | zero =>
    intro s l tp hn hs hl hl2
    exact ap_x hL Q Y l sg tp s x (by rw [Int32.lt_iff_toInt_lt, lp_e0]; omega)
  | succ n ih =>
    intro s l tp hn hs hl hl2
    have hs0 : ¬ s < 0 := by rw [Int32.lt_iff_toInt_lt, lp_e0]; omega
    have hs8 := lp_s8 (n := n) (s := s) (by rw [hs]; omega) (by omega)
    unfold lp_ap
    by_cases h1 : cg x s = 0
    · rw [if_pos h1]
      exact ap_0 hL Q Y l sg tp s x hs0 h1 ((ih (s + (-8)) l tp (by omega) hs8 hl (by omega)).more lp_le5)
    · rw [if_neg h1]
      have e8 : (8192 : Int32).toInt = 8192 := by decide
      have hl1 := lp_l1 hl (by omega)
      exact ap_p hL Q Y l sg tp s x hs0 h1 (by rw [Int32.le_iff_toInt_le, e8]; omega) (lp_in hl (by omega)) ((ih (s + (-8)) (l + 1) _ (by omega) hs8 (by omega) (by omega)).more lp_le5)
/-- the reference's sign k of sixteen -/
def lp_rs (a b : Int64) (k : Int32) : Int32 := if 8 ≤ k then rg b (56 - 8 * (k &&& 7)) else rg a (56 - 8 * (k &&& 7))
/-- the reference's count from sign k on; none: one is no sign -/
def lp_rc (a b : Int64) (m : Nat) (k n : Int32) : Option Int32 := match m with
  | 0 => some n
  | m + 1 => if lp_rs a b k = 0 then lp_rc a b m (k + 1) (n + 0) else if lp_v (lp_rs a b k) = true then lp_rc a b m (k + 1) (n + 1) else none
theorem lp_le6 {k n g : Int32} {a b : Int64} {v : Value} : ip_le [(6, .int k), (5, .int n), (0, v), (1, .long a), (3, .long b)] [(6, .int k), (5, .int n), (7, .int g), (0, v), (1, .long a), (3, .long b)] :=
  ip_le_of (by simp) (by simp) (by simp [ip_get])
theorem lp_k1 {k : Int32} {m : Nat} (h : k.toInt = 16 - (m + 1 : Int)) (hm : m ≤ 16) : (k + 1).toInt = 16 - (m : Int) := by
  rw [Int32.toInt_add]
  have e : (1 : Int32).toInt = 1 := by decide
  rw [e, Int.bmod_eq_of_le (by omega) (by omega)]
  omega
/-- the first loop, where all are signs -/
theorem rf_run (hL : L < 2 ^ 31) (Q : Nat → Int32) (Y : Nat → Int64) (t : Int32) (rt : Nat → Int32) (a b : Int64) {o : Outcome} {w2 : ip_W} : ∀ (m : Nat) (k n : Int32), m ≤ 16 → k.toInt = 16 - (m : Int) →
    (∀ n2, lp_rc a b m k n = some n2 → ∀ k2 : Int32, ip_rn (vt_tb vt_P (vt_Ro L xs)) 20 186 76 [(6, .int k2), (5, .int n2), (0, .ref 0), (1, .long a), (3, .long b)] [] (il_w (mdw Q Y t rt)) o w2) →
    (lp_rc a b m k n = none → o = .returned (some (.int (-1))) ∧ w2 = il_w (mdw Q Y t rt)) →
    ip_rn (vt_tb vt_P (vt_Ro L xs)) 20 186 11 [(6, .int k), (5, .int n), (0, .ref 0), (1, .long a), (3, .long b)] [] (il_w (mdw Q Y t rt)) o w2 := by
  intro m
  have e16 : (16 : Int32).toInt = 16 := by decide
  induction m with
  | zero =>
    intro k n hm hk h1 h2
    exact rf_x hL Q Y t rt k n a b (by rw [Int32.le_iff_toInt_le, e16]; omega) (h1 n rfl k)
  | succ m ih =>
    intro k n hm hk h1 h2
    have hk16 : ¬ (16 : Int32) ≤ k := by rw [Int32.le_iff_toInt_le, e16]; omega
    have hk1 := lp_k1 (m := m) (k := k) (by rw [hk]; omega) (by omega)
    unfold lp_rc at h1 h2
    by_cases h8 : (8 : Int32) ≤ k
    · have ers : lp_rs a b k = rg b (56 - 8 * (k &&& 7)) := if_pos h8
      rw [ers] at h1 h2
      by_cases g0 : rg b (56 - 8 * (k &&& 7)) = 0
      · rw [if_pos g0] at h1 h2
        exact rf_0b hL Q Y t rt k n a b hk16 h8 g0 (fun h => h g0) ((ih (k + 1) (n + 0) (by omega) hk1 h1 h2).more lp_le6)
      · rw [if_neg g0] at h1 h2
        by_cases g1 : rg b (56 - 8 * (k &&& 7)) = 10
        · rw [if_pos (by unfold lp_v; simp [g1])] at h1 h2
          exact rf_ab hL Q Y t rt k n a b hk16 h8 g0 g1 g0 ((ih (k + 1) (n + 1) (by omega) hk1 h1 h2).more lp_le6)
        · by_cases g2 : rg b (56 - 8 * (k &&& 7)) < 32
          · rw [if_neg (by unfold lp_v; simp [g0, g1, g2])] at h2
            obtain ⟨rfl, rfl⟩ := h2 rfl
            exact rf_lb hL Q Y t rt k n a b hk16 h8 g0 g1 g2
          · by_cases g3 : rg b (56 - 8 * (k &&& 7)) ≤ 126
            · rw [if_pos (by unfold lp_v; simp [g2, g3])] at h1 h2
              exact rf_pb hL Q Y t rt k n a b hk16 h8 g0 g1 g2 g3 g0 ((ih (k + 1) (n + 1) (by omega) hk1 h1 h2).more lp_le6)
            · rw [if_neg (by unfold lp_v; simp [g0, g1, g3])] at h2
              obtain ⟨rfl, rfl⟩ := h2 rfl
              exact rf_hb hL Q Y t rt k n a b hk16 h8 g0 g1 g2 g3
    · have ers : lp_rs a b k = rg a (56 - 8 * (k &&& 7)) := if_neg h8
      rw [ers] at h1 h2
      by_cases g0 : rg a (56 - 8 * (k &&& 7)) = 0
      · rw [if_pos g0] at h1 h2
        exact rf_0 hL Q Y t rt k n a b hk16 h8 g0 (fun h => h g0) ((ih (k + 1) (n + 0) (by omega) hk1 h1 h2).more lp_le6)
      · rw [if_neg g0] at h1 h2
        by_cases g1 : rg a (56 - 8 * (k &&& 7)) = 10
        · rw [if_pos (by unfold lp_v; simp [g1])] at h1 h2
          exact rf_a hL Q Y t rt k n a b hk16 h8 g0 g1 g0 ((ih (k + 1) (n + 1) (by omega) hk1 h1 h2).more lp_le6)
        · by_cases g2 : rg a (56 - 8 * (k &&& 7)) < 32
          · rw [if_neg (by unfold lp_v; simp [g0, g1, g2])] at h2
            obtain ⟨rfl, rfl⟩ := h2 rfl
            exact rf_l hL Q Y t rt k n a b hk16 h8 g0 g1 g2
          · by_cases g3 : rg a (56 - 8 * (k &&& 7)) ≤ 126
            · rw [if_pos (by unfold lp_v; simp [g2, g3])] at h1 h2
              exact rf_p hL Q Y t rt k n a b hk16 h8 g0 g1 g2 g3 g0 ((ih (k + 1) (n + 1) (by omega) hk1 h1 h2).more lp_le6)
            · rw [if_neg (by unfold lp_v; simp [g0, g1, g3])] at h2
              obtain ⟨rfl, rfl⟩ := h2 rfl
              exact rf_h hL Q Y t rt k n a b hk16 h8 g0 g1 g2 g3
/-- what the second loop does to taped and tape -/
def lp_rt (a b : Int64) (m : Nat) (k t : Int32) (rt : Nat → Int32) : Int32 × (Nat → Int32) := match m with
  | 0 => (t, rt)
  | m + 1 => if lp_rs a b k = 0 then lp_rt a b m (k + 1) t rt else lp_rt a b m (k + 1) (t + 1) (upd rt t.toNatClampNeg (vp_nar .byte (lp_rs a b k).toInt8.toInt32))
theorem lp_le7 {k g : Int32} {a b : Int64} {v : Value} : ip_le [(6, .int k), (0, v), (1, .long a), (3, .long b)] [(6, .int k), (7, .int g), (0, v), (1, .long a), (3, .long b)] :=
  ip_le_of (by simp) (by simp) (by simp [ip_get])
theorem rg_run (hL : L < 2 ^ 31) (Q : Nat → Int32) (Y : Nat → Int64) (a b : Int64) (n : Int32) : ∀ (m : Nat) (k t : Int32) (rt : Nat → Int32), m ≤ 16 → k.toInt = 16 - (m : Int) → 0 ≤ t.toInt → t.toInt + m ≤ 65536 →
    ip_rn (vt_tb vt_P (vt_Ro L xs)) 20 186 93 [(6, .int k), (0, .ref 0), (1, .long a), (3, .long b)] [] (il_w (mdw Q Y t rt)) (.returned (some (.int (lp_rt a b m k t rt).1))) (il_w (mdw Q Y (lp_rt a b m k t rt).1 (lp_rt a b m k t rt).2)) := by
  intro m
  have e16 : (16 : Int32).toInt = 16 := by decide
  induction m with
  | zero =>
    intro k t rt hm hk ht ht2
    exact rg_x hL Q Y t rt k n a b (by rw [Int32.le_iff_toInt_le, e16]; omega)
  | succ m ih =>
    intro k t rt hm hk ht ht2
    have hk16 : ¬ (16 : Int32) ≤ k := by rw [Int32.le_iff_toInt_le, e16]; omega
    have hk1 := lp_k1 (m := m) (k := k) (by rw [hk]; omega) (by omega)
    have ht1 := lp_l1 ht (by omega)
    unfold lp_rt
    by_cases h8 : (8 : Int32) ≤ k
    · have ers : lp_rs a b k = rg b (56 - 8 * (k &&& 7)) := if_pos h8
      rw [ers]
      by_cases g0 : rg b (56 - 8 * (k &&& 7)) = 0
      · rw [if_pos g0]
        exact rg_0b hL Q Y t rt k n a b hk16 h8 (fun h => h g0) ((ih (k + 1) t rt (by omega) hk1 ht (by omega)).more lp_le7)
      · rw [if_neg g0]
        exact rg_pb hL Q Y t rt k n a b hk16 h8 g0 (lp_in ht (by omega)) ((ih (k + 1) (t + 1) _ (by omega) hk1 (by omega) (by omega)).more lp_le7)
    · have ers : lp_rs a b k = rg a (56 - 8 * (k &&& 7)) := if_neg h8
      rw [ers]
      by_cases g0 : rg a (56 - 8 * (k &&& 7)) = 0
      · rw [if_pos g0]
        exact rg_0 hL Q Y t rt k n a b hk16 h8 (fun h => h g0) ((ih (k + 1) t rt (by omega) hk1 ht (by omega)).more lp_le7)
      · rw [if_neg g0]
        exact rg_p hL Q Y t rt k n a b hk16 h8 g0 (lp_in ht (by omega)) ((ih (k + 1) (t + 1) _ (by omega) hk1 (by omega) (by omega)).more lp_le7)
end LPD
