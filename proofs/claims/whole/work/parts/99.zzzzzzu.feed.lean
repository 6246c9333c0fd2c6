/-! part 99.zzzzzzu: feed, by both -/
def cg (x : Int64) (s : Int32) : Int32 := ((x.toUInt64 >>> (s.toInt64.toUInt64 &&& Int64.toUInt64 63)).toInt64).toInt32 &&& 255
def rg (x : Int64) (s : Int32) : Int32 := (x >>> (s.toInt64 &&& 63)).toInt32 &&& 255
theorem fd_bits (x : BitVec 64) (k : Nat) (hk : k ≤ 56) : (x >>> k).signExtend 32 &&& 255#32 = (x.sshiftRight k).signExtend 32 &&& 255#32 := by
  apply BitVec.eq_of_getLsbD_eq
  intro i hi
  rw [BitVec.getLsbD_and, BitVec.getLsbD_and]
  by_cases h8 : i < 8
  · congr 1
    rw [BitVec.getLsbD_signExtend, BitVec.getLsbD_signExtend, BitVec.getLsbD_ushiftRight, BitVec.getLsbD_sshiftRight]
    have h1 : i < 64 := by omega
    have h2 : k + i < 64 := by omega
    have h3 : ¬ 64 ≤ i := by omega
    simp [h1, h2, h3]
  · have e : (255#32).getLsbD i = false := by
      rw [BitVec.getLsbD_ofNat]
      have : Nat.testBit 255 i = false := Nat.testBit_lt_two_pow (Nat.lt_of_lt_of_le (by decide : 255 < 2 ^ 8) (Nat.pow_le_pow_right (by decide) (by omega)))
      simp [this]
    rw [e, Bool.and_false, Bool.and_false]
theorem fd_g56 (x : Int64) : rg x 56 = cg x 56 := congrArg (fun q => Int32.ofBitVec q) (fd_bits x.toBitVec 56 (by decide)).symm
theorem fd_g48 (x : Int64) : rg x 48 = cg x 48 := congrArg (fun q => Int32.ofBitVec q) (fd_bits x.toBitVec 48 (by decide)).symm
theorem fd_g40 (x : Int64) : rg x 40 = cg x 40 := congrArg (fun q => Int32.ofBitVec q) (fd_bits x.toBitVec 40 (by decide)).symm
theorem fd_g32 (x : Int64) : rg x 32 = cg x 32 := congrArg (fun q => Int32.ofBitVec q) (fd_bits x.toBitVec 32 (by decide)).symm
theorem fd_g24 (x : Int64) : rg x 24 = cg x 24 := congrArg (fun q => Int32.ofBitVec q) (fd_bits x.toBitVec 24 (by decide)).symm
theorem fd_g16 (x : Int64) : rg x 16 = cg x 16 := congrArg (fun q => Int32.ofBitVec q) (fd_bits x.toBitVec 16 (by decide)).symm
theorem fd_g8 (x : Int64) : rg x 8 = cg x 8 := congrArg (fun q => Int32.ofBitVec q) (fd_bits x.toBitVec 8 (by decide)).symm
theorem fd_g0 (x : Int64) : rg x 0 = cg x 0 := congrArg (fun q => Int32.ofBitVec q) (fd_bits x.toBitVec 0 (by decide)).symm
theorem l2i_toInt (y : Int64) : Int32.ofInt y.toInt = y.toInt32 := by
  rw [← Int64.toInt32_ofInt, Int64.ofInt_toInt]
theorem sg_c (a s : Int) : js_iand (js_lushr a s) 255 = (cg (Int64.ofInt a) (Int32.ofInt s)).toInt := by
  unfold js_iand js_lushr cg
  rw [l2i_toInt]
  rfl
theorem sg_r (a s : Int) : js_iand (js_lshr a s) 255 = (rg (Int64.ofInt a) (Int32.ofInt s)).toInt := by
  unfold js_iand js_lshr rg
  rw [l2i_toInt]
  rfl
/-- sign j of eight -/
def fg (a : Int) (j : Int) : Int := js_iand (js_lushr a (56 - 8 * j)) 255
theorem fg_r (a : Int) {j : Nat} (hj : j < 8) : js_iand (js_lshr a (56 - 8 * (j : Int))) 255 = fg a j := by
  unfold fg
  rw [sg_c, sg_r]
  have c : j = 0 ∨ j = 1 ∨ j = 2 ∨ j = 3 ∨ j = 4 ∨ j = 5 ∨ j = 6 ∨ j = 7 := by omega
  rcases c with rfl | rfl | rfl | rfl | rfl | rfl | rfl | rfl
  · exact congrArg Int32.toInt (fd_g56 _)
  · exact congrArg Int32.toInt (fd_g48 _)
  · exact congrArg Int32.toInt (fd_g40 _)
  · exact congrArg Int32.toInt (fd_g32 _)
  · exact congrArg Int32.toInt (fd_g24 _)
  · exact congrArg Int32.toInt (fd_g16 _)
  · exact congrArg Int32.toInt (fd_g8 _)
  · exact congrArg Int32.toInt (fd_g0 _)
theorem iand_in (x : Int) : 0 ≤ js_iand x 255 ∧ js_iand x 255 ≤ 255 := by
  have h : (Int32.ofInt x &&& 255).toBitVec.toNat ≤ 255 := by
    rw [Int32.toBitVec_and, BitVec.toNat_and]
    exact Nat.and_le_right
  have e : js_iand x 255 = (((Int32.ofInt x &&& 255).toBitVec.toNat : Nat) : Int) := by
    show (Int32.ofInt x &&& 255).toBitVec.toInt = _
    exact BitVec.toInt_eq_toNat_of_lt (by omega)
  omega
theorem fg_in (a j : Int) : 0 ≤ fg a j ∧ fg a j ≤ 255 := iand_in _
theorem fg_w (a j : Int) : js_w (fg a j) = fg a j := by
  have := fg_in a j
  exact js_w_of (by omega) (by omega)
/-- how many signs there are among n from k on, c before them; -1 if one is none -/
def fd_c (g : Int → Int) : Nat → Int → Int → Int
  | 0, _, c => c
  | n + 1, k, c => if g k = 0 then fd_c g n (k + 1) c else (if g k = 10 then fd_c g n (k + 1) (c + 1) else (if g k < 32 then -1 else (if 126 < g k then -1 else fd_c g n (k + 1) (c + 1))))
theorem fd_c_two (g : Int → Int) : ∀ (n : Nat) (k c c' : Int), 0 ≤ c → 0 ≤ c' → (fd_c g n k c = -1 ∧ fd_c g n k c' = -1) ∨ (fd_c g n k c - c = fd_c g n k c' - c' ∧ c ≤ fd_c g n k c ∧ fd_c g n k c ≤ c + n)
  | 0, k, c, c', h, h' => Or.inr (by simp only [fd_c]; push_cast; omega)
  | n + 1, k, c, c', h, h' => by
    have i0 := fd_c_two g n (k + 1) c c' h h'
    have i1 := fd_c_two g n (k + 1) (c + 1) (c' + 1) (by omega) (by omega)
    simp only [fd_c]
    push_cast
    by_cases q0 : g k = 0
    · rw [if_pos q0, if_pos q0]
      omega
    · by_cases q1 : g k = 10
      · rw [if_neg q0, if_neg q0, if_pos q1, if_pos q1]
        omega
      · by_cases q2 : g k < 32
        · rw [if_neg q0, if_neg q0, if_neg q1, if_neg q1, if_pos q2]
          omega
        · by_cases q3 : 126 < g k
          · rw [if_neg q0, if_neg q0, if_neg q1, if_neg q1, if_neg q2, if_neg q2, if_pos q3]
            omega
          · rw [if_neg q0, if_neg q0, if_neg q1, if_neg q1, if_neg q2, if_neg q2, if_neg q3, if_neg q3]
            omega
theorem fd_c_app (g : Int → Int) : ∀ (n m : Nat) (k c : Int), 0 ≤ c → (fd_c g n k c < 0 → fd_c g (n + m) k c = -1) ∧ (¬ fd_c g n k c < 0 → fd_c g (n + m) k c = fd_c g m (k + n) (fd_c g n k c))
  | 0, m, k, c, h => by
    have e : fd_c g 0 k c = c := rfl
    rw [Nat.zero_add, e, show k + ((0 : Nat) : Int) = k by omega]
    exact ⟨fun q => absurd q (by omega), fun _ => rfl⟩
  | n + 1, m, k, c, h => by
    have i0 := fd_c_app g n m (k + 1) c h
    have i1 := fd_c_app g n m (k + 1) (c + 1) (by omega)
    have ek : k + 1 + (n : Int) = k + ((n + 1 : Nat) : Int) := by push_cast; omega
    rw [ek] at i0 i1
    have e1 : fd_c g (n + 1) k c = if g k = 0 then fd_c g n (k + 1) c else (if g k = 10 then fd_c g n (k + 1) (c + 1) else (if g k < 32 then -1 else (if 126 < g k then -1 else fd_c g n (k + 1) (c + 1)))) := rfl
    have e2 : fd_c g (n + 1 + m) k c = if g k = 0 then fd_c g (n + m) (k + 1) c else (if g k = 10 then fd_c g (n + m) (k + 1) (c + 1) else (if g k < 32 then -1 else (if 126 < g k then -1 else fd_c g (n + m) (k + 1) (c + 1)))) := by
      rw [show n + 1 + m = (n + m) + 1 by omega]
      rfl
    by_cases q0 : g k = 0
    · rw [if_pos q0] at e1 e2
      rw [e1, e2]
      exact i0
    rw [if_neg q0] at e1 e2
    by_cases q1 : g k = 10
    · rw [if_pos q1] at e1 e2
      rw [e1, e2]
      exact i1
    rw [if_neg q1] at e1 e2
    by_cases q2 : g k < 32
    · rw [if_pos q2] at e1 e2
      rw [e1, e2]
      exact ⟨fun _ => rfl, fun q => absurd (by decide) q⟩
    rw [if_neg q2] at e1 e2
    by_cases q3 : 126 < g k
    · rw [if_pos q3] at e1 e2
      rw [e1, e2]
      exact ⟨fun _ => rfl, fun q => absurd (by decide) q⟩
    rw [if_neg q3] at e1 e2
    rw [e1, e2]
    exact i1
theorem fd_c_eq {g g' : Int → Int} : ∀ (n : Nat) (k o c : Int), (∀ i : Int, k ≤ i → i < k + n → g i = g' (i + o)) → fd_c g n k c = fd_c g' n (k + o) c
  | 0, _, _, _, _ => rfl
  | n + 1, k, o, c, h => by
    have e := h k (by omega) (by push_cast; omega)
    have ek : k + o + 1 = k + 1 + o := by omega
    simp only [fd_c]
    rw [e, ek, fd_c_eq n (k + 1) o c (fun i i1 i2 => h i (by omega) (by push_cast; omega)), fd_c_eq n (k + 1) o (c + 1) (fun i i1 i2 => h i (by omega) (by push_cast; omega))]
/-- sign k of sixteen -/
def fh (a b k : Int) : Int := if k < 8 then fg a k else fg b (k - 8)
theorem fh_in (a b k : Int) : 0 ≤ fh a b k ∧ fh a b k ≤ 255 := by
  unfold fh
  split
  · exact fg_in _ _
  · exact fg_in _ _
theorem iand7 {j : Nat} (h : j < 16) : js_iand (j : Int) 7 = if j < 8 then (j : Int) else (j : Int) - 8 := by
  have g : ∀ k : Fin 16, js_iand ((k.val : Nat) : Int) 7 = if k.val < 8 then ((k.val : Nat) : Int) else ((k.val : Nat) : Int) - 8 := by decide +kernel
  exact g ⟨j, h⟩
section FD
variable {E : js_E} {d e : Nat} {a b : Int} {σ ρ : js_S}
theorem c_signs : ∀ (n j : Nat) (c : Int) (u : js_v), n + j = 8 → js_J E d 13 5 [(1, a), (9, 0), (0, c), (0, 56 - 8 * (j : Int)), u] [] σ = js_r E (0, fd_c (fg a) n j c) σ
  | 0, j, c, u, hn => by
    have hj : (j : Int) = 8 := by omega
    rw [b_13_5, hj, if_pos (show js_w (56 - 8 * 8) < 0 by decide)]
    rfl
  | n + 1, j, c, u, hn => by
    have w3 : js_w (56 - 8 * (j : Int)) = 56 - 8 * j := js_w_of (by omega) (by omega)
    have wg := fg_w a j
    have ej : 56 - 8 * (j : Int) + (-8) = 56 - 8 * ((j + 1 : Nat) : Int) := by push_cast; omega
    have cj : (j : Int) + 1 = ((j + 1 : Nat) : Int) := by push_cast; rfl
    have i0 := c_signs n (j + 1) c (0, fg a j) (by omega)
    have i1 := c_signs n (j + 1) (c + 1) (0, fg a j) (by omega)
    rw [b_13_5, w3, if_neg (show ¬ 56 - 8 * (j : Int) < 0 by omega)]
    show (if js_w (fg a j) = 0 then js_J E d 13 50 [(1, a), (9, 0), (0, c), (0, 56 - 8 * (j : Int)), (0, fg a j)] [] σ else (if js_w (fg a j) = 10 then js_J E d 13 47 [(1, a), (9, 0), (0, c), (0, 56 - 8 * (j : Int)), (0, fg a j)] [] σ else (if js_w (fg a j) < 32 then js_r E (0, -1) σ else (if 126 < js_w (fg a j) then js_r E (0, -1) σ else js_J E d 13 47 [(1, a), (9, 0), (0, c), (0, 56 - 8 * (j : Int)), (0, fg a j)] [] σ)))) = _
    rw [wg, b_13_47, b_13_50, b_13_50, ej, i0, i1]
    simp only [fd_c]
    rw [cj]
    by_cases q0 : fg a j = 0
    · rw [if_pos q0, if_pos q0]
    · by_cases q1 : fg a j = 10
      · rw [if_neg q0, if_neg q0, if_pos q1, if_pos q1]
      · by_cases q2 : fg a j < 32
        · rw [if_neg q0, if_neg q0, if_neg q1, if_neg q1, if_pos q2, if_pos q2]
        · by_cases q3 : 126 < fg a j
          · rw [if_neg q0, if_neg q0, if_neg q1, if_neg q1, if_neg q2, if_neg q2, if_pos q3, if_pos q3]
          · rw [if_neg q0, if_neg q0, if_neg q1, if_neg q1, if_neg q2, if_neg q2, if_neg q3, if_neg q3]
theorem r_sign16 {j : Nat} (hj : j < 16) : js_J E e 187 0 [(1, a), (9, 0), (1, b), (9, 0), (0, (j : Int))] [] ρ = js_r E (0, fh a b j) ρ := by
  have wj : js_w (j : Int) = j := js_w_of (by omega) (by omega)
  unfold fh
  rw [b_187_0, wj]
  by_cases q : j < 8
  · rw [if_pos (show (j : Int) < 8 by omega), b_187_12, iand7 hj, if_pos q, if_pos (show (j : Int) < 8 by omega), fg_r a q]
  · have e8 : ((j - 8 : Nat) : Int) = (j : Int) - 8 := by omega
    rw [if_neg (show ¬ (j : Int) < 8 by omega), b_187_12, iand7 hj, if_neg q, if_neg (show ¬ (j : Int) < 8 by omega), ← e8, fg_r b (show j - 8 < 8 by omega)]
theorem fh_w (a b k : Int) : js_w (fh a b k) = fh a b k := by
  have := fh_in a b k
  exact js_w_of (by omega) (by omega)
theorem r_count (he : 1 ≤ e) : ∀ (n j : Nat) (c : Int) (u : js_v), n + j = 16 → 0 ≤ c → ∃ u' : js_v, js_J E e 186 11 [(2, 83), (1, a), (9, 0), (1, b), (9, 0), (0, c), (0, (j : Int)), u] [] ρ = if fd_c (fh a b) n j c < 0 then js_r E (0, -1) ρ else js_J E e 186 11 [(2, 83), (1, a), (9, 0), (1, b), (9, 0), (0, fd_c (fh a b) n j c), (0, 16), u'] [] ρ
  | 0, j, c, u, hn, hc => by
    have hj : (j : Int) = 16 := by omega
    refine ⟨u, ?_⟩
    have e : fd_c (fh a b) 0 j c = c := rfl
    rw [e, if_neg (by omega), hj]
  | n + 1, j, c, u, hn, hc => by
    have wj : js_w (j : Int) = j := js_w_of (by omega) (by omega)
    have wg := fh_w a b j
    have cj : (j : Int) + 1 = ((j + 1 : Nat) : Int) := by push_cast; rfl
    obtain ⟨u0, i0⟩ := r_count he n (j + 1) c (0, fh a b j) (by omega) hc
    obtain ⟨u1, i1⟩ := r_count he n (j + 1) (c + 1) (0, fh a b j) (by omega) (by omega)
    have st : js_J E e 186 11 [(2, 83), (1, a), (9, 0), (1, b), (9, 0), (0, c), (0, (j : Int)), u] [] ρ = js_J E e 186 25 [(2, 83), (1, a), (9, 0), (1, b), (9, 0), (0, c), (0, (j : Int)), u] [(0, fh a b j)] ρ := by
      rw [b_186_11, wj, if_pos (show (j : Int) < 16 by omega), k_186_22 he (r_sign16 (by omega))]
    have e1 : fd_c (fh a b) (n + 1) j c = if fh a b j = 0 then fd_c (fh a b) n ((j + 1 : Nat) : Int) c else (if fh a b j = 10 then fd_c (fh a b) n ((j + 1 : Nat) : Int) (c + 1) else (if fh a b j < 32 then -1 else (if 126 < fh a b j then -1 else fd_c (fh a b) n ((j + 1 : Nat) : Int) (c + 1)))) := by
      rw [← cj]
      rfl
    rw [st, b_186_25, wg]
    by_cases q0 : fh a b j = 0
    · rw [if_pos q0] at e1
      refine ⟨u0, ?_⟩
      rw [e1, if_pos q0, b_186_55, wg, if_pos q0, b_186_67, cj, Int.add_zero, i0]
    rw [if_neg q0] at e1
    have st2 : js_J E e 186 55 [(2, 83), (1, a), (9, 0), (1, b), (9, 0), (0, c), (0, (j : Int)), (0, fh a b j)] [] ρ = if fd_c (fh a b) n ((j + 1 : Nat) : Int) (c + 1) < 0 then js_r E (0, -1) ρ else js_J E e 186 11 [(2, 83), (1, a), (9, 0), (1, b), (9, 0), (0, fd_c (fh a b) n ((j + 1 : Nat) : Int) (c + 1)), (0, 16), u1] [] ρ := by
      rw [b_186_55, wg, if_neg q0, b_186_67, cj, i1]
    refine ⟨u1, ?_⟩
    rw [if_neg q0]
    by_cases q1 : fh a b j = 10
    · rw [if_pos q1] at e1
      rw [e1, if_pos q1, st2]
    rw [if_neg q1] at e1
    rw [if_neg q1]
    by_cases q2 : fh a b j < 32
    · rw [if_pos q2] at e1
      rw [e1, if_pos q2, if_pos (by decide)]
    rw [if_neg q2] at e1
    rw [if_neg q2]
    by_cases q3 : 126 < fh a b j
    · rw [if_pos q3] at e1
      rw [e1, if_pos q3, if_pos (by decide)]
    rw [if_neg q3] at e1
    rw [if_neg q3, e1, st2]
/-- no sign of them is none -/
def fd_A (g : Int → Int) (n : Int) : Prop := ∀ k : Int, 0 ≤ k → k < n → g k = 0 ∨ 1 ≤ g k ∧ g k ≤ 126
theorem fd_A_of (g : Int → Int) : ∀ (n : Nat) (k c : Int), 0 ≤ c → 0 ≤ fd_c g n k c → ∀ i : Int, k ≤ i → i < k + n → g i = 0 ∨ 1 ≤ g i ∧ g i ≤ 126
  | 0, k, c, _, _, i, i1, i2 => by omega
  | n + 1, k, c, hc, h, i, i1, i2 => by
    simp only [fd_c] at h
    push_cast at i2
    by_cases q0 : g k = 0
    · rw [if_pos q0] at h
      by_cases q : i = k
      · rw [q]; exact Or.inl q0
      · exact fd_A_of g n (k + 1) c hc h i (by omega) (by omega)
    · rw [if_neg q0] at h
      by_cases q1 : g k = 10
      · rw [if_pos q1] at h
        by_cases q : i = k
        · rw [q]; omega
        · exact fd_A_of g n (k + 1) (c + 1) (by omega) h i (by omega) (by omega)
      · rw [if_neg q1] at h
        by_cases q2 : g k < 32
        · rw [if_pos q2] at h; omega
        · rw [if_neg q2] at h
          by_cases q3 : 126 < g k
          · rw [if_pos q3] at h; omega
          · rw [if_neg q3] at h
            by_cases q : i = k
            · rw [q]; omega
            · exact fd_A_of g n (k + 1) (c + 1) (by omega) h i (by omega) (by omega)
/-- while signs are put behind the tapes -/
def fa_R (σ0 ρ0 σ ρ : js_S) : Prop := (σ 1 0 = ρ 83 2 ∧ 0 ≤ ρ 83 2) ∧ (∀ i : Int, 0 ≤ i → i < ρ 83 2 → σ 3 i = ρ 84 i ∧ 1 ≤ ρ 84 i ∧ ρ 84 i ≤ 126) ∧ rx_by ρ ∧ (∀ x i : Int, ¬ (x = 1 ∧ i = 0) → x ≠ 3 → σ x i = σ0 x i) ∧ ∀ x i : Int, ¬ (x = 83 ∧ i = 2) → x ≠ 84 → ρ x i = ρ0 x i
theorem fa_step {σ0 ρ0 : js_S} {v : Int} (h : fa_R σ0 ρ0 σ ρ) (hl : ρ 83 2 < 8192) (hv : 1 ≤ v ∧ v ≤ 126) : fa_R σ0 ρ0 (js_up (js_up σ 3 (ρ 83 2) v) 1 0 (ρ 83 2 + 1)) (js_up (js_up ρ 84 (ρ 83 2) v) 83 2 (ρ 83 2 + 1)) := by
  obtain ⟨⟨h1, h2⟩, h3, h4, h5, h6⟩ := h
  have r2 : js_up (js_up ρ 84 (ρ 83 2) v) 83 2 (ρ 83 2 + 1) 83 2 = ρ 83 2 + 1 := js_up_same _ _ _ _
  refine ⟨⟨by rw [js_up_same, r2], by rw [r2]; omega⟩, fun i i1 i2 => ?_, fun i i1 i2 => ?_, fun x i g1 g2 => ?_, fun x i g1 g2 => ?_⟩
  · rw [r2] at i2
    have s1 : js_up (js_up σ 3 (ρ 83 2) v) 1 0 (ρ 83 2 + 1) 3 i = js_up σ 3 (ρ 83 2) v 3 i := js_up_na _ (by decide)
    have s2 : js_up (js_up ρ 84 (ρ 83 2) v) 83 2 (ρ 83 2 + 1) 84 i = js_up ρ 84 (ρ 83 2) v 84 i := js_up_na _ (by decide)
    rw [s1, s2]
    by_cases q : i = ρ 83 2
    · rw [q, js_up_same, js_up_same]
      exact ⟨rfl, hv⟩
    · rw [js_up_ni _ q, js_up_ni _ q]
      exact h3 i i1 (by omega)
  · rw [js_up_na _ (by decide)]
    by_cases q : i = ρ 83 2
    · rw [q, js_up_same]
      omega
    · rw [js_up_ni _ q]
      exact h4 i i1 i2
  · rw [js_up_ne _ g1, js_up_na _ g2]
    exact h5 x i g1 g2
  · rw [js_up_ne _ g1, js_up_na _ g2]
    exact h6 x i g1 g2
theorem y_app {σ0 ρ0 : js_S} {o : Nat} {z c : Int} (ho : o = 0 ∧ z = a ∨ o = 8 ∧ z = b) (hA : fd_A (fh a b) 16) (he : 1 ≤ e) : ∀ (n j : Nat) (σ ρ : js_S) (u u2 : js_v), n + j = 8 → fa_R σ0 ρ0 σ ρ → ρ 83 2 + n ≤ 8192 → ∃ (σ' ρ' : js_S) (u3 : js_v), js_J E d 15 3 [(2, 1), (1, z), (9, 0), (0, 56 - 8 * (j : Int)), u] [] σ = js_r0 E σ' ∧ js_J E e 186 93 [(2, 83), (1, a), (9, 0), (1, b), (9, 0), (0, c), (0, ((o + j : Nat) : Int)), u2] [] ρ = js_J E e 186 93 [(2, 83), (1, a), (9, 0), (1, b), (9, 0), (0, c), (0, ((o + 8 : Nat) : Int)), u3] [] ρ' ∧ fa_R σ0 ρ0 σ' ρ' ∧ ρ' 83 2 ≤ ρ 83 2 + n
  | 0, j, σ, ρ, u, u2, hn, h, hl => by
    have hj : j = 8 := by omega
    subst hj
    refine ⟨σ, ρ, u2, ?_, rfl, h, by omega⟩
    rw [b_15_3, if_pos (show js_w (56 - 8 * ((8 : Nat) : Int)) < 0 by decide)]
  | n + 1, j, σ, ρ, u, u2, hn, h, hl => by
    have w3 : js_w (56 - 8 * (j : Int)) = 56 - 8 * j := js_w_of (by omega) (by omega)
    have wg := fg_w z j
    have ej : 56 - 8 * (j : Int) + (-8) = 56 - 8 * ((j + 1 : Nat) : Int) := by push_cast; omega
    have wo : js_w ((o + j : Nat) : Int) = ((o + j : Nat) : Int) := js_w_of (by omega) (by omega)
    have cj : ((o + j : Nat) : Int) + 1 = ((o + (j + 1) : Nat) : Int) := by push_cast; omega
    have eg : fh a b ((o + j : Nat) : Int) = fg z j := by
      unfold fh
      rcases ho with ⟨q1, q2⟩ | ⟨q1, q2⟩
      · rw [q1, q2, if_pos (by omega), Nat.zero_add]
      · rw [q1, q2, if_neg (by omega)]
        congr 1
        omega
    have ok := hA ((o + j : Nat) : Int) (by omega) (by omega)
    rw [eg] at ok
    have h1 := h.1.1
    have h2 := h.1.2
    have wl : js_w (ρ 83 2) = ρ 83 2 := js_w_of (by omega) (by omega)
    have rs : js_J E e 186 93 [(2, 83), (1, a), (9, 0), (1, b), (9, 0), (0, c), (0, ((o + j : Nat) : Int)), u2] [] ρ = js_J E e 186 107 [(2, 83), (1, a), (9, 0), (1, b), (9, 0), (0, c), (0, ((o + j : Nat) : Int)), u2] [(0, fg z j)] ρ := by
      rw [b_186_93, wo, if_pos (show ((o + j : Nat) : Int) < 16 by omega), k_186_104 he (r_sign16 (by omega)), eg]
    have cs : js_J E d 15 3 [(2, 1), (1, z), (9, 0), (0, 56 - 8 * (j : Int)), u] [] σ = (if fg z j = 0 then js_J E d 15 56 [(2, 1), (1, z), (9, 0), (0, 56 - 8 * (j : Int)), (0, fg z j)] [] σ else js_J E d 15 56 [(2, 1), (1, z), (9, 0), (0, 56 - 8 * (j : Int)), (0, fg z j)] [] (js_up (js_up σ 3 (ρ 83 2) (js_i2b (js_i2b (fg z j)))) 1 0 (ρ 83 2 + 1))) := by
      rw [b_15_3, w3, if_neg (show ¬ 56 - 8 * (j : Int) < 0 by omega), h1, wl, if_pos (show ρ 83 2 < 8192 by omega), if_pos (show 0 ≤ ρ 83 2 ∧ ρ 83 2 < 8192 by omega)]
      show (if js_w (fg z j) = 0 then js_J E d 15 56 [(2, 1), (1, z), (9, 0), (0, 56 - 8 * (j : Int)), (0, fg z j)] [] σ else _) = _
      rw [wg]
      rfl
    rw [rs, cs, b_186_107, wg]
    by_cases q0 : fg z j = 0
    · obtain ⟨σ', ρ', u3, e1, e2, f1, f2⟩ := y_app ho hA he n (j + 1) σ ρ (0, fg z j) (0, fg z j) (by omega) h (by push_cast at hl; omega)
      exact ⟨σ', ρ', u3, by rw [if_pos q0, b_15_56, ej, e1], by rw [if_pos q0, b_186_139, cj, e2], f1, by push_cast; omega⟩
    · have hv : 1 ≤ fg z j ∧ fg z j ≤ 126 := by omega
      have b1 : js_i2b (js_i2b (fg z j)) = fg z j := by
        rw [js_i2b_of (x := fg z j) (by omega) (by omega), js_i2b_of (by omega) (by omega)]
      have fs := fa_step h (by push_cast at hl; omega) hv
      have r2 : js_up (js_up ρ 84 (ρ 83 2) (fg z j)) 83 2 (ρ 83 2 + 1) 83 2 = ρ 83 2 + 1 := js_up_same _ _ _ _
      obtain ⟨σ', ρ', u3, e1, e2, f1, f2⟩ := y_app ho hA he n (j + 1) _ _ (0, fg z j) (0, fg z j) (by omega) fs (by rw [r2]; push_cast at hl; omega)
      rw [r2] at f2
      exact ⟨σ', ρ', u3, by rw [if_neg q0, b1, b_15_56, ej, e1], by rw [if_neg q0, wl, if_pos (show 0 ≤ ρ 83 2 ∧ ρ 83 2 < 65536 by omega), b1, b_186_139, cj, e2], f1, by push_cast; omega⟩
/-- feed, in both -/
theorem y_feed (h1 : σ 1 0 = ρ 83 2) (h2 : 0 ≤ ρ 83 2 ∧ ρ 83 2 + 16 ≤ 8192) (h3 : ∀ i : Int, 0 ≤ i → i < ρ 83 2 → σ 3 i = ρ 84 i ∧ 1 ≤ ρ 84 i ∧ ρ 84 i ≤ 126) (h4 : rx_by ρ) (hd : 7 ≤ d) (he : 2 ≤ e) : ∃ (σ' ρ' : js_S) (v : Int), js_J E d 11 0 [(2, 0), (1, a), (9, 0), (1, b), (9, 0)] [] σ = js_r E (0, v) σ' ∧ js_J E e 186 0 [(2, 83), (1, a), (9, 0), (1, b), (9, 0), (9, 0), (9, 0), (9, 0)] [] ρ = js_r E (0, v) ρ' ∧ fa_R σ (js_up ρ 83 0 0) σ' ρ' ∧ ρ' 83 2 ≤ ρ 83 2 + 16 := by
  have z : ∀ x i : Int, ¬ (x = 83 ∧ i = 0) → js_up ρ 83 0 0 x i = ρ x i := fun x i g => js_up_ne _ g
  have z2 : js_up ρ 83 0 0 83 2 = ρ 83 2 := z _ _ (by omega)
  have f0 : fa_R σ (js_up ρ 83 0 0) σ (js_up ρ 83 0 0) := ⟨⟨by rw [z2]; exact h1, by rw [z2]; exact h2.1⟩, fun i i1 i2 => by
    rw [z2] at i2
    rw [z _ _ (by omega)]
    exact h3 i i1 i2, fun i i1 i2 => by rw [z _ _ (by omega)]; exact h4 i i1 i2, fun _ _ _ _ => rfl, fun _ _ _ _ => rfl⟩
  have sa : ∀ (d : Nat) (x : Int), js_J E d 13 0 [(1, x), (9, 0), (9, 0), (9, 0), (9, 0)] [] σ = js_r E (0, fd_c (fg x) 8 0 0) σ := fun d x => by
    have g := c_signs (E := E) (d := d) (a := x) (σ := σ) 8 0 0 (9, 0) rfl
    rw [b_13_0]
    exact g
  have ta := fd_c_two (fg a) 8 0 0 0 (by decide) (by decide)
  have tb := fd_c_two (fg b) 8 0 0 0 (by decide) (by decide)
  obtain ⟨u', rc⟩ := r_count (E := E) (e := e) (a := a) (b := b) (ρ := js_up ρ 83 0 0) (by omega) 16 0 0 (9, 0) rfl (by decide)
  have rc' : js_J E e 186 0 [(2, 83), (1, a), (9, 0), (1, b), (9, 0), (9, 0), (9, 0), (9, 0)] [] ρ = if fd_c (fh a b) 16 0 0 < 0 then js_r E (0, -1) (js_up ρ 83 0 0) else js_J E e 186 11 [(2, 83), (1, a), (9, 0), (1, b), (9, 0), (0, fd_c (fh a b) 16 0 0), (0, 16), u'] [] (js_up ρ 83 0 0) := by
    rw [b_186_0]
    exact rc
  have ea : fd_c (fh a b) 8 0 0 = fd_c (fg a) 8 0 0 := (fd_c_eq (g := fg a) (g' := fh a b) 8 0 0 0 (fun i i1 i2 => by
    unfold fh
    rw [Int.add_zero, if_pos (by push_cast at i2; omega)])).symm
  have eb : ∀ c : Int, fd_c (fh a b) 8 8 c = fd_c (fg b) 8 0 c := fun c => (fd_c_eq (g := fg b) (g' := fh a b) 8 0 8 c (fun i i1 i2 => by
    unfold fh
    rw [if_neg (by omega)]
    congr 1
    omega)).symm
  have app : fd_c (fh a b) 16 0 0 = if fd_c (fg a) 8 0 0 < 0 then -1 else fd_c (fg b) 8 0 (fd_c (fg a) 8 0 0) := by
    have g := fd_c_app (fh a b) 8 8 0 0 (by decide)
    rw [ea] at g
    by_cases q : fd_c (fg a) 8 0 0 < 0
    · rw [if_pos q]
      exact g.1 q
    · rw [if_neg q, ← eb]
      exact g.2 q
  have c0 : js_J E d 11 0 [(2, 0), (1, a), (9, 0), (1, b), (9, 0)] [] σ = js_J E d 11 6 [(2, 0), (1, a), (9, 0), (1, b), (9, 0)] [(1, b), (1, a), (2, 1)] σ := b_11_0
  have c1 : js_J E (d - 1) 12 0 [(2, 1), (1, a), (9, 0), (1, b), (9, 0), (9, 0), (9, 0)] [] σ = js_J E (d - 1) 12 10 [(2, 1), (1, a), (9, 0), (1, b), (9, 0), (0, fd_c (fg a) 8 0 0), (9, 0)] [(0, fd_c (fg b) 8 0 0)] σ := by
    rw [b_12_0, k_12_1 (by omega) (sa _ _), b_12_4, k_12_7 (by omega) (sa _ _)]
  have wa : js_w (fd_c (fg a) 8 0 0) = fd_c (fg a) 8 0 0 := js_w_of (by omega) (by omega)
  have wb : js_w (fd_c (fg b) 8 0 0) = fd_c (fg b) 8 0 0 := js_w_of (by omega) (by omega)
  by_cases qa : fd_c (fg a) 8 0 0 < 0
  · rw [if_pos qa] at app
    exact ⟨σ, js_up ρ 83 0 0, -1, by rw [c0, k_11_6 (by omega) (by rw [c1, b_12_10, wa, if_pos qa]), b_11_9], by rw [rc', app, if_pos (by decide)], f0, by rw [z2]; omega⟩
  · rw [if_neg qa] at app
    have tc := fd_c_two (fg b) 8 0 (fd_c (fg a) 8 0 0) 0 (by omega) (by decide)
    by_cases qb : fd_c (fg b) 8 0 0 < 0
    · exact ⟨σ, js_up ρ 83 0 0, -1, by rw [c0, k_11_6 (by omega) (by rw [c1, b_12_10, wa, if_neg qa, wb, if_pos qb]), b_11_9], by rw [rc', app, if_pos (by omega)], f0, by rw [z2]; omega⟩
    · have nn : ¬ fd_c (fh a b) 16 0 0 < 0 := by rw [app]; omega
      have hA : fd_A (fh a b) 16 := fun k k1 k2 => fd_A_of (fh a b) 16 0 0 (by decide) (by omega) k k1 (by push_cast; omega)
      have wl : js_w (σ 1 0 + fd_c (fg a) 8 0 0 + fd_c (fg b) 8 0 0) = σ 1 0 + fd_c (fg a) 8 0 0 + fd_c (fg b) 8 0 0 := js_w_of (by omega) (by omega)
      have wr : js_w (ρ 83 2 + fd_c (fh a b) 16 0 0) = ρ 83 2 + fd_c (fh a b) 16 0 0 := js_w_of (by omega) (by omega)
      obtain ⟨σ1, ρ1, u1, e1, e2, f1, g1⟩ := y_app (E := E) (d := d - 1 - 1) (e := e) (a := a) (b := b) (o := 0) (z := a) (c := fd_c (fh a b) 16 0 0) (Or.inl ⟨rfl, rfl⟩) hA (by omega) 8 0 σ (js_up ρ 83 0 0) (9, 0) u' rfl f0 (by rw [z2]; push_cast; omega)
      obtain ⟨σ2, ρ2, u2, e3, e4, f2, g2⟩ := y_app (E := E) (d := d - 1 - 1) (e := e) (a := a) (b := b) (o := 8) (z := b) (c := fd_c (fh a b) 16 0 0) (Or.inr ⟨rfl, rfl⟩) hA (by omega) 8 0 σ1 ρ1 (9, 0) u1 rfl f1 (by rw [z2] at g1; push_cast at g1 ⊢; omega)
      rw [z2] at g1
      have e1' : js_J E (d - 1 - 1) 15 0 [(2, 1), (1, a), (9, 0), (9, 0), (9, 0)] [] σ = js_r0 E σ1 := by
        rw [b_15_0]
        exact e1
      have e3' : js_J E (d - 1 - 1) 15 0 [(2, 1), (1, b), (9, 0), (9, 0), (9, 0)] [] σ1 = js_r0 E σ2 := by
        rw [b_15_0]
        exact e3
      refine ⟨σ2, ρ2, ρ2 83 2, ?_, ?_, f2, by push_cast at g1 g2; omega⟩
      · rw [c0, k_11_6 (by omega) (by rw [c1, b_12_10, wa, if_neg qa, wb, if_neg qb, wl, if_neg (by omega), k_12_50 (by omega) (by rw [b_14_0 (by omega), wl, if_neg (by omega)]), b_12_53, k_12_55 (by omega) e1', b_12_58, k_12_60 (by omega) e3', b_12_63, f2.1.1]), b_11_9]
      · rw [rc', if_neg nn, b_186_11, if_neg (show ¬ js_w 16 < 16 by decide), z2, wr, if_neg (by omega)]
        have e2' : js_J E e 186 93 [(2, 83), (1, a), (9, 0), (1, b), (9, 0), (0, fd_c (fh a b) 16 0 0), (0, 0), u'] [] (js_up ρ 83 0 0) = _ := e2
        have e4' : js_J E e 186 93 [(2, 83), (1, a), (9, 0), (1, b), (9, 0), (0, fd_c (fh a b) 16 0 0), (0, 8), u1] [] ρ1 = js_J E e 186 93 [(2, 83), (1, a), (9, 0), (1, b), (9, 0), (0, fd_c (fh a b) 16 0 0), (0, 16), u2] [] ρ2 := e4
        rw [e2', show (((0 + 8 : Nat)) : Int) = 8 from rfl, e4', b_186_93, if_neg (show ¬ js_w 16 < 16 by decide)]
theorem lo_feed {n : Int} (h : LQ E n σ ρ) (hn : 0 ≤ n ∧ n ≤ 511) (hd : 7 ≤ d) (he : 2 ≤ e) : LO E n d 11 [(2, 0), (1, a), (9, 0), (1, b), (9, 0)] e 186 [(2, 83), (1, a), (9, 0), (1, b), (9, 0), (9, 0), (9, 0), (9, 0)] σ ρ := by
  have h' := h
  obtain ⟨⟨⟨t1, t2, t3⟩, t4, t5⟩, _⟩ := h'
  obtain ⟨σ', ρ', v, e1, e2, f, g⟩ := y_feed (E := E) (d := d) (e := e) (a := a) (b := b) t1 ⟨t2, by omega⟩ t4 t5 hd he
  obtain ⟨f1, f2, f3, f4, f5⟩ := f
  have r : ∀ x i : Int, ¬ (x = 83 ∧ (i = 0 ∨ i = 2)) → x ≠ 84 → ρ' x i = ρ x i := fun x i q1 q2 => by rw [f5 x i (by omega) q2, js_up_ne _ (by omega)]
  refine ⟨σ', ρ', v, v, e1, e2, rfl, lq_mv0 h (by omega) ⟨⟨f1.1, f1.2, by omega⟩, f2, f3⟩ (fun x i _ q1 q3 _ _ _ => f4 x i (by omega) q3) ⟨by rw [f4 _ _ (by omega) (by omega)]; exact Int.le_refl _, by rw [f4 _ _ (by omega) (by omega)]; omega⟩ ⟨by rw [f4 _ _ (by omega) (by omega)]; exact Int.le_refl _, by rw [f4 _ _ (by omega) (by omega)]; omega⟩ (fun i q => r _ _ (by omega) (by decide)) (fun x i q1 q2 => r x i (by omega) (by omega)), fun x i q1 q2 => f4 x i (by omega) (by omega), fun x i q => r x i (by omega) (by omega)⟩
end FD
