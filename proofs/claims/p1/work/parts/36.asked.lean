/-! part 36: what is asked along the law's head holds; words for what paths ask -/
section SXH
variable {N : sx_N} {i : Instr} {pc pc2 q : Nat} {av rs r : List sx_v} {x y z : sx_v} {a : sx_a}
theorem sx_h0 (h : ip_st (fun _ => none) (fun _ _ => none) (fun _ => none) (fun _ => none) 0 none i pc [] (av.map (sx_d N)) sx_w0 = some (pc2, [], rs.map (sx_d N), sx_w0)) : sx_h N (0, i, pc, av, pc2, rs, a) := h
theorem sx_h1 (h : ip_in (sx_i N x) (sx_n N a.2.1) = true) : sx_h N (1, i, pc, [x], q, r, a) := h
theorem sx_h2i (ha : a.1 ≠ 2) (h : sx_i N z = sx_fi N a.2.2.1 a.2.2.2 (sx_i N x).toNatClampNeg) : sx_h N (2, i, pc, [x], q, [z], a) := by
  show (if a.1 = 2 then _ else _)
  rw [if_neg ha]
  exact h
theorem sx_h2l (ha : a.1 = 2) (h : sx_l N z = sx_fl N a.2.2.1 a.2.2.2 (sx_i N x).toNatClampNeg) : sx_h N (2, i, pc, [x], q, [z], a) := by
  show (if a.1 = 2 then _ else _)
  rw [if_pos ha]
  exact h
theorem sx_h3 (h : ¬ sx_i N x < 0 ∧ (sx_i N x).toNatClampNeg ≤ 1000000) : sx_h N (3, i, pc, [x], q, r, a) := h
theorem sx_h8 (h : sx_i N z = (if sx_i N y < sx_i N x then sx_i N y else sx_i N x)) : sx_h N (8, i, pc, [x, y], q, [z], a) := h
theorem sx_h9 (h : sx_i N z = (if sx_i N x < sx_i N y then sx_i N y else sx_i N x)) : sx_h N (9, i, pc, [x, y], q, [z], a) := h
theorem sx_hb1 {c : ClassFile.Cond} {off : Int} {T : Nat} (hI : sx_isI x = true) (hT : ip_tg pc off = some T) (h : (pc2 = T ∧ il_c1 c (sx_i N x)) ∨ (pc2 = pc + 3 ∧ ¬ il_c1 c (sx_i N x))) : sx_h N (0, .ifCond c off, pc, [x], pc2, [], a) := by
  refine sx_h0 ?_
  simp only [List.map_cons, List.map_nil, sx_isI_d hI, ip_st, hT]
  rcases h with ⟨rfl, h⟩ | ⟨rfl, h⟩
  · rw [(il_b1 c (sx_i N x) pc2 (pc + 3)).1 h]
  · rw [(il_b1 c (sx_i N x) T (pc + 3)).2 h]
theorem sx_hb2 {c : ClassFile.Cond} {off : Int} {T : Nat} (hI : sx_isI x = true) (hJ : sx_isI y = true) (hT : ip_tg pc off = some T) (h : (pc2 = T ∧ il_c2 c (sx_i N x) (sx_i N y)) ∨ (pc2 = pc + 3 ∧ ¬ il_c2 c (sx_i N x) (sx_i N y))) : sx_h N (0, .if_icmp c off, pc, [y, x], pc2, [], a) := by
  refine sx_h0 ?_
  simp only [List.map_cons, List.map_nil, sx_isI_d hI, sx_isI_d hJ, ip_st, hT]
  rcases h with ⟨rfl, h⟩ | ⟨rfl, h⟩
  · rw [(il_b2 c (sx_i N x) (sx_i N y) pc2 (pc + 3)).1 h]
  · rw [(il_b2 c (sx_i N x) (sx_i N y) T (pc + 3)).2 h]
end SXH
def vt_m (n : Int32) : Int32 := if 16 < (if n < 4096 then n else 4096) then (if n < 4096 then n else 4096) else 16
theorem vt_m_in (n : Int32) : 16 ≤ (vt_m n).toInt ∧ (vt_m n).toInt ≤ 4096 := by
  unfold vt_m
  have e16 : (16 : Int32).toInt = 16 := by decide
  have e40 : (4096 : Int32).toInt = 4096 := by decide
  by_cases h1 : n < 4096
  · rw [if_pos h1]
    rw [Int32.lt_iff_toInt_lt, e40] at h1
    by_cases h2 : 16 < n
    · rw [if_pos h2]
      rw [Int32.lt_iff_toInt_lt, e16] at h2
      omega
    · rw [if_neg h2, e16]
      omega
  · rw [if_neg h1, if_pos (by decide), e40]
    omega
theorem vt_m_ok (n : Int32) : ¬ vt_m n < 0 ∧ (vt_m n).toNatClampNeg ≤ 4096 := by
  obtain ⟨h1, h2⟩ := vt_m_in n
  have e0 : (0 : Int32).toInt = 0 := by decide
  refine ⟨fun h => ?_, ?_⟩
  · rw [Int32.lt_iff_toInt_lt, e0] at h
    omega
  · show (vt_m n).toInt.toNat ≤ 4096
    omega
theorem vt_m16 (n : Int32) : (16 * vt_m n).toInt = 16 * (vt_m n).toInt := by
  obtain ⟨h1, h2⟩ := vt_m_in n
  have e16 : (16 : Int32).toInt = 16 := by decide
  rw [Int32.toInt_mul, e16]
  exact Int.bmod_eq_of_le (by omega) (by omega)
theorem vt_m16_ok (n : Int32) : ¬ 16 * vt_m n < 0 ∧ (16 * vt_m n).toNatClampNeg ≤ 65536 := by
  obtain ⟨h1, h2⟩ := vt_m_in n
  have h3 := vt_m16 n
  have e0 : (0 : Int32).toInt = 0 := by decide
  refine ⟨fun h => ?_, ?_⟩
  · rw [Int32.lt_iff_toInt_lt, e0] at h
    omega
  · show (16 * vt_m n).toInt.toNat ≤ 65536
    omega
/-- the environment's first ints -/
def vl_N (N : sx_N) (L : Nat) : Prop := N.1 0 = Int32.ofNat L ∧ N.1 1 = N.2.2.1 0 0 ∧ N.1 2 = (if N.1 1 < 4096 then N.1 1 else 4096) ∧ N.1 3 = vt_m (N.1 1) ∧ N.1 4 = 16 * vt_m (N.1 1) ∧ N.1 5 = N.2.2.1 0 0 ∧ N.1 6 = (if 16 < N.1 5 then N.1 5 else 16) ∧ N.1 7 = (if N.1 6 < 4096 then N.1 6 else 4096)
theorem vl_ok {N : sx_N} {L : Nat} (h : vl_N N L) (hL : 0 < L) (hL2 : L < 2 ^ 31) : ∀ c ∈ vl_c, sx_h N c := by
  obtain ⟨h0, h1, h2, h3, h4, h5, h6, h7⟩ := h
  have hm := vt_m_ok (N.1 1)
  have hm16 := vt_m16_ok (N.1 1)
  have hn : (Int32.ofNat L).toNatClampNeg = L := Int32.toNatClampNeg_ofNat_of_lt hL2
  have h03 : ¬ N.1 3 < 0 ∧ (N.1 3).toNatClampNeg ≤ 1000000 := by rw [h3]; exact ⟨hm.1, by omega⟩
  have h04 : ¬ N.1 4 < 0 ∧ (N.1 4).toNatClampNeg ≤ 1000000 := by rw [h4]; exact ⟨hm16.1, by omega⟩
  have hin : ip_in 0 (N.1 0).toNatClampNeg = true := by
    rw [h0, hn]
    unfold ip_in
    simp only [Bool.and_eq_true, decide_eq_true_eq]
    exact ⟨by decide, hL⟩
  have hge : ¬ N.1 0 ≤ 0 := by
    rw [h0, Int32.le_iff_toInt_le]
    have e1 : (Int32.ofNat L).toInt = L := Int32.toInt_ofNat_of_lt hL2
    rw [e1]
    show ¬ (L : Int) ≤ 0
    omega
  intro c hc
  simp only [vl_c, List.mem_append] at hc
  rcases hc with hc | hc | hc | hc | hc
  · revert c
    unfold vl_cA
    simp only [List.forall_mem_cons, List.not_mem_nil, false_implies, implies_true, and_true]
    exact ⟨sx_h2i (by decide) h1, sx_h1 hin, sx_hb2 rfl rfl rfl (Or.inr ⟨rfl, hge⟩)⟩
  · revert c
    unfold vc_c vc_c0 vc_c1 vc_c2 vc_c3 vc_ce
    simp only [List.forall_mem_append, List.forall_mem_cons, List.not_mem_nil, false_implies, implies_true, and_true, true_and]
    have g9 : sx_h N (9, sx_i0, 0, [.inl (.int 16), .inr (false, 2)], 0, [.inr (false, 3)], sx_a0) := sx_h9 (by
      show N.1 3 = (if (16 : Int32) < N.1 2 then N.1 2 else 16)
      rw [h3, h2]
      rfl)
    have g0 : sx_h N (0, .imul, 66, [.inr (false, 3), .inl (.int 16)], 67, [.inr (false, 4)], sx_a0) := sx_h0 (by
      show some (66 + 1, ([] : List (Nat × Value)), [Value.int (16 * N.1 3)], sx_w0) = some (67, [], [Value.int (N.1 4)], sx_w0)
      rw [h4, h3])
    exact ⟨⟨g9, sx_h8 h2⟩, sx_h3 h04, g0, sx_h3 h03, sx_h3 h03, sx_h3 h03, sx_h3 h03, sx_h3 h03, sx_h3 h03, sx_h3 h03, sx_h3 h03⟩
  · revert c
    unfold vl_cB
    simp only [List.forall_mem_cons, List.not_mem_nil, false_implies, implies_true, and_true]
    exact ⟨sx_h2i (by decide) h5, sx_h1 hin, sx_hb2 rfl rfl rfl (Or.inr ⟨rfl, hge⟩)⟩
  · revert c
    unfold vr_c vr_c0 vr_c1 vr_c2 vr_c3 vr_c4 vr_c5 vr_c6 vr_c7 vr_c8 vr_c9 vr_c10 vr_c11 vr_c12 vr_c13 vr_ce
    simp only [List.forall_mem_append, List.forall_mem_cons, List.not_mem_nil, false_implies, implies_true, and_true, true_and]
    exact ⟨sx_h8 h7, sx_h9 h6⟩
  · cases hc
