/-! part 37: one call on fresh objects: the frame (printed by wip/whole/tools/gen37.py) -/
def pe_N (xs : Nat → Int32) (is : List Int32) (ls : List Int64) : sx_N := (fun q => is.getD q 0, fun q => ls.getD q 0, fun _ => xs, fun _ _ => 0, fun _ _ => none)
def pe_goal (L : Nat) (xs : Nat → Int32) : Prop := ∃ w2, ip_rn (vt_tb vt_P (vt_Ro L xs)) 110 309 0 [(0, .retAddr 100)] [] (0, 0, fun _ => none) (.returned (some (.int 1))) w2 ∧ w2.1 ≤ 600002 ∧ w2.2.1 ≤ 7302198
theorem pe_fin {xs : Nat → Int32} {L : Nat} {N : sx_N} {W : sx_W} (hN : vl_N N L) (hrow : N.2.2.1 0 = xs) (hrun : sx_sc N (vt_Ro L xs) → ip_rn (vt_tb vt_P (vt_Ro L xs)) 110 309 33 (sx_ld N vl_L) [] (il_w (sx_wd N vl_WC)) (.returned (some (.int 1))) (il_w (sx_wd N W))) (hb1 : W.1.length ≤ 600002) (hb2 : W.2.1 ≤ 7000000) (hb3 : W.2.2 = vl_WC.2.2) (hL : 0 < L := by decide) (hL2 : L < 2 ^ 31 := by decide) : pe_goal L xs := by
  have hsc : sx_sc N (vt_Ro L xs) := ⟨L, by rw [hrow]; rfl, hN.1, hL2⟩
  refine ⟨_, vl_head hsc (vl_ok hN hL hL2) (hrun hsc), ?_, ?_⟩
  · show (W.1.map (sx_ed N)).length ≤ _
    rw [List.length_map]
    exact hb1
  · show W.2.1 + (W.2.2.map fun v => (sx_i N v).toNatClampNeg).sum ≤ 7302198
    rw [hb3]
    have h3 : (N.1 3).toNatClampNeg ≤ 4096 := by rw [hN.2.2.2.1]; exact (vt_m_ok _).2
    have h4 : (N.1 4).toNatClampNeg ≤ 65536 := by rw [hN.2.2.2.2.1]; exact (vt_m16_ok _).2
    have e : (vl_WC.2.2.map fun v => (sx_i N v).toNatClampNeg).sum = (N.1 4).toNatClampNeg + ((N.1 3).toNatClampNeg + ((N.1 3).toNatClampNeg + ((N.1 3).toNatClampNeg + ((N.1 3).toNatClampNeg + ((N.1 3).toNatClampNeg + ((N.1 3).toNatClampNeg + ((N.1 3).toNatClampNeg + ((N.1 3).toNatClampNeg + 0)))))))) := rfl
    rw [e]
    omega
theorem pe_b {x : Int32} {k : Int} (h0 : ¬ x < 0) (h1 : x.toInt ≤ k) : 0 ≤ x.toInt ∧ x.toInt ≤ k := by
  rw [Int32.lt_iff_toInt_lt] at h0
  have e0 : (0 : Int32).toInt = 0 := by decide
  omega
theorem pe_01 {x : Int32} (h0 : ¬ x < 0) (h1 : ¬ 1 < x) : x = 0 ∨ x = 1 := by
  rw [Int32.lt_iff_toInt_lt] at h1
  have e0 : (0 : Int32).toInt = 0 := by decide
  have e1 : (1 : Int32).toInt = 1 := by decide
  obtain ⟨a, b⟩ := pe_b (k := 1) h0 (by omega)
  rcases (show x.toInt = 0 ∨ x.toInt = 1 by omega) with h | h
  · exact Or.inl (Int32.toInt_inj.mp (by rw [h, e0]))
  · exact Or.inr (Int32.toInt_inj.mp (by rw [h, e1]))
theorem pe_03 {x : Int32} (h0 : ¬ x < 0) (h1 : x ≤ 3) : x = 0 ∨ x = 1 ∨ x = 2 ∨ x = 3 := by
  rw [Int32.le_iff_toInt_le] at h1
  have e0 : (0 : Int32).toInt = 0 := by decide
  have e1 : (1 : Int32).toInt = 1 := by decide
  have e2 : (2 : Int32).toInt = 2 := by decide
  have e3 : (3 : Int32).toInt = 3 := by decide
  obtain ⟨a, b⟩ := pe_b (k := 3) h0 (by omega)
  rcases (show x.toInt = 0 ∨ x.toInt = 1 ∨ x.toInt = 2 ∨ x.toInt = 3 by omega) with h | h | h | h
  · exact Or.inl (Int32.toInt_inj.mp (by rw [h, e0]))
  · exact Or.inr (Or.inl (Int32.toInt_inj.mp (by rw [h, e1])))
  · exact Or.inr (Or.inr (Or.inl (Int32.toInt_inj.mp (by rw [h, e2]))))
  · exact Or.inr (Or.inr (Or.inr (Int32.toInt_inj.mp (by rw [h, e3]))))
theorem pe_in2 {x : Int32} (h0 : ¬ x < 0) (h1 : ¬ 1 < x) : ip_in x 2 = true := by
  rcases pe_01 h0 h1 with rfl | rfl <;> decide
theorem pe_0 : (0 : Int32).toInt = 0 := by decide
theorem pe_1 : (1 : Int32).toInt = 1 := by decide
theorem pe_2 : (2 : Int32).toInt = 2 := by decide
theorem pe_3 : (3 : Int32).toInt = 3 := by decide
theorem pe_4 : (4 : Int32).toInt = 4 := by decide
theorem pe_5 : (5 : Int32).toInt = 5 := by decide
theorem pe_6 : (200000 : Int32).toInt = 200000 := by decide
