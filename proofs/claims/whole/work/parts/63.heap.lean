/-! part 63: equations of js_J for fields, arrays, calls, members of the library, throws, new objects -/
def js_ftl : List (List (Nat × Bool)) := [[(3, true), (3, true), (3, true), (0, false), (3, false), (3, false)], [(3, true), (3, true), (3, true), (3, true), (3, true), (3, true), (0, false), (0, false), (0, false), (0, false), (0, false), (0, false), (0, false), (3, true), (3, true), (3, true), (3, true)], [(0, false), (0, false), (0, false), (3, true), (3, true)], [(1, false), (1, false), (0, false), (0, false), (1, true), (3, true), (3, true)], [(3, true), (3, true), (0, true), (3, true), (3, true)], [(0, false), (0, false), (0, false), (0, false), (3, true), (3, true), (3, true), (3, true), (3, true), (3, true), (3, true), (3, true), (3, true), (3, true), (3, true), (0, false)], [(3, true), (3, false), (2, false), (0, false), (0, false), (3, true), (3, true), (3, true), (0, false), (0, false), (3, true), (3, true), (3, true)], [(3, true), (0, false), (0, false), (0, false), (0, false), (0, false), (0, false), (3, true), (3, true)], [(0, false), (0, false), (0, false), (0, false), (3, true), (0, false), (0, false), (3, false), (3, false), (3, false), (0, false), (0, false)], [(0, false), (0, false), (0, false), (0, false), (3, true), (3, true)], [(0, false), (3, true), (3, true), (3, true), (3, true), (3, true)], [(0, true), (0, false), (0, false), (0, false), (0, false), (0, false), (0, false), (0, false), (0, false), (0, false), (0, false), (0, false), (2, false), (2, false), (0, false)], [(0, false), (3, true), (0, false), (3, true), (0, false), (0, false), (0, false), (0, false), (0, false), (0, false), (0, false), (0, false), (3, true), (3, true), (3, true), (3, true), (3, true), (3, true), (3, true), (3, true), (3, true), (3, true), (3, true), (3, true), (3, true), (3, true), (0, false), (0, false), (0, false), (0, false), (0, false), (0, false), (0, false), (0, false), (3, true), (3, true), (3, true), (3, true), (3, true), (3, true), (3, true), (3, true), (1, false), (1, false), (0, false), (0, false), (0, false), (0, false), (0, false), (0, false), (0, false), (0, false), (0, false), (0, false), (0, false), (0, false), (3, true), (3, true), (3, true), (3, true), (3, true), (3, true), (3, true), (3, true), (2, false), (0, false), (0, false), (3, true), (3, true), (3, true), (3, true), (3, true), (3, true), (3, true), (3, true), (3, true), (3, true), (0, false), (0, false), (0, false), (0, false), (0, false), (0, false), (0, false), (3, true), (0, false), (3, true), (3, true), (3, true), (3, true), (0, false), (3, true), (3, true), (3, true), (3, true), (3, true), (0, false)]]
def js_ftt (c j : Nat) : Option (Nat × Bool) := (js_ftl.getD c [])[j]?
theorem js_ftA : (List.range 13).all (fun c => (List.range (js_ftl.getD c []).length).all (fun j => decide (vt_Ft c j = js_ftt c j))) = true := by decide +kernel
theorem js_ft {c j : Nat} {q : Nat × Bool} (h : js_ftt c j = some q) : vt_Ft c j = some q := by
  have hc : c < 13 := by
    by_cases hc : c < 13
    · exact hc
    · unfold js_ftt at h
      rw [List.getD_eq_getElem?_getD, List.getElem?_eq_none (show js_ftl.length ≤ c from Nat.le_trans (by decide) (Nat.le_of_not_lt hc))] at h
      simp at h
  have hj : j < (js_ftl.getD c []).length := (List.getElem?_eq_some_iff.mp h).1
  have := of_decide_eq_true (List.all_eq_true.mp (List.all_eq_true.mp js_ftA c (List.mem_range.mpr hc)) j (List.mem_range.mpr hj))
  rw [this, h]
section JSF
variable {E : js_E} {d y pc : Nat} {ls st : List js_v} {σ : js_S}
theorem j_get {a ci ji : Int} {fs : List (Nat × Int)} {k c j : Nat} {q : Nat × Int} {v : js_v} (hI : js_I y pc = some (.getfield k, 3)) (hF : js_F y k = some (c, j)) (ho : js_desc E.1 σ a = some (0, ci, fs)) (hc : c = ci.toNat) (hj : fs[j]? = some q) (hji : (j : Int) = ji) (hv : js_fp q (σ a ji) = v) : js_J E d y pc ls ((2, a) :: st) σ = js_J E d y (pc + 3) ls (v :: st) σ := by
  subst hji hv
  have h0 := js_desc_nn ho
  refine js_si (r := (pc + 3, js_L ls 0, List.map js_V (js_fp q (σ a j) :: st), js_wd E.1 σ)) hI rfl rfl ?_
  show ip_st (js_F y) _ _ _ _ _ (.getfield k) pc _ (js_rf a :: _) _ = _
  rw [js_rf_of h0]
  simp only [ip_st, hF, js_at_o ho, hc, if_true]
  rw [js_fs_get, hj]
  simp only [Option.map_some, Int.zero_add]
  try rfl
/-- what may stand in a field of this type -/
theorem js_put1 {a ci x ji : Int} {fs : List (Nat × Int)} {k c j tc : Nat} {q : Nat × Int} {v : js_v} (hI : js_I y pc = some (.putfield k, 3)) (hF : js_F y k = some (c, j)) (hT : js_ftt c j = some (tc, false)) (ho : js_desc E.1 σ a = some (0, ci, fs)) (hc : c = ci.toNat) (hj : fs[j]? = some q) (hji : (j : Int) = ji) (hv : js_fp q x = v) (hk : ip_fok tc (js_V v) = true) : js_J E d y pc ls (v :: (2, a) :: st) σ = js_J E d y (pc + 3) ls st (js_up σ a ji x) := by
  subst hji hv
  have h0 := js_desc_nn ho
  have hlt : j < fs.length := (List.getElem?_eq_some_iff.mp hj).1
  refine js_si (r := (pc + 3, js_L ls 0, List.map js_V st, js_wd E.1 (js_up σ a j x))) hI rfl rfl ?_
  show ip_st (js_F y) vt_Ft _ _ _ _ (.putfield k) pc _ (js_V (js_fp q x) :: js_rf a :: _) _ = _
  rw [js_rf_of h0, js_put ho hj]
  have hT2 := js_ft hT
  rw [hc] at hT2
  simp only [ip_st, hF, js_at_o ho, hc, hT2]
  rw [if_pos ⟨trivial, hk, by rw [js_fs_len]; exact hlt, fun h => by cases h⟩]
theorem j_putI {a ci x ji t : Int} {fs : List (Nat × Int)} {k c j : Nat} (hI : js_I y pc = some (.putfield k, 3)) (hF : js_F y k = some (c, j)) (hT : js_ftt c j = some (0, false)) (ho : js_desc E.1 σ a = some (0, ci, fs)) (hc : c = ci.toNat) (hj : fs[j]? = some (0, t)) (hji : (j : Int) = ji) : js_J E d y pc ls ((0, x) :: (2, a) :: st) σ = js_J E d y (pc + 3) ls st (js_up σ a ji x) :=
  js_put1 hI hF hT ho hc hj hji rfl rfl
theorem j_putL {a ci x ji t : Int} {fs : List (Nat × Int)} {k c j : Nat} (hI : js_I y pc = some (.putfield k, 3)) (hF : js_F y k = some (c, j)) (hT : js_ftt c j = some (1, false)) (ho : js_desc E.1 σ a = some (0, ci, fs)) (hc : c = ci.toNat) (hj : fs[j]? = some (1, t)) (hji : (j : Int) = ji) : js_J E d y pc ls ((1, x) :: (2, a) :: st) σ = js_J E d y (pc + 3) ls st (js_up σ a ji x) :=
  js_put1 hI hF hT ho hc hj hji rfl rfl
theorem j_putR {a ci x ji t : Int} {fs : List (Nat × Int)} {k c j : Nat} (hI : js_I y pc = some (.putfield k, 3)) (hF : js_F y k = some (c, j)) (hT : js_ftt c j = some (3, false)) (ho : js_desc E.1 σ a = some (0, ci, fs)) (hc : c = ci.toNat) (hj : fs[j]? = some (3, t)) (hji : (j : Int) = ji) : js_J E d y pc ls ((2, x) :: (2, a) :: st) σ = js_J E d y (pc + 3) ls st (js_up σ a ji x) :=
  js_put1 hI hF hT ho hc hj hji rfl (by show ip_fok 3 (js_rf x) = true; unfold js_rf; split <;> rfl)
theorem j_putB {a ci x ji t : Int} {fs : List (Nat × Int)} {k c j : Nat} (hI : js_I y pc = some (.putfield k, 3)) (hF : js_F y k = some (c, j)) (hT : js_ftt c j = some (2, false)) (ho : js_desc E.1 σ a = some (0, ci, fs)) (hc : c = ci.toNat) (hj : fs[j]? = some (2, t)) (hji : (j : Int) = ji) : js_J E d y pc ls ((0, x) :: (2, a) :: st) σ = if js_w x = 0 ∨ js_w x = 1 then js_J E d y (pc + 3) ls st (js_up σ a ji x) else none := by
  by_cases h : js_w x = 0 ∨ js_w x = 1
  · rw [if_pos h]
    refine js_put1 hI hF hT ho hc hj hji rfl ?_
    show ((2 : Nat) == 0 || ((2 : Nat) == 2 && (Int32.ofInt x == 0 || Int32.ofInt x == 1))) = true
    rcases h with h | h
    · rw [show Int32.ofInt x = 0 from (js_w_inj x 0).mpr h]
      rfl
    · rw [show Int32.ofInt x = 1 from (js_w_inj x 1).mpr h]
      rfl
  · rw [if_neg h]
    have h0 := js_desc_nn ho
    refine js_sn hI rfl rfl ?_ rfl
    show ip_st (js_F y) vt_Ft _ _ _ _ (.putfield k) pc _ (Value.int (Int32.ofInt x) :: js_rf a :: _) _ = _
    have hT2 := js_ft hT
    rw [hc] at hT2
    rw [js_rf_of h0]
    simp only [ip_st, hF, js_at_o ho, hc, hT2]
    rw [if_neg]
    rintro ⟨-, h1, -⟩
    have h2 : ((2 : Nat) == 0 || ((2 : Nat) == 2 && (Int32.ofInt x == 0 || Int32.ofInt x == 1))) = true := h1
    simp at h2
    exact h (h2.imp (js_w_inj x 0).mp (js_w_inj x 1).mp)
theorem j_putB0 {a ci ji t : Int} {fs : List (Nat × Int)} {k c j : Nat} (hI : js_I y pc = some (.putfield k, 3)) (hF : js_F y k = some (c, j)) (hT : js_ftt c j = some (2, false)) (ho : js_desc E.1 σ a = some (0, ci, fs)) (hc : c = ci.toNat) (hj : fs[j]? = some (2, t)) (hji : (j : Int) = ji) : js_J E d y pc ls ((0, 0) :: (2, a) :: st) σ = js_J E d y (pc + 3) ls st (js_up σ a ji 0) :=
  (j_putB hI hF hT ho hc hj hji).trans (if_pos (Or.inl rfl))
theorem j_putB1 {a ci ji t : Int} {fs : List (Nat × Int)} {k c j : Nat} (hI : js_I y pc = some (.putfield k, 3)) (hF : js_F y k = some (c, j)) (hT : js_ftt c j = some (2, false)) (ho : js_desc E.1 σ a = some (0, ci, fs)) (hc : c = ci.toNat) (hj : fs[j]? = some (2, t)) (hji : (j : Int) = ji) : js_J E d y pc ls ((0, 1) :: (2, a) :: st) σ = js_J E d y (pc + 3) ls st (js_up σ a ji 1) :=
  (j_putB hI hF hT ho hc hj hji).trans (if_pos (Or.inr rfl))
theorem js_in (i n : Int) : ip_in (Int32.ofInt i) n.toNat = true ↔ (0 ≤ js_w i ∧ js_w i < n) := by
  unfold ip_in
  simp only [Bool.and_eq_true, decide_eq_true_eq]
  have e1 : (Int32.ofInt i).toNatClampNeg = (js_w i).toNat := rfl
  have e2 : Int32.ofInt i < 0 ↔ js_w i < 0 := js_w_lt i 0
  rw [e1, e2]
  omega
theorem js_ix {i : Int} (h : 0 ≤ js_w i) : (((Int32.ofInt i).toNatClampNeg : Nat) : Int) = js_w i := by
  have e1 : (Int32.ofInt i).toNatClampNeg = (js_w i).toNat := rfl
  rw [e1]
  omega
theorem j_iaload {a n i : Int} (hI : js_I y pc = some (.iaload, 1)) (ha : js_desc E.1 σ a = some (1, n, [])) : js_J E d y pc ls ((0, i) :: (2, a) :: st) σ = if 0 ≤ js_w i ∧ js_w i < n then js_J E d y (pc + 1) ls ((0, σ a (js_w i)) :: st) σ else none := by
  have h0 := js_desc_nn ha
  have hat := js_at_a ha
  by_cases h : 0 ≤ js_w i ∧ js_w i < n
  · rw [if_pos h]
    refine js_si (r := (pc + 1, js_L ls 0, List.map js_V ((0, σ a (js_w i)) :: st), js_wd E.1 σ)) hI rfl rfl ?_
    show ip_st _ _ _ _ _ _ (.iaload) pc _ (Value.int (Int32.ofInt i) :: js_rf a :: _) _ = _
    rw [js_rf_of h0]
    simp only [ip_st, hat]
    show (if ip_in (Int32.ofInt i) n.toNat = true then some (pc + 1, _, Value.int (Int32.ofInt (σ a ((Int32.ofInt i).toNatClampNeg : Nat))) :: _, _) else none) = _
    rw [if_pos ((js_in i n).mpr h)]
    rw [js_ix h.1]
    rfl
  · rw [if_neg h]
    refine js_sn hI rfl rfl ?_ ?_
    · show ip_st _ _ _ _ _ _ (.iaload) pc _ (Value.int (Int32.ofInt i) :: js_rf a :: _) _ = _
      rw [js_rf_of h0]
      simp only [ip_st, hat]
      show (if ip_in (Int32.ofInt i) n.toNat = true then _ else none) = _
      rw [if_neg (fun hh => h ((js_in i n).mp hh))]
    · show ip_rd _ (.iaload) (Value.int (Int32.ofInt i) :: js_rf a :: _) = none
      rw [js_rf_of h0]
      rfl
theorem j_baload {a n i : Int} (hI : js_I y pc = some (.baload, 1)) (ha : js_desc E.1 σ a = some (2, n, [])) : js_J E d y pc ls ((0, i) :: (2, a) :: st) σ = if 0 ≤ js_w i ∧ js_w i < n then js_J E d y (pc + 1) ls ((0, σ a (js_w i)) :: st) σ else none := by
  have h0 := js_desc_nn ha
  have hat := js_at_a ha
  by_cases h : 0 ≤ js_w i ∧ js_w i < n
  · rw [if_pos h]
    refine js_si (r := (pc + 1, js_L ls 0, List.map js_V ((0, σ a (js_w i)) :: st), js_wd E.1 σ)) hI rfl rfl ?_
    show ip_st _ _ _ _ _ _ (.baload) pc _ (Value.int (Int32.ofInt i) :: js_rf a :: _) _ = _
    rw [js_rf_of h0]
    simp only [ip_st, hat]
    show (if ip_in (Int32.ofInt i) n.toNat = true then some (pc + 1, _, Value.int (Int32.ofInt (σ a ((Int32.ofInt i).toNatClampNeg : Nat))) :: _, _) else none) = _
    rw [if_pos ((js_in i n).mpr h)]
    rw [js_ix h.1]
    rfl
  · rw [if_neg h]
    refine js_sn hI rfl rfl ?_ ?_
    · show ip_st _ _ _ _ _ _ (.baload) pc _ (Value.int (Int32.ofInt i) :: js_rf a :: _) _ = _
      rw [js_rf_of h0]
      simp only [ip_st, hat]
      show (if ip_in (Int32.ofInt i) n.toNat = true then _ else none) = _
      rw [if_neg (fun hh => h ((js_in i n).mp hh))]
    · show ip_rd _ (.baload) (Value.int (Int32.ofInt i) :: js_rf a :: _) = none
      rw [js_rf_of h0]
      rfl
theorem j_zaload {a n i : Int} (hI : js_I y pc = some (.baload, 1)) (ha : js_desc E.1 σ a = some (4, n, [])) : js_J E d y pc ls ((0, i) :: (2, a) :: st) σ = if 0 ≤ js_w i ∧ js_w i < n then js_J E d y (pc + 1) ls ((0, σ a (js_w i)) :: st) σ else none := by
  have h0 := js_desc_nn ha
  have hat := js_at_a ha
  by_cases h : 0 ≤ js_w i ∧ js_w i < n
  · rw [if_pos h]
    refine js_si (r := (pc + 1, js_L ls 0, List.map js_V ((0, σ a (js_w i)) :: st), js_wd E.1 σ)) hI rfl rfl ?_
    show ip_st _ _ _ _ _ _ (.baload) pc _ (Value.int (Int32.ofInt i) :: js_rf a :: _) _ = _
    rw [js_rf_of h0]
    simp only [ip_st, hat]
    show (if ip_in (Int32.ofInt i) n.toNat = true then some (pc + 1, _, Value.int (Int32.ofInt (σ a ((Int32.ofInt i).toNatClampNeg : Nat))) :: _, _) else none) = _
    rw [if_pos ((js_in i n).mpr h)]
    rw [js_ix h.1]
    rfl
  · rw [if_neg h]
    refine js_sn hI rfl rfl ?_ ?_
    · show ip_st _ _ _ _ _ _ (.baload) pc _ (Value.int (Int32.ofInt i) :: js_rf a :: _) _ = _
      rw [js_rf_of h0]
      simp only [ip_st, hat]
      show (if ip_in (Int32.ofInt i) n.toNat = true then _ else none) = _
      rw [if_neg (fun hh => h ((js_in i n).mp hh))]
    · show ip_rd _ (.baload) (Value.int (Int32.ofInt i) :: js_rf a :: _) = none
      rw [js_rf_of h0]
      rfl
theorem j_caload {a n i : Int} {q : Nat × Int} {cs : List (Nat × Int)} (hI : js_I y pc = some (.baload, 1)) (ha : js_desc E.1 σ a = some (2, n, q :: cs)) : js_J E d y pc ls ((0, i) :: (2, a) :: st) σ = if 0 ≤ js_w i ∧ js_w i < n then js_J E d y (pc + 1) ls ((0, ((q :: cs).getD (js_w i).toNat (0, 0)).2) :: st) σ else none := by
  have h0 := js_desc_nn ha
  have hat := js_at_a ha
  by_cases h : 0 ≤ js_w i ∧ js_w i < n
  · rw [if_pos h]
    refine js_si (r := (pc + 1, js_L ls 0, List.map js_V ((0, ((q :: cs).getD (js_w i).toNat (0, 0)).2) :: st), js_wd E.1 σ)) hI rfl rfl ?_
    show ip_st _ _ _ _ _ _ (.baload) pc _ (Value.int (Int32.ofInt i) :: js_rf a :: _) _ = _
    rw [js_rf_of h0]
    simp only [ip_st, hat]
    show (if ip_in (Int32.ofInt i) n.toNat = true then some (pc + 1, _, Value.int (Int32.ofInt ((q :: cs).getD (Int32.ofInt i).toNatClampNeg (0, 0)).2) :: _, _) else none) = _
    rw [if_pos ((js_in i n).mpr h)]
    rfl
  · rw [if_neg h]
    refine js_sn hI rfl rfl ?_ ?_
    · show ip_st _ _ _ _ _ _ (.baload) pc _ (Value.int (Int32.ofInt i) :: js_rf a :: _) _ = _
      rw [js_rf_of h0]
      simp only [ip_st, hat]
      show (if ip_in (Int32.ofInt i) n.toNat = true then _ else none) = _
      rw [if_neg (fun hh => h ((js_in i n).mp hh))]
    · show ip_rd _ (.baload) (Value.int (Int32.ofInt i) :: js_rf a :: _) = none
      rw [js_rf_of h0]
      rfl
theorem j_laload {a n i : Int} (hI : js_I y pc = some (.laload, 1)) (ha : js_desc E.1 σ a = some (3, n, [])) : js_J E d y pc ls ((0, i) :: (2, a) :: st) σ = if 0 ≤ js_w i ∧ js_w i < n then js_J E d y (pc + 1) ls ((1, σ a (js_w i)) :: st) σ else none := by
  have h0 := js_desc_nn ha
  have hat := js_at_a ha
  by_cases h : 0 ≤ js_w i ∧ js_w i < n
  · rw [if_pos h]
    refine js_si (r := (pc + 1, js_L ls 0, List.map js_V ((1, σ a (js_w i)) :: st), js_wd E.1 σ)) hI rfl rfl ?_
    show ip_st _ _ _ _ _ _ (.laload) pc _ (Value.int (Int32.ofInt i) :: js_rf a :: _) _ = _
    rw [js_rf_of h0]
    simp only [ip_st, hat]
    show (if ip_in (Int32.ofInt i) n.toNat = true then some (pc + 1, _, Value.long (Int64.ofInt (σ a ((Int32.ofInt i).toNatClampNeg : Nat))) :: _, _) else none) = _
    rw [if_pos ((js_in i n).mpr h)]
    rw [js_ix h.1]
    rfl
  · rw [if_neg h]
    refine js_sn hI rfl rfl ?_ ?_
    · show ip_st _ _ _ _ _ _ (.laload) pc _ (Value.int (Int32.ofInt i) :: js_rf a :: _) _ = _
      rw [js_rf_of h0]
      simp only [ip_st, hat]
      show (if ip_in (Int32.ofInt i) n.toNat = true then _ else none) = _
      rw [if_neg (fun hh => h ((js_in i n).mp hh))]
    · show ip_rd _ (.laload) (Value.int (Int32.ofInt i) :: js_rf a :: _) = none
      rw [js_rf_of h0]
      rfl
theorem j_aaload {a n i : Int} (hI : js_I y pc = some (.aaload, 1)) (ha : js_desc E.1 σ a = some (5, n, [])) : js_J E d y pc ls ((0, i) :: (2, a) :: st) σ = if 0 ≤ js_w i ∧ js_w i < n then js_J E d y (pc + 1) ls ((2, σ a (js_w i)) :: st) σ else none := by
  have h0 := js_desc_nn ha
  have hat := js_at_a ha
  by_cases h : 0 ≤ js_w i ∧ js_w i < n
  · rw [if_pos h]
    refine js_si (r := (pc + 1, js_L ls 0, List.map js_V ((2, σ a (js_w i)) :: st), js_wd E.1 σ)) hI rfl rfl ?_
    show ip_st _ _ _ _ _ _ (.aaload) pc _ (Value.int (Int32.ofInt i) :: js_rf a :: _) _ = _
    rw [js_rf_of h0]
    simp only [ip_st, hat]
    show (if ip_in (Int32.ofInt i) n.toNat = true then some (pc + 1, _, ip_r (if σ a ((Int32.ofInt i).toNatClampNeg : Nat) < 0 then none else some (σ a ((Int32.ofInt i).toNatClampNeg : Nat)).toNat) :: _, _) else none) = _
    rw [if_pos ((js_in i n).mpr h)]
    rw [js_ix h.1]
    show _ = some (pc + 1, _, js_rf (σ a (js_w i)) :: _, _)
    unfold js_rf
    split <;> rfl
  · rw [if_neg h]
    refine js_sn hI rfl rfl ?_ ?_
    · show ip_st _ _ _ _ _ _ (.aaload) pc _ (Value.int (Int32.ofInt i) :: js_rf a :: _) _ = _
      rw [js_rf_of h0]
      simp only [ip_st, hat]
      show (if ip_in (Int32.ofInt i) n.toNat = true then _ else none) = _
      rw [if_neg (fun hh => h ((js_in i n).mp hh))]
    · show ip_rd _ (.aaload) (Value.int (Int32.ofInt i) :: js_rf a :: _) = none
      rw [js_rf_of h0]
      rfl
theorem j_iastore {a n i x : Int} (hI : js_I y pc = some (.iastore, 1)) (ha : js_desc E.1 σ a = some (1, n, [])) : js_J E d y pc ls ((0, x) :: (0, i) :: (2, a) :: st) σ = if 0 ≤ js_w i ∧ js_w i < n then js_J E d y (pc + 1) ls st (js_up σ a (js_w i) x) else none := by
  have h0 := js_desc_nn ha
  have hat := js_at_a ha
  by_cases h : 0 ≤ js_w i ∧ js_w i < n
  · rw [if_pos h]
    refine js_si (r := (pc + 1, js_L ls 0, List.map js_V st, js_wd E.1 (js_up σ a (js_w i) x))) hI rfl rfl ?_
    show ip_st _ _ _ _ _ _ (.iastore) pc _ (Value.int (Int32.ofInt x) :: Value.int (Int32.ofInt i) :: js_rf a :: _) _ = _
    rw [js_rf_of h0, js_puta ha]
    simp only [ip_st, hat]
    show (if ip_in (Int32.ofInt i) n.toNat = true then some (pc + 1, _, _, (_, _, va_up _ a.toNat (some (Sum.inl (0, n.toNat, Sum.inl (upd (fun t : Nat => Int32.ofInt (σ a t)) (Int32.ofInt i).toNatClampNeg (Int32.ofInt x))))))) else none) = _
    rw [if_pos ((js_in i n).mpr h)]
    have e : (upd (fun t : Nat => Int32.ofInt (σ a t)) (Int32.ofInt i).toNatClampNeg (Int32.ofInt x)) = (fun t : Nat => Int32.ofInt (js_up σ a (js_w i) x a t)) := by
      funext t
      have e1 : (Int32.ofInt i).toNatClampNeg = (js_w i).toNat := rfl
      show (if t = (Int32.ofInt i).toNatClampNeg then Int32.ofInt x else _) = _
      rw [e1]
      by_cases ht : t = (js_w i).toNat
      · rw [if_pos ht, show (t : Int) = js_w i by omega, js_up_same]
      · rw [if_neg ht, js_up_ne σ (fun hh => ht (by omega))]
    rw [e]
    rfl
  · rw [if_neg h]
    refine js_sn hI rfl rfl ?_ rfl
    show ip_st _ _ _ _ _ _ (.iastore) pc _ (Value.int (Int32.ofInt x) :: Value.int (Int32.ofInt i) :: js_rf a :: _) _ = _
    rw [js_rf_of h0]
    simp only [ip_st, hat]
    show (if ip_in (Int32.ofInt i) n.toNat = true then _ else none) = _
    rw [if_neg (fun hh => h ((js_in i n).mp hh))]
theorem js_narb (x : Int) : vp_nar .byte (Int32.ofInt x) = Int32.ofInt (js_i2b x) := by
  unfold js_i2b
  rw [Int32.ofInt_toInt]
  rfl
theorem js_narz (x : Int) : vp_nar .boolean (Int32.ofInt x) = Int32.ofInt (js_iand x 1) := by
  unfold js_iand
  rw [Int32.ofInt_toInt]
  rfl
theorem j_bastore {a n i x : Int} (hI : js_I y pc = some (.bastore, 1)) (ha : js_desc E.1 σ a = some (2, n, [])) : js_J E d y pc ls ((0, x) :: (0, i) :: (2, a) :: st) σ = if 0 ≤ js_w i ∧ js_w i < n then js_J E d y (pc + 1) ls st (js_up σ a (js_w i) (js_i2b x)) else none := by
  have h0 := js_desc_nn ha
  have hat := js_at_a ha
  by_cases h : 0 ≤ js_w i ∧ js_w i < n
  · rw [if_pos h]
    refine js_si (r := (pc + 1, js_L ls 0, List.map js_V st, js_wd E.1 (js_up σ a (js_w i) (js_i2b x)))) hI rfl rfl ?_
    show ip_st _ _ _ _ _ _ (.bastore) pc _ (Value.int (Int32.ofInt x) :: Value.int (Int32.ofInt i) :: js_rf a :: _) _ = _
    rw [js_rf_of h0, js_puta ha]
    simp only [ip_st, hat]
    show (if ip_in (Int32.ofInt i) n.toNat = true then some (pc + 1, _, _, (_, _, va_up _ a.toNat (some (Sum.inl (1, n.toNat, Sum.inl (upd (fun t : Nat => Int32.ofInt (σ a t)) (Int32.ofInt i).toNatClampNeg (vp_nar .byte (Int32.ofInt x)))))))) else none) = _
    rw [if_pos ((js_in i n).mpr h)]
    have e : (upd (fun t : Nat => Int32.ofInt (σ a t)) (Int32.ofInt i).toNatClampNeg (vp_nar .byte (Int32.ofInt x))) = (fun t : Nat => Int32.ofInt (js_up σ a (js_w i) (js_i2b x) a t)) := by
      funext t
      have e1 : (Int32.ofInt i).toNatClampNeg = (js_w i).toNat := rfl
      show (if t = (Int32.ofInt i).toNatClampNeg then vp_nar .byte (Int32.ofInt x) else _) = _
      rw [e1]
      by_cases ht : t = (js_w i).toNat
      · rw [if_pos ht, show (t : Int) = js_w i by omega, js_up_same]
        exact js_narb x
      · rw [if_neg ht, js_up_ne σ (fun hh => ht (by omega))]
    rw [e]
    rfl
  · rw [if_neg h]
    refine js_sn hI rfl rfl ?_ rfl
    show ip_st _ _ _ _ _ _ (.bastore) pc _ (Value.int (Int32.ofInt x) :: Value.int (Int32.ofInt i) :: js_rf a :: _) _ = _
    rw [js_rf_of h0]
    simp only [ip_st, hat]
    show (if ip_in (Int32.ofInt i) n.toNat = true then _ else none) = _
    rw [if_neg (fun hh => h ((js_in i n).mp hh))]
theorem j_zastore {a n i x : Int} (hI : js_I y pc = some (.bastore, 1)) (ha : js_desc E.1 σ a = some (4, n, [])) : js_J E d y pc ls ((0, x) :: (0, i) :: (2, a) :: st) σ = if 0 ≤ js_w i ∧ js_w i < n then js_J E d y (pc + 1) ls st (js_up σ a (js_w i) (js_iand x 1)) else none := by
  have h0 := js_desc_nn ha
  have hat := js_at_a ha
  by_cases h : 0 ≤ js_w i ∧ js_w i < n
  · rw [if_pos h]
    refine js_si (r := (pc + 1, js_L ls 0, List.map js_V st, js_wd E.1 (js_up σ a (js_w i) (js_iand x 1)))) hI rfl rfl ?_
    show ip_st _ _ _ _ _ _ (.bastore) pc _ (Value.int (Int32.ofInt x) :: Value.int (Int32.ofInt i) :: js_rf a :: _) _ = _
    rw [js_rf_of h0, js_puta ha]
    simp only [ip_st, hat]
    show (if ip_in (Int32.ofInt i) n.toNat = true then some (pc + 1, _, _, (_, _, va_up _ a.toNat (some (Sum.inl (3, n.toNat, Sum.inl (upd (fun t : Nat => Int32.ofInt (σ a t)) (Int32.ofInt i).toNatClampNeg (vp_nar .boolean (Int32.ofInt x)))))))) else none) = _
    rw [if_pos ((js_in i n).mpr h)]
    have e : (upd (fun t : Nat => Int32.ofInt (σ a t)) (Int32.ofInt i).toNatClampNeg (vp_nar .boolean (Int32.ofInt x))) = (fun t : Nat => Int32.ofInt (js_up σ a (js_w i) (js_iand x 1) a t)) := by
      funext t
      have e1 : (Int32.ofInt i).toNatClampNeg = (js_w i).toNat := rfl
      show (if t = (Int32.ofInt i).toNatClampNeg then vp_nar .boolean (Int32.ofInt x) else _) = _
      rw [e1]
      by_cases ht : t = (js_w i).toNat
      · rw [if_pos ht, show (t : Int) = js_w i by omega, js_up_same]
        exact js_narz x
      · rw [if_neg ht, js_up_ne σ (fun hh => ht (by omega))]
    rw [e]
    rfl
  · rw [if_neg h]
    refine js_sn hI rfl rfl ?_ rfl
    show ip_st _ _ _ _ _ _ (.bastore) pc _ (Value.int (Int32.ofInt x) :: Value.int (Int32.ofInt i) :: js_rf a :: _) _ = _
    rw [js_rf_of h0]
    simp only [ip_st, hat]
    show (if ip_in (Int32.ofInt i) n.toNat = true then _ else none) = _
    rw [if_neg (fun hh => h ((js_in i n).mp hh))]
theorem j_lastore {a n i x : Int} (hI : js_I y pc = some (.lastore, 1)) (ha : js_desc E.1 σ a = some (3, n, [])) : js_J E d y pc ls ((1, x) :: (0, i) :: (2, a) :: st) σ = if 0 ≤ js_w i ∧ js_w i < n then js_J E d y (pc + 1) ls st (js_up σ a (js_w i) x) else none := by
  have h0 := js_desc_nn ha
  have hat := js_at_a ha
  by_cases h : 0 ≤ js_w i ∧ js_w i < n
  · rw [if_pos h]
    refine js_si (r := (pc + 1, js_L ls 0, List.map js_V st, js_wd E.1 (js_up σ a (js_w i) x))) hI rfl rfl ?_
    show ip_st _ _ _ _ _ _ (.lastore) pc _ (Value.long (Int64.ofInt x) :: Value.int (Int32.ofInt i) :: js_rf a :: _) _ = _
    rw [js_rf_of h0, js_puta ha]
    simp only [ip_st, hat]
    show (if ip_in (Int32.ofInt i) n.toNat = true then some (pc + 1, _, _, (_, _, va_up _ a.toNat (some (Sum.inl (2, n.toNat, Sum.inr <| Sum.inl (vp_updL (fun t : Nat => Int64.ofInt (σ a t)) (Int32.ofInt i).toNatClampNeg (Int64.ofInt x))))))) else none) = _
    rw [if_pos ((js_in i n).mpr h)]
    have e : (vp_updL (fun t : Nat => Int64.ofInt (σ a t)) (Int32.ofInt i).toNatClampNeg (Int64.ofInt x)) = (fun t : Nat => Int64.ofInt (js_up σ a (js_w i) x a t)) := by
      funext t
      have e1 : (Int32.ofInt i).toNatClampNeg = (js_w i).toNat := rfl
      show (if t = (Int32.ofInt i).toNatClampNeg then Int64.ofInt x else _) = _
      rw [e1]
      by_cases ht : t = (js_w i).toNat
      · rw [if_pos ht, show (t : Int) = js_w i by omega, js_up_same]
      · rw [if_neg ht, js_up_ne σ (fun hh => ht (by omega))]
    rw [e]
    rfl
  · rw [if_neg h]
    refine js_sn hI rfl rfl ?_ rfl
    show ip_st _ _ _ _ _ _ (.lastore) pc _ (Value.long (Int64.ofInt x) :: Value.int (Int32.ofInt i) :: js_rf a :: _) _ = _
    rw [js_rf_of h0]
    simp only [ip_st, hat]
    show (if ip_in (Int32.ofInt i) n.toNat = true then _ else none) = _
    rw [if_neg (fun hh => h ((js_in i n).mp hh))]
theorem j_aastore {a n i x : Int} {fs : List (Nat × Int)} (hI : js_I y pc = some (.aastore, 1)) (ha : js_desc E.1 σ a = some (5, n, [])) (hx : js_desc E.1 σ x = some (0, 11, fs)) : js_J E d y pc ls ((2, x) :: (0, i) :: (2, a) :: st) σ = if 0 ≤ js_w i ∧ js_w i < n then js_J E d y (pc + 1) ls st (js_up σ a (js_w i) x) else none := by
  have h0 := js_desc_nn ha
  have hx0 := js_desc_nn hx
  have hat := js_at_a ha
  have hxt := js_at_o hx
  by_cases h : 0 ≤ js_w i ∧ js_w i < n
  · rw [if_pos h]
    refine js_si (r := (pc + 1, js_L ls 0, List.map js_V st, js_wd E.1 (js_up σ a (js_w i) x))) hI rfl rfl ?_
    show ip_st _ _ _ _ _ _ (.aastore) pc _ (js_rf x :: Value.int (Int32.ofInt i) :: js_rf a :: _) _ = _
    rw [js_rf_of h0, js_rf_of hx0, js_puta ha]
    simp only [ip_st, hat, hxt]
    show (if ip_in (Int32.ofInt i) n.toNat = true then some (pc + 1, _, _, (_, _, va_up _ a.toNat (some (Sum.inl (4, n.toNat, Sum.inr (Sum.inr (va_up (fun t : Nat => if σ a t < 0 then none else some (σ a t).toNat) (Int32.ofInt i).toNatClampNeg (some x.toNat)))))))) else none) = _
    rw [if_pos ((js_in i n).mpr h)]
    have e : (va_up (fun t : Nat => if σ a t < 0 then none else some (σ a t).toNat) (Int32.ofInt i).toNatClampNeg (some x.toNat)) = (fun t : Nat => if js_up σ a (js_w i) x a t < 0 then none else some (js_up σ a (js_w i) x a t).toNat) := by
      funext t
      have e1 : (Int32.ofInt i).toNatClampNeg = (js_w i).toNat := rfl
      show (if t = (Int32.ofInt i).toNatClampNeg then some x.toNat else _) = _
      rw [e1]
      by_cases ht : t = (js_w i).toNat
      · rw [if_pos ht, show (t : Int) = js_w i by omega, js_up_same, if_neg (by omega)]
      · rw [if_neg ht, js_up_ne σ (fun hh => ht (by omega))]
    rw [e]
    rfl
  · rw [if_neg h]
    refine js_sn hI rfl rfl ?_ rfl
    show ip_st _ _ _ _ _ _ (.aastore) pc _ (js_rf x :: Value.int (Int32.ofInt i) :: js_rf a :: _) _ = _
    rw [js_rf_of h0, js_rf_of hx0]
    simp only [ip_st, hat, hxt]
    show (if ip_in (Int32.ofInt i) n.toNat = true then _ else none) = _
    rw [if_neg (fun hh => h ((js_in i n).mp hh))]
theorem j_alen {a n : Int} {k : Nat} {cs : List (Nat × Int)} (hI : js_I y pc = some (.arraylength, 1)) (ha : js_desc E.1 σ a = some (k + 1, n, cs)) (hk : k < 5) (hn : 0 ≤ n) : js_J E d y pc ls ((2, a) :: st) σ = js_J E d y (pc + 1) ls ((0, n) :: st) σ := by
  have h0 := js_desc_nn ha
  have hat := js_at_a ha
  refine js_si (r := (pc + 1, js_L ls 0, List.map js_V ((0, n) :: st), js_wd E.1 σ)) hI rfl rfl ?_
  show ip_st _ _ _ _ _ _ (.arraylength) pc _ (js_rf a :: _) _ = _
  rw [js_rf_of h0]
  simp only [ip_st, hat, hk, if_true]
  show some (pc + 1, _, Value.int (Int32.ofNat n.toNat) :: _, _) = some (pc + 1, _, Value.int (Int32.ofInt n) :: _, _)
  rw [← Int32.ofInt_eq_ofNat, Int.toNat_of_nonneg hn]
theorem j_ldc {k : Nat} {v : js_v} (hI : js_I y pc = some (.ldc k, 2)) (hC : js_C y k = some (js_V v)) : js_J E d y pc ls st σ = js_J E d y (pc + 2) ls (v :: st) σ := by
  refine js_si (r := (pc + 2, js_L ls 0, List.map js_V (v :: st), js_wd E.1 σ)) hI rfl rfl ?_
  show (match js_C y k with
    | some v => some (pc + 2, _, v :: _, _)
    | none => none) = _
  rw [hC]
  rfl
theorem j_ldc_w {k : Nat} {v : js_v} (hI : js_I y pc = some (.ldc_w k, 3)) (hC : js_C y k = some (js_V v)) : js_J E d y pc ls st σ = js_J E d y (pc + 3) ls (v :: st) σ := by
  refine js_si (r := (pc + 3, js_L ls 0, List.map js_V (v :: st), js_wd E.1 σ)) hI rfl rfl ?_
  show (match js_C y k with
    | some v => some (pc + 3, _, v :: _, _)
    | none => none) = _
  rw [hC]
  rfl
theorem j_ldc2 {k : Nat} {v : js_v} (hI : js_I y pc = some (.ldc2_w k, 3)) (hC : js_C y k = some (js_V v)) : js_J E d y pc ls st σ = js_J E d y (pc + 3) ls (v :: st) σ := by
  refine js_si (r := (pc + 3, js_L ls 0, List.map js_V (v :: st), js_wd E.1 σ)) hI rfl rfl ?_
  show (match js_C y k with
    | some v => some (pc + 3, _, v :: _, _)
    | none => none) = _
  rw [hC]
  rfl
end JSF
