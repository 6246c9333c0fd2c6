/-! part 17: every word of vt_Ts is in lw_tbl: by chunk and place (printed by wip/whole/tools/gen18.py) -/
def vt_ch (k : Nat) : List Cond := match k with
  | 1 => tables_1_1
  | 2 => tables_1_2
  | 3 => tables_1_3
  | 4 => tables_1_4
  | 5 => tables_1_5
  | 6 => tables_1_6
  | 7 => tables_1_7
  | 8 => tables_1_8
  | 9 => tables_1_9
  | 10 => tables_1_10
  | 11 => tables_1_11
  | 101 => k2_sels lw_privs_1
  | 102 => k2_sels lw_privs_2
  | 103 => k2_sels lw_privs_3
  | 104 => k2_sels lw_privs_4
  | 105 => k2_sels lw_privs_5
  | 106 => k2_sels lw_privs_6
  | 107 => k2_sels lw_privs_7
  | 108 => k2_sels lw_privs_8
  | 109 => k2_sels lw_privs_9
  | 110 => k2_sels lw_privs_10
  | _ => []
theorem vt_sl {P Q : List (MethodName × Nat)} {x : Cond} (hs : ∀ q ∈ P, q ∈ Q) (h : x ∈ k2_sels P) : x ∈ k2_sels Q := by
  obtain ⟨q, hq, rfl⟩ := List.mem_map.mp h
  exact List.mem_map.mpr ⟨q, hs q hq, rfl⟩
theorem vt_ch_in {k : Nat} {x : Cond} (h : x ∈ vt_ch k) : x ∈ lw_tbl := by
  unfold vt_ch at h
  split at h
  · exact List.mem_append_right _ (List.mem_append_left _ h)
  · exact List.mem_append_right _ (List.mem_append_right _ (List.mem_append_left _ h))
  · exact List.mem_append_right _ (List.mem_append_right _ (List.mem_append_right _ (List.mem_append_left _ h)))
  · exact List.mem_append_right _ (List.mem_append_right _ (List.mem_append_right _ (List.mem_append_right _ (List.mem_append_left _ h))))
  · exact List.mem_append_right _ (List.mem_append_right _ (List.mem_append_right _ (List.mem_append_right _ (List.mem_append_right _ (List.mem_append_left _ h)))))
  · exact List.mem_append_right _ (List.mem_append_right _ (List.mem_append_right _ (List.mem_append_right _ (List.mem_append_right _ (List.mem_append_right _ (List.mem_append_left _ h))))))
  · exact List.mem_append_right _ (List.mem_append_right _ (List.mem_append_right _ (List.mem_append_right _ (List.mem_append_right _ (List.mem_append_right _ (List.mem_append_right _ (List.mem_append_left _ h)))))))
  · exact List.mem_append_right _ (List.mem_append_right _ (List.mem_append_right _ (List.mem_append_right _ (List.mem_append_right _ (List.mem_append_right _ (List.mem_append_right _ (List.mem_append_right _ (List.mem_append_left _ h))))))))
  · exact List.mem_append_right _ (List.mem_append_right _ (List.mem_append_right _ (List.mem_append_right _ (List.mem_append_right _ (List.mem_append_right _ (List.mem_append_right _ (List.mem_append_right _ (List.mem_append_right _ (List.mem_append_left _ h)))))))))
  · exact List.mem_append_right _ (List.mem_append_right _ (List.mem_append_right _ (List.mem_append_right _ (List.mem_append_right _ (List.mem_append_right _ (List.mem_append_right _ (List.mem_append_right _ (List.mem_append_right _ (List.mem_append_right _ (List.mem_append_left _ h))))))))))
  · exact List.mem_append_right _ (List.mem_append_right _ (List.mem_append_right _ (List.mem_append_right _ (List.mem_append_right _ (List.mem_append_right _ (List.mem_append_right _ (List.mem_append_right _ (List.mem_append_right _ (List.mem_append_right _ (List.mem_append_right _ h))))))))))
  · exact List.mem_append_left _ (vt_sl (P := lw_privs_1) (fun q hq => by unfold lw_privs; simp only [List.mem_append]; exact Or.inl hq) h)
  · exact List.mem_append_left _ (vt_sl (P := lw_privs_2) (fun q hq => by unfold lw_privs; simp only [List.mem_append]; exact Or.inr (Or.inl hq)) h)
  · exact List.mem_append_left _ (vt_sl (P := lw_privs_3) (fun q hq => by unfold lw_privs; simp only [List.mem_append]; exact Or.inr (Or.inr (Or.inl hq))) h)
  · exact List.mem_append_left _ (vt_sl (P := lw_privs_4) (fun q hq => by unfold lw_privs; simp only [List.mem_append]; exact Or.inr (Or.inr (Or.inr (Or.inl hq)))) h)
  · exact List.mem_append_left _ (vt_sl (P := lw_privs_5) (fun q hq => by unfold lw_privs; simp only [List.mem_append]; exact Or.inr (Or.inr (Or.inr (Or.inr (Or.inl hq))))) h)
  · exact List.mem_append_left _ (vt_sl (P := lw_privs_6) (fun q hq => by unfold lw_privs; simp only [List.mem_append]; exact Or.inr (Or.inr (Or.inr (Or.inr (Or.inr (Or.inl hq)))))) h)
  · exact List.mem_append_left _ (vt_sl (P := lw_privs_7) (fun q hq => by unfold lw_privs; simp only [List.mem_append]; exact Or.inr (Or.inr (Or.inr (Or.inr (Or.inr (Or.inr (Or.inl hq))))))) h)
  · exact List.mem_append_left _ (vt_sl (P := lw_privs_8) (fun q hq => by unfold lw_privs; simp only [List.mem_append]; exact Or.inr (Or.inr (Or.inr (Or.inr (Or.inr (Or.inr (Or.inr (Or.inl hq)))))))) h)
  · exact List.mem_append_left _ (vt_sl (P := lw_privs_9) (fun q hq => by unfold lw_privs; simp only [List.mem_append]; exact Or.inr (Or.inr (Or.inr (Or.inr (Or.inr (Or.inr (Or.inr (Or.inr (Or.inl hq))))))))) h)
  · exact List.mem_append_left _ (vt_sl (P := lw_privs_10) (fun q hq => by unfold lw_privs; simp only [List.mem_append]; exact Or.inr (Or.inr (Or.inr (Or.inr (Or.inr (Or.inr (Or.inr (Or.inr (Or.inr (hq)))))))))) h)
  · cases h
def vt_pk (l : List Cond) (ps : List (Nat × Nat)) : Bool := match l, ps with
  | [], _ => true
  | x :: r, q :: t => decide ((vt_ch q.1)[q.2]? = some x) && vt_pk r t
  | _ :: _, [] => false
theorem vt_pk_in : ∀ (l : List Cond) (ps : List (Nat × Nat)), vt_pk l ps = true → ∀ x ∈ l, x ∈ lw_tbl
  | [], _, _, x, hx => by cases hx
  | _ :: _, [], h, x, hx => by simp [vt_pk] at h
  | y :: r, q :: t, h, x, hx => by
    simp only [vt_pk, Bool.and_eq_true, decide_eq_true_eq] at h
    rcases List.mem_cons.mp hx with rfl | hx
    · exact vt_ch_in (List.mem_of_getElem? h.1)
    · exact vt_pk_in r t h.2 x hx
theorem vt_pk_app : ∀ (l : List Cond) (n : Nat) (ps : List (Nat × Nat)), vt_pk (l.take n) ps = true → (∀ x ∈ l.drop n, x ∈ lw_tbl) → ∀ x ∈ l, x ∈ lw_tbl := fun l n ps h h2 x hx => by
  rw [← List.take_append_drop n l] at hx
  rcases List.mem_append.mp hx with hx | hx
  · exact vt_pk_in _ ps h x hx
  · exact h2 x hx
def vt_pF_0 : List (Nat × Nat) := [(3, 1), (3, 5), (3, 6), (2, 112), (3, 2), (3, 3), (1, 68), (1, 198), (1, 121), (1, 124), (1, 127), (1, 130), (1, 132), (3, 4), (2, 202), (2, 204), (2, 200), (1, 221), (2, 198), (2, 147), (2, 149), (2, 176), (2, 151), (2, 153), (1, 49), (1, 120), (1, 123), (1, 126), (1, 129), (1, 131), (1, 133), (1, 152), (1, 154), (1, 155), (1, 156), (1, 134), (1, 142), (1, 138), (1, 144), (1, 146), (1, 149), (1, 150), (4, 152), (4, 126), (4, 134), (4, 110), (4, 118), (4, 148), (4, 145), (2, 13), (2, 14), (1, 56), (2, 12), (1, 50), (2, 9), (2, 11), (4, 95), (4, 101), (4, 139), (4, 108), (4, 115), (4, 155), (4, 130), (2, 156), (2, 155), (2, 154), (2, 146), (2, 148), (2, 150), (2, 152), (1, 125), (1, 122), (1, 128), (2, 113), (2, 114), (2, 111), (2, 115), (2, 116), (1, 51), (1, 57), (1, 197), (1, 135), (1, 209), (1, 202), (1, 139), (1, 214), (1, 207), (4, 141), (2, 10), (4, 159), (4, 129), (4, 90), (4, 123), (1, 217), (1, 219), (2, 92), (4, 103), (4, 144), (1, 151), (4, 147), (2, 50), (2, 51), (2, 52), (2, 53), (2, 54), (2, 55), (2, 56), (2, 46), (2, 47), (1, 196), (2, 48), (2, 49), (2, 57), (1, 58), (1, 53), (1, 66), (2, 40), (2, 42), (2, 44), (2, 38), (1, 141), (4, 99), (4, 104), (4, 157), (4, 111), (4, 119), (4, 142), (4, 135), (1, 212), (4, 149), (1, 148), (4, 92), (2, 208), (2, 197), (2, 211), (2, 212), (2, 206), (2, 213), (2, 207), (2, 199), (2, 201), (1, 201), (4, 94), (4, 106), (4, 113), (4, 121), (4, 128), (1, 206), (4, 140), (2, 203)]
def vt_pF_1 : List (Nat × Nat) := [(2, 205), (2, 209), (2, 210), (2, 175), (2, 178), (1, 211), (2, 180), (1, 220), (1, 194), (1, 222), (1, 223), (1, 200), (1, 205), (1, 208), (1, 213), (1, 216), (1, 218), (4, 162), (4, 89), (4, 160), (1, 62), (1, 65), (4, 116), (1, 54), (1, 60), (4, 153), (4, 124), (1, 153), (4, 98), (4, 133), (1, 136), (1, 64), (1, 70), (1, 71), (1, 72), (1, 48), (1, 73), (1, 67), (1, 69), (1, 74), (1, 63), (1, 55), (1, 61), (2, 182), (2, 183), (2, 174), (2, 177), (2, 181), (2, 179), (1, 199), (1, 215), (1, 210), (1, 203), (4, 97), (4, 125), (4, 132), (4, 109), (4, 117), (2, 93), (2, 94), (1, 195), (2, 95), (2, 96), (2, 97), (2, 91), (1, 52), (4, 102), (4, 107), (4, 114), (1, 59), (4, 96), (4, 137), (1, 143), (4, 151), (1, 145), (4, 122), (4, 131), (4, 156), (4, 161), (1, 147), (2, 41), (2, 43), (1, 140), (1, 204), (2, 39), (2, 45), (1, 137), (4, 91), (4, 88), (4, 93), (4, 100), (4, 105), (4, 112), (4, 120), (4, 127), (4, 136), (4, 138), (4, 143), (4, 146), (4, 150), (4, 154), (4, 158), (8, 10), (8, 12), (8, 11), (8, 14), (8, 19), (8, 15), (8, 17), (8, 16), (8, 18), (8, 13), (8, 20), (8, 33), (8, 34), (8, 21), (8, 35), (8, 22), (8, 23), (8, 24), (8, 25), (8, 26), (8, 27), (8, 28), (8, 29), (8, 36), (8, 30), (8, 31), (8, 32), (8, 39), (8, 37), (8, 38), (8, 40), (8, 41), (8, 42), (8, 43), (8, 44), (8, 45), (8, 49), (8, 50), (8, 46), (8, 47), (8, 48), (8, 51), (8, 52), (8, 53), (8, 54), (8, 66), (8, 67), (8, 68)]
def vt_pF_2 : List (Nat × Nat) := [(8, 69), (8, 70), (8, 71), (8, 72), (8, 73), (8, 77), (8, 78), (8, 79), (8, 80), (8, 81), (8, 82), (8, 83), (8, 84), (8, 85), (8, 86), (8, 94), (8, 96), (8, 97), (8, 98), (8, 99), (8, 101), (8, 102), (8, 103), (8, 104), (8, 105), (8, 65), (8, 75), (8, 59), (8, 76), (8, 58), (8, 56), (8, 57), (8, 60), (8, 61), (8, 55), (8, 74), (8, 64), (8, 63), (8, 62), (8, 87), (8, 88), (8, 89), (8, 90), (8, 91), (8, 92), (8, 93), (8, 95), (8, 100), (8, 106)]
theorem vt_qF_0 : vt_pk (((vt_wF).drop 0).take 150) vt_pF_0 = true := by decide +kernel
theorem vt_qF_1 : vt_pk (((vt_wF).drop 150).take 150) vt_pF_1 = true := by decide +kernel
theorem vt_qF_2 : vt_pk (((vt_wF).drop 300).take 150) vt_pF_2 = true := by decide +kernel
theorem vt_qF_len : (vt_wF).length = 349 := by decide +kernel
theorem vt_inF : ∀ x ∈ vt_wF, x ∈ lw_tbl := by
  have h3 : ∀ x ∈ (vt_wF).drop 450, x ∈ lw_tbl := (fun x hx => by rw [List.drop_eq_nil_of_le (by rw [vt_qF_len]; decide)] at hx; cases hx)
  have h2 : ∀ x ∈ (vt_wF).drop 300, x ∈ lw_tbl := vt_pk_app _ 150 _ vt_qF_2 (by rw [List.drop_drop]; exact h3)
  have h1 : ∀ x ∈ (vt_wF).drop 150, x ∈ lw_tbl := vt_pk_app _ 150 _ vt_qF_1 (by rw [List.drop_drop]; exact h2)
  have h0 : ∀ x ∈ (vt_wF).drop 0, x ∈ lw_tbl := vt_pk_app _ 150 _ vt_qF_0 (by rw [List.drop_drop]; exact h1)
  exact h0
def vt_pU_0 : List (Nat × Nat) := [(3, 7), (3, 9), (3, 11), (3, 13), (3, 15), (3, 17), (1, 157), (1, 159), (1, 161), (1, 163), (1, 165), (1, 167), (1, 169), (1, 171), (1, 173), (1, 175), (1, 177), (1, 179), (1, 181), (1, 183), (1, 185), (1, 187), (1, 189), (2, 15), (2, 17), (2, 19), (2, 21), (2, 23), (2, 157), (2, 159), (2, 161), (2, 163), (2, 165), (2, 167), (2, 169), (2, 117), (2, 119), (2, 121), (2, 123), (2, 125), (2, 58), (2, 60), (2, 62), (2, 64), (2, 66), (2, 68), (2, 70), (2, 72), (2, 74), (2, 76), (2, 78), (2, 80), (2, 82), (2, 84), (2, 86), (2, 88), (2, 214), (2, 216), (2, 218), (2, 220), (2, 222), (2, 224), (2, 226), (2, 228), (2, 230), (2, 232), (2, 234), (2, 236), (2, 238), (1, 224), (1, 226), (1, 228), (1, 230), (1, 232), (1, 234), (1, 236), (1, 238), (2, 0), (1, 75), (1, 77), (1, 79), (1, 81), (1, 83), (1, 85), (1, 87), (1, 89), (1, 91), (1, 93), (1, 95), (1, 97), (2, 184), (2, 186), (2, 188), (2, 190), (2, 192), (2, 194), (2, 98), (2, 100), (2, 102), (2, 104), (2, 106), (2, 108), (4, 163), (4, 165), (4, 167), (4, 169), (4, 171), (4, 173), (4, 175), (4, 177), (4, 179), (4, 181), (4, 183), (4, 185), (4, 187), (4, 189), (4, 191), (8, 107), (8, 109), (8, 111), (8, 113), (8, 115), (8, 117), (8, 119), (8, 121), (8, 123), (8, 125), (8, 127), (8, 129), (8, 131), (8, 133), (8, 135), (8, 137), (8, 139), (8, 141), (8, 143), (8, 145), (8, 147), (8, 149), (8, 151), (8, 153), (8, 155), (8, 157), (8, 159), (8, 161), (8, 163), (8, 165), (8, 167), (8, 169), (8, 171)]
def vt_pU_1 : List (Nat × Nat) := [(8, 173), (8, 175), (8, 177), (8, 179), (8, 181), (8, 183), (8, 185), (8, 187), (8, 189), (8, 191), (8, 193), (8, 195), (8, 197), (8, 199), (8, 201), (8, 203), (8, 205), (8, 207), (8, 209), (8, 211), (8, 213), (8, 215), (8, 217), (8, 219), (8, 221), (8, 223), (8, 225), (8, 227), (8, 229), (8, 231), (8, 233), (8, 235), (8, 237), (8, 239), (9, 1), (9, 3), (9, 5), (9, 7), (9, 9), (9, 11), (9, 13), (9, 15), (9, 17), (9, 19), (9, 21), (9, 23), (9, 25), (9, 27), (9, 29), (9, 31), (9, 33), (9, 35), (9, 37), (9, 39), (9, 41), (9, 43), (9, 45), (9, 47), (9, 49), (9, 51), (9, 53), (9, 55), (9, 57), (9, 59), (4, 23), (4, 25), (4, 27), (4, 29), (4, 31), (4, 75), (7, 144), (7, 145), (7, 146), (7, 147), (7, 148), (7, 154), (7, 118), (7, 119), (7, 120), (7, 121), (7, 122), (7, 128)]
theorem vt_qU_0 : vt_pk (((vt_wU).drop 0).take 150) vt_pU_0 = true := by decide +kernel
theorem vt_qU_1 : vt_pk (((vt_wU).drop 150).take 150) vt_pU_1 = true := by decide +kernel
theorem vt_qU_len : (vt_wU).length = 232 := by decide +kernel
theorem vt_inU : ∀ x ∈ vt_wU, x ∈ lw_tbl := by
  have h2 : ∀ x ∈ (vt_wU).drop 300, x ∈ lw_tbl := (fun x hx => by rw [List.drop_eq_nil_of_le (by rw [vt_qU_len]; decide)] at hx; cases hx)
  have h1 : ∀ x ∈ (vt_wU).drop 150, x ∈ lw_tbl := vt_pk_app _ 150 _ vt_qU_1 (by rw [List.drop_drop]; exact h2)
  have h0 : ∀ x ∈ (vt_wU).drop 0, x ∈ lw_tbl := vt_pk_app _ 150 _ vt_qU_0 (by rw [List.drop_drop]; exact h1)
  exact h0
set_option maxRecDepth 20000 in
theorem vt_k0 : vt_wk 0 ∈ lw_tbl := vt_ch_in (k := 1) (List.mem_of_getElem? (i := 32) rfl)
set_option maxRecDepth 20000 in
theorem vt_k1 : vt_wk 1 ∈ lw_tbl := vt_ch_in (k := 1) (List.mem_of_getElem? (i := 46) rfl)
set_option maxRecDepth 20000 in
theorem vt_k2 : vt_wk 2 ∈ lw_tbl := vt_ch_in (k := 1) (List.mem_of_getElem? (i := 106) rfl)
set_option maxRecDepth 20000 in
theorem vt_k3 : vt_wk 3 ∈ lw_tbl := vt_ch_in (k := 1) (List.mem_of_getElem? (i := 112) rfl)
set_option maxRecDepth 20000 in
theorem vt_k4 : vt_wk 4 ∈ lw_tbl := vt_ch_in (k := 1) (List.mem_of_getElem? (i := 118) rfl)
set_option maxRecDepth 20000 in
theorem vt_k5 : vt_wk 5 ∈ lw_tbl := vt_ch_in (k := 2) (List.mem_of_getElem? (i := 7) rfl)
set_option maxRecDepth 20000 in
theorem vt_k6 : vt_wk 6 ∈ lw_tbl := vt_ch_in (k := 2) (List.mem_of_getElem? (i := 30) rfl)
set_option maxRecDepth 20000 in
theorem vt_k7 : vt_wk 7 ∈ lw_tbl := vt_ch_in (k := 2) (List.mem_of_getElem? (i := 36) rfl)
set_option maxRecDepth 20000 in
theorem vt_k8 : vt_wk 8 ∈ lw_tbl := vt_ch_in (k := 2) (List.mem_of_getElem? (i := 132) rfl)
set_option maxRecDepth 20000 in
theorem vt_k9 : vt_wk 9 ∈ lw_tbl := vt_ch_in (k := 2) (List.mem_of_getElem? (i := 138) rfl)
set_option maxRecDepth 20000 in
theorem vt_k10 : vt_wk 10 ∈ lw_tbl := vt_ch_in (k := 2) (List.mem_of_getElem? (i := 144) rfl)
set_option maxRecDepth 20000 in
theorem vt_k11 : vt_wk 11 ∈ lw_tbl := vt_ch_in (k := 3) (List.mem_of_getElem? (i := 23) rfl)
set_option maxRecDepth 20000 in
theorem vt_k12 : vt_wk 12 ∈ lw_tbl := vt_ch_in (k := 3) (List.mem_of_getElem? (i := 27) rfl)
set_option maxRecDepth 20000 in
theorem vt_k13 : vt_wk 13 ∈ lw_tbl := vt_ch_in (k := 3) (List.mem_of_getElem? (i := 30) rfl)
set_option maxRecDepth 20000 in
theorem vt_k14 : vt_wk 14 ∈ lw_tbl := vt_ch_in (k := 3) (List.mem_of_getElem? (i := 35) rfl)
set_option maxRecDepth 20000 in
theorem vt_k15 : vt_wk 15 ∈ lw_tbl := vt_ch_in (k := 3) (List.mem_of_getElem? (i := 54) rfl)
set_option maxRecDepth 20000 in
theorem vt_k16 : vt_wk 16 ∈ lw_tbl := vt_ch_in (k := 3) (List.mem_of_getElem? (i := 63) rfl)
set_option maxRecDepth 20000 in
theorem vt_k17 : vt_wk 17 ∈ lw_tbl := vt_ch_in (k := 3) (List.mem_of_getElem? (i := 67) rfl)
set_option maxRecDepth 20000 in
theorem vt_k18 : vt_wk 18 ∈ lw_tbl := vt_ch_in (k := 3) (List.mem_of_getElem? (i := 71) rfl)
set_option maxRecDepth 20000 in
theorem vt_k19 : vt_wk 19 ∈ lw_tbl := vt_ch_in (k := 3) (List.mem_of_getElem? (i := 75) rfl)
set_option maxRecDepth 20000 in
theorem vt_k20 : vt_wk 20 ∈ lw_tbl := vt_ch_in (k := 3) (List.mem_of_getElem? (i := 79) rfl)
set_option maxRecDepth 20000 in
theorem vt_k21 : vt_wk 21 ∈ lw_tbl := vt_ch_in (k := 3) (List.mem_of_getElem? (i := 83) rfl)
set_option maxRecDepth 20000 in
theorem vt_k22 : vt_wk 22 ∈ lw_tbl := vt_ch_in (k := 3) (List.mem_of_getElem? (i := 87) rfl)
set_option maxRecDepth 20000 in
theorem vt_k23 : vt_wk 23 ∈ lw_tbl := vt_ch_in (k := 3) (List.mem_of_getElem? (i := 91) rfl)
set_option maxRecDepth 20000 in
theorem vt_k24 : vt_wk 24 ∈ lw_tbl := vt_ch_in (k := 3) (List.mem_of_getElem? (i := 95) rfl)
set_option maxRecDepth 20000 in
theorem vt_k25 : vt_wk 25 ∈ lw_tbl := vt_ch_in (k := 3) (List.mem_of_getElem? (i := 98) rfl)
set_option maxRecDepth 20000 in
theorem vt_k26 : vt_wk 26 ∈ lw_tbl := vt_ch_in (k := 3) (List.mem_of_getElem? (i := 101) rfl)
set_option maxRecDepth 20000 in
theorem vt_k27 : vt_wk 27 ∈ lw_tbl := vt_ch_in (k := 3) (List.mem_of_getElem? (i := 105) rfl)
set_option maxRecDepth 20000 in
theorem vt_k28 : vt_wk 28 ∈ lw_tbl := vt_ch_in (k := 3) (List.mem_of_getElem? (i := 108) rfl)
set_option maxRecDepth 20000 in
theorem vt_k29 : vt_wk 29 ∈ lw_tbl := vt_ch_in (k := 3) (List.mem_of_getElem? (i := 112) rfl)
set_option maxRecDepth 20000 in
theorem vt_k30 : vt_wk 30 ∈ lw_tbl := vt_ch_in (k := 3) (List.mem_of_getElem? (i := 116) rfl)
set_option maxRecDepth 20000 in
theorem vt_k31 : vt_wk 31 ∈ lw_tbl := vt_ch_in (k := 3) (List.mem_of_getElem? (i := 169) rfl)
set_option maxRecDepth 20000 in
theorem vt_k32 : vt_wk 32 ∈ lw_tbl := vt_ch_in (k := 3) (List.mem_of_getElem? (i := 232) rfl)
set_option maxRecDepth 20000 in
theorem vt_k33 : vt_wk 33 ∈ lw_tbl := vt_ch_in (k := 3) (List.mem_of_getElem? (i := 237) rfl)
set_option maxRecDepth 20000 in
theorem vt_k34 : vt_wk 34 ∈ lw_tbl := vt_ch_in (k := 4) (List.mem_of_getElem? (i := 2) rfl)
set_option maxRecDepth 20000 in
theorem vt_k35 : vt_wk 35 ∈ lw_tbl := vt_ch_in (k := 4) (List.mem_of_getElem? (i := 7) rfl)
set_option maxRecDepth 20000 in
theorem vt_k36 : vt_wk 36 ∈ lw_tbl := vt_ch_in (k := 4) (List.mem_of_getElem? (i := 11) rfl)
set_option maxRecDepth 20000 in
theorem vt_k37 : vt_wk 37 ∈ lw_tbl := vt_ch_in (k := 4) (List.mem_of_getElem? (i := 82) rfl)
set_option maxRecDepth 20000 in
theorem vt_k38 : vt_wk 38 ∈ lw_tbl := vt_ch_in (k := 4) (List.mem_of_getElem? (i := 86) rfl)
set_option maxRecDepth 20000 in
theorem vt_k39 : vt_wk 39 ∈ lw_tbl := vt_ch_in (k := 4) (List.mem_of_getElem? (i := 197) rfl)
set_option maxRecDepth 20000 in
theorem vt_k40 : vt_wk 40 ∈ lw_tbl := vt_ch_in (k := 4) (List.mem_of_getElem? (i := 203) rfl)
set_option maxRecDepth 20000 in
theorem vt_k41 : vt_wk 41 ∈ lw_tbl := vt_ch_in (k := 4) (List.mem_of_getElem? (i := 208) rfl)
set_option maxRecDepth 20000 in
theorem vt_k42 : vt_wk 42 ∈ lw_tbl := vt_ch_in (k := 4) (List.mem_of_getElem? (i := 213) rfl)
set_option maxRecDepth 20000 in
theorem vt_k43 : vt_wk 43 ∈ lw_tbl := vt_ch_in (k := 4) (List.mem_of_getElem? (i := 219) rfl)
set_option maxRecDepth 20000 in
theorem vt_k44 : vt_wk 44 ∈ lw_tbl := vt_ch_in (k := 4) (List.mem_of_getElem? (i := 223) rfl)
set_option maxRecDepth 20000 in
theorem vt_k45 : vt_wk 45 ∈ lw_tbl := vt_ch_in (k := 4) (List.mem_of_getElem? (i := 227) rfl)
set_option maxRecDepth 20000 in
theorem vt_k46 : vt_wk 46 ∈ lw_tbl := vt_ch_in (k := 4) (List.mem_of_getElem? (i := 231) rfl)
set_option maxRecDepth 20000 in
theorem vt_k47 : vt_wk 47 ∈ lw_tbl := vt_ch_in (k := 4) (List.mem_of_getElem? (i := 235) rfl)
set_option maxRecDepth 20000 in
theorem vt_k48 : vt_wk 48 ∈ lw_tbl := vt_ch_in (k := 5) (List.mem_of_getElem? (i := 0) rfl)
set_option maxRecDepth 20000 in
theorem vt_k49 : vt_wk 49 ∈ lw_tbl := vt_ch_in (k := 5) (List.mem_of_getElem? (i := 4) rfl)
set_option maxRecDepth 20000 in
theorem vt_k50 : vt_wk 50 ∈ lw_tbl := vt_ch_in (k := 5) (List.mem_of_getElem? (i := 10) rfl)
set_option maxRecDepth 20000 in
theorem vt_k51 : vt_wk 51 ∈ lw_tbl := vt_ch_in (k := 5) (List.mem_of_getElem? (i := 14) rfl)
set_option maxRecDepth 20000 in
theorem vt_k52 : vt_wk 52 ∈ lw_tbl := vt_ch_in (k := 5) (List.mem_of_getElem? (i := 18) rfl)
set_option maxRecDepth 20000 in
theorem vt_k53 : vt_wk 53 ∈ lw_tbl := vt_ch_in (k := 5) (List.mem_of_getElem? (i := 23) rfl)
set_option maxRecDepth 20000 in
theorem vt_k54 : vt_wk 54 ∈ lw_tbl := vt_ch_in (k := 5) (List.mem_of_getElem? (i := 27) rfl)
set_option maxRecDepth 20000 in
theorem vt_k55 : vt_wk 55 ∈ lw_tbl := vt_ch_in (k := 5) (List.mem_of_getElem? (i := 32) rfl)
set_option maxRecDepth 20000 in
theorem vt_k56 : vt_wk 56 ∈ lw_tbl := vt_ch_in (k := 5) (List.mem_of_getElem? (i := 38) rfl)
set_option maxRecDepth 20000 in
theorem vt_k57 : vt_wk 57 ∈ lw_tbl := vt_ch_in (k := 5) (List.mem_of_getElem? (i := 42) rfl)
set_option maxRecDepth 20000 in
theorem vt_k58 : vt_wk 58 ∈ lw_tbl := vt_ch_in (k := 5) (List.mem_of_getElem? (i := 53) rfl)
set_option maxRecDepth 20000 in
theorem vt_k59 : vt_wk 59 ∈ lw_tbl := vt_ch_in (k := 5) (List.mem_of_getElem? (i := 57) rfl)
set_option maxRecDepth 20000 in
theorem vt_k60 : vt_wk 60 ∈ lw_tbl := vt_ch_in (k := 5) (List.mem_of_getElem? (i := 61) rfl)
set_option maxRecDepth 20000 in
theorem vt_k61 : vt_wk 61 ∈ lw_tbl := vt_ch_in (k := 5) (List.mem_of_getElem? (i := 67) rfl)
set_option maxRecDepth 20000 in
theorem vt_k62 : vt_wk 62 ∈ lw_tbl := vt_ch_in (k := 5) (List.mem_of_getElem? (i := 72) rfl)
set_option maxRecDepth 20000 in
theorem vt_k63 : vt_wk 63 ∈ lw_tbl := vt_ch_in (k := 5) (List.mem_of_getElem? (i := 76) rfl)
set_option maxRecDepth 20000 in
theorem vt_k64 : vt_wk 64 ∈ lw_tbl := vt_ch_in (k := 5) (List.mem_of_getElem? (i := 82) rfl)
set_option maxRecDepth 20000 in
theorem vt_k65 : vt_wk 65 ∈ lw_tbl := vt_ch_in (k := 5) (List.mem_of_getElem? (i := 88) rfl)
set_option maxRecDepth 20000 in
theorem vt_k66 : vt_wk 66 ∈ lw_tbl := vt_ch_in (k := 5) (List.mem_of_getElem? (i := 92) rfl)
set_option maxRecDepth 20000 in
theorem vt_k67 : vt_wk 67 ∈ lw_tbl := vt_ch_in (k := 5) (List.mem_of_getElem? (i := 97) rfl)
set_option maxRecDepth 20000 in
theorem vt_k68 : vt_wk 68 ∈ lw_tbl := vt_ch_in (k := 5) (List.mem_of_getElem? (i := 101) rfl)
set_option maxRecDepth 20000 in
theorem vt_k69 : vt_wk 69 ∈ lw_tbl := vt_ch_in (k := 5) (List.mem_of_getElem? (i := 105) rfl)
set_option maxRecDepth 20000 in
theorem vt_k70 : vt_wk 70 ∈ lw_tbl := vt_ch_in (k := 5) (List.mem_of_getElem? (i := 110) rfl)
set_option maxRecDepth 20000 in
theorem vt_k71 : vt_wk 71 ∈ lw_tbl := vt_ch_in (k := 5) (List.mem_of_getElem? (i := 115) rfl)
set_option maxRecDepth 20000 in
theorem vt_k72 : vt_wk 72 ∈ lw_tbl := vt_ch_in (k := 5) (List.mem_of_getElem? (i := 118) rfl)
set_option maxRecDepth 20000 in
theorem vt_k73 : vt_wk 73 ∈ lw_tbl := vt_ch_in (k := 5) (List.mem_of_getElem? (i := 122) rfl)
set_option maxRecDepth 20000 in
theorem vt_k74 : vt_wk 74 ∈ lw_tbl := vt_ch_in (k := 5) (List.mem_of_getElem? (i := 126) rfl)
set_option maxRecDepth 20000 in
theorem vt_k75 : vt_wk 75 ∈ lw_tbl := vt_ch_in (k := 5) (List.mem_of_getElem? (i := 134) rfl)
set_option maxRecDepth 20000 in
theorem vt_k76 : vt_wk 76 ∈ lw_tbl := vt_ch_in (k := 5) (List.mem_of_getElem? (i := 138) rfl)
set_option maxRecDepth 20000 in
theorem vt_k77 : vt_wk 77 ∈ lw_tbl := vt_ch_in (k := 5) (List.mem_of_getElem? (i := 142) rfl)
set_option maxRecDepth 20000 in
theorem vt_k78 : vt_wk 78 ∈ lw_tbl := vt_ch_in (k := 5) (List.mem_of_getElem? (i := 148) rfl)
set_option maxRecDepth 20000 in
theorem vt_k79 : vt_wk 79 ∈ lw_tbl := vt_ch_in (k := 5) (List.mem_of_getElem? (i := 152) rfl)
set_option maxRecDepth 20000 in
theorem vt_k80 : vt_wk 80 ∈ lw_tbl := vt_ch_in (k := 5) (List.mem_of_getElem? (i := 157) rfl)
set_option maxRecDepth 20000 in
theorem vt_k81 : vt_wk 81 ∈ lw_tbl := vt_ch_in (k := 5) (List.mem_of_getElem? (i := 162) rfl)
set_option maxRecDepth 20000 in
theorem vt_k82 : vt_wk 82 ∈ lw_tbl := vt_ch_in (k := 5) (List.mem_of_getElem? (i := 168) rfl)
set_option maxRecDepth 20000 in
theorem vt_k83 : vt_wk 83 ∈ lw_tbl := vt_ch_in (k := 5) (List.mem_of_getElem? (i := 172) rfl)
set_option maxRecDepth 20000 in
theorem vt_k84 : vt_wk 84 ∈ lw_tbl := vt_ch_in (k := 5) (List.mem_of_getElem? (i := 179) rfl)
set_option maxRecDepth 20000 in
theorem vt_k85 : vt_wk 85 ∈ lw_tbl := vt_ch_in (k := 5) (List.mem_of_getElem? (i := 185) rfl)
set_option maxRecDepth 20000 in
theorem vt_k86 : vt_wk 86 ∈ lw_tbl := vt_ch_in (k := 5) (List.mem_of_getElem? (i := 188) rfl)
set_option maxRecDepth 20000 in
theorem vt_k87 : vt_wk 87 ∈ lw_tbl := vt_ch_in (k := 5) (List.mem_of_getElem? (i := 192) rfl)
set_option maxRecDepth 20000 in
theorem vt_k88 : vt_wk 88 ∈ lw_tbl := vt_ch_in (k := 5) (List.mem_of_getElem? (i := 196) rfl)
set_option maxRecDepth 20000 in
theorem vt_k89 : vt_wk 89 ∈ lw_tbl := vt_ch_in (k := 5) (List.mem_of_getElem? (i := 200) rfl)
set_option maxRecDepth 20000 in
theorem vt_k90 : vt_wk 90 ∈ lw_tbl := vt_ch_in (k := 5) (List.mem_of_getElem? (i := 203) rfl)
set_option maxRecDepth 20000 in
theorem vt_k91 : vt_wk 91 ∈ lw_tbl := vt_ch_in (k := 5) (List.mem_of_getElem? (i := 216) rfl)
set_option maxRecDepth 20000 in
theorem vt_k92 : vt_wk 92 ∈ lw_tbl := vt_ch_in (k := 5) (List.mem_of_getElem? (i := 220) rfl)
set_option maxRecDepth 20000 in
theorem vt_k93 : vt_wk 93 ∈ lw_tbl := vt_ch_in (k := 5) (List.mem_of_getElem? (i := 223) rfl)
set_option maxRecDepth 20000 in
theorem vt_k94 : vt_wk 94 ∈ lw_tbl := vt_ch_in (k := 5) (List.mem_of_getElem? (i := 227) rfl)
set_option maxRecDepth 20000 in
theorem vt_k95 : vt_wk 95 ∈ lw_tbl := vt_ch_in (k := 5) (List.mem_of_getElem? (i := 231) rfl)
set_option maxRecDepth 20000 in
theorem vt_k96 : vt_wk 96 ∈ lw_tbl := vt_ch_in (k := 5) (List.mem_of_getElem? (i := 235) rfl)
set_option maxRecDepth 20000 in
theorem vt_k97 : vt_wk 97 ∈ lw_tbl := vt_ch_in (k := 6) (List.mem_of_getElem? (i := 0) rfl)
set_option maxRecDepth 20000 in
theorem vt_k98 : vt_wk 98 ∈ lw_tbl := vt_ch_in (k := 6) (List.mem_of_getElem? (i := 4) rfl)
set_option maxRecDepth 20000 in
theorem vt_k99 : vt_wk 99 ∈ lw_tbl := vt_ch_in (k := 6) (List.mem_of_getElem? (i := 9) rfl)
set_option maxRecDepth 20000 in
theorem vt_k100 : vt_wk 100 ∈ lw_tbl := vt_ch_in (k := 6) (List.mem_of_getElem? (i := 16) rfl)
set_option maxRecDepth 20000 in
theorem vt_k101 : vt_wk 101 ∈ lw_tbl := vt_ch_in (k := 6) (List.mem_of_getElem? (i := 21) rfl)
set_option maxRecDepth 20000 in
theorem vt_k102 : vt_wk 102 ∈ lw_tbl := vt_ch_in (k := 6) (List.mem_of_getElem? (i := 25) rfl)
set_option maxRecDepth 20000 in
theorem vt_k103 : vt_wk 103 ∈ lw_tbl := vt_ch_in (k := 6) (List.mem_of_getElem? (i := 32) rfl)
set_option maxRecDepth 20000 in
theorem vt_k104 : vt_wk 104 ∈ lw_tbl := vt_ch_in (k := 6) (List.mem_of_getElem? (i := 37) rfl)
set_option maxRecDepth 20000 in
theorem vt_k105 : vt_wk 105 ∈ lw_tbl := vt_ch_in (k := 6) (List.mem_of_getElem? (i := 42) rfl)
set_option maxRecDepth 20000 in
theorem vt_k106 : vt_wk 106 ∈ lw_tbl := vt_ch_in (k := 6) (List.mem_of_getElem? (i := 49) rfl)
set_option maxRecDepth 20000 in
theorem vt_k107 : vt_wk 107 ∈ lw_tbl := vt_ch_in (k := 6) (List.mem_of_getElem? (i := 53) rfl)
set_option maxRecDepth 20000 in
theorem vt_k108 : vt_wk 108 ∈ lw_tbl := vt_ch_in (k := 6) (List.mem_of_getElem? (i := 59) rfl)
set_option maxRecDepth 20000 in
theorem vt_k109 : vt_wk 109 ∈ lw_tbl := vt_ch_in (k := 6) (List.mem_of_getElem? (i := 64) rfl)
set_option maxRecDepth 20000 in
theorem vt_k110 : vt_wk 110 ∈ lw_tbl := vt_ch_in (k := 6) (List.mem_of_getElem? (i := 68) rfl)
set_option maxRecDepth 20000 in
theorem vt_k111 : vt_wk 111 ∈ lw_tbl := vt_ch_in (k := 6) (List.mem_of_getElem? (i := 75) rfl)
set_option maxRecDepth 20000 in
theorem vt_k112 : vt_wk 112 ∈ lw_tbl := vt_ch_in (k := 6) (List.mem_of_getElem? (i := 80) rfl)
set_option maxRecDepth 20000 in
theorem vt_k113 : vt_wk 113 ∈ lw_tbl := vt_ch_in (k := 6) (List.mem_of_getElem? (i := 84) rfl)
set_option maxRecDepth 20000 in
theorem vt_k114 : vt_wk 114 ∈ lw_tbl := vt_ch_in (k := 6) (List.mem_of_getElem? (i := 88) rfl)
set_option maxRecDepth 20000 in
theorem vt_k115 : vt_wk 115 ∈ lw_tbl := vt_ch_in (k := 6) (List.mem_of_getElem? (i := 93) rfl)
set_option maxRecDepth 20000 in
theorem vt_k116 : vt_wk 116 ∈ lw_tbl := vt_ch_in (k := 6) (List.mem_of_getElem? (i := 97) rfl)
set_option maxRecDepth 20000 in
theorem vt_k117 : vt_wk 117 ∈ lw_tbl := vt_ch_in (k := 6) (List.mem_of_getElem? (i := 102) rfl)
set_option maxRecDepth 20000 in
theorem vt_k118 : vt_wk 118 ∈ lw_tbl := vt_ch_in (k := 6) (List.mem_of_getElem? (i := 106) rfl)
set_option maxRecDepth 20000 in
theorem vt_k119 : vt_wk 119 ∈ lw_tbl := vt_ch_in (k := 6) (List.mem_of_getElem? (i := 110) rfl)
set_option maxRecDepth 20000 in
theorem vt_k120 : vt_wk 120 ∈ lw_tbl := vt_ch_in (k := 6) (List.mem_of_getElem? (i := 114) rfl)
set_option maxRecDepth 20000 in
theorem vt_k121 : vt_wk 121 ∈ lw_tbl := vt_ch_in (k := 6) (List.mem_of_getElem? (i := 118) rfl)
set_option maxRecDepth 20000 in
theorem vt_k122 : vt_wk 122 ∈ lw_tbl := vt_ch_in (k := 6) (List.mem_of_getElem? (i := 122) rfl)
set_option maxRecDepth 20000 in
theorem vt_k123 : vt_wk 123 ∈ lw_tbl := vt_ch_in (k := 6) (List.mem_of_getElem? (i := 126) rfl)
set_option maxRecDepth 20000 in
theorem vt_k124 : vt_wk 124 ∈ lw_tbl := vt_ch_in (k := 6) (List.mem_of_getElem? (i := 131) rfl)
set_option maxRecDepth 20000 in
theorem vt_k125 : vt_wk 125 ∈ lw_tbl := vt_ch_in (k := 6) (List.mem_of_getElem? (i := 135) rfl)
set_option maxRecDepth 20000 in
theorem vt_k126 : vt_wk 126 ∈ lw_tbl := vt_ch_in (k := 6) (List.mem_of_getElem? (i := 139) rfl)
set_option maxRecDepth 20000 in
theorem vt_k127 : vt_wk 127 ∈ lw_tbl := vt_ch_in (k := 6) (List.mem_of_getElem? (i := 143) rfl)
set_option maxRecDepth 20000 in
theorem vt_k128 : vt_wk 128 ∈ lw_tbl := vt_ch_in (k := 6) (List.mem_of_getElem? (i := 148) rfl)
set_option maxRecDepth 20000 in
theorem vt_k129 : vt_wk 129 ∈ lw_tbl := vt_ch_in (k := 6) (List.mem_of_getElem? (i := 153) rfl)
set_option maxRecDepth 20000 in
theorem vt_k130 : vt_wk 130 ∈ lw_tbl := vt_ch_in (k := 6) (List.mem_of_getElem? (i := 160) rfl)
set_option maxRecDepth 20000 in
theorem vt_k131 : vt_wk 131 ∈ lw_tbl := vt_ch_in (k := 6) (List.mem_of_getElem? (i := 164) rfl)
set_option maxRecDepth 20000 in
theorem vt_k132 : vt_wk 132 ∈ lw_tbl := vt_ch_in (k := 6) (List.mem_of_getElem? (i := 171) rfl)
set_option maxRecDepth 20000 in
theorem vt_k133 : vt_wk 133 ∈ lw_tbl := vt_ch_in (k := 6) (List.mem_of_getElem? (i := 175) rfl)
set_option maxRecDepth 20000 in
theorem vt_k134 : vt_wk 134 ∈ lw_tbl := vt_ch_in (k := 6) (List.mem_of_getElem? (i := 179) rfl)
set_option maxRecDepth 20000 in
theorem vt_k135 : vt_wk 135 ∈ lw_tbl := vt_ch_in (k := 6) (List.mem_of_getElem? (i := 183) rfl)
set_option maxRecDepth 20000 in
theorem vt_k136 : vt_wk 136 ∈ lw_tbl := vt_ch_in (k := 6) (List.mem_of_getElem? (i := 188) rfl)
set_option maxRecDepth 20000 in
theorem vt_k137 : vt_wk 137 ∈ lw_tbl := vt_ch_in (k := 6) (List.mem_of_getElem? (i := 192) rfl)
set_option maxRecDepth 20000 in
theorem vt_k138 : vt_wk 138 ∈ lw_tbl := vt_ch_in (k := 6) (List.mem_of_getElem? (i := 196) rfl)
set_option maxRecDepth 20000 in
theorem vt_k139 : vt_wk 139 ∈ lw_tbl := vt_ch_in (k := 6) (List.mem_of_getElem? (i := 200) rfl)
set_option maxRecDepth 20000 in
theorem vt_k140 : vt_wk 140 ∈ lw_tbl := vt_ch_in (k := 6) (List.mem_of_getElem? (i := 204) rfl)
set_option maxRecDepth 20000 in
theorem vt_k141 : vt_wk 141 ∈ lw_tbl := vt_ch_in (k := 6) (List.mem_of_getElem? (i := 208) rfl)
set_option maxRecDepth 20000 in
theorem vt_k142 : vt_wk 142 ∈ lw_tbl := vt_ch_in (k := 6) (List.mem_of_getElem? (i := 215) rfl)
set_option maxRecDepth 20000 in
theorem vt_k143 : vt_wk 143 ∈ lw_tbl := vt_ch_in (k := 6) (List.mem_of_getElem? (i := 219) rfl)
set_option maxRecDepth 20000 in
theorem vt_k144 : vt_wk 144 ∈ lw_tbl := vt_ch_in (k := 6) (List.mem_of_getElem? (i := 223) rfl)
set_option maxRecDepth 20000 in
theorem vt_k145 : vt_wk 145 ∈ lw_tbl := vt_ch_in (k := 6) (List.mem_of_getElem? (i := 228) rfl)
set_option maxRecDepth 20000 in
theorem vt_k146 : vt_wk 146 ∈ lw_tbl := vt_ch_in (k := 6) (List.mem_of_getElem? (i := 232) rfl)
set_option maxRecDepth 20000 in
theorem vt_k147 : vt_wk 147 ∈ lw_tbl := vt_ch_in (k := 6) (List.mem_of_getElem? (i := 236) rfl)
set_option maxRecDepth 20000 in
theorem vt_k148 : vt_wk 148 ∈ lw_tbl := vt_ch_in (k := 7) (List.mem_of_getElem? (i := 1) rfl)
set_option maxRecDepth 20000 in
theorem vt_k149 : vt_wk 149 ∈ lw_tbl := vt_ch_in (k := 7) (List.mem_of_getElem? (i := 5) rfl)
set_option maxRecDepth 20000 in
theorem vt_k150 : vt_wk 150 ∈ lw_tbl := vt_ch_in (k := 7) (List.mem_of_getElem? (i := 9) rfl)
set_option maxRecDepth 20000 in
theorem vt_k151 : vt_wk 151 ∈ lw_tbl := vt_ch_in (k := 7) (List.mem_of_getElem? (i := 13) rfl)
set_option maxRecDepth 20000 in
theorem vt_k152 : vt_wk 152 ∈ lw_tbl := vt_ch_in (k := 7) (List.mem_of_getElem? (i := 19) rfl)
set_option maxRecDepth 20000 in
theorem vt_k153 : vt_wk 153 ∈ lw_tbl := vt_ch_in (k := 7) (List.mem_of_getElem? (i := 23) rfl)
set_option maxRecDepth 20000 in
theorem vt_k154 : vt_wk 154 ∈ lw_tbl := vt_ch_in (k := 7) (List.mem_of_getElem? (i := 27) rfl)
set_option maxRecDepth 20000 in
theorem vt_k155 : vt_wk 155 ∈ lw_tbl := vt_ch_in (k := 7) (List.mem_of_getElem? (i := 31) rfl)
set_option maxRecDepth 20000 in
theorem vt_k156 : vt_wk 156 ∈ lw_tbl := vt_ch_in (k := 7) (List.mem_of_getElem? (i := 35) rfl)
set_option maxRecDepth 20000 in
theorem vt_k157 : vt_wk 157 ∈ lw_tbl := vt_ch_in (k := 7) (List.mem_of_getElem? (i := 39) rfl)
set_option maxRecDepth 20000 in
theorem vt_k158 : vt_wk 158 ∈ lw_tbl := vt_ch_in (k := 7) (List.mem_of_getElem? (i := 43) rfl)
set_option maxRecDepth 20000 in
theorem vt_k159 : vt_wk 159 ∈ lw_tbl := vt_ch_in (k := 7) (List.mem_of_getElem? (i := 47) rfl)
set_option maxRecDepth 20000 in
theorem vt_k160 : vt_wk 160 ∈ lw_tbl := vt_ch_in (k := 7) (List.mem_of_getElem? (i := 51) rfl)
set_option maxRecDepth 20000 in
theorem vt_k161 : vt_wk 161 ∈ lw_tbl := vt_ch_in (k := 7) (List.mem_of_getElem? (i := 56) rfl)
set_option maxRecDepth 20000 in
theorem vt_k162 : vt_wk 162 ∈ lw_tbl := vt_ch_in (k := 7) (List.mem_of_getElem? (i := 61) rfl)
set_option maxRecDepth 20000 in
theorem vt_k163 : vt_wk 163 ∈ lw_tbl := vt_ch_in (k := 7) (List.mem_of_getElem? (i := 67) rfl)
set_option maxRecDepth 20000 in
theorem vt_k164 : vt_wk 164 ∈ lw_tbl := vt_ch_in (k := 7) (List.mem_of_getElem? (i := 73) rfl)
set_option maxRecDepth 20000 in
theorem vt_k165 : vt_wk 165 ∈ lw_tbl := vt_ch_in (k := 7) (List.mem_of_getElem? (i := 77) rfl)
set_option maxRecDepth 20000 in
theorem vt_k166 : vt_wk 166 ∈ lw_tbl := vt_ch_in (k := 7) (List.mem_of_getElem? (i := 81) rfl)
set_option maxRecDepth 20000 in
theorem vt_k167 : vt_wk 167 ∈ lw_tbl := vt_ch_in (k := 7) (List.mem_of_getElem? (i := 85) rfl)
set_option maxRecDepth 20000 in
theorem vt_k168 : vt_wk 168 ∈ lw_tbl := vt_ch_in (k := 7) (List.mem_of_getElem? (i := 89) rfl)
set_option maxRecDepth 20000 in
theorem vt_k169 : vt_wk 169 ∈ lw_tbl := vt_ch_in (k := 7) (List.mem_of_getElem? (i := 94) rfl)
set_option maxRecDepth 20000 in
theorem vt_k170 : vt_wk 170 ∈ lw_tbl := vt_ch_in (k := 7) (List.mem_of_getElem? (i := 98) rfl)
set_option maxRecDepth 20000 in
theorem vt_k171 : vt_wk 171 ∈ lw_tbl := vt_ch_in (k := 7) (List.mem_of_getElem? (i := 102) rfl)
set_option maxRecDepth 20000 in
theorem vt_k172 : vt_wk 172 ∈ lw_tbl := vt_ch_in (k := 7) (List.mem_of_getElem? (i := 113) rfl)
set_option maxRecDepth 20000 in
theorem vt_k173 : vt_wk 173 ∈ lw_tbl := vt_ch_in (k := 7) (List.mem_of_getElem? (i := 138) rfl)
set_option maxRecDepth 20000 in
theorem vt_k174 : vt_wk 174 ∈ lw_tbl := vt_ch_in (k := 7) (List.mem_of_getElem? (i := 161) rfl)
set_option maxRecDepth 20000 in
theorem vt_k175 : vt_wk 175 ∈ lw_tbl := vt_ch_in (k := 7) (List.mem_of_getElem? (i := 165) rfl)
set_option maxRecDepth 20000 in
theorem vt_k176 : vt_wk 176 ∈ lw_tbl := vt_ch_in (k := 7) (List.mem_of_getElem? (i := 169) rfl)
set_option maxRecDepth 20000 in
theorem vt_k177 : vt_wk 177 ∈ lw_tbl := vt_ch_in (k := 7) (List.mem_of_getElem? (i := 176) rfl)
set_option maxRecDepth 20000 in
theorem vt_k178 : vt_wk 178 ∈ lw_tbl := vt_ch_in (k := 7) (List.mem_of_getElem? (i := 184) rfl)
set_option maxRecDepth 20000 in
theorem vt_k179 : vt_wk 179 ∈ lw_tbl := vt_ch_in (k := 7) (List.mem_of_getElem? (i := 189) rfl)
set_option maxRecDepth 20000 in
theorem vt_k180 : vt_wk 180 ∈ lw_tbl := vt_ch_in (k := 7) (List.mem_of_getElem? (i := 193) rfl)
set_option maxRecDepth 20000 in
theorem vt_k181 : vt_wk 181 ∈ lw_tbl := vt_ch_in (k := 7) (List.mem_of_getElem? (i := 203) rfl)
set_option maxRecDepth 20000 in
theorem vt_k182 : vt_wk 182 ∈ lw_tbl := vt_ch_in (k := 7) (List.mem_of_getElem? (i := 207) rfl)
set_option maxRecDepth 20000 in
theorem vt_k183 : vt_wk 183 ∈ lw_tbl := vt_ch_in (k := 7) (List.mem_of_getElem? (i := 216) rfl)
set_option maxRecDepth 20000 in
theorem vt_k184 : vt_wk 184 ∈ lw_tbl := vt_ch_in (k := 7) (List.mem_of_getElem? (i := 226) rfl)
set_option maxRecDepth 20000 in
theorem vt_k185 : vt_wk 185 ∈ lw_tbl := vt_ch_in (k := 7) (List.mem_of_getElem? (i := 232) rfl)
set_option maxRecDepth 20000 in
theorem vt_k186 : vt_wk 186 ∈ lw_tbl := vt_ch_in (k := 7) (List.mem_of_getElem? (i := 236) rfl)
set_option maxRecDepth 20000 in
theorem vt_k187 : vt_wk 187 ∈ lw_tbl := vt_ch_in (k := 7) (List.mem_of_getElem? (i := 239) rfl)
set_option maxRecDepth 20000 in
theorem vt_k188 : vt_wk 188 ∈ lw_tbl := vt_ch_in (k := 8) (List.mem_of_getElem? (i := 5) rfl)
set_option maxRecDepth 20000 in
theorem vt_k189 : vt_wk 189 ∈ lw_tbl := vt_ch_in (k := 9) (List.mem_of_getElem? (i := 66) rfl)
set_option maxRecDepth 20000 in
theorem vt_k190 : vt_wk 190 ∈ lw_tbl := vt_ch_in (k := 9) (List.mem_of_getElem? (i := 70) rfl)
set_option maxRecDepth 20000 in
theorem vt_k191 : vt_wk 191 ∈ lw_tbl := vt_ch_in (k := 9) (List.mem_of_getElem? (i := 74) rfl)
set_option maxRecDepth 20000 in
theorem vt_k192 : vt_wk 192 ∈ lw_tbl := vt_ch_in (k := 9) (List.mem_of_getElem? (i := 78) rfl)
set_option maxRecDepth 20000 in
theorem vt_k193 : vt_wk 193 ∈ lw_tbl := vt_ch_in (k := 9) (List.mem_of_getElem? (i := 81) rfl)
set_option maxRecDepth 20000 in
theorem vt_k194 : vt_wk 194 ∈ lw_tbl := vt_ch_in (k := 9) (List.mem_of_getElem? (i := 84) rfl)
set_option maxRecDepth 20000 in
theorem vt_k195 : vt_wk 195 ∈ lw_tbl := vt_ch_in (k := 9) (List.mem_of_getElem? (i := 88) rfl)
set_option maxRecDepth 20000 in
theorem vt_k196 : vt_wk 196 ∈ lw_tbl := vt_ch_in (k := 9) (List.mem_of_getElem? (i := 95) rfl)
set_option maxRecDepth 20000 in
theorem vt_k197 : vt_wk 197 ∈ lw_tbl := vt_ch_in (k := 9) (List.mem_of_getElem? (i := 99) rfl)
set_option maxRecDepth 20000 in
theorem vt_k198 : vt_wk 198 ∈ lw_tbl := vt_ch_in (k := 9) (List.mem_of_getElem? (i := 103) rfl)
set_option maxRecDepth 20000 in
theorem vt_k199 : vt_wk 199 ∈ lw_tbl := vt_ch_in (k := 9) (List.mem_of_getElem? (i := 107) rfl)
set_option maxRecDepth 20000 in
theorem vt_k200 : vt_wk 200 ∈ lw_tbl := vt_ch_in (k := 9) (List.mem_of_getElem? (i := 111) rfl)
set_option maxRecDepth 20000 in
theorem vt_k201 : vt_wk 201 ∈ lw_tbl := vt_ch_in (k := 9) (List.mem_of_getElem? (i := 115) rfl)
set_option maxRecDepth 20000 in
theorem vt_k202 : vt_wk 202 ∈ lw_tbl := vt_ch_in (k := 9) (List.mem_of_getElem? (i := 119) rfl)
set_option maxRecDepth 20000 in
theorem vt_k203 : vt_wk 203 ∈ lw_tbl := vt_ch_in (k := 9) (List.mem_of_getElem? (i := 123) rfl)
set_option maxRecDepth 20000 in
theorem vt_k204 : vt_wk 204 ∈ lw_tbl := vt_ch_in (k := 9) (List.mem_of_getElem? (i := 127) rfl)
set_option maxRecDepth 20000 in
theorem vt_k205 : vt_wk 205 ∈ lw_tbl := vt_ch_in (k := 9) (List.mem_of_getElem? (i := 131) rfl)
set_option maxRecDepth 20000 in
theorem vt_k206 : vt_wk 206 ∈ lw_tbl := vt_ch_in (k := 9) (List.mem_of_getElem? (i := 135) rfl)
set_option maxRecDepth 20000 in
theorem vt_k207 : vt_wk 207 ∈ lw_tbl := vt_ch_in (k := 9) (List.mem_of_getElem? (i := 139) rfl)
set_option maxRecDepth 20000 in
theorem vt_k208 : vt_wk 208 ∈ lw_tbl := vt_ch_in (k := 9) (List.mem_of_getElem? (i := 143) rfl)
set_option maxRecDepth 20000 in
theorem vt_k209 : vt_wk 209 ∈ lw_tbl := vt_ch_in (k := 9) (List.mem_of_getElem? (i := 147) rfl)
set_option maxRecDepth 20000 in
theorem vt_k210 : vt_wk 210 ∈ lw_tbl := vt_ch_in (k := 9) (List.mem_of_getElem? (i := 151) rfl)
set_option maxRecDepth 20000 in
theorem vt_k211 : vt_wk 211 ∈ lw_tbl := vt_ch_in (k := 9) (List.mem_of_getElem? (i := 155) rfl)
set_option maxRecDepth 20000 in
theorem vt_k212 : vt_wk 212 ∈ lw_tbl := vt_ch_in (k := 9) (List.mem_of_getElem? (i := 159) rfl)
set_option maxRecDepth 20000 in
theorem vt_k213 : vt_wk 213 ∈ lw_tbl := vt_ch_in (k := 9) (List.mem_of_getElem? (i := 163) rfl)
set_option maxRecDepth 20000 in
theorem vt_k214 : vt_wk 214 ∈ lw_tbl := vt_ch_in (k := 9) (List.mem_of_getElem? (i := 167) rfl)
set_option maxRecDepth 20000 in
theorem vt_k215 : vt_wk 215 ∈ lw_tbl := vt_ch_in (k := 9) (List.mem_of_getElem? (i := 171) rfl)
set_option maxRecDepth 20000 in
theorem vt_k216 : vt_wk 216 ∈ lw_tbl := vt_ch_in (k := 9) (List.mem_of_getElem? (i := 175) rfl)
set_option maxRecDepth 20000 in
theorem vt_k217 : vt_wk 217 ∈ lw_tbl := vt_ch_in (k := 9) (List.mem_of_getElem? (i := 179) rfl)
set_option maxRecDepth 20000 in
theorem vt_k218 : vt_wk 218 ∈ lw_tbl := vt_ch_in (k := 9) (List.mem_of_getElem? (i := 183) rfl)
set_option maxRecDepth 20000 in
theorem vt_k219 : vt_wk 219 ∈ lw_tbl := vt_ch_in (k := 9) (List.mem_of_getElem? (i := 187) rfl)
set_option maxRecDepth 20000 in
theorem vt_k220 : vt_wk 220 ∈ lw_tbl := vt_ch_in (k := 9) (List.mem_of_getElem? (i := 191) rfl)
set_option maxRecDepth 20000 in
theorem vt_k221 : vt_wk 221 ∈ lw_tbl := vt_ch_in (k := 9) (List.mem_of_getElem? (i := 195) rfl)
set_option maxRecDepth 20000 in
theorem vt_k222 : vt_wk 222 ∈ lw_tbl := vt_ch_in (k := 9) (List.mem_of_getElem? (i := 199) rfl)
set_option maxRecDepth 20000 in
theorem vt_k223 : vt_wk 223 ∈ lw_tbl := vt_ch_in (k := 9) (List.mem_of_getElem? (i := 203) rfl)
set_option maxRecDepth 20000 in
theorem vt_k224 : vt_wk 224 ∈ lw_tbl := vt_ch_in (k := 9) (List.mem_of_getElem? (i := 207) rfl)
set_option maxRecDepth 20000 in
theorem vt_k225 : vt_wk 225 ∈ lw_tbl := vt_ch_in (k := 9) (List.mem_of_getElem? (i := 211) rfl)
set_option maxRecDepth 20000 in
theorem vt_k226 : vt_wk 226 ∈ lw_tbl := vt_ch_in (k := 9) (List.mem_of_getElem? (i := 215) rfl)
set_option maxRecDepth 20000 in
theorem vt_k227 : vt_wk 227 ∈ lw_tbl := vt_ch_in (k := 9) (List.mem_of_getElem? (i := 219) rfl)
set_option maxRecDepth 20000 in
theorem vt_k228 : vt_wk 228 ∈ lw_tbl := vt_ch_in (k := 9) (List.mem_of_getElem? (i := 223) rfl)
set_option maxRecDepth 20000 in
theorem vt_k229 : vt_wk 229 ∈ lw_tbl := vt_ch_in (k := 9) (List.mem_of_getElem? (i := 229) rfl)
set_option maxRecDepth 20000 in
theorem vt_k230 : vt_wk 230 ∈ lw_tbl := vt_ch_in (k := 9) (List.mem_of_getElem? (i := 233) rfl)
set_option maxRecDepth 20000 in
theorem vt_k231 : vt_wk 231 ∈ lw_tbl := vt_ch_in (k := 9) (List.mem_of_getElem? (i := 237) rfl)
set_option maxRecDepth 20000 in
theorem vt_k232 : vt_wk 232 ∈ lw_tbl := vt_ch_in (k := 10) (List.mem_of_getElem? (i := 1) rfl)
set_option maxRecDepth 20000 in
theorem vt_k233 : vt_wk 233 ∈ lw_tbl := vt_ch_in (k := 10) (List.mem_of_getElem? (i := 5) rfl)
set_option maxRecDepth 20000 in
theorem vt_k234 : vt_wk 234 ∈ lw_tbl := vt_ch_in (k := 10) (List.mem_of_getElem? (i := 9) rfl)
set_option maxRecDepth 20000 in
theorem vt_k235 : vt_wk 235 ∈ lw_tbl := vt_ch_in (k := 10) (List.mem_of_getElem? (i := 13) rfl)
set_option maxRecDepth 20000 in
theorem vt_k236 : vt_wk 236 ∈ lw_tbl := vt_ch_in (k := 10) (List.mem_of_getElem? (i := 19) rfl)
set_option maxRecDepth 20000 in
theorem vt_k237 : vt_wk 237 ∈ lw_tbl := vt_ch_in (k := 10) (List.mem_of_getElem? (i := 23) rfl)
set_option maxRecDepth 20000 in
theorem vt_k238 : vt_wk 238 ∈ lw_tbl := vt_ch_in (k := 10) (List.mem_of_getElem? (i := 27) rfl)
set_option maxRecDepth 20000 in
theorem vt_k239 : vt_wk 239 ∈ lw_tbl := vt_ch_in (k := 10) (List.mem_of_getElem? (i := 31) rfl)
set_option maxRecDepth 20000 in
theorem vt_k240 : vt_wk 240 ∈ lw_tbl := vt_ch_in (k := 10) (List.mem_of_getElem? (i := 35) rfl)
set_option maxRecDepth 20000 in
theorem vt_k241 : vt_wk 241 ∈ lw_tbl := vt_ch_in (k := 10) (List.mem_of_getElem? (i := 39) rfl)
set_option maxRecDepth 20000 in
theorem vt_k242 : vt_wk 242 ∈ lw_tbl := vt_ch_in (k := 10) (List.mem_of_getElem? (i := 43) rfl)
set_option maxRecDepth 20000 in
theorem vt_k243 : vt_wk 243 ∈ lw_tbl := vt_ch_in (k := 10) (List.mem_of_getElem? (i := 47) rfl)
set_option maxRecDepth 20000 in
theorem vt_k244 : vt_wk 244 ∈ lw_tbl := vt_ch_in (k := 10) (List.mem_of_getElem? (i := 51) rfl)
set_option maxRecDepth 20000 in
theorem vt_k245 : vt_wk 245 ∈ lw_tbl := vt_ch_in (k := 10) (List.mem_of_getElem? (i := 55) rfl)
set_option maxRecDepth 20000 in
theorem vt_k246 : vt_wk 246 ∈ lw_tbl := vt_ch_in (k := 10) (List.mem_of_getElem? (i := 59) rfl)
set_option maxRecDepth 20000 in
theorem vt_k247 : vt_wk 247 ∈ lw_tbl := vt_ch_in (k := 10) (List.mem_of_getElem? (i := 63) rfl)
set_option maxRecDepth 20000 in
theorem vt_k248 : vt_wk 248 ∈ lw_tbl := vt_ch_in (k := 10) (List.mem_of_getElem? (i := 67) rfl)
set_option maxRecDepth 20000 in
theorem vt_k249 : vt_wk 249 ∈ lw_tbl := vt_ch_in (k := 10) (List.mem_of_getElem? (i := 71) rfl)
set_option maxRecDepth 20000 in
theorem vt_k250 : vt_wk 250 ∈ lw_tbl := vt_ch_in (k := 10) (List.mem_of_getElem? (i := 75) rfl)
set_option maxRecDepth 20000 in
theorem vt_k251 : vt_wk 251 ∈ lw_tbl := vt_ch_in (k := 10) (List.mem_of_getElem? (i := 79) rfl)
set_option maxRecDepth 20000 in
theorem vt_k252 : vt_wk 252 ∈ lw_tbl := vt_ch_in (k := 10) (List.mem_of_getElem? (i := 83) rfl)
set_option maxRecDepth 20000 in
theorem vt_k253 : vt_wk 253 ∈ lw_tbl := vt_ch_in (k := 10) (List.mem_of_getElem? (i := 86) rfl)
set_option maxRecDepth 20000 in
theorem vt_k254 : vt_wk 254 ∈ lw_tbl := vt_ch_in (k := 10) (List.mem_of_getElem? (i := 92) rfl)
set_option maxRecDepth 20000 in
theorem vt_k255 : vt_wk 255 ∈ lw_tbl := vt_ch_in (k := 10) (List.mem_of_getElem? (i := 97) rfl)
set_option maxRecDepth 20000 in
theorem vt_k256 : vt_wk 256 ∈ lw_tbl := vt_ch_in (k := 10) (List.mem_of_getElem? (i := 101) rfl)
set_option maxRecDepth 20000 in
theorem vt_k257 : vt_wk 257 ∈ lw_tbl := vt_ch_in (k := 10) (List.mem_of_getElem? (i := 107) rfl)
set_option maxRecDepth 20000 in
theorem vt_k258 : vt_wk 258 ∈ lw_tbl := vt_ch_in (k := 10) (List.mem_of_getElem? (i := 111) rfl)
set_option maxRecDepth 20000 in
theorem vt_k259 : vt_wk 259 ∈ lw_tbl := vt_ch_in (k := 10) (List.mem_of_getElem? (i := 116) rfl)
set_option maxRecDepth 20000 in
theorem vt_k260 : vt_wk 260 ∈ lw_tbl := vt_ch_in (k := 10) (List.mem_of_getElem? (i := 120) rfl)
set_option maxRecDepth 20000 in
theorem vt_k261 : vt_wk 261 ∈ lw_tbl := vt_ch_in (k := 10) (List.mem_of_getElem? (i := 124) rfl)
set_option maxRecDepth 20000 in
theorem vt_k262 : vt_wk 262 ∈ lw_tbl := vt_ch_in (k := 10) (List.mem_of_getElem? (i := 133) rfl)
set_option maxRecDepth 20000 in
theorem vt_k263 : vt_wk 263 ∈ lw_tbl := vt_ch_in (k := 10) (List.mem_of_getElem? (i := 137) rfl)
set_option maxRecDepth 20000 in
theorem vt_k264 : vt_wk 264 ∈ lw_tbl := vt_ch_in (k := 10) (List.mem_of_getElem? (i := 141) rfl)
set_option maxRecDepth 20000 in
theorem vt_k265 : vt_wk 265 ∈ lw_tbl := vt_ch_in (k := 10) (List.mem_of_getElem? (i := 146) rfl)
set_option maxRecDepth 20000 in
theorem vt_k266 : vt_wk 266 ∈ lw_tbl := vt_ch_in (k := 10) (List.mem_of_getElem? (i := 151) rfl)
set_option maxRecDepth 20000 in
theorem vt_k267 : vt_wk 267 ∈ lw_tbl := vt_ch_in (k := 10) (List.mem_of_getElem? (i := 155) rfl)
set_option maxRecDepth 20000 in
theorem vt_k268 : vt_wk 268 ∈ lw_tbl := vt_ch_in (k := 10) (List.mem_of_getElem? (i := 159) rfl)
set_option maxRecDepth 20000 in
theorem vt_k269 : vt_wk 269 ∈ lw_tbl := vt_ch_in (k := 10) (List.mem_of_getElem? (i := 163) rfl)
set_option maxRecDepth 20000 in
theorem vt_k270 : vt_wk 270 ∈ lw_tbl := vt_ch_in (k := 10) (List.mem_of_getElem? (i := 167) rfl)
set_option maxRecDepth 20000 in
theorem vt_k271 : vt_wk 271 ∈ lw_tbl := vt_ch_in (k := 10) (List.mem_of_getElem? (i := 171) rfl)
set_option maxRecDepth 20000 in
theorem vt_k272 : vt_wk 272 ∈ lw_tbl := vt_ch_in (k := 10) (List.mem_of_getElem? (i := 175) rfl)
set_option maxRecDepth 20000 in
theorem vt_k273 : vt_wk 273 ∈ lw_tbl := vt_ch_in (k := 10) (List.mem_of_getElem? (i := 179) rfl)
set_option maxRecDepth 20000 in
theorem vt_k274 : vt_wk 274 ∈ lw_tbl := vt_ch_in (k := 10) (List.mem_of_getElem? (i := 183) rfl)
set_option maxRecDepth 20000 in
theorem vt_k275 : vt_wk 275 ∈ lw_tbl := vt_ch_in (k := 10) (List.mem_of_getElem? (i := 187) rfl)
set_option maxRecDepth 20000 in
theorem vt_k276 : vt_wk 276 ∈ lw_tbl := vt_ch_in (k := 10) (List.mem_of_getElem? (i := 191) rfl)
set_option maxRecDepth 20000 in
theorem vt_k277 : vt_wk 277 ∈ lw_tbl := vt_ch_in (k := 10) (List.mem_of_getElem? (i := 195) rfl)
set_option maxRecDepth 20000 in
theorem vt_k278 : vt_wk 278 ∈ lw_tbl := vt_ch_in (k := 10) (List.mem_of_getElem? (i := 199) rfl)
set_option maxRecDepth 20000 in
theorem vt_k279 : vt_wk 279 ∈ lw_tbl := vt_ch_in (k := 10) (List.mem_of_getElem? (i := 203) rfl)
set_option maxRecDepth 20000 in
theorem vt_k280 : vt_wk 280 ∈ lw_tbl := vt_ch_in (k := 10) (List.mem_of_getElem? (i := 207) rfl)
set_option maxRecDepth 20000 in
theorem vt_k281 : vt_wk 281 ∈ lw_tbl := vt_ch_in (k := 10) (List.mem_of_getElem? (i := 211) rfl)
set_option maxRecDepth 20000 in
theorem vt_k282 : vt_wk 282 ∈ lw_tbl := vt_ch_in (k := 10) (List.mem_of_getElem? (i := 215) rfl)
set_option maxRecDepth 20000 in
theorem vt_k283 : vt_wk 283 ∈ lw_tbl := vt_ch_in (k := 10) (List.mem_of_getElem? (i := 219) rfl)
set_option maxRecDepth 20000 in
theorem vt_k284 : vt_wk 284 ∈ lw_tbl := vt_ch_in (k := 10) (List.mem_of_getElem? (i := 223) rfl)
set_option maxRecDepth 20000 in
theorem vt_k285 : vt_wk 285 ∈ lw_tbl := vt_ch_in (k := 10) (List.mem_of_getElem? (i := 228) rfl)
set_option maxRecDepth 20000 in
theorem vt_k286 : vt_wk 286 ∈ lw_tbl := vt_ch_in (k := 10) (List.mem_of_getElem? (i := 232) rfl)
set_option maxRecDepth 20000 in
theorem vt_k287 : vt_wk 287 ∈ lw_tbl := vt_ch_in (k := 10) (List.mem_of_getElem? (i := 236) rfl)
set_option maxRecDepth 20000 in
theorem vt_k288 : vt_wk 288 ∈ lw_tbl := vt_ch_in (k := 11) (List.mem_of_getElem? (i := 0) rfl)
set_option maxRecDepth 20000 in
theorem vt_k289 : vt_wk 289 ∈ lw_tbl := vt_ch_in (k := 11) (List.mem_of_getElem? (i := 4) rfl)
set_option maxRecDepth 20000 in
theorem vt_k290 : vt_wk 290 ∈ lw_tbl := vt_ch_in (k := 11) (List.mem_of_getElem? (i := 8) rfl)
set_option maxRecDepth 20000 in
theorem vt_k291 : vt_wk 291 ∈ lw_tbl := vt_ch_in (k := 11) (List.mem_of_getElem? (i := 13) rfl)
set_option maxRecDepth 20000 in
theorem vt_k292 : vt_wk 292 ∈ lw_tbl := vt_ch_in (k := 11) (List.mem_of_getElem? (i := 17) rfl)
set_option maxRecDepth 20000 in
theorem vt_k293 : vt_wk 293 ∈ lw_tbl := vt_ch_in (k := 11) (List.mem_of_getElem? (i := 21) rfl)
set_option maxRecDepth 20000 in
theorem vt_k294 : vt_wk 294 ∈ lw_tbl := vt_ch_in (k := 11) (List.mem_of_getElem? (i := 25) rfl)
set_option maxRecDepth 20000 in
theorem vt_k295 : vt_wk 295 ∈ lw_tbl := vt_ch_in (k := 11) (List.mem_of_getElem? (i := 29) rfl)
set_option maxRecDepth 20000 in
theorem vt_k296 : vt_wk 296 ∈ lw_tbl := vt_ch_in (k := 11) (List.mem_of_getElem? (i := 33) rfl)
set_option maxRecDepth 20000 in
theorem vt_k297 : vt_wk 297 ∈ lw_tbl := vt_ch_in (k := 11) (List.mem_of_getElem? (i := 37) rfl)
set_option maxRecDepth 20000 in
theorem vt_k298 : vt_wk 298 ∈ lw_tbl := vt_ch_in (k := 11) (List.mem_of_getElem? (i := 42) rfl)
set_option maxRecDepth 20000 in
theorem vt_k299 : vt_wk 299 ∈ lw_tbl := vt_ch_in (k := 3) (List.mem_of_getElem? (i := 58) rfl)
set_option maxRecDepth 20000 in
theorem vt_k300 : vt_wk 300 ∈ lw_tbl := vt_ch_in (k := 7) (List.mem_of_getElem? (i := 108) rfl)
set_option maxRecDepth 20000 in
theorem vt_k301 : vt_wk 301 ∈ lw_tbl := vt_ch_in (k := 7) (List.mem_of_getElem? (i := 132) rfl)
set_option maxRecDepth 20000 in
theorem vt_k302 : vt_wk 302 ∈ lw_tbl := vt_ch_in (k := 7) (List.mem_of_getElem? (i := 172) rfl)
set_option maxRecDepth 20000 in
theorem vt_k303 : vt_wk 303 ∈ lw_tbl := vt_ch_in (k := 7) (List.mem_of_getElem? (i := 180) rfl)
set_option maxRecDepth 20000 in
theorem vt_k304 : vt_wk 304 ∈ lw_tbl := vt_ch_in (k := 7) (List.mem_of_getElem? (i := 199) rfl)
set_option maxRecDepth 20000 in
theorem vt_k305 : vt_wk 305 ∈ lw_tbl := vt_ch_in (k := 7) (List.mem_of_getElem? (i := 212) rfl)
set_option maxRecDepth 20000 in
theorem vt_k306 : vt_wk 306 ∈ lw_tbl := vt_ch_in (k := 7) (List.mem_of_getElem? (i := 222) rfl)
set_option maxRecDepth 20000 in
theorem vt_k307 : vt_wk 307 ∈ lw_tbl := vt_ch_in (k := 7) (List.mem_of_getElem? (i := 105) rfl)
set_option maxRecDepth 20000 in
theorem vt_k308 : vt_wk 308 ∈ lw_tbl := vt_ch_in (k := 7) (List.mem_of_getElem? (i := 196) rfl)
theorem vt_kc0 : ∀ z ∈ [0, 1, 2, 3, 4, 5, 6, 7, 8, 9, 10, 11, 12, 13, 14, 15, 16, 17, 18, 19, 20, 21, 22, 23, 24, 25, 26, 27, 28, 29, 30, 31, 32, 33, 34, 35, 36, 37, 38, 39, 40, 41, 42, 43, 44, 45, 46, 47, 48, 49], vt_wk z ∈ lw_tbl := List.forall_mem_cons.mpr ⟨vt_k0, List.forall_mem_cons.mpr ⟨vt_k1, List.forall_mem_cons.mpr ⟨vt_k2, List.forall_mem_cons.mpr ⟨vt_k3, List.forall_mem_cons.mpr ⟨vt_k4, List.forall_mem_cons.mpr ⟨vt_k5, List.forall_mem_cons.mpr ⟨vt_k6, List.forall_mem_cons.mpr ⟨vt_k7, List.forall_mem_cons.mpr ⟨vt_k8, List.forall_mem_cons.mpr ⟨vt_k9, List.forall_mem_cons.mpr ⟨vt_k10, List.forall_mem_cons.mpr ⟨vt_k11, List.forall_mem_cons.mpr ⟨vt_k12, List.forall_mem_cons.mpr ⟨vt_k13, List.forall_mem_cons.mpr ⟨vt_k14, List.forall_mem_cons.mpr ⟨vt_k15, List.forall_mem_cons.mpr ⟨vt_k16, List.forall_mem_cons.mpr ⟨vt_k17, List.forall_mem_cons.mpr ⟨vt_k18, List.forall_mem_cons.mpr ⟨vt_k19, List.forall_mem_cons.mpr ⟨vt_k20, List.forall_mem_cons.mpr ⟨vt_k21, List.forall_mem_cons.mpr ⟨vt_k22, List.forall_mem_cons.mpr ⟨vt_k23, List.forall_mem_cons.mpr ⟨vt_k24, List.forall_mem_cons.mpr ⟨vt_k25, List.forall_mem_cons.mpr ⟨vt_k26, List.forall_mem_cons.mpr ⟨vt_k27, List.forall_mem_cons.mpr ⟨vt_k28, List.forall_mem_cons.mpr ⟨vt_k29, List.forall_mem_cons.mpr ⟨vt_k30, List.forall_mem_cons.mpr ⟨vt_k31, List.forall_mem_cons.mpr ⟨vt_k32, List.forall_mem_cons.mpr ⟨vt_k33, List.forall_mem_cons.mpr ⟨vt_k34, List.forall_mem_cons.mpr ⟨vt_k35, List.forall_mem_cons.mpr ⟨vt_k36, List.forall_mem_cons.mpr ⟨vt_k37, List.forall_mem_cons.mpr ⟨vt_k38, List.forall_mem_cons.mpr ⟨vt_k39, List.forall_mem_cons.mpr ⟨vt_k40, List.forall_mem_cons.mpr ⟨vt_k41, List.forall_mem_cons.mpr ⟨vt_k42, List.forall_mem_cons.mpr ⟨vt_k43, List.forall_mem_cons.mpr ⟨vt_k44, List.forall_mem_cons.mpr ⟨vt_k45, List.forall_mem_cons.mpr ⟨vt_k46, List.forall_mem_cons.mpr ⟨vt_k47, List.forall_mem_cons.mpr ⟨vt_k48, List.forall_mem_cons.mpr ⟨vt_k49, (fun _ h => absurd h List.not_mem_nil)⟩⟩⟩⟩⟩⟩⟩⟩⟩⟩⟩⟩⟩⟩⟩⟩⟩⟩⟩⟩⟩⟩⟩⟩⟩⟩⟩⟩⟩⟩⟩⟩⟩⟩⟩⟩⟩⟩⟩⟩⟩⟩⟩⟩⟩⟩⟩⟩⟩⟩
theorem vt_kd0 : ∀ z, z < 50 → 0 ≤ z → z ∈ [0, 1, 2, 3, 4, 5, 6, 7, 8, 9, 10, 11, 12, 13, 14, 15, 16, 17, 18, 19, 20, 21, 22, 23, 24, 25, 26, 27, 28, 29, 30, 31, 32, 33, 34, 35, 36, 37, 38, 39, 40, 41, 42, 43, 44, 45, 46, 47, 48, 49] := by decide +kernel
theorem vt_kc1 : ∀ z ∈ [50, 51, 52, 53, 54, 55, 56, 57, 58, 59, 60, 61, 62, 63, 64, 65, 66, 67, 68, 69, 70, 71, 72, 73, 74, 75, 76, 77, 78, 79, 80, 81, 82, 83, 84, 85, 86, 87, 88, 89, 90, 91, 92, 93, 94, 95, 96, 97, 98, 99], vt_wk z ∈ lw_tbl := List.forall_mem_cons.mpr ⟨vt_k50, List.forall_mem_cons.mpr ⟨vt_k51, List.forall_mem_cons.mpr ⟨vt_k52, List.forall_mem_cons.mpr ⟨vt_k53, List.forall_mem_cons.mpr ⟨vt_k54, List.forall_mem_cons.mpr ⟨vt_k55, List.forall_mem_cons.mpr ⟨vt_k56, List.forall_mem_cons.mpr ⟨vt_k57, List.forall_mem_cons.mpr ⟨vt_k58, List.forall_mem_cons.mpr ⟨vt_k59, List.forall_mem_cons.mpr ⟨vt_k60, List.forall_mem_cons.mpr ⟨vt_k61, List.forall_mem_cons.mpr ⟨vt_k62, List.forall_mem_cons.mpr ⟨vt_k63, List.forall_mem_cons.mpr ⟨vt_k64, List.forall_mem_cons.mpr ⟨vt_k65, List.forall_mem_cons.mpr ⟨vt_k66, List.forall_mem_cons.mpr ⟨vt_k67, List.forall_mem_cons.mpr ⟨vt_k68, List.forall_mem_cons.mpr ⟨vt_k69, List.forall_mem_cons.mpr ⟨vt_k70, List.forall_mem_cons.mpr ⟨vt_k71, List.forall_mem_cons.mpr ⟨vt_k72, List.forall_mem_cons.mpr ⟨vt_k73, List.forall_mem_cons.mpr ⟨vt_k74, List.forall_mem_cons.mpr ⟨vt_k75, List.forall_mem_cons.mpr ⟨vt_k76, List.forall_mem_cons.mpr ⟨vt_k77, List.forall_mem_cons.mpr ⟨vt_k78, List.forall_mem_cons.mpr ⟨vt_k79, List.forall_mem_cons.mpr ⟨vt_k80, List.forall_mem_cons.mpr ⟨vt_k81, List.forall_mem_cons.mpr ⟨vt_k82, List.forall_mem_cons.mpr ⟨vt_k83, List.forall_mem_cons.mpr ⟨vt_k84, List.forall_mem_cons.mpr ⟨vt_k85, List.forall_mem_cons.mpr ⟨vt_k86, List.forall_mem_cons.mpr ⟨vt_k87, List.forall_mem_cons.mpr ⟨vt_k88, List.forall_mem_cons.mpr ⟨vt_k89, List.forall_mem_cons.mpr ⟨vt_k90, List.forall_mem_cons.mpr ⟨vt_k91, List.forall_mem_cons.mpr ⟨vt_k92, List.forall_mem_cons.mpr ⟨vt_k93, List.forall_mem_cons.mpr ⟨vt_k94, List.forall_mem_cons.mpr ⟨vt_k95, List.forall_mem_cons.mpr ⟨vt_k96, List.forall_mem_cons.mpr ⟨vt_k97, List.forall_mem_cons.mpr ⟨vt_k98, List.forall_mem_cons.mpr ⟨vt_k99, (fun _ h => absurd h List.not_mem_nil)⟩⟩⟩⟩⟩⟩⟩⟩⟩⟩⟩⟩⟩⟩⟩⟩⟩⟩⟩⟩⟩⟩⟩⟩⟩⟩⟩⟩⟩⟩⟩⟩⟩⟩⟩⟩⟩⟩⟩⟩⟩⟩⟩⟩⟩⟩⟩⟩⟩⟩
theorem vt_kd1 : ∀ z, z < 100 → 50 ≤ z → z ∈ [50, 51, 52, 53, 54, 55, 56, 57, 58, 59, 60, 61, 62, 63, 64, 65, 66, 67, 68, 69, 70, 71, 72, 73, 74, 75, 76, 77, 78, 79, 80, 81, 82, 83, 84, 85, 86, 87, 88, 89, 90, 91, 92, 93, 94, 95, 96, 97, 98, 99] := by decide +kernel
theorem vt_kc2 : ∀ z ∈ [100, 101, 102, 103, 104, 105, 106, 107, 108, 109, 110, 111, 112, 113, 114, 115, 116, 117, 118, 119, 120, 121, 122, 123, 124, 125, 126, 127, 128, 129, 130, 131, 132, 133, 134, 135, 136, 137, 138, 139, 140, 141, 142, 143, 144, 145, 146, 147, 148, 149], vt_wk z ∈ lw_tbl := List.forall_mem_cons.mpr ⟨vt_k100, List.forall_mem_cons.mpr ⟨vt_k101, List.forall_mem_cons.mpr ⟨vt_k102, List.forall_mem_cons.mpr ⟨vt_k103, List.forall_mem_cons.mpr ⟨vt_k104, List.forall_mem_cons.mpr ⟨vt_k105, List.forall_mem_cons.mpr ⟨vt_k106, List.forall_mem_cons.mpr ⟨vt_k107, List.forall_mem_cons.mpr ⟨vt_k108, List.forall_mem_cons.mpr ⟨vt_k109, List.forall_mem_cons.mpr ⟨vt_k110, List.forall_mem_cons.mpr ⟨vt_k111, List.forall_mem_cons.mpr ⟨vt_k112, List.forall_mem_cons.mpr ⟨vt_k113, List.forall_mem_cons.mpr ⟨vt_k114, List.forall_mem_cons.mpr ⟨vt_k115, List.forall_mem_cons.mpr ⟨vt_k116, List.forall_mem_cons.mpr ⟨vt_k117, List.forall_mem_cons.mpr ⟨vt_k118, List.forall_mem_cons.mpr ⟨vt_k119, List.forall_mem_cons.mpr ⟨vt_k120, List.forall_mem_cons.mpr ⟨vt_k121, List.forall_mem_cons.mpr ⟨vt_k122, List.forall_mem_cons.mpr ⟨vt_k123, List.forall_mem_cons.mpr ⟨vt_k124, List.forall_mem_cons.mpr ⟨vt_k125, List.forall_mem_cons.mpr ⟨vt_k126, List.forall_mem_cons.mpr ⟨vt_k127, List.forall_mem_cons.mpr ⟨vt_k128, List.forall_mem_cons.mpr ⟨vt_k129, List.forall_mem_cons.mpr ⟨vt_k130, List.forall_mem_cons.mpr ⟨vt_k131, List.forall_mem_cons.mpr ⟨vt_k132, List.forall_mem_cons.mpr ⟨vt_k133, List.forall_mem_cons.mpr ⟨vt_k134, List.forall_mem_cons.mpr ⟨vt_k135, List.forall_mem_cons.mpr ⟨vt_k136, List.forall_mem_cons.mpr ⟨vt_k137, List.forall_mem_cons.mpr ⟨vt_k138, List.forall_mem_cons.mpr ⟨vt_k139, List.forall_mem_cons.mpr ⟨vt_k140, List.forall_mem_cons.mpr ⟨vt_k141, List.forall_mem_cons.mpr ⟨vt_k142, List.forall_mem_cons.mpr ⟨vt_k143, List.forall_mem_cons.mpr ⟨vt_k144, List.forall_mem_cons.mpr ⟨vt_k145, List.forall_mem_cons.mpr ⟨vt_k146, List.forall_mem_cons.mpr ⟨vt_k147, List.forall_mem_cons.mpr ⟨vt_k148, List.forall_mem_cons.mpr ⟨vt_k149, (fun _ h => absurd h List.not_mem_nil)⟩⟩⟩⟩⟩⟩⟩⟩⟩⟩⟩⟩⟩⟩⟩⟩⟩⟩⟩⟩⟩⟩⟩⟩⟩⟩⟩⟩⟩⟩⟩⟩⟩⟩⟩⟩⟩⟩⟩⟩⟩⟩⟩⟩⟩⟩⟩⟩⟩⟩
theorem vt_kd2 : ∀ z, z < 150 → 100 ≤ z → z ∈ [100, 101, 102, 103, 104, 105, 106, 107, 108, 109, 110, 111, 112, 113, 114, 115, 116, 117, 118, 119, 120, 121, 122, 123, 124, 125, 126, 127, 128, 129, 130, 131, 132, 133, 134, 135, 136, 137, 138, 139, 140, 141, 142, 143, 144, 145, 146, 147, 148, 149] := by decide +kernel
theorem vt_kc3 : ∀ z ∈ [150, 151, 152, 153, 154, 155, 156, 157, 158, 159, 160, 161, 162, 163, 164, 165, 166, 167, 168, 169, 170, 171, 172, 173, 174, 175, 176, 177, 178, 179, 180, 181, 182, 183, 184, 185, 186, 187, 188, 189, 190, 191, 192, 193, 194, 195, 196, 197, 198, 199], vt_wk z ∈ lw_tbl := List.forall_mem_cons.mpr ⟨vt_k150, List.forall_mem_cons.mpr ⟨vt_k151, List.forall_mem_cons.mpr ⟨vt_k152, List.forall_mem_cons.mpr ⟨vt_k153, List.forall_mem_cons.mpr ⟨vt_k154, List.forall_mem_cons.mpr ⟨vt_k155, List.forall_mem_cons.mpr ⟨vt_k156, List.forall_mem_cons.mpr ⟨vt_k157, List.forall_mem_cons.mpr ⟨vt_k158, List.forall_mem_cons.mpr ⟨vt_k159, List.forall_mem_cons.mpr ⟨vt_k160, List.forall_mem_cons.mpr ⟨vt_k161, List.forall_mem_cons.mpr ⟨vt_k162, List.forall_mem_cons.mpr ⟨vt_k163, List.forall_mem_cons.mpr ⟨vt_k164, List.forall_mem_cons.mpr ⟨vt_k165, List.forall_mem_cons.mpr ⟨vt_k166, List.forall_mem_cons.mpr ⟨vt_k167, List.forall_mem_cons.mpr ⟨vt_k168, List.forall_mem_cons.mpr ⟨vt_k169, List.forall_mem_cons.mpr ⟨vt_k170, List.forall_mem_cons.mpr ⟨vt_k171, List.forall_mem_cons.mpr ⟨vt_k172, List.forall_mem_cons.mpr ⟨vt_k173, List.forall_mem_cons.mpr ⟨vt_k174, List.forall_mem_cons.mpr ⟨vt_k175, List.forall_mem_cons.mpr ⟨vt_k176, List.forall_mem_cons.mpr ⟨vt_k177, List.forall_mem_cons.mpr ⟨vt_k178, List.forall_mem_cons.mpr ⟨vt_k179, List.forall_mem_cons.mpr ⟨vt_k180, List.forall_mem_cons.mpr ⟨vt_k181, List.forall_mem_cons.mpr ⟨vt_k182, List.forall_mem_cons.mpr ⟨vt_k183, List.forall_mem_cons.mpr ⟨vt_k184, List.forall_mem_cons.mpr ⟨vt_k185, List.forall_mem_cons.mpr ⟨vt_k186, List.forall_mem_cons.mpr ⟨vt_k187, List.forall_mem_cons.mpr ⟨vt_k188, List.forall_mem_cons.mpr ⟨vt_k189, List.forall_mem_cons.mpr ⟨vt_k190, List.forall_mem_cons.mpr ⟨vt_k191, List.forall_mem_cons.mpr ⟨vt_k192, List.forall_mem_cons.mpr ⟨vt_k193, List.forall_mem_cons.mpr ⟨vt_k194, List.forall_mem_cons.mpr ⟨vt_k195, List.forall_mem_cons.mpr ⟨vt_k196, List.forall_mem_cons.mpr ⟨vt_k197, List.forall_mem_cons.mpr ⟨vt_k198, List.forall_mem_cons.mpr ⟨vt_k199, (fun _ h => absurd h List.not_mem_nil)⟩⟩⟩⟩⟩⟩⟩⟩⟩⟩⟩⟩⟩⟩⟩⟩⟩⟩⟩⟩⟩⟩⟩⟩⟩⟩⟩⟩⟩⟩⟩⟩⟩⟩⟩⟩⟩⟩⟩⟩⟩⟩⟩⟩⟩⟩⟩⟩⟩⟩
theorem vt_kd3 : ∀ z, z < 200 → 150 ≤ z → z ∈ [150, 151, 152, 153, 154, 155, 156, 157, 158, 159, 160, 161, 162, 163, 164, 165, 166, 167, 168, 169, 170, 171, 172, 173, 174, 175, 176, 177, 178, 179, 180, 181, 182, 183, 184, 185, 186, 187, 188, 189, 190, 191, 192, 193, 194, 195, 196, 197, 198, 199] := by decide +kernel
theorem vt_kc4 : ∀ z ∈ [200, 201, 202, 203, 204, 205, 206, 207, 208, 209, 210, 211, 212, 213, 214, 215, 216, 217, 218, 219, 220, 221, 222, 223, 224, 225, 226, 227, 228, 229, 230, 231, 232, 233, 234, 235, 236, 237, 238, 239, 240, 241, 242, 243, 244, 245, 246, 247, 248, 249], vt_wk z ∈ lw_tbl := List.forall_mem_cons.mpr ⟨vt_k200, List.forall_mem_cons.mpr ⟨vt_k201, List.forall_mem_cons.mpr ⟨vt_k202, List.forall_mem_cons.mpr ⟨vt_k203, List.forall_mem_cons.mpr ⟨vt_k204, List.forall_mem_cons.mpr ⟨vt_k205, List.forall_mem_cons.mpr ⟨vt_k206, List.forall_mem_cons.mpr ⟨vt_k207, List.forall_mem_cons.mpr ⟨vt_k208, List.forall_mem_cons.mpr ⟨vt_k209, List.forall_mem_cons.mpr ⟨vt_k210, List.forall_mem_cons.mpr ⟨vt_k211, List.forall_mem_cons.mpr ⟨vt_k212, List.forall_mem_cons.mpr ⟨vt_k213, List.forall_mem_cons.mpr ⟨vt_k214, List.forall_mem_cons.mpr ⟨vt_k215, List.forall_mem_cons.mpr ⟨vt_k216, List.forall_mem_cons.mpr ⟨vt_k217, List.forall_mem_cons.mpr ⟨vt_k218, List.forall_mem_cons.mpr ⟨vt_k219, List.forall_mem_cons.mpr ⟨vt_k220, List.forall_mem_cons.mpr ⟨vt_k221, List.forall_mem_cons.mpr ⟨vt_k222, List.forall_mem_cons.mpr ⟨vt_k223, List.forall_mem_cons.mpr ⟨vt_k224, List.forall_mem_cons.mpr ⟨vt_k225, List.forall_mem_cons.mpr ⟨vt_k226, List.forall_mem_cons.mpr ⟨vt_k227, List.forall_mem_cons.mpr ⟨vt_k228, List.forall_mem_cons.mpr ⟨vt_k229, List.forall_mem_cons.mpr ⟨vt_k230, List.forall_mem_cons.mpr ⟨vt_k231, List.forall_mem_cons.mpr ⟨vt_k232, List.forall_mem_cons.mpr ⟨vt_k233, List.forall_mem_cons.mpr ⟨vt_k234, List.forall_mem_cons.mpr ⟨vt_k235, List.forall_mem_cons.mpr ⟨vt_k236, List.forall_mem_cons.mpr ⟨vt_k237, List.forall_mem_cons.mpr ⟨vt_k238, List.forall_mem_cons.mpr ⟨vt_k239, List.forall_mem_cons.mpr ⟨vt_k240, List.forall_mem_cons.mpr ⟨vt_k241, List.forall_mem_cons.mpr ⟨vt_k242, List.forall_mem_cons.mpr ⟨vt_k243, List.forall_mem_cons.mpr ⟨vt_k244, List.forall_mem_cons.mpr ⟨vt_k245, List.forall_mem_cons.mpr ⟨vt_k246, List.forall_mem_cons.mpr ⟨vt_k247, List.forall_mem_cons.mpr ⟨vt_k248, List.forall_mem_cons.mpr ⟨vt_k249, (fun _ h => absurd h List.not_mem_nil)⟩⟩⟩⟩⟩⟩⟩⟩⟩⟩⟩⟩⟩⟩⟩⟩⟩⟩⟩⟩⟩⟩⟩⟩⟩⟩⟩⟩⟩⟩⟩⟩⟩⟩⟩⟩⟩⟩⟩⟩⟩⟩⟩⟩⟩⟩⟩⟩⟩⟩
theorem vt_kd4 : ∀ z, z < 250 → 200 ≤ z → z ∈ [200, 201, 202, 203, 204, 205, 206, 207, 208, 209, 210, 211, 212, 213, 214, 215, 216, 217, 218, 219, 220, 221, 222, 223, 224, 225, 226, 227, 228, 229, 230, 231, 232, 233, 234, 235, 236, 237, 238, 239, 240, 241, 242, 243, 244, 245, 246, 247, 248, 249] := by decide +kernel
theorem vt_kc5 : ∀ z ∈ [250, 251, 252, 253, 254, 255, 256, 257, 258, 259, 260, 261, 262, 263, 264, 265, 266, 267, 268, 269, 270, 271, 272, 273, 274, 275, 276, 277, 278, 279, 280, 281, 282, 283, 284, 285, 286, 287, 288, 289, 290, 291, 292, 293, 294, 295, 296, 297, 298, 299], vt_wk z ∈ lw_tbl := List.forall_mem_cons.mpr ⟨vt_k250, List.forall_mem_cons.mpr ⟨vt_k251, List.forall_mem_cons.mpr ⟨vt_k252, List.forall_mem_cons.mpr ⟨vt_k253, List.forall_mem_cons.mpr ⟨vt_k254, List.forall_mem_cons.mpr ⟨vt_k255, List.forall_mem_cons.mpr ⟨vt_k256, List.forall_mem_cons.mpr ⟨vt_k257, List.forall_mem_cons.mpr ⟨vt_k258, List.forall_mem_cons.mpr ⟨vt_k259, List.forall_mem_cons.mpr ⟨vt_k260, List.forall_mem_cons.mpr ⟨vt_k261, List.forall_mem_cons.mpr ⟨vt_k262, List.forall_mem_cons.mpr ⟨vt_k263, List.forall_mem_cons.mpr ⟨vt_k264, List.forall_mem_cons.mpr ⟨vt_k265, List.forall_mem_cons.mpr ⟨vt_k266, List.forall_mem_cons.mpr ⟨vt_k267, List.forall_mem_cons.mpr ⟨vt_k268, List.forall_mem_cons.mpr ⟨vt_k269, List.forall_mem_cons.mpr ⟨vt_k270, List.forall_mem_cons.mpr ⟨vt_k271, List.forall_mem_cons.mpr ⟨vt_k272, List.forall_mem_cons.mpr ⟨vt_k273, List.forall_mem_cons.mpr ⟨vt_k274, List.forall_mem_cons.mpr ⟨vt_k275, List.forall_mem_cons.mpr ⟨vt_k276, List.forall_mem_cons.mpr ⟨vt_k277, List.forall_mem_cons.mpr ⟨vt_k278, List.forall_mem_cons.mpr ⟨vt_k279, List.forall_mem_cons.mpr ⟨vt_k280, List.forall_mem_cons.mpr ⟨vt_k281, List.forall_mem_cons.mpr ⟨vt_k282, List.forall_mem_cons.mpr ⟨vt_k283, List.forall_mem_cons.mpr ⟨vt_k284, List.forall_mem_cons.mpr ⟨vt_k285, List.forall_mem_cons.mpr ⟨vt_k286, List.forall_mem_cons.mpr ⟨vt_k287, List.forall_mem_cons.mpr ⟨vt_k288, List.forall_mem_cons.mpr ⟨vt_k289, List.forall_mem_cons.mpr ⟨vt_k290, List.forall_mem_cons.mpr ⟨vt_k291, List.forall_mem_cons.mpr ⟨vt_k292, List.forall_mem_cons.mpr ⟨vt_k293, List.forall_mem_cons.mpr ⟨vt_k294, List.forall_mem_cons.mpr ⟨vt_k295, List.forall_mem_cons.mpr ⟨vt_k296, List.forall_mem_cons.mpr ⟨vt_k297, List.forall_mem_cons.mpr ⟨vt_k298, List.forall_mem_cons.mpr ⟨vt_k299, (fun _ h => absurd h List.not_mem_nil)⟩⟩⟩⟩⟩⟩⟩⟩⟩⟩⟩⟩⟩⟩⟩⟩⟩⟩⟩⟩⟩⟩⟩⟩⟩⟩⟩⟩⟩⟩⟩⟩⟩⟩⟩⟩⟩⟩⟩⟩⟩⟩⟩⟩⟩⟩⟩⟩⟩⟩
theorem vt_kd5 : ∀ z, z < 300 → 250 ≤ z → z ∈ [250, 251, 252, 253, 254, 255, 256, 257, 258, 259, 260, 261, 262, 263, 264, 265, 266, 267, 268, 269, 270, 271, 272, 273, 274, 275, 276, 277, 278, 279, 280, 281, 282, 283, 284, 285, 286, 287, 288, 289, 290, 291, 292, 293, 294, 295, 296, 297, 298, 299] := by decide +kernel
theorem vt_kc6 : ∀ z ∈ [300, 301, 302, 303, 304, 305, 306, 307, 308], vt_wk z ∈ lw_tbl := List.forall_mem_cons.mpr ⟨vt_k300, List.forall_mem_cons.mpr ⟨vt_k301, List.forall_mem_cons.mpr ⟨vt_k302, List.forall_mem_cons.mpr ⟨vt_k303, List.forall_mem_cons.mpr ⟨vt_k304, List.forall_mem_cons.mpr ⟨vt_k305, List.forall_mem_cons.mpr ⟨vt_k306, List.forall_mem_cons.mpr ⟨vt_k307, List.forall_mem_cons.mpr ⟨vt_k308, (fun _ h => absurd h List.not_mem_nil)⟩⟩⟩⟩⟩⟩⟩⟩⟩
theorem vt_kd6 : ∀ z, z < 309 → 300 ≤ z → z ∈ [300, 301, 302, 303, 304, 305, 306, 307, 308] := by decide +kernel
theorem vt_inK : ∀ x ∈ vt_wK, x ∈ lw_tbl := by
  intro x hx
  obtain ⟨z, hz, rfl⟩ := List.mem_map.mp hx
  have hz := List.mem_range.mp hz
  by_cases h0 : z < 50
  · exact vt_kc0 z (vt_kd0 z h0 (by omega))
  by_cases h1 : z < 100
  · exact vt_kc1 z (vt_kd1 z h1 (by omega))
  by_cases h2 : z < 150
  · exact vt_kc2 z (vt_kd2 z h2 (by omega))
  by_cases h3 : z < 200
  · exact vt_kc3 z (vt_kd3 z h3 (by omega))
  by_cases h4 : z < 250
  · exact vt_kc4 z (vt_kd4 z h4 (by omega))
  by_cases h5 : z < 300
  · exact vt_kc5 z (vt_kd5 z h5 (by omega))
  by_cases h6 : z < 309
  · exact vt_kc6 z (vt_kd6 z h6 (by omega))
  · omega
def vt_pM_0 : List (Nat × Nat) := [(1, 33), (1, 34), (1, 35), (1, 44), (1, 45), (1, 104), (1, 105), (2, 130), (2, 131), (3, 24), (3, 25), (3, 26), (3, 60), (3, 61), (3, 62), (6, 90), (6, 91), (6, 92), (6, 94), (6, 95), (6, 96), (6, 127), (5, 95), (5, 96), (6, 128), (6, 129), (6, 130), (6, 136), (6, 137), (6, 138), (6, 144), (5, 218), (5, 219), (6, 150), (6, 152), (103, 13), (6, 172), (6, 173), (6, 174), (7, 158), (7, 159), (7, 160), (7, 186), (7, 187), (7, 188), (7, 204), (7, 205), (7, 206), (7, 209), (7, 191), (7, 192), (6, 189), (6, 190), (6, 191), (6, 193), (6, 194), (6, 195), (6, 197), (6, 198), (6, 199), (7, 218), (6, 230), (6, 231), (7, 219), (6, 239), (7, 0), (7, 82), (7, 83), (7, 84), (7, 90), (6, 100), (6, 101), (7, 95), (7, 96), (7, 97), (7, 99), (7, 100), (7, 101), (6, 157), (6, 159), (103, 14), (6, 161), (6, 163), (103, 15), (1, 119), (1, 34), (1, 35), (3, 72), (3, 74), (101, 2), (5, 58), (5, 60), (102, 2), (5, 116), (5, 117), (1, 6), (5, 107), (5, 109), (102, 6), (5, 123), (5, 124), (5, 125), (5, 217), (5, 218), (5, 219), (2, 8), (1, 34), (1, 35), (4, 209), (3, 235), (3, 236), (4, 210), (4, 211), (4, 212), (4, 214), (4, 80), (4, 81), (4, 215), (4, 9), (4, 10), (4, 236), (4, 206), (4, 207), (4, 232), (4, 233), (4, 234), (4, 237), (4, 238), (4, 239), (5, 5), (4, 217), (4, 218), (5, 6), (4, 201), (4, 202), (5, 7), (5, 8), (5, 9), (2, 145), (1, 34), (1, 35), (6, 119), (6, 121), (103, 12), (6, 238), (6, 239), (7, 0), (6, 237), (5, 218), (5, 219)]
def vt_pM_1 : List (Nat × Nat) := [(7, 2), (7, 4), (104, 1), (7, 10), (7, 12), (104, 3), (7, 16), (7, 18), (104, 4), (7, 28), (7, 30), (104, 7), (7, 6), (7, 8), (104, 2), (7, 20), (7, 22), (104, 5), (7, 24), (7, 26), (104, 6), (7, 32), (7, 34), (104, 8), (7, 36), (7, 38), (104, 9), (7, 40), (7, 42), (104, 10), (1, 107), (1, 34), (1, 35), (1, 110), (1, 111), (2, 5), (2, 6), (2, 28), (2, 29), (3, 64), (3, 65), (3, 66), (3, 76), (3, 77), (3, 78), (3, 84), (3, 85), (3, 86), (3, 239), (4, 1), (101, 10), (4, 220), (4, 222), (101, 12), (4, 224), (4, 226), (101, 13), (5, 15), (5, 17), (101, 14), (6, 76), (4, 9), (4, 10), (6, 77), (6, 79), (103, 11), (4, 200), (4, 201), (4, 202), (5, 29), (5, 30), (5, 31), (6, 71), (5, 229), (5, 230), (6, 72), (6, 73), (6, 74), (6, 81), (6, 82), (6, 83), (4, 3), (3, 235), (3, 236), (4, 4), (4, 5), (4, 6), (4, 205), (4, 206), (4, 207), (4, 216), (4, 217), (4, 218), (4, 228), (4, 229), (4, 230), (5, 1), (5, 2), (5, 3), (5, 11), (5, 12), (5, 13), (5, 19), (4, 233), (4, 234), (5, 20), (5, 22), (101, 15), (5, 28), (4, 238), (4, 239), (5, 24), (5, 25), (5, 26), (2, 37), (1, 34), (1, 35), (5, 69), (5, 71), (102, 3), (5, 79), (5, 81), (102, 5), (5, 149), (5, 151), (102, 8), (5, 182), (5, 184), (102, 13), (5, 189), (5, 191), (102, 14), (5, 213), (5, 214), (5, 215), (5, 221), (5, 222), (1, 9), (5, 144), (5, 55), (5, 56), (5, 165), (5, 166), (5, 167), (5, 224), (5, 226), (103, 1), (5, 232), (5, 234), (103, 2)]
def vt_pM_2 : List (Nat × Nat) := [(5, 186), (5, 187), (1, 9), (5, 73), (5, 75), (102, 4), (5, 78), (4, 233), (4, 234), (5, 77), (4, 9), (4, 10), (5, 228), (5, 229), (5, 230), (5, 102), (5, 103), (5, 104), (5, 84), (3, 235), (3, 236), (5, 193), (5, 195), (102, 15), (5, 131), (5, 133), (102, 7), (5, 197), (5, 199), (103, 0), (5, 201), (5, 202), (1, 9), (5, 93), (5, 65), (5, 66), (5, 158), (4, 201), (4, 202), (5, 153), (4, 211), (4, 212), (5, 111), (4, 238), (4, 239), (5, 154), (5, 156), (102, 9), (5, 169), (5, 171), (102, 11), (5, 176), (5, 178), (102, 12), (5, 159), (5, 161), (102, 10), (5, 180), (4, 206), (4, 207), (5, 181), (5, 8), (5, 9), (5, 83), (4, 80), (4, 81), (5, 85), (5, 86), (5, 87), (5, 89), (5, 90), (5, 91), (5, 135), (5, 136), (5, 137), (5, 139), (5, 140), (5, 141), (5, 143), (5, 51), (5, 52), (5, 145), (5, 146), (5, 147), (5, 98), (5, 99), (5, 100), (5, 94), (5, 95), (5, 96), (5, 112), (5, 113), (5, 114), (5, 119), (5, 120), (5, 121), (2, 133), (1, 34), (1, 35), (2, 136), (2, 137), (6, 98), (5, 95), (5, 96), (6, 99), (6, 100), (6, 101), (6, 103), (6, 104), (6, 105), (6, 111), (6, 112), (6, 113), (6, 176), (6, 177), (6, 178), (6, 184), (6, 181), (6, 182), (6, 212), (6, 214), (104, 0), (7, 162), (7, 164), (105, 0), (6, 225), (6, 226), (6, 227), (7, 166), (7, 168), (105, 1), (6, 216), (6, 217), (6, 218), (7, 68), (6, 230), (6, 231), (7, 70), (7, 71), (7, 72), (7, 64), (7, 66), (104, 14), (7, 69), (6, 239), (7, 0), (7, 190), (7, 191), (7, 192), (7, 194)]
def vt_pM_3 : List (Nat × Nat) := [(7, 195), (1, 2), (6, 201), (6, 202), (6, 203), (7, 58), (7, 59), (7, 60), (7, 74), (7, 76), (104, 15), (1, 113), (1, 34), (1, 35), (1, 116), (1, 117), (3, 68), (3, 69), (3, 70), (6, 70), (5, 95), (5, 96), (4, 8), (4, 9), (4, 10), (4, 79), (4, 80), (4, 81), (4, 84), (4, 85), (4, 194), (4, 195), (4, 196), (4, 199), (3, 235), (3, 236), (6, 85), (6, 86), (6, 87), (6, 180), (6, 181), (6, 182), (1, 47), (1, 34), (1, 35), (3, 28), (3, 29), (1, 3), (3, 32), (3, 34), (101, 0), (3, 51), (3, 53), (101, 1), (3, 88), (3, 90), (101, 3), (3, 109), (3, 111), (101, 6), (3, 229), (3, 231), (101, 9), (3, 234), (3, 235), (3, 236), (3, 92), (3, 94), (101, 4), (3, 96), (3, 97), (1, 3), (3, 99), (3, 100), (1, 3), (3, 102), (3, 104), (101, 5), (3, 106), (3, 107), (1, 3), (3, 113), (3, 115), (101, 7), (3, 166), (3, 168), (101, 8), (4, 204), (4, 9), (4, 10), (2, 139), (1, 34), (1, 35), (2, 142), (2, 143), (6, 107), (6, 108), (6, 109), (6, 205), (6, 206), (6, 207), (6, 115), (6, 116), (6, 117), (6, 220), (6, 221), (6, 222), (6, 229), (6, 230), (6, 231), (6, 233), (6, 234), (6, 235), (7, 44), (7, 46), (104, 11), (7, 48), (7, 50), (104, 12), (7, 52), (5, 95), (5, 96), (7, 53), (7, 55), (104, 13), (7, 57), (6, 239), (7, 0), (7, 63), (6, 226), (6, 227), (2, 31), (1, 34), (1, 35), (2, 34), (2, 35), (3, 80), (3, 81), (3, 82), (5, 33), (4, 233), (4, 234), (5, 35), (5, 37), (102, 0), (5, 46), (4, 201), (4, 202), (5, 64), (5, 65)]
def vt_pM_4 : List (Nat × Nat) := [(5, 66), (5, 236), (5, 99), (5, 100), (6, 11), (4, 238), (4, 239), (6, 65), (6, 66), (6, 67), (5, 39), (5, 41), (102, 1), (5, 43), (3, 235), (3, 236), (6, 1), (6, 3), (103, 3), (6, 5), (5, 229), (5, 230), (6, 6), (6, 8), (103, 4), (6, 34), (6, 36), (103, 7), (6, 39), (6, 41), (103, 8), (6, 46), (6, 48), (103, 9), (6, 55), (5, 90), (5, 91), (6, 56), (6, 58), (103, 10), (6, 10), (4, 9), (4, 10), (5, 44), (4, 5), (4, 6), (5, 45), (4, 229), (4, 230), (5, 47), (5, 2), (5, 3), (5, 48), (5, 25), (5, 26), (5, 49), (5, 12), (5, 13), (5, 50), (5, 51), (5, 52), (5, 54), (5, 55), (5, 56), (5, 237), (5, 238), (5, 239), (6, 50), (4, 80), (4, 81), (6, 51), (6, 52), (1, 8), (6, 54), (5, 86), (5, 87), (6, 60), (5, 136), (5, 137), (6, 12), (5, 103), (5, 104), (6, 22), (6, 23), (6, 24), (6, 61), (6, 62), (6, 63), (6, 27), (5, 30), (5, 31), (6, 38), (5, 214), (5, 215), (6, 29), (6, 30), (6, 31), (6, 13), (6, 15), (103, 5), (6, 17), (4, 206), (4, 207), (6, 18), (6, 20), (103, 6), (6, 26), (5, 8), (5, 9), (6, 43), (4, 217), (4, 218), (6, 44), (5, 146), (5, 147), (6, 45), (5, 124), (5, 125), (4, 87), (1, 34), (1, 35), (7, 237), (7, 238), (1, 13), (9, 75), (9, 77), (105, 4), (9, 79), (9, 80), (1, 13), (9, 82), (9, 83), (1, 13), (9, 85), (9, 87), (105, 5), (9, 92), (9, 94), (105, 6), (9, 104), (9, 106), (105, 9), (9, 71), (9, 73), (105, 3), (9, 116), (9, 118), (105, 12), (9, 112), (9, 114)]
def vt_pM_5 : List (Nat × Nat) := [(105, 11), (9, 108), (9, 110), (105, 10), (9, 120), (9, 122), (105, 13), (9, 144), (9, 146), (106, 3), (9, 136), (9, 138), (106, 1), (9, 152), (9, 154), (106, 5), (9, 184), (9, 186), (106, 13), (9, 188), (9, 190), (106, 14), (9, 176), (9, 178), (106, 11), (9, 192), (9, 194), (106, 15), (10, 16), (10, 18), (107, 14), (9, 196), (9, 198), (107, 0), (9, 200), (9, 202), (107, 1), (9, 204), (9, 206), (107, 2), (10, 6), (10, 8), (107, 12), (9, 208), (9, 210), (107, 3), (10, 10), (10, 12), (107, 13), (9, 212), (9, 214), (107, 4), (9, 216), (9, 218), (107, 5), (9, 220), (9, 222), (107, 6), (9, 226), (9, 228), (107, 7), (9, 230), (9, 232), (107, 8), (9, 234), (9, 236), (107, 9), (9, 238), (10, 0), (107, 10), (10, 2), (10, 4), (107, 11), (9, 180), (9, 182), (106, 12), (9, 160), (9, 162), (106, 7), (9, 156), (9, 158), (106, 6), (10, 32), (10, 34), (108, 2), (9, 164), (9, 166), (106, 8), (10, 20), (10, 22), (107, 15), (10, 24), (10, 26), (108, 0), (10, 36), (10, 38), (108, 3), (10, 40), (10, 42), (108, 4), (10, 44), (10, 46), (108, 5), (9, 100), (9, 102), (105, 8), (9, 168), (9, 170), (106, 9), (9, 140), (9, 142), (106, 2), (9, 148), (9, 150), (106, 4), (9, 172), (9, 174), (106, 10), (10, 28), (10, 30), (108, 1), (8, 6), (1, 34), (1, 35), (9, 67), (9, 69), (105, 2), (9, 96), (9, 98), (105, 7), (10, 48), (10, 50), (108, 6), (10, 130), (10, 132), (109, 7), (10, 134), (10, 136), (109, 8), (10, 138), (10, 140), (109, 9), (9, 124), (9, 126), (105, 14), (9, 132), (9, 134), (106, 0), (9, 128), (9, 130)]
def vt_pM_6 : List (Nat × Nat) := [(105, 15), (10, 72), (10, 74), (108, 12), (10, 94), (10, 96), (109, 0), (10, 68), (10, 70), (108, 11), (10, 76), (10, 78), (108, 13), (10, 64), (10, 66), (108, 10), (10, 98), (10, 100), (109, 1), (10, 80), (10, 82), (108, 14), (10, 84), (10, 85), (1, 13), (10, 89), (10, 91), (108, 15), (10, 60), (10, 62), (108, 9), (10, 104), (10, 106), (109, 2), (10, 117), (10, 119), (109, 5), (10, 121), (10, 123), (109, 6), (10, 108), (10, 110), (109, 3), (10, 56), (10, 58), (108, 8), (10, 113), (10, 115), (109, 4), (10, 52), (10, 54), (108, 7), (10, 180), (10, 182), (110, 2), (10, 152), (10, 154), (109, 11), (10, 168), (10, 170), (109, 15), (10, 172), (10, 174), (110, 0), (10, 188), (10, 190), (110, 4), (10, 176), (10, 178), (110, 1), (10, 160), (10, 162), (109, 13), (10, 164), (10, 166), (109, 14), (10, 184), (10, 186), (110, 3), (10, 148), (10, 150), (109, 10), (10, 156), (10, 158), (109, 12), (10, 196), (10, 198), (110, 5), (10, 204), (10, 206), (110, 6), (10, 229), (10, 231), (110, 7), (11, 1), (11, 3), (110, 8), (11, 5), (11, 7), (110, 9), (11, 9), (10, 226), (10, 227), (11, 30), (11, 32), (110, 10), (11, 34), (11, 36), (110, 11), (7, 110), (7, 111), (7, 112), (7, 135), (7, 136), (7, 137), (7, 173), (7, 174), (7, 175), (7, 181), (7, 182), (7, 183), (7, 200), (7, 201), (7, 202), (7, 213), (7, 214), (7, 215), (7, 223), (7, 224), (7, 225), (7, 103), (7, 104), (1, 0), (1, 30), (1, 31), (8, 3), (8, 4), (3, 20), (3, 21), (3, 22), (7, 233), (7, 234), (7, 235), (3, 55), (3, 56), (3, 57), (9, 63), (9, 64), (9, 65), (6, 123)]
def vt_pM_7 : List (Nat × Nat) := [(6, 124), (6, 125), (11, 10), (11, 11), (11, 12), (6, 132), (6, 133), (6, 134), (11, 14), (11, 15), (11, 16), (6, 140), (6, 141), (6, 142), (11, 18), (11, 19), (11, 20), (7, 106), (7, 107), (1, 0), (11, 22), (11, 23), (11, 24), (7, 229), (7, 230), (7, 231), (6, 145), (6, 146), (6, 147), (11, 26), (11, 27), (11, 28), (6, 168), (6, 169), (6, 170), (10, 200), (10, 201), (10, 202), (7, 130), (7, 131), (1, 0), (10, 143), (10, 144), (10, 145), (7, 170), (7, 171), (1, 0), (10, 192), (10, 193), (10, 194), (7, 178), (7, 179), (1, 0), (10, 208), (10, 209), (10, 210), (7, 197), (7, 198), (1, 0), (10, 212), (10, 213), (10, 214), (6, 185), (6, 186), (6, 187), (10, 237), (10, 238), (10, 239), (7, 210), (7, 211), (1, 0), (10, 216), (10, 217), (10, 218), (7, 220), (7, 221), (1, 0), (10, 220), (10, 221), (10, 222), (7, 78), (7, 79), (7, 80), (10, 225), (10, 226), (10, 227), (7, 86), (7, 87), (7, 88), (10, 233), (10, 234), (10, 235), (7, 91), (7, 92), (7, 93), (11, 39), (11, 40), (11, 41)]
theorem vt_qM_0 : vt_pk (((vt_wM).drop 0).take 150) vt_pM_0 = true := by decide +kernel
theorem vt_qM_1 : vt_pk (((vt_wM).drop 150).take 150) vt_pM_1 = true := by decide +kernel
theorem vt_qM_2 : vt_pk (((vt_wM).drop 300).take 150) vt_pM_2 = true := by decide +kernel
theorem vt_qM_3 : vt_pk (((vt_wM).drop 450).take 150) vt_pM_3 = true := by decide +kernel
theorem vt_qM_4 : vt_pk (((vt_wM).drop 600).take 150) vt_pM_4 = true := by decide +kernel
theorem vt_qM_5 : vt_pk (((vt_wM).drop 750).take 150) vt_pM_5 = true := by decide +kernel
theorem vt_qM_6 : vt_pk (((vt_wM).drop 900).take 150) vt_pM_6 = true := by decide +kernel
theorem vt_qM_7 : vt_pk (((vt_wM).drop 1050).take 150) vt_pM_7 = true := by decide +kernel
theorem vt_qM_len : (vt_wM).length = 1148 := by decide +kernel
theorem vt_inM : ∀ x ∈ vt_wM, x ∈ lw_tbl := by
  have h8 : ∀ x ∈ (vt_wM).drop 1200, x ∈ lw_tbl := (fun x hx => by rw [List.drop_eq_nil_of_le (by rw [vt_qM_len]; decide)] at hx; cases hx)
  have h7 : ∀ x ∈ (vt_wM).drop 1050, x ∈ lw_tbl := vt_pk_app _ 150 _ vt_qM_7 (by rw [List.drop_drop]; exact h8)
  have h6 : ∀ x ∈ (vt_wM).drop 900, x ∈ lw_tbl := vt_pk_app _ 150 _ vt_qM_6 (by rw [List.drop_drop]; exact h7)
  have h5 : ∀ x ∈ (vt_wM).drop 750, x ∈ lw_tbl := vt_pk_app _ 150 _ vt_qM_5 (by rw [List.drop_drop]; exact h6)
  have h4 : ∀ x ∈ (vt_wM).drop 600, x ∈ lw_tbl := vt_pk_app _ 150 _ vt_qM_4 (by rw [List.drop_drop]; exact h5)
  have h3 : ∀ x ∈ (vt_wM).drop 450, x ∈ lw_tbl := vt_pk_app _ 150 _ vt_qM_3 (by rw [List.drop_drop]; exact h4)
  have h2 : ∀ x ∈ (vt_wM).drop 300, x ∈ lw_tbl := vt_pk_app _ 150 _ vt_qM_2 (by rw [List.drop_drop]; exact h3)
  have h1 : ∀ x ∈ (vt_wM).drop 150, x ∈ lw_tbl := vt_pk_app _ 150 _ vt_qM_1 (by rw [List.drop_drop]; exact h2)
  have h0 : ∀ x ∈ (vt_wM).drop 0, x ∈ lw_tbl := vt_pk_app _ 150 _ vt_qM_0 (by rw [List.drop_drop]; exact h1)
  exact h0
def vt_pN_0 : List (Nat × Nat) := [(1, 42), (1, 43), (1, 3), (1, 102), (1, 103), (1, 4), (2, 128), (2, 129), (1, 10), (3, 59), (4, 13), (1, 24), (7, 114), (7, 115), (1, 26), (7, 140), (7, 141), (1, 27), (1, 108), (1, 109), (1, 5), (2, 3), (2, 4), (1, 7), (2, 26), (2, 27), (1, 8), (2, 134), (2, 135), (1, 11), (1, 114), (1, 115), (1, 6), (1, 192), (4, 83), (1, 25), (4, 12), (4, 13), (1, 24), (2, 140), (2, 141), (1, 12), (2, 32), (2, 33), (1, 9), (1, 28), (1, 29), (1, 1), (8, 1), (8, 2), (1, 13)]
theorem vt_qN_0 : vt_pk (((vt_wN).drop 0).take 150) vt_pN_0 = true := by decide +kernel
theorem vt_qN_len : (vt_wN).length = 51 := by decide +kernel
theorem vt_inN : ∀ x ∈ vt_wN, x ∈ lw_tbl := by
  have h1 : ∀ x ∈ (vt_wN).drop 150, x ∈ lw_tbl := (fun x hx => by rw [List.drop_eq_nil_of_le (by rw [vt_qN_len]; decide)] at hx; cases hx)
  have h0 : ∀ x ∈ (vt_wN).drop 0, x ∈ lw_tbl := vt_pk_app _ 150 _ vt_qN_0 (by rw [List.drop_drop]; exact h1)
  exact h0
def vt_pV_0 : List (Nat × Nat) := [(6, 149), (7, 139), (7, 177), (7, 228), (6, 166), (6, 167), (5, 62), (5, 127), (6, 33), (3, 238), (6, 89), (5, 68), (5, 211), (5, 212), (6, 224), (3, 31), (3, 172), (3, 170), (3, 171), (2, 173), (7, 62), (5, 34), (8, 0), (9, 89), (9, 90), (9, 91), (8, 7), (10, 15), (10, 87), (10, 102), (10, 88), (10, 93), (10, 103), (10, 112), (10, 125), (10, 126), (10, 127), (10, 128), (10, 129), (10, 142), (10, 147), (10, 224), (11, 38), (11, 43)]
theorem vt_qV_0 : vt_pk (((vt_wV).drop 0).take 150) vt_pV_0 = true := by decide +kernel
theorem vt_qV_len : (vt_wV).length = 44 := by decide +kernel
theorem vt_inV : ∀ x ∈ vt_wV, x ∈ lw_tbl := by
  have h1 : ∀ x ∈ (vt_wV).drop 150, x ∈ lw_tbl := (fun x hx => by rw [List.drop_eq_nil_of_le (by rw [vt_qV_len]; decide)] at hx; cases hx)
  have h0 : ∀ x ∈ (vt_wV).drop 0, x ∈ lw_tbl := vt_pk_app _ 150 _ vt_qV_0 (by rw [List.drop_drop]; exact h1)
  exact h0
def vt_pA_0 : List (Nat × Nat) := [(1, 101), (1, 100), (2, 172), (9, 62), (1, 193), (1, 192)]
theorem vt_qA_0 : vt_pk (((vt_wA).drop 0).take 150) vt_pA_0 = true := by decide +kernel
theorem vt_qA_len : (vt_wA).length = 6 := by decide +kernel
theorem vt_inA : ∀ x ∈ vt_wA, x ∈ lw_tbl := by
  have h1 : ∀ x ∈ (vt_wA).drop 150, x ∈ lw_tbl := (fun x hx => by rw [List.drop_eq_nil_of_le (by rw [vt_qA_len]; decide)] at hx; cases hx)
  have h0 : ∀ x ∈ (vt_wA).drop 0, x ∈ lw_tbl := vt_pk_app _ 150 _ vt_qA_0 (by rw [List.drop_drop]; exact h1)
  exact h0
theorem vt_in {X : List Cond} (hX : ∀ x ∈ X, x ∈ lw_tbl) : ∀ x ∈ vt_Ts X, x ∈ lw_tbl := by
  intro x hx
  unfold vt_Ts at hx
  simp only [List.mem_append] at hx
  rcases hx with h | h | h | h | h | h | h | h
  · exact vt_inF x h
  · exact vt_inU x h
  · exact vt_inK x h
  · exact vt_inM x h
  · exact vt_inN x h
  · exact vt_inV x h
  · exact vt_inA x h
  · exact hX x h
