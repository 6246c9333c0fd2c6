/-! part 99.zzzzzzzzc: the store at the law's loop (printed by wip/whole/tools/genfirst.py) -/
def t0 (N : sx_N) : js_S := fun a i => if a = -1 then (if i = 0 then 137 else if i = 1 then (((1015957 + ((N.1 4).toNatClampNeg + 8 * (N.1 3).toNatClampNeg) : Nat)) : Int) else 0) else if a = 0 ∧ i = 4 then 6 else if a = 0 ∧ i = 5 then 31 else if a = 56 ∧ i = 1 then 7 else if a = 83 ∧ i = 55 then (N.1 7).toInt else if a = 19 ∨ a = 44 then -1 else 0
def w0_u85 : List (sx_v × sx_v) := [(.inl (.int 105), .inl (.int 32)), (.inl (.int 104), .inl (.int 112)), (.inl (.int 103), .inl (.int 109)), (.inl (.int 102), .inl (.int 97)), (.inl (.int 101), .inl (.int 108)), (.inl (.int 100), .inl (.int 99)), (.inl (.int 99), .inl (.int 32)), (.inl (.int 98), .inl (.int 115)), (.inl (.int 97), .inl (.int 98)), (.inl (.int 96), .inl (.int 97)), (.inl (.int 95), .inl (.int 32)), (.inl (.int 94), .inl (.int 120)), (.inl (.int 93), .inl (.int 97)), (.inl (.int 92), .inl (.int 109)), (.inl (.int 91), .inl (.int 32)), (.inl (.int 90), .inl (.int 110)), (.inl (.int 89), .inl (.int 105)), (.inl (.int 88), .inl (.int 109)), (.inl (.int 87), .inl (.int 32)), (.inl (.int 86), .inl (.int 101)), (.inl (.int 85), .inl (.int 115)), (.inl (.int 84), .inl (.int 108)), (.inl (.int 83), .inl (.int 97)), (.inl (.int 82), .inl (.int 102)), (.inl (.int 81), .inl (.int 32)), (.inl (.int 80), .inl (.int 101)), (.inl (.int 79), .inl (.int 117)), (.inl (.int 78), .inl (.int 114)), (.inl (.int 77), .inl (.int 116)), (.inl (.int 76), .inl (.int 32)), (.inl (.int 75), .inl (.int 108)), (.inl (.int 74), .inl (.int 111)), (.inl (.int 73), .inl (.int 111)), (.inl (.int 72), .inl (.int 98)), (.inl (.int 71), .inl (.int 32)), (.inl (.int 70), .inl (.int 101)), (.inl (.int 69), .inl (.int 108)), (.inl (.int 68), .inl (.int 99)), (.inl (.int 67), .inl (.int 121)), (.inl (.int 66), .inl (.int 99)), (.inl (.int 65), .inl (.int 32)), (.inl (.int 64), .inl (.int 110)), (.inl (.int 63), .inl (.int 114)), (.inl (.int 62), .inl (.int 117)), (.inl (.int 61), .inl (.int 116)), (.inl (.int 60), .inl (.int 101)), (.inl (.int 59), .inl (.int 114)), (.inl (.int 58), .inl (.int 32)), (.inl (.int 57), .inl (.int 116)), (.inl (.int 56), .inl (.int 114)), (.inl (.int 55), .inl (.int 101)), (.inl (.int 54), .inl (.int 115)), (.inl (.int 53), .inl (.int 115)), (.inl (.int 52), .inl (.int 97)), (.inl (.int 51), .inl (.int 32)), (.inl (.int 50), .inl (.int 111)), (.inl (.int 49), .inl (.int 116)), (.inl (.int 48), .inl (.int 32)), (.inl (.int 47), .inl (.int 114)), (.inl (.int 46), .inl (.int 111)), (.inl (.int 45), .inl (.int 102)), (.inl (.int 44), .inl (.int 32)), (.inl (.int 43), .inl (.int 101)), (.inl (.int 42), .inl (.int 115)), (.inl (.int 41), .inl (.int 97)), (.inl (.int 40), .inl (.int 99)), (.inl (.int 39), .inl (.int 32)), (.inl (.int 38), .inl (.int 101)), (.inl (.int 37), .inl (.int 115)), (.inl (.int 36), .inl (.int 108)), (.inl (.int 35), .inl (.int 101)), (.inl (.int 34), .inl (.int 32)), (.inl (.int 33), .inl (.int 102)), (.inl (.int 32), .inl (.int 105)), (.inl (.int 31), .inl (.int 32)), (.inl (.int 30), .inl (.int 110)), (.inl (.int 29), .inl (.int 117)), (.inl (.int 28), .inl (.int 102)), (.inl (.int 27), .inl (.int 32)), (.inl (.int 26), .inl (.int 114)), (.inl (.int 25), .inl (.int 97)), (.inl (.int 24), .inl (.int 118)), (.inl (.int 23), .inl (.int 32)), (.inl (.int 22), .inl (.int 101)), (.inl (.int 21), .inl (.int 116)), (.inl (.int 20), .inl (.int 97)), (.inl (.int 19), .inl (.int 116)), (.inl (.int 18), .inl (.int 115)), (.inl (.int 17), .inl (.int 32)), (.inl (.int 16), .inl (.int 116)), (.inl (.int 15), .inl (.int 117)), (.inl (.int 14), .inl (.int 111)), (.inl (.int 13), .inl (.int 32)), (.inl (.int 12), .inl (.int 110)), (.inl (.int 11), .inl (.int 105)), (.inl (.int 10), .inl (.int 32)), (.inl (.int 9), .inl (.int 101)), (.inl (.int 8), .inl (.int 112)), (.inl (.int 7), .inl (.int 121)), (.inl (.int 6), .inl (.int 116)), (.inl (.int 5), .inl (.int 32)), (.inl (.int 4), .inl (.int 116)), (.inl (.int 3), .inl (.int 115)), (.inl (.int 2), .inl (.int 110)), (.inl (.int 1), .inl (.int 111)), (.inl (.int 0), .inl (.int 99))]
def w0_u134 : List (sx_v × sx_v) := [(.inl (.int 133), .inl (.int 32)), (.inl (.int 132), .inl (.int 75)), (.inl (.int 131), .inl (.int 67)), (.inl (.int 130), .inl (.int 69)), (.inl (.int 129), .inl (.int 72)), (.inl (.int 128), .inl (.int 67)), (.inl (.int 127), .inl (.int 32)), (.inl (.int 126), .inl (.int 84)), (.inl (.int 125), .inl (.int 76)), (.inl (.int 124), .inl (.int 65)), (.inl (.int 123), .inl (.int 72)), (.inl (.int 122), .inl (.int 32)), (.inl (.int 121), .inl (.int 84)), (.inl (.int 120), .inl (.int 69)), (.inl (.int 119), .inl (.int 82)), (.inl (.int 118), .inl (.int 32)), (.inl (.int 117), .inl (.int 76)), (.inl (.int 116), .inl (.int 76)), (.inl (.int 115), .inl (.int 65)), (.inl (.int 114), .inl (.int 67)), (.inl (.int 113), .inl (.int 32)), (.inl (.int 112), .inl (.int 90)), (.inl (.int 111), .inl (.int 78)), (.inl (.int 110), .inl (.int 74)), (.inl (.int 109), .inl (.int 32)), (.inl (.int 108), .inl (.int 90)), (.inl (.int 107), .inl (.int 74)), (.inl (.int 106), .inl (.int 32)), (.inl (.int 105), .inl (.int 80)), (.inl (.int 104), .inl (.int 77)), (.inl (.int 103), .inl (.int 85)), (.inl (.int 102), .inl (.int 74)), (.inl (.int 101), .inl (.int 32)), (.inl (.int 100), .inl (.int 72)), (.inl (.int 99), .inl (.int 71)), (.inl (.int 98), .inl (.int 73)), (.inl (.int 97), .inl (.int 72)), (.inl (.int 96), .inl (.int 32)), (.inl (.int 95), .inl (.int 87)), (.inl (.int 94), .inl (.int 79)), (.inl (.int 93), .inl (.int 76)), (.inl (.int 92), .inl (.int 32)), (.inl (.int 91), .inl (.int 84)), (.inl (.int 90), .inl (.int 79)), (.inl (.int 89), .inl (.int 78)), (.inl (.int 88), .inl (.int 32)), (.inl (.int 87), .inl (.int 83)), (.inl (.int 86), .inl (.int 66)), (.inl (.int 85), .inl (.int 65)), (.inl (.int 84), .inl (.int 32)), (.inl (.int 83), .inl (.int 71)), (.inl (.int 82), .inl (.int 69)), (.inl (.int 81), .inl (.int 78)), (.inl (.int 80), .inl (.int 32)), (.inl (.int 79), .inl (.int 69)), (.inl (.int 78), .inl (.int 78)), (.inl (.int 77), .inl (.int 32)), (.inl (.int 76), .inl (.int 81)), (.inl (.int 75), .inl (.int 69)), (.inl (.int 74), .inl (.int 32)), (.inl (.int 73), .inl (.int 69)), (.inl (.int 72), .inl (.int 71)), (.inl (.int 71), .inl (.int 32)), (.inl (.int 70), .inl (.int 84)), (.inl (.int 69), .inl (.int 71)), (.inl (.int 68), .inl (.int 32)), (.inl (.int 67), .inl (.int 69)), (.inl (.int 66), .inl (.int 76)), (.inl (.int 65), .inl (.int 32)), (.inl (.int 64), .inl (.int 84)), (.inl (.int 63), .inl (.int 76)), (.inl (.int 62), .inl (.int 32)), (.inl (.int 61), .inl (.int 88)), (.inl (.int 60), .inl (.int 65)), (.inl (.int 59), .inl (.int 77)), (.inl (.int 58), .inl (.int 32)), (.inl (.int 57), .inl (.int 78)), (.inl (.int 56), .inl (.int 73)), (.inl (.int 55), .inl (.int 77)), (.inl (.int 54), .inl (.int 32)), (.inl (.int 53), .inl (.int 77)), (.inl (.int 52), .inl (.int 69)), (.inl (.int 51), .inl (.int 82)), (.inl (.int 50), .inl (.int 32)), (.inl (.int 49), .inl (.int 86)), (.inl (.int 48), .inl (.int 73)), (.inl (.int 47), .inl (.int 68)), (.inl (.int 46), .inl (.int 32)), (.inl (.int 45), .inl (.int 76)), (.inl (.int 44), .inl (.int 85)), (.inl (.int 43), .inl (.int 77)), (.inl (.int 42), .inl (.int 32)), (.inl (.int 41), .inl (.int 66)), (.inl (.int 40), .inl (.int 85)), (.inl (.int 39), .inl (.int 83)), (.inl (.int 38), .inl (.int 32)), (.inl (.int 37), .inl (.int 68)), (.inl (.int 36), .inl (.int 68)), (.inl (.int 35), .inl (.int 65)), (.inl (.int 34), .inl (.int 32)), (.inl (.int 33), .inl (.int 88)), (.inl (.int 32), .inl (.int 69)), (.inl (.int 31), .inl (.int 82)), (.inl (.int 30), .inl (.int 79)), (.inl (.int 29), .inl (.int 84)), (.inl (.int 28), .inl (.int 83)), (.inl (.int 27), .inl (.int 32)), (.inl (.int 26), .inl (.int 88)), (.inl (.int 25), .inl (.int 68)), (.inl (.int 24), .inl (.int 65)), (.inl (.int 23), .inl (.int 79)), (.inl (.int 22), .inl (.int 76)), (.inl (.int 21), .inl (.int 32)), (.inl (.int 20), .inl (.int 69)), (.inl (.int 19), .inl (.int 86)), (.inl (.int 18), .inl (.int 79)), (.inl (.int 17), .inl (.int 77)), (.inl (.int 16), .inl (.int 32)), (.inl (.int 15), .inl (.int 69)), (.inl (.int 14), .inl (.int 82)), (.inl (.int 13), .inl (.int 79)), (.inl (.int 12), .inl (.int 84)), (.inl (.int 11), .inl (.int 83)), (.inl (.int 10), .inl (.int 32)), (.inl (.int 9), .inl (.int 68)), (.inl (.int 8), .inl (.int 65)), (.inl (.int 7), .inl (.int 79)), (.inl (.int 6), .inl (.int 76)), (.inl (.int 5), .inl (.int 32)), (.inl (.int 4), .inl (.int 84)), (.inl (.int 3), .inl (.int 83)), (.inl (.int 2), .inl (.int 78)), (.inl (.int 1), .inl (.int 79)), (.inl (.int 0), .inl (.int 67))]
theorem w0_ub (N : sx_N) (b : Nat) (k : Nat) : ∀ us : List (sx_v × sx_v), (us.all fun u => match u with | (.inl (.int x), _) => decide (x.toNatClampNeg < b) | _ => false) = true → b ≤ k → sx_fi N 0 us k = 0
  | [], _, _ => rfl
  | u :: us, h, hk => by
    rw [List.all_cons, Bool.and_eq_true] at h
    have ih := w0_ub N b k us h.2 hk
    have hne : (sx_i N u.1).toNatClampNeg ≠ k := by
      have g := h.1
      match u, g with
      | (.inl (.int x), _), g =>
        have := of_decide_eq_true g
        show x.toNatClampNeg ≠ k
        omega
    show upd (sx_fi N 0 us) (sx_i N u.1).toNatClampNeg (sx_i N u.2) k = 0
    unfold upd
    rw [if_neg (fun q => hne q.symm)]
    exact ih
def w0_N : sx_N := (fun _ => 0, fun _ => 0, fun _ _ => 0, fun _ _ => 0, fun _ _ => none)
theorem w0_un (N : sx_N) (k : Nat) : ∀ us : List (sx_v × sx_v), (us.all fun u => match u with | (.inl (.int _), .inl (.int _)) => true | _ => false) = true → sx_fi N 0 us k = sx_fi w0_N 0 us k
  | [], _ => rfl
  | u :: us, h => by
    rw [List.all_cons, Bool.and_eq_true] at h
    have ih := w0_un N k us h.2
    have g := h.1
    match u, g with
    | (.inl (.int x), .inl (.int y)), _ =>
      show upd (sx_fi N 0 us) x.toNatClampNeg y k = upd (sx_fi w0_N 0 us) x.toNatClampNeg y k
      unfold upd
      rw [ih]
theorem w0_d85 : ((List.range 106).all fun i => decide (Int32.ofInt ((js_c85.getD i (0, 0)).2) = sx_fi w0_N 0 w0_u85 i)) = true := by decide +kernel
theorem w0_f85 {N : sx_N} : (fun i : Nat => Int32.ofInt ((js_c85.getD i (0, 0)).2)) = sx_fi N 0 w0_u85 := by
  funext i
  by_cases q : i < 106
  · rw [w0_un N i w0_u85 (by decide +kernel)]
    exact of_decide_eq_true (List.all_eq_true.mp w0_d85 i (List.mem_range.mpr q))
  · rw [w0_ub N 106 i w0_u85 (by decide +kernel) (by omega), List.getD_eq_getElem?_getD, List.getElem?_eq_none (show js_c85.length ≤ i by show 106 ≤ i; omega)]
    rfl
theorem w0_d134 : ((List.range 134).all fun i => decide (Int32.ofInt ((js_c134.getD i (0, 0)).2) = sx_fi w0_N 0 w0_u134 i)) = true := by decide +kernel
theorem w0_f134 {N : sx_N} : (fun i : Nat => Int32.ofInt ((js_c134.getD i (0, 0)).2)) = sx_fi N 0 w0_u134 := by
  funext i
  by_cases q : i < 134
  · rw [w0_un N i w0_u134 (by decide +kernel)]
    exact of_decide_eq_true (List.all_eq_true.mp w0_d134 i (List.mem_range.mpr q))
  · rw [w0_ub N 134 i w0_u134 (by decide +kernel) (by omega), List.getD_eq_getElem?_getD, List.getElem?_eq_none (show js_c134.length ≤ i by show 134 ≤ i; omega)]
    rfl
section W0
variable {N : sx_N}
theorem w0_0 : js_cell (N.1 3).toInt (t0 N) 0 = (vl_WC.1[0]?).map (sx_ed N) := rfl
theorem w0_1 : js_cell (N.1 3).toInt (t0 N) 1 = (vl_WC.1[1]?).map (sx_ed N) := rfl
theorem w0_2 : js_cell (N.1 3).toInt (t0 N) 2 = (vl_WC.1[2]?).map (sx_ed N) := rfl
theorem w0_3 : js_cell (N.1 3).toInt (t0 N) 3 = (vl_WC.1[3]?).map (sx_ed N) := rfl
theorem w0_4 : js_cell (N.1 3).toInt (t0 N) 4 = (vl_WC.1[4]?).map (sx_ed N) := rfl
theorem w0_5 : js_cell (N.1 3).toInt (t0 N) 5 = (vl_WC.1[5]?).map (sx_ed N) := rfl
theorem w0_6 : js_cell (N.1 3).toInt (t0 N) 6 = (vl_WC.1[6]?).map (sx_ed N) := by
  show some (Sum.inr (4, [Value.ref 7, Value.ref 1, Value.int (Int32.ofInt (N.1 3).toInt), Value.ref 21, Value.ref 22])) = _
  rw [Int32.ofInt_toInt]
  rfl
theorem w0_7 : js_cell (N.1 3).toInt (t0 N) 7 = (vl_WC.1[7]?).map (sx_ed N) := rfl
theorem w0_8 : js_cell (N.1 3).toInt (t0 N) 8 = (vl_WC.1[8]?).map (sx_ed N) := rfl
theorem w0_9 : js_cell (N.1 3).toInt (t0 N) 9 = (vl_WC.1[9]?).map (sx_ed N) := rfl
theorem w0_10 : js_cell (N.1 3).toInt (t0 N) 10 = (vl_WC.1[10]?).map (sx_ed N) := rfl
theorem w0_11 : js_cell (N.1 3).toInt (t0 N) 11 = (vl_WC.1[11]?).map (sx_ed N) := rfl
theorem w0_12 : js_cell (N.1 3).toInt (t0 N) 12 = (vl_WC.1[12]?).map (sx_ed N) := rfl
theorem w0_13 : js_cell (N.1 3).toInt (t0 N) 13 = (vl_WC.1[13]?).map (sx_ed N) := rfl
theorem w0_14 : js_cell (N.1 3).toInt (t0 N) 14 = (vl_WC.1[14]?).map (sx_ed N) := rfl
theorem w0_15 : js_cell (N.1 3).toInt (t0 N) 15 = (vl_WC.1[15]?).map (sx_ed N) := rfl
theorem w0_16 : js_cell (N.1 3).toInt (t0 N) 16 = (vl_WC.1[16]?).map (sx_ed N) := rfl
theorem w0_17 : js_cell (N.1 3).toInt (t0 N) 17 = (vl_WC.1[17]?).map (sx_ed N) := rfl
theorem w0_18 : js_cell (N.1 3).toInt (t0 N) 18 = (vl_WC.1[18]?).map (sx_ed N) := rfl
theorem w0_19 : js_cell (N.1 3).toInt (t0 N) 19 = (vl_WC.1[19]?).map (sx_ed N) := rfl
theorem w0_20 : js_cell (N.1 3).toInt (t0 N) 20 = (vl_WC.1[20]?).map (sx_ed N) := rfl
theorem w0_21 : js_cell (N.1 3).toInt (t0 N) 21 = (vl_WC.1[21]?).map (sx_ed N) := rfl
theorem w0_22 : js_cell (N.1 3).toInt (t0 N) 22 = (vl_WC.1[22]?).map (sx_ed N) := rfl
theorem w0_23 : js_cell (N.1 3).toInt (t0 N) 23 = (vl_WC.1[23]?).map (sx_ed N) := rfl
theorem w0_24 : js_cell (N.1 3).toInt (t0 N) 24 = (vl_WC.1[24]?).map (sx_ed N) := rfl
theorem w0_25 : js_cell (N.1 3).toInt (t0 N) 25 = (vl_WC.1[25]?).map (sx_ed N) := rfl
theorem w0_26 : js_cell (N.1 3).toInt (t0 N) 26 = (vl_WC.1[26]?).map (sx_ed N) := rfl
theorem w0_27 : js_cell (N.1 3).toInt (t0 N) 27 = (vl_WC.1[27]?).map (sx_ed N) := rfl
theorem w0_28 : js_cell (N.1 3).toInt (t0 N) 28 = (vl_WC.1[28]?).map (sx_ed N) := rfl
theorem w0_29 : js_cell (N.1 3).toInt (t0 N) 29 = (vl_WC.1[29]?).map (sx_ed N) := rfl
theorem w0_30 : js_cell (N.1 3).toInt (t0 N) 30 = (vl_WC.1[30]?).map (sx_ed N) := rfl
theorem w0_31 : js_cell (N.1 3).toInt (t0 N) 31 = (vl_WC.1[31]?).map (sx_ed N) := by
  show some (Sum.inr (4, [Value.ref 32, Value.ref 1, Value.int (Int32.ofInt (N.1 3).toInt), Value.ref 46, Value.ref 47])) = _
  rw [Int32.ofInt_toInt]
  rfl
theorem w0_32 : js_cell (N.1 3).toInt (t0 N) 32 = (vl_WC.1[32]?).map (sx_ed N) := rfl
theorem w0_33 : js_cell (N.1 3).toInt (t0 N) 33 = (vl_WC.1[33]?).map (sx_ed N) := rfl
theorem w0_34 : js_cell (N.1 3).toInt (t0 N) 34 = (vl_WC.1[34]?).map (sx_ed N) := rfl
theorem w0_35 : js_cell (N.1 3).toInt (t0 N) 35 = (vl_WC.1[35]?).map (sx_ed N) := rfl
theorem w0_36 : js_cell (N.1 3).toInt (t0 N) 36 = (vl_WC.1[36]?).map (sx_ed N) := rfl
theorem w0_37 : js_cell (N.1 3).toInt (t0 N) 37 = (vl_WC.1[37]?).map (sx_ed N) := rfl
theorem w0_38 : js_cell (N.1 3).toInt (t0 N) 38 = (vl_WC.1[38]?).map (sx_ed N) := rfl
theorem w0_39 : js_cell (N.1 3).toInt (t0 N) 39 = (vl_WC.1[39]?).map (sx_ed N) := rfl
theorem w0_40 : js_cell (N.1 3).toInt (t0 N) 40 = (vl_WC.1[40]?).map (sx_ed N) := rfl
theorem w0_41 : js_cell (N.1 3).toInt (t0 N) 41 = (vl_WC.1[41]?).map (sx_ed N) := rfl
theorem w0_42 : js_cell (N.1 3).toInt (t0 N) 42 = (vl_WC.1[42]?).map (sx_ed N) := rfl
theorem w0_43 : js_cell (N.1 3).toInt (t0 N) 43 = (vl_WC.1[43]?).map (sx_ed N) := rfl
theorem w0_44 : js_cell (N.1 3).toInt (t0 N) 44 = (vl_WC.1[44]?).map (sx_ed N) := rfl
theorem w0_45 : js_cell (N.1 3).toInt (t0 N) 45 = (vl_WC.1[45]?).map (sx_ed N) := rfl
theorem w0_46 : js_cell (N.1 3).toInt (t0 N) 46 = (vl_WC.1[46]?).map (sx_ed N) := rfl
theorem w0_47 : js_cell (N.1 3).toInt (t0 N) 47 = (vl_WC.1[47]?).map (sx_ed N) := rfl
theorem w0_48 : js_cell (N.1 3).toInt (t0 N) 48 = (vl_WC.1[48]?).map (sx_ed N) := rfl
theorem w0_49 : js_cell (N.1 3).toInt (t0 N) 49 = (vl_WC.1[49]?).map (sx_ed N) := rfl
theorem w0_50 : js_cell (N.1 3).toInt (t0 N) 50 = (vl_WC.1[50]?).map (sx_ed N) := rfl
theorem w0_51 : js_cell (N.1 3).toInt (t0 N) 51 = (vl_WC.1[51]?).map (sx_ed N) := rfl
theorem w0_52 : js_cell (N.1 3).toInt (t0 N) 52 = (vl_WC.1[52]?).map (sx_ed N) := rfl
theorem w0_53 : js_cell (N.1 3).toInt (t0 N) 53 = (vl_WC.1[53]?).map (sx_ed N) := rfl
theorem w0_54 : js_cell (N.1 3).toInt (t0 N) 54 = (vl_WC.1[54]?).map (sx_ed N) := rfl
theorem w0_55 : js_cell (N.1 3).toInt (t0 N) 55 = (vl_WC.1[55]?).map (sx_ed N) := rfl
theorem w0_56 : js_cell (N.1 3).toInt (t0 N) 56 = (vl_WC.1[56]?).map (sx_ed N) := rfl
theorem w0_57 : js_cell (N.1 3).toInt (t0 N) 57 = (vl_WC.1[57]?).map (sx_ed N) := rfl
theorem w0_58 : js_cell (N.1 3).toInt (t0 N) 58 = (vl_WC.1[58]?).map (sx_ed N) := rfl
theorem w0_59 : js_cell (N.1 3).toInt (t0 N) 59 = (vl_WC.1[59]?).map (sx_ed N) := rfl
theorem w0_60 : js_cell (N.1 3).toInt (t0 N) 60 = (vl_WC.1[60]?).map (sx_ed N) := rfl
theorem w0_61 : js_cell (N.1 3).toInt (t0 N) 61 = (vl_WC.1[61]?).map (sx_ed N) := rfl
theorem w0_62 : js_cell (N.1 3).toInt (t0 N) 62 = (vl_WC.1[62]?).map (sx_ed N) := rfl
theorem w0_63 : js_cell (N.1 3).toInt (t0 N) 63 = (vl_WC.1[63]?).map (sx_ed N) := rfl
theorem w0_64 : js_cell (N.1 3).toInt (t0 N) 64 = (vl_WC.1[64]?).map (sx_ed N) := rfl
theorem w0_65 : js_cell (N.1 3).toInt (t0 N) 65 = (vl_WC.1[65]?).map (sx_ed N) := rfl
theorem w0_66 : js_cell (N.1 3).toInt (t0 N) 66 = (vl_WC.1[66]?).map (sx_ed N) := rfl
theorem w0_67 : js_cell (N.1 3).toInt (t0 N) 67 = (vl_WC.1[67]?).map (sx_ed N) := rfl
theorem w0_68 : js_cell (N.1 3).toInt (t0 N) 68 = (vl_WC.1[68]?).map (sx_ed N) := rfl
theorem w0_69 : js_cell (N.1 3).toInt (t0 N) 69 = (vl_WC.1[69]?).map (sx_ed N) := rfl
theorem w0_70 : js_cell (N.1 3).toInt (t0 N) 70 = (vl_WC.1[70]?).map (sx_ed N) := rfl
theorem w0_71 : js_cell (N.1 3).toInt (t0 N) 71 = (vl_WC.1[71]?).map (sx_ed N) := rfl
theorem w0_72 : js_cell (N.1 3).toInt (t0 N) 72 = (vl_WC.1[72]?).map (sx_ed N) := rfl
theorem w0_73 : js_cell (N.1 3).toInt (t0 N) 73 = (vl_WC.1[73]?).map (sx_ed N) := rfl
theorem w0_74 : js_cell (N.1 3).toInt (t0 N) 74 = (vl_WC.1[74]?).map (sx_ed N) := rfl
theorem w0_75 : js_cell (N.1 3).toInt (t0 N) 75 = (vl_WC.1[75]?).map (sx_ed N) := rfl
theorem w0_76 : js_cell (N.1 3).toInt (t0 N) 76 = (vl_WC.1[76]?).map (sx_ed N) := rfl
theorem w0_77 : js_cell (N.1 3).toInt (t0 N) 77 = (vl_WC.1[77]?).map (sx_ed N) := rfl
theorem w0_78 : js_cell (N.1 3).toInt (t0 N) 78 = (vl_WC.1[78]?).map (sx_ed N) := rfl
theorem w0_79 : js_cell (N.1 3).toInt (t0 N) 79 = (vl_WC.1[79]?).map (sx_ed N) := rfl
theorem w0_80 : js_cell (N.1 3).toInt (t0 N) 80 = (vl_WC.1[80]?).map (sx_ed N) := rfl
theorem w0_81 (h : (16 * (N.1 3).toInt).toNat = (N.1 4).toNatClampNeg) : js_cell (N.1 3).toInt (t0 N) 81 = (vl_WC.1[81]?).map (sx_ed N) := by
  show some (Sum.inl (0, (16 * (N.1 3).toInt).toNat, Sum.inl (fun _ => Int32.ofInt 0))) = _
  rw [h]
  rfl
theorem w0_82 : js_cell (N.1 3).toInt (t0 N) 82 = (vl_WC.1[82]?).map (sx_ed N) := rfl
theorem w0_83 : js_cell (N.1 3).toInt (t0 N) 83 = (vl_WC.1[83]?).map (sx_ed N) := by
  have e : Int32.ofInt (t0 N 83 55) = N.1 7 := Int32.ofInt_toInt _
  have a : js_cell (N.1 3).toInt (t0 N) 83 = some (Sum.inr (12, js_fs ((js_tab1 (N.1 3).toInt).getD 37 (0, 0, [])).2.2 0 (t0 N 83))) := rfl
  rw [a]
  have c : js_fs ((js_tab1 (N.1 3).toInt).getD 37 (0, 0, [])).2.2 0 (t0 N 83) = js_fs (((js_tab1 (N.1 3).toInt).getD 37 (0, 0, [])).2.2.take 55) 0 (t0 N 83) ++ (Value.int (Int32.ofInt (t0 N 83 55)) :: js_fs (((js_tab1 (N.1 3).toInt).getD 37 (0, 0, [])).2.2.drop 56) 56 (t0 N 83)) := rfl
  rw [c, e]
  rfl
theorem w0_84 : js_cell (N.1 3).toInt (t0 N) 84 = (vl_WC.1[84]?).map (sx_ed N) := rfl
theorem w0_85 : js_cell (N.1 3).toInt (t0 N) 85 = (vl_WC.1[85]?).map (sx_ed N) := by
  have a : js_cell (N.1 3).toInt (t0 N) 85 = some (Sum.inl (1, 106, Sum.inl (fun i => Int32.ofInt ((js_c85.getD i (0, 0)).2)))) := rfl
  have b : (vl_WC.1[85]?).map (sx_ed N) = some (Sum.inl (1, 106, Sum.inl (sx_fi N 0 w0_u85))) := rfl
  rw [a, b, w0_f85]
theorem w0_86 : js_cell (N.1 3).toInt (t0 N) 86 = (vl_WC.1[86]?).map (sx_ed N) := rfl
theorem w0_87 : js_cell (N.1 3).toInt (t0 N) 87 = (vl_WC.1[87]?).map (sx_ed N) := rfl
theorem w0_88 : js_cell (N.1 3).toInt (t0 N) 88 = (vl_WC.1[88]?).map (sx_ed N) := rfl
theorem w0_89 : js_cell (N.1 3).toInt (t0 N) 89 = (vl_WC.1[89]?).map (sx_ed N) := rfl
theorem w0_90 : js_cell (N.1 3).toInt (t0 N) 90 = (vl_WC.1[90]?).map (sx_ed N) := rfl
theorem w0_91 : js_cell (N.1 3).toInt (t0 N) 91 = (vl_WC.1[91]?).map (sx_ed N) := rfl
theorem w0_92 : js_cell (N.1 3).toInt (t0 N) 92 = (vl_WC.1[92]?).map (sx_ed N) := rfl
theorem w0_93 : js_cell (N.1 3).toInt (t0 N) 93 = (vl_WC.1[93]?).map (sx_ed N) := rfl
theorem w0_94 : js_cell (N.1 3).toInt (t0 N) 94 = (vl_WC.1[94]?).map (sx_ed N) := rfl
theorem w0_95 : js_cell (N.1 3).toInt (t0 N) 95 = (vl_WC.1[95]?).map (sx_ed N) := rfl
theorem w0_96 : js_cell (N.1 3).toInt (t0 N) 96 = (vl_WC.1[96]?).map (sx_ed N) := rfl
theorem w0_97 : js_cell (N.1 3).toInt (t0 N) 97 = (vl_WC.1[97]?).map (sx_ed N) := rfl
theorem w0_98 : js_cell (N.1 3).toInt (t0 N) 98 = (vl_WC.1[98]?).map (sx_ed N) := rfl
theorem w0_99 : js_cell (N.1 3).toInt (t0 N) 99 = (vl_WC.1[99]?).map (sx_ed N) := rfl
theorem w0_100 : js_cell (N.1 3).toInt (t0 N) 100 = (vl_WC.1[100]?).map (sx_ed N) := rfl
theorem w0_101 : js_cell (N.1 3).toInt (t0 N) 101 = (vl_WC.1[101]?).map (sx_ed N) := rfl
theorem w0_102 : js_cell (N.1 3).toInt (t0 N) 102 = (vl_WC.1[102]?).map (sx_ed N) := rfl
theorem w0_103 : js_cell (N.1 3).toInt (t0 N) 103 = (vl_WC.1[103]?).map (sx_ed N) := rfl
theorem w0_104 : js_cell (N.1 3).toInt (t0 N) 104 = (vl_WC.1[104]?).map (sx_ed N) := rfl
theorem w0_105 : js_cell (N.1 3).toInt (t0 N) 105 = (vl_WC.1[105]?).map (sx_ed N) := rfl
theorem w0_106 : js_cell (N.1 3).toInt (t0 N) 106 = (vl_WC.1[106]?).map (sx_ed N) := rfl
theorem w0_107 : js_cell (N.1 3).toInt (t0 N) 107 = (vl_WC.1[107]?).map (sx_ed N) := rfl
theorem w0_108 : js_cell (N.1 3).toInt (t0 N) 108 = (vl_WC.1[108]?).map (sx_ed N) := rfl
theorem w0_109 : js_cell (N.1 3).toInt (t0 N) 109 = (vl_WC.1[109]?).map (sx_ed N) := rfl
theorem w0_110 : js_cell (N.1 3).toInt (t0 N) 110 = (vl_WC.1[110]?).map (sx_ed N) := rfl
theorem w0_111 : js_cell (N.1 3).toInt (t0 N) 111 = (vl_WC.1[111]?).map (sx_ed N) := rfl
theorem w0_112 : js_cell (N.1 3).toInt (t0 N) 112 = (vl_WC.1[112]?).map (sx_ed N) := rfl
theorem w0_113 : js_cell (N.1 3).toInt (t0 N) 113 = (vl_WC.1[113]?).map (sx_ed N) := rfl
theorem w0_114 : js_cell (N.1 3).toInt (t0 N) 114 = (vl_WC.1[114]?).map (sx_ed N) := rfl
theorem w0_115 : js_cell (N.1 3).toInt (t0 N) 115 = (vl_WC.1[115]?).map (sx_ed N) := rfl
theorem w0_116 : js_cell (N.1 3).toInt (t0 N) 116 = (vl_WC.1[116]?).map (sx_ed N) := rfl
theorem w0_117 : js_cell (N.1 3).toInt (t0 N) 117 = (vl_WC.1[117]?).map (sx_ed N) := rfl
theorem w0_118 : js_cell (N.1 3).toInt (t0 N) 118 = (vl_WC.1[118]?).map (sx_ed N) := rfl
theorem w0_119 : js_cell (N.1 3).toInt (t0 N) 119 = (vl_WC.1[119]?).map (sx_ed N) := rfl
theorem w0_120 : js_cell (N.1 3).toInt (t0 N) 120 = (vl_WC.1[120]?).map (sx_ed N) := rfl
theorem w0_121 : js_cell (N.1 3).toInt (t0 N) 121 = (vl_WC.1[121]?).map (sx_ed N) := rfl
theorem w0_122 : js_cell (N.1 3).toInt (t0 N) 122 = (vl_WC.1[122]?).map (sx_ed N) := rfl
theorem w0_123 : js_cell (N.1 3).toInt (t0 N) 123 = (vl_WC.1[123]?).map (sx_ed N) := rfl
theorem w0_124 : js_cell (N.1 3).toInt (t0 N) 124 = (vl_WC.1[124]?).map (sx_ed N) := rfl
theorem w0_125 : js_cell (N.1 3).toInt (t0 N) 125 = (vl_WC.1[125]?).map (sx_ed N) := rfl
theorem w0_126 : js_cell (N.1 3).toInt (t0 N) 126 = (vl_WC.1[126]?).map (sx_ed N) := rfl
theorem w0_127 : js_cell (N.1 3).toInt (t0 N) 127 = (vl_WC.1[127]?).map (sx_ed N) := rfl
theorem w0_128 : js_cell (N.1 3).toInt (t0 N) 128 = (vl_WC.1[128]?).map (sx_ed N) := rfl
theorem w0_129 : js_cell (N.1 3).toInt (t0 N) 129 = (vl_WC.1[129]?).map (sx_ed N) := rfl
theorem w0_130 : js_cell (N.1 3).toInt (t0 N) 130 = (vl_WC.1[130]?).map (sx_ed N) := rfl
theorem w0_131 : js_cell (N.1 3).toInt (t0 N) 131 = (vl_WC.1[131]?).map (sx_ed N) := rfl
theorem w0_132 : js_cell (N.1 3).toInt (t0 N) 132 = (vl_WC.1[132]?).map (sx_ed N) := rfl
theorem w0_133 : js_cell (N.1 3).toInt (t0 N) 133 = (vl_WC.1[133]?).map (sx_ed N) := rfl
theorem w0_134 : js_cell (N.1 3).toInt (t0 N) 134 = (vl_WC.1[134]?).map (sx_ed N) := by
  have a : js_cell (N.1 3).toInt (t0 N) 134 = some (Sum.inl (1, 134, Sum.inl (fun i => Int32.ofInt ((js_c134.getD i (0, 0)).2)))) := rfl
  have b : (vl_WC.1[134]?).map (sx_ed N) = some (Sum.inl (1, 134, Sum.inl (sx_fi N 0 w0_u134))) := rfl
  rw [a, b, w0_f134]
theorem w0_135 : js_cell (N.1 3).toInt (t0 N) 135 = (vl_WC.1[135]?).map (sx_ed N) := rfl
theorem w0_136 : js_cell (N.1 3).toInt (t0 N) 136 = (vl_WC.1[136]?).map (sx_ed N) := rfl
theorem w0_all (h : (16 * (N.1 3).toInt).toNat = (N.1 4).toNatClampNeg) : ∀ q : Nat, q < 137 → js_cell (N.1 3).toInt (t0 N) q = (vl_WC.1[q]?).map (sx_ed N)
  | 0, _ => w0_0
  | 1, _ => w0_1
  | 2, _ => w0_2
  | 3, _ => w0_3
  | 4, _ => w0_4
  | 5, _ => w0_5
  | 6, _ => w0_6
  | 7, _ => w0_7
  | 8, _ => w0_8
  | 9, _ => w0_9
  | 10, _ => w0_10
  | 11, _ => w0_11
  | 12, _ => w0_12
  | 13, _ => w0_13
  | 14, _ => w0_14
  | 15, _ => w0_15
  | 16, _ => w0_16
  | 17, _ => w0_17
  | 18, _ => w0_18
  | 19, _ => w0_19
  | 20, _ => w0_20
  | 21, _ => w0_21
  | 22, _ => w0_22
  | 23, _ => w0_23
  | 24, _ => w0_24
  | 25, _ => w0_25
  | 26, _ => w0_26
  | 27, _ => w0_27
  | 28, _ => w0_28
  | 29, _ => w0_29
  | 30, _ => w0_30
  | 31, _ => w0_31
  | 32, _ => w0_32
  | 33, _ => w0_33
  | 34, _ => w0_34
  | 35, _ => w0_35
  | 36, _ => w0_36
  | 37, _ => w0_37
  | 38, _ => w0_38
  | 39, _ => w0_39
  | 40, _ => w0_40
  | 41, _ => w0_41
  | 42, _ => w0_42
  | 43, _ => w0_43
  | 44, _ => w0_44
  | 45, _ => w0_45
  | 46, _ => w0_46
  | 47, _ => w0_47
  | 48, _ => w0_48
  | 49, _ => w0_49
  | 50, _ => w0_50
  | 51, _ => w0_51
  | 52, _ => w0_52
  | 53, _ => w0_53
  | 54, _ => w0_54
  | 55, _ => w0_55
  | 56, _ => w0_56
  | 57, _ => w0_57
  | 58, _ => w0_58
  | 59, _ => w0_59
  | 60, _ => w0_60
  | 61, _ => w0_61
  | 62, _ => w0_62
  | 63, _ => w0_63
  | 64, _ => w0_64
  | 65, _ => w0_65
  | 66, _ => w0_66
  | 67, _ => w0_67
  | 68, _ => w0_68
  | 69, _ => w0_69
  | 70, _ => w0_70
  | 71, _ => w0_71
  | 72, _ => w0_72
  | 73, _ => w0_73
  | 74, _ => w0_74
  | 75, _ => w0_75
  | 76, _ => w0_76
  | 77, _ => w0_77
  | 78, _ => w0_78
  | 79, _ => w0_79
  | 80, _ => w0_80
  | 81, _ => w0_81 h
  | 82, _ => w0_82
  | 83, _ => w0_83
  | 84, _ => w0_84
  | 85, _ => w0_85
  | 86, _ => w0_86
  | 87, _ => w0_87
  | 88, _ => w0_88
  | 89, _ => w0_89
  | 90, _ => w0_90
  | 91, _ => w0_91
  | 92, _ => w0_92
  | 93, _ => w0_93
  | 94, _ => w0_94
  | 95, _ => w0_95
  | 96, _ => w0_96
  | 97, _ => w0_97
  | 98, _ => w0_98
  | 99, _ => w0_99
  | 100, _ => w0_100
  | 101, _ => w0_101
  | 102, _ => w0_102
  | 103, _ => w0_103
  | 104, _ => w0_104
  | 105, _ => w0_105
  | 106, _ => w0_106
  | 107, _ => w0_107
  | 108, _ => w0_108
  | 109, _ => w0_109
  | 110, _ => w0_110
  | 111, _ => w0_111
  | 112, _ => w0_112
  | 113, _ => w0_113
  | 114, _ => w0_114
  | 115, _ => w0_115
  | 116, _ => w0_116
  | 117, _ => w0_117
  | 118, _ => w0_118
  | 119, _ => w0_119
  | 120, _ => w0_120
  | 121, _ => w0_121
  | 122, _ => w0_122
  | 123, _ => w0_123
  | 124, _ => w0_124
  | 125, _ => w0_125
  | 126, _ => w0_126
  | 127, _ => w0_127
  | 128, _ => w0_128
  | 129, _ => w0_129
  | 130, _ => w0_130
  | 131, _ => w0_131
  | 132, _ => w0_132
  | 133, _ => w0_133
  | 134, _ => w0_134
  | 135, _ => w0_135
  | 136, _ => w0_136
  | n + 137, hq => absurd hq (by omega)
end W0
