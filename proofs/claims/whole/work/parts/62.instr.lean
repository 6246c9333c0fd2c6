/-! part 62: an equation of js_J for each instruction (printed by wip/whole/tools/gen62.py) -/
section JSI
variable {E : js_E} {d y pc : Nat} {ls st : List js_v} {σ : js_S}
def js_iand (a b : Int) : Int := (Int32.ofInt a &&& Int32.ofInt b).toInt
def js_ixor (a b : Int) : Int := (Int32.ofInt a ^^^ Int32.ofInt b).toInt
def js_land (a b : Int) : Int := (Int64.ofInt a &&& Int64.ofInt b).toInt
def js_lor (a b : Int) : Int := (Int64.ofInt a ||| Int64.ofInt b).toInt
def js_lxor (a b : Int) : Int := (Int64.ofInt a ^^^ Int64.ofInt b).toInt
def js_lshl (a b : Int) : Int := (Int64.ofInt a <<< ((Int32.ofInt b).toInt64 &&& 63)).toInt
def js_lshr (a b : Int) : Int := (Int64.ofInt a >>> ((Int32.ofInt b).toInt64 &&& 63)).toInt
def js_lushr (a b : Int) : Int := (((Int64.ofInt a).toUInt64 >>> ((Int32.ofInt b).toInt64.toUInt64 &&& Int64.toUInt64 63)).toInt64).toInt
def js_i2b (a : Int) : Int := ((Int32.ofInt a).toInt8.toInt32).toInt
def js_i2c (a : Int) : Int := (((Int32.ofInt a).toUInt32 % 65536).toInt32).toInt
theorem js_rfc (a : Int) : (js_rf a).category = 1 := by
  unfold js_rf
  split <;> rfl
theorem js_isR (a : Int) : ip_isR (js_rf a) = true := by
  unfold js_rf
  split <;> rfl
theorem js_rf_of {a : Int} (h : 0 ≤ a) : js_rf a = .ref a.toNat := if_neg (by omega)
theorem js_w_inj (x y : Int) : Int32.ofInt x = Int32.ofInt y ↔ js_w x = js_w y := Int32.toInt_inj.symm
theorem js_w_lt (x y : Int) : Int32.ofInt x < Int32.ofInt y ↔ js_w x < js_w y := Int32.lt_iff_toInt_lt
theorem js_w_le (x y : Int) : Int32.ofInt x ≤ Int32.ofInt y ↔ js_w x ≤ js_w y := Int32.le_iff_toInt_le
theorem js_l_inj (x y : Int) : Int64.ofInt x = Int64.ofInt y ↔ js_l x = js_l y := Int64.toInt_inj.symm
theorem js_l_lt (x y : Int) : Int64.ofInt x < Int64.ofInt y ↔ js_l x < js_l y := Int64.lt_iff_toInt_lt
def js_okI (nL : Nat) (i : Instr) : Bool := match i with
  | .istore_n k => decide ((k : Nat) < nL)
  | .istore k => decide (k < nL)
  | .astore_n k => decide ((k : Nat) < nL)
  | .astore k => decide (k < nL)
  | .iinc k _ => decide (k < nL)
  | .lstore_n k => decide ((k : Nat) + 1 < nL)
  | .lstore k => decide (k + 1 < nL)
  | .lookupswitch _ ps => (ps.toList.zip (ps.toList.drop 1)).all (fun (a, next) => a.1 < next.1)
  | _ => true
theorem js_okA : (List.range 310).all (fun y => (vt_pr.getD y (⟨#[]⟩, [])).2.all (fun q => js_okI (vt_ml.getD y 0) q.2.1)) = true := by decide +kernel
theorem js_okL : vt_pr.length = 310 := by decide +kernel
theorem js_ok {i : Instr} {n : Nat} (h : js_I y pc = some (i, n)) : js_okI (vt_ml.getD y 0) i = true := by
  by_cases hy : y < 310
  · have h1 := List.all_eq_true.mp (List.all_eq_true.mp js_okA y (List.mem_range.mpr hy)) _ (ip_lk_mem _ _ _ h)
    exact h1
  · unfold js_I at h
    rw [List.getD_eq_getElem?_getD, List.getElem?_eq_none (by rw [js_okL]; omega)] at h
    cases h
theorem j_iconst {n : Int} (hI : js_I y pc = some (.iconst n, 1)) : js_J E d y pc ls (st) σ = js_J E d y (pc + 1) ls ((0, n) :: st) σ := by
  refine js_si (r := (pc + 1, js_L ls 0, List.map js_V ((0, n) :: st), js_wd E.1 σ)) hI rfl rfl ?_
  rfl
theorem j_bipush {n x : Int} (hI : js_I y pc = some (.bipush n, 2)) (h : (Int8.ofInt n).toInt32 = Int32.ofInt x) : js_J E d y pc ls (st) σ = js_J E d y (pc + 2) ls ((0, x) :: st) σ := by
  refine js_si (r := (pc + 2, js_L ls 0, List.map js_V ((0, x) :: st), js_wd E.1 σ)) hI rfl rfl ?_
  show some (pc + 2, _, Value.int (Int8.ofInt n).toInt32 :: _, _) = some (pc + 2, _, Value.int (Int32.ofInt x) :: _, _)
  rw [h]
theorem j_sipush {n x : Int} (hI : js_I y pc = some (.sipush n, 3)) (h : (Int16.ofInt n).toInt32 = Int32.ofInt x) : js_J E d y pc ls (st) σ = js_J E d y (pc + 3) ls ((0, x) :: st) σ := by
  refine js_si (r := (pc + 3, js_L ls 0, List.map js_V ((0, x) :: st), js_wd E.1 σ)) hI rfl rfl ?_
  show some (pc + 3, _, Value.int (Int16.ofInt n).toInt32 :: _, _) = some (pc + 3, _, Value.int (Int32.ofInt x) :: _, _)
  rw [h]
theorem j_lconst0 (hI : js_I y pc = some (.lconst 0, 1)) : js_J E d y pc ls (st) σ = js_J E d y (pc + 1) ls ((1, 0) :: st) σ := by
  refine js_si (r := (pc + 1, js_L ls 0, List.map js_V ((1, 0) :: st), js_wd E.1 σ)) hI rfl rfl ?_
  rfl
theorem j_lconst1 (hI : js_I y pc = some (.lconst 1, 1)) : js_J E d y pc ls (st) σ = js_J E d y (pc + 1) ls ((1, 1) :: st) σ := by
  refine js_si (r := (pc + 1, js_L ls 0, List.map js_V ((1, 1) :: st), js_wd E.1 σ)) hI rfl rfl ?_
  rfl
theorem j_null (hI : js_I y pc = some (.aconst_null, 1)) : js_J E d y pc ls (st) σ = js_J E d y (pc + 1) ls ((2, -1) :: st) σ := by
  refine js_si (r := (pc + 1, js_L ls 0, List.map js_V ((2, -1) :: st), js_wd E.1 σ)) hI rfl rfl ?_
  rfl
theorem j_iadd {a b : Int} (hI : js_I y pc = some (.iadd, 1)) : js_J E d y pc ls ((0, b) :: (0, a) :: st) σ = js_J E d y (pc + 1) ls ((0, a + b) :: st) σ := by
  refine js_si (r := (pc + 1, js_L ls 0, List.map js_V ((0, a + b) :: st), js_wd E.1 σ)) hI rfl rfl ?_
  show some (pc + 1, _, Value.int (Int32.ofInt a + Int32.ofInt b) :: _, _) = some (pc + 1, _, Value.int (Int32.ofInt (a + b)) :: _, _)
  rw [Int32.ofInt_add]
theorem j_isub {a b : Int} (hI : js_I y pc = some (.isub, 1)) : js_J E d y pc ls ((0, b) :: (0, a) :: st) σ = js_J E d y (pc + 1) ls ((0, a - b) :: st) σ := by
  refine js_si (r := (pc + 1, js_L ls 0, List.map js_V ((0, a - b) :: st), js_wd E.1 σ)) hI rfl rfl ?_
  show some (pc + 1, _, Value.int (Int32.ofInt a - Int32.ofInt b) :: _, _) = some (pc + 1, _, Value.int (Int32.ofInt (a - b)) :: _, _)
  rw [Int32.ofInt_sub]
theorem j_imul {a b : Int} (hI : js_I y pc = some (.imul, 1)) : js_J E d y pc ls ((0, b) :: (0, a) :: st) σ = js_J E d y (pc + 1) ls ((0, a * b) :: st) σ := by
  refine js_si (r := (pc + 1, js_L ls 0, List.map js_V ((0, a * b) :: st), js_wd E.1 σ)) hI rfl rfl ?_
  show some (pc + 1, _, Value.int (Int32.ofInt a * Int32.ofInt b) :: _, _) = some (pc + 1, _, Value.int (Int32.ofInt (a * b)) :: _, _)
  rw [Int32.ofInt_mul]
theorem j_ladd {a b : Int} (hI : js_I y pc = some (.ladd, 1)) : js_J E d y pc ls ((1, b) :: (1, a) :: st) σ = js_J E d y (pc + 1) ls ((1, a + b) :: st) σ := by
  refine js_si (r := (pc + 1, js_L ls 0, List.map js_V ((1, a + b) :: st), js_wd E.1 σ)) hI rfl rfl ?_
  show some (pc + 1, _, Value.long (Int64.ofInt a + Int64.ofInt b) :: _, _) = some (pc + 1, _, Value.long (Int64.ofInt (a + b)) :: _, _)
  rw [Int64.ofInt_add]
theorem j_lsub {a b : Int} (hI : js_I y pc = some (.lsub, 1)) : js_J E d y pc ls ((1, b) :: (1, a) :: st) σ = js_J E d y (pc + 1) ls ((1, a - b) :: st) σ := by
  refine js_si (r := (pc + 1, js_L ls 0, List.map js_V ((1, a - b) :: st), js_wd E.1 σ)) hI rfl rfl ?_
  show some (pc + 1, _, Value.long (Int64.ofInt a - Int64.ofInt b) :: _, _) = some (pc + 1, _, Value.long (Int64.ofInt (a - b)) :: _, _)
  rw [Int64.ofInt_sub]
theorem j_lmul {a b : Int} (hI : js_I y pc = some (.lmul, 1)) : js_J E d y pc ls ((1, b) :: (1, a) :: st) σ = js_J E d y (pc + 1) ls ((1, a * b) :: st) σ := by
  refine js_si (r := (pc + 1, js_L ls 0, List.map js_V ((1, a * b) :: st), js_wd E.1 σ)) hI rfl rfl ?_
  show some (pc + 1, _, Value.long (Int64.ofInt a * Int64.ofInt b) :: _, _) = some (pc + 1, _, Value.long (Int64.ofInt (a * b)) :: _, _)
  rw [Int64.ofInt_mul]
theorem j_ineg {a : Int} (hI : js_I y pc = some (.ineg, 1)) : js_J E d y pc ls ((0, a) :: st) σ = js_J E d y (pc + 1) ls ((0, -a) :: st) σ := by
  refine js_si (r := (pc + 1, js_L ls 0, List.map js_V ((0, -a) :: st), js_wd E.1 σ)) hI rfl rfl ?_
  show some (pc + 1, _, Value.int (-Int32.ofInt a) :: _, _) = some (pc + 1, _, Value.int (Int32.ofInt (-a)) :: _, _)
  rw [Int32.ofInt_neg]
theorem j_lneg {a : Int} (hI : js_I y pc = some (.lneg, 1)) : js_J E d y pc ls ((1, a) :: st) σ = js_J E d y (pc + 1) ls ((1, -a) :: st) σ := by
  refine js_si (r := (pc + 1, js_L ls 0, List.map js_V ((1, -a) :: st), js_wd E.1 σ)) hI rfl rfl ?_
  show some (pc + 1, _, Value.long (-Int64.ofInt a) :: _, _) = some (pc + 1, _, Value.long (Int64.ofInt (-a)) :: _, _)
  rw [Int64.ofInt_neg]
theorem j_iand {a b : Int} (hI : js_I y pc = some (.iand, 1)) : js_J E d y pc ls ((0, b) :: (0, a) :: st) σ = js_J E d y (pc + 1) ls ((0, js_iand a b) :: st) σ := by
  refine js_si (r := (pc + 1, js_L ls 0, List.map js_V ((0, js_iand a b) :: st), js_wd E.1 σ)) hI rfl rfl ?_
  show some (pc + 1, _, Value.int (Int32.ofInt a &&& Int32.ofInt b) :: _, _) = some (pc + 1, _, Value.int (Int32.ofInt (js_iand a b)) :: _, _)
  unfold js_iand
  rw [Int32.ofInt_toInt]
theorem j_land {a b : Int} (hI : js_I y pc = some (.land, 1)) : js_J E d y pc ls ((1, b) :: (1, a) :: st) σ = js_J E d y (pc + 1) ls ((1, js_land a b) :: st) σ := by
  refine js_si (r := (pc + 1, js_L ls 0, List.map js_V ((1, js_land a b) :: st), js_wd E.1 σ)) hI rfl rfl ?_
  show some (pc + 1, _, Value.long (Int64.ofInt a &&& Int64.ofInt b) :: _, _) = some (pc + 1, _, Value.long (Int64.ofInt (js_land a b)) :: _, _)
  unfold js_land
  rw [Int64.ofInt_toInt]
theorem j_lor {a b : Int} (hI : js_I y pc = some (.lor, 1)) : js_J E d y pc ls ((1, b) :: (1, a) :: st) σ = js_J E d y (pc + 1) ls ((1, js_lor a b) :: st) σ := by
  refine js_si (r := (pc + 1, js_L ls 0, List.map js_V ((1, js_lor a b) :: st), js_wd E.1 σ)) hI rfl rfl ?_
  show some (pc + 1, _, Value.long (Int64.ofInt a ||| Int64.ofInt b) :: _, _) = some (pc + 1, _, Value.long (Int64.ofInt (js_lor a b)) :: _, _)
  unfold js_lor
  rw [Int64.ofInt_toInt]
theorem j_lxor {a b : Int} (hI : js_I y pc = some (.lxor, 1)) : js_J E d y pc ls ((1, b) :: (1, a) :: st) σ = js_J E d y (pc + 1) ls ((1, js_lxor a b) :: st) σ := by
  refine js_si (r := (pc + 1, js_L ls 0, List.map js_V ((1, js_lxor a b) :: st), js_wd E.1 σ)) hI rfl rfl ?_
  show some (pc + 1, _, Value.long (Int64.ofInt a ^^^ Int64.ofInt b) :: _, _) = some (pc + 1, _, Value.long (Int64.ofInt (js_lxor a b)) :: _, _)
  unfold js_lxor
  rw [Int64.ofInt_toInt]
theorem j_lshl {a b : Int} (hI : js_I y pc = some (.lshl, 1)) : js_J E d y pc ls ((0, b) :: (1, a) :: st) σ = js_J E d y (pc + 1) ls ((1, js_lshl a b) :: st) σ := by
  refine js_si (r := (pc + 1, js_L ls 0, List.map js_V ((1, js_lshl a b) :: st), js_wd E.1 σ)) hI rfl rfl ?_
  show some (pc + 1, _, Value.long (Int64.ofInt a <<< ((Int32.ofInt b).toInt64 &&& 63)) :: _, _) = some (pc + 1, _, Value.long (Int64.ofInt (js_lshl a b)) :: _, _)
  unfold js_lshl
  rw [Int64.ofInt_toInt]
theorem j_lshr {a b : Int} (hI : js_I y pc = some (.lshr, 1)) : js_J E d y pc ls ((0, b) :: (1, a) :: st) σ = js_J E d y (pc + 1) ls ((1, js_lshr a b) :: st) σ := by
  refine js_si (r := (pc + 1, js_L ls 0, List.map js_V ((1, js_lshr a b) :: st), js_wd E.1 σ)) hI rfl rfl ?_
  show some (pc + 1, _, Value.long (Int64.ofInt a >>> ((Int32.ofInt b).toInt64 &&& 63)) :: _, _) = some (pc + 1, _, Value.long (Int64.ofInt (js_lshr a b)) :: _, _)
  unfold js_lshr
  rw [Int64.ofInt_toInt]
theorem j_lushr {a b : Int} (hI : js_I y pc = some (.lushr, 1)) : js_J E d y pc ls ((0, b) :: (1, a) :: st) σ = js_J E d y (pc + 1) ls ((1, js_lushr a b) :: st) σ := by
  refine js_si (r := (pc + 1, js_L ls 0, List.map js_V ((1, js_lushr a b) :: st), js_wd E.1 σ)) hI rfl rfl ?_
  show some (pc + 1, _, Value.long (((Int64.ofInt a).toUInt64 >>> ((Int32.ofInt b).toInt64.toUInt64 &&& Int64.toUInt64 63)).toInt64) :: _, _) = some (pc + 1, _, Value.long (Int64.ofInt (js_lushr a b)) :: _, _)
  unfold js_lushr
  rw [Int64.ofInt_toInt]
theorem j_i2b {a : Int} (hI : js_I y pc = some (.i2b, 1)) : js_J E d y pc ls ((0, a) :: st) σ = js_J E d y (pc + 1) ls ((0, js_i2b a) :: st) σ := by
  refine js_si (r := (pc + 1, js_L ls 0, List.map js_V ((0, js_i2b a) :: st), js_wd E.1 σ)) hI rfl rfl ?_
  show some (pc + 1, _, Value.int ((Int32.ofInt a).toInt8.toInt32) :: _, _) = some (pc + 1, _, Value.int (Int32.ofInt (js_i2b a)) :: _, _)
  unfold js_i2b
  rw [Int32.ofInt_toInt]
theorem j_i2c {a : Int} (hI : js_I y pc = some (.i2c, 1)) : js_J E d y pc ls ((0, a) :: st) σ = js_J E d y (pc + 1) ls ((0, js_i2c a) :: st) σ := by
  refine js_si (r := (pc + 1, js_L ls 0, List.map js_V ((0, js_i2c a) :: st), js_wd E.1 σ)) hI rfl rfl ?_
  show some (pc + 1, _, Value.int ((((Int32.ofInt a).toUInt32) % 65536).toInt32) :: _, _) = some (pc + 1, _, Value.int (Int32.ofInt (js_i2c a)) :: _, _)
  unfold js_i2c
  rw [Int32.ofInt_toInt]
theorem j_i2l {a : Int} (hI : js_I y pc = some (.i2l, 1)) : js_J E d y pc ls ((0, a) :: st) σ = js_J E d y (pc + 1) ls ((1, js_w a) :: st) σ := by
  refine js_si (r := (pc + 1, js_L ls 0, List.map js_V ((1, js_w a) :: st), js_wd E.1 σ)) hI rfl rfl ?_
  show some (pc + 1, _, Value.long ((Int32.ofInt a).toInt64) :: _, _) = some (pc + 1, _, Value.long (Int64.ofInt (js_w a)) :: _, _)
  unfold js_w
  rw [Int64.ofInt_int32ToInt]
theorem j_l2i {a : Int} (hI : js_I y pc = some (.l2i, 1)) : js_J E d y pc ls ((1, a) :: st) σ = js_J E d y (pc + 1) ls ((0, a) :: st) σ := by
  refine js_si (r := (pc + 1, js_L ls 0, List.map js_V ((0, a) :: st), js_wd E.1 σ)) hI rfl rfl ?_
  show some (pc + 1, _, Value.int ((Int64.ofInt a).toInt32) :: _, _) = some (pc + 1, _, Value.int (Int32.ofInt a) :: _, _)
  rw [Int64.toInt32_ofInt]
theorem j_idiv {a b : Int} (hI : js_I y pc = some (.idiv, 1)) : js_J E d y pc ls ((0, b) :: (0, a) :: st) σ = if js_w b = 0 then none else js_J E d y (pc + 1) ls ((0, (js_w a).tdiv (js_w b)) :: st) σ := by
  split
  · rename_i h
    refine js_sn hI rfl rfl ?_ rfl
    show (if ¬ Int32.ofInt b = 0 then _ else none) = none
    rw [if_neg (fun hn => hn (by rw [← Int32.toInt_inj]; exact h))]
  · rename_i h
    refine js_si (r := (pc + 1, js_L ls 0, List.map js_V ((0, (js_w a).tdiv (js_w b)) :: st), js_wd E.1 σ)) hI rfl rfl ?_
    show (if ¬ Int32.ofInt b = 0 then some (pc + 1, _, Value.int (Int32.ofInt a / Int32.ofInt b) :: _, _) else none) = some (pc + 1, _, Value.int (Int32.ofInt ((js_w a).tdiv (js_w b))) :: _, _)
    rw [if_pos (fun hn => h (by unfold js_w; rw [hn]; rfl))]
    have e : Int32.ofInt a / Int32.ofInt b = Int32.ofInt ((js_w a).tdiv (js_w b)) := by
      rw [← Int32.toInt_inj, Int32.toInt_div, Int32.toInt_ofInt (n := (js_w a).tdiv (js_w b))]
      rfl
    rw [e]
theorem j_ldiv {a b : Int} (hI : js_I y pc = some (.ldiv, 1)) : js_J E d y pc ls ((1, b) :: (1, a) :: st) σ = if js_l b = 0 then none else js_J E d y (pc + 1) ls ((1, (js_l a).tdiv (js_l b)) :: st) σ := by
  split
  · rename_i h
    refine js_sn hI rfl rfl ?_ rfl
    show (if ¬ Int64.ofInt b = 0 then _ else none) = none
    rw [if_neg (fun hn => hn (by rw [← Int64.toInt_inj]; exact h))]
  · rename_i h
    refine js_si (r := (pc + 1, js_L ls 0, List.map js_V ((1, (js_l a).tdiv (js_l b)) :: st), js_wd E.1 σ)) hI rfl rfl ?_
    show (if ¬ Int64.ofInt b = 0 then some (pc + 1, _, Value.long (Int64.ofInt a / Int64.ofInt b) :: _, _) else none) = some (pc + 1, _, Value.long (Int64.ofInt ((js_l a).tdiv (js_l b))) :: _, _)
    rw [if_pos (fun hn => h (by unfold js_l; rw [hn]; rfl))]
    have e : Int64.ofInt a / Int64.ofInt b = Int64.ofInt ((js_l a).tdiv (js_l b)) := by
      rw [← Int64.toInt_inj, Int64.toInt_div, Int64.toInt_ofInt (n := (js_l a).tdiv (js_l b))]
      rfl
    rw [e]
theorem j_irem {a b : Int} (hI : js_I y pc = some (.irem, 1)) : js_J E d y pc ls ((0, b) :: (0, a) :: st) σ = if js_w b = 0 then none else js_J E d y (pc + 1) ls ((0, (js_w a).tmod (js_w b)) :: st) σ := by
  split
  · rename_i h
    refine js_sn hI rfl rfl ?_ rfl
    show (if ¬ Int32.ofInt b = 0 then _ else none) = none
    rw [if_neg (fun hn => hn (by rw [← Int32.toInt_inj]; exact h))]
  · rename_i h
    refine js_si (r := (pc + 1, js_L ls 0, List.map js_V ((0, (js_w a).tmod (js_w b)) :: st), js_wd E.1 σ)) hI rfl rfl ?_
    show (if ¬ Int32.ofInt b = 0 then some (pc + 1, _, Value.int (Int32.ofInt a - Int32.ofInt a / Int32.ofInt b * Int32.ofInt b) :: _, _) else none) = some (pc + 1, _, Value.int (Int32.ofInt ((js_w a).tmod (js_w b))) :: _, _)
    rw [if_pos (fun hn => h (by unfold js_w; rw [hn]; rfl))]
    have e : Int32.ofInt a / Int32.ofInt b = Int32.ofInt ((js_w a).tdiv (js_w b)) := by
      rw [← Int32.toInt_inj, Int32.toInt_div, Int32.toInt_ofInt (n := (js_w a).tdiv (js_w b))]
      rfl
    have e2 : (js_w a).tmod (js_w b) = js_w a - (js_w a).tdiv (js_w b) * js_w b := by
      have := Int.mul_tdiv_add_tmod (js_w a) (js_w b)
      rw [Int.mul_comm] at this
      omega
    rw [e, e2, Int32.ofInt_sub, Int32.ofInt_mul]
    unfold js_w
    rw [Int32.ofInt_toInt, Int32.ofInt_toInt]
theorem j_lrem {a b : Int} (hI : js_I y pc = some (.lrem, 1)) : js_J E d y pc ls ((1, b) :: (1, a) :: st) σ = if js_l b = 0 then none else js_J E d y (pc + 1) ls ((1, (js_l a).tmod (js_l b)) :: st) σ := by
  split
  · rename_i h
    refine js_sn hI rfl rfl ?_ rfl
    show (if ¬ Int64.ofInt b = 0 then _ else none) = none
    rw [if_neg (fun hn => hn (by rw [← Int64.toInt_inj]; exact h))]
  · rename_i h
    refine js_si (r := (pc + 1, js_L ls 0, List.map js_V ((1, (js_l a).tmod (js_l b)) :: st), js_wd E.1 σ)) hI rfl rfl ?_
    show (if ¬ Int64.ofInt b = 0 then some (pc + 1, _, Value.long (Int64.ofInt a - Int64.ofInt a / Int64.ofInt b * Int64.ofInt b) :: _, _) else none) = some (pc + 1, _, Value.long (Int64.ofInt ((js_l a).tmod (js_l b))) :: _, _)
    rw [if_pos (fun hn => h (by unfold js_l; rw [hn]; rfl))]
    have e : Int64.ofInt a / Int64.ofInt b = Int64.ofInt ((js_l a).tdiv (js_l b)) := by
      rw [← Int64.toInt_inj, Int64.toInt_div, Int64.toInt_ofInt (n := (js_l a).tdiv (js_l b))]
      rfl
    have e2 : (js_l a).tmod (js_l b) = js_l a - (js_l a).tdiv (js_l b) * js_l b := by
      have := Int.mul_tdiv_add_tmod (js_l a) (js_l b)
      rw [Int.mul_comm] at this
      omega
    rw [e, e2, Int64.ofInt_sub, Int64.ofInt_mul]
    unfold js_l
    rw [Int64.ofInt_toInt, Int64.ofInt_toInt]
theorem j_dup0 {a : Int} (hI : js_I y pc = some (.dup, 1)) : js_J E d y pc ls ((0, a) :: st) σ = js_J E d y (pc + 1) ls ((0, a) :: (0, a) :: st) σ := by
  refine js_si (r := (pc + 1, js_L ls 0, List.map js_V ((0, a) :: (0, a) :: st), js_wd E.1 σ)) hI rfl rfl ?_
  rfl
theorem j_dupr {a : Int} (hI : js_I y pc = some (.dup, 1)) : js_J E d y pc ls ((2, a) :: st) σ = js_J E d y (pc + 1) ls ((2, a) :: (2, a) :: st) σ := by
  refine js_si (r := (pc + 1, js_L ls 0, List.map js_V ((2, a) :: (2, a) :: st), js_wd E.1 σ)) hI rfl rfl ?_
  exact if_pos (js_rfc a)
theorem j_pop0 {a : Int} (hI : js_I y pc = some (.pop, 1)) : js_J E d y pc ls ((0, a) :: st) σ = js_J E d y (pc + 1) ls (st) σ := by
  refine js_si (r := (pc + 1, js_L ls 0, List.map js_V (st), js_wd E.1 σ)) hI rfl rfl ?_
  rfl
theorem j_popr {a : Int} (hI : js_I y pc = some (.pop, 1)) : js_J E d y pc ls ((2, a) :: st) σ = js_J E d y (pc + 1) ls (st) σ := by
  refine js_si (r := (pc + 1, js_L ls 0, List.map js_V (st), js_wd E.1 σ)) hI rfl rfl ?_
  exact if_pos (js_rfc a)
theorem j_dup2l {a : Int} (hI : js_I y pc = some (.dup2, 1)) : js_J E d y pc ls ((1, a) :: st) σ = js_J E d y (pc + 1) ls ((1, a) :: (1, a) :: st) σ := by
  refine js_si (r := (pc + 1, js_L ls 0, List.map js_V ((1, a) :: (1, a) :: st), js_wd E.1 σ)) hI rfl rfl ?_
  rfl
theorem j_dup2 {a b : Int} (hI : js_I y pc = some (.dup2, 1)) : js_J E d y pc ls ((0, b) :: (2, a) :: st) σ = js_J E d y (pc + 1) ls ((0, b) :: (2, a) :: (0, b) :: (2, a) :: st) σ := by
  refine js_si (r := (pc + 1, js_L ls 0, List.map js_V ((0, b) :: (2, a) :: (0, b) :: (2, a) :: st), js_wd E.1 σ)) hI rfl rfl ?_
  have e := js_rfc a
  have e2 : (Value.int (Int32.ofInt b)).category = 1 := rfl
  simp only [ip_st, List.map_cons, js_V, e, e2]
  simp
theorem j_iload_n {k : Fin 4} {x : Int} (hI : js_I y pc = some (.iload_n k, 1)) (hg : ls[(k : Nat)]? = some (0, x)) : js_J E d y pc ls (st) σ = js_J E d y (pc + 1) ls ((0, x) :: st) σ := by
  refine js_si (r := (pc + 1, js_L ls 0, List.map js_V ((0, x) :: st), js_wd E.1 σ)) hI rfl rfl ?_
  show (match ip_get (js_L ls 0) (k : Nat) with
    | some (.int x) => some (pc + 1, js_L ls 0, Value.int x :: _, _)
    | _ => none) = _
  rw [js_L_at hg (show (0 : Nat) ≠ 9 by decide)]
  rfl
theorem j_iload {k : Nat} {x : Int} (hI : js_I y pc = some (.iload k, 2)) (hg : ls[k]? = some (0, x)) : js_J E d y pc ls (st) σ = js_J E d y (pc + 2) ls ((0, x) :: st) σ := by
  refine js_si (r := (pc + 2, js_L ls 0, List.map js_V ((0, x) :: st), js_wd E.1 σ)) hI rfl rfl ?_
  show (match ip_get (js_L ls 0) k with
    | some (.int x) => some (pc + 2, js_L ls 0, Value.int x :: _, _)
    | _ => none) = _
  rw [js_L_at hg (show (0 : Nat) ≠ 9 by decide)]
  rfl
theorem j_lload_n {k : Fin 4} {x : Int} (hI : js_I y pc = some (.lload_n k, 1)) (hg : ls[(k : Nat)]? = some (1, x)) : js_J E d y pc ls (st) σ = js_J E d y (pc + 1) ls ((1, x) :: st) σ := by
  refine js_si (r := (pc + 1, js_L ls 0, List.map js_V ((1, x) :: st), js_wd E.1 σ)) hI rfl rfl ?_
  show (match ip_get (js_L ls 0) (k : Nat) with
    | some (.long x) => some (pc + 1, js_L ls 0, Value.long x :: _, _)
    | _ => none) = _
  rw [js_L_at hg (show (1 : Nat) ≠ 9 by decide)]
  rfl
theorem j_lload {k : Nat} {x : Int} (hI : js_I y pc = some (.lload k, 2)) (hg : ls[k]? = some (1, x)) : js_J E d y pc ls (st) σ = js_J E d y (pc + 2) ls ((1, x) :: st) σ := by
  refine js_si (r := (pc + 2, js_L ls 0, List.map js_V ((1, x) :: st), js_wd E.1 σ)) hI rfl rfl ?_
  show (match ip_get (js_L ls 0) k with
    | some (.long x) => some (pc + 2, js_L ls 0, Value.long x :: _, _)
    | _ => none) = _
  rw [js_L_at hg (show (1 : Nat) ≠ 9 by decide)]
  rfl
theorem j_aload_n {k : Fin 4} {x : Int} (hI : js_I y pc = some (.aload_n k, 1)) (hg : ls[(k : Nat)]? = some (2, x)) : js_J E d y pc ls (st) σ = js_J E d y (pc + 1) ls ((2, x) :: st) σ := by
  refine js_si (r := (pc + 1, js_L ls 0, List.map js_V ((2, x) :: st), js_wd E.1 σ)) hI rfl rfl ?_
  show (match ip_get (js_L ls 0) (k : Nat) with
    | some x => if ip_isR x = true then some (pc + 1, js_L ls 0, x :: _, _) else none
    | none => none) = _
  rw [js_L_at hg (show (2 : Nat) ≠ 9 by decide)]
  exact if_pos (js_isR x)
theorem j_aload {k : Nat} {x : Int} (hI : js_I y pc = some (.aload k, 2)) (hg : ls[k]? = some (2, x)) : js_J E d y pc ls (st) σ = js_J E d y (pc + 2) ls ((2, x) :: st) σ := by
  refine js_si (r := (pc + 2, js_L ls 0, List.map js_V ((2, x) :: st), js_wd E.1 σ)) hI rfl rfl ?_
  show (match ip_get (js_L ls 0) k with
    | some x => if ip_isR x = true then some (pc + 2, js_L ls 0, x :: _, _) else none
    | none => none) = _
  rw [js_L_at hg (show (2 : Nat) ≠ 9 by decide)]
  exact if_pos (js_isR x)
theorem j_aload_n3 {k : Fin 4} {x : Int} (hI : js_I y pc = some (.aload_n k, 1)) (hg : ls[(k : Nat)]? = some (3, x)) : js_J E d y pc ls (st) σ = js_J E d y (pc + 1) ls ((3, x) :: st) σ := by
  refine js_si (r := (pc + 1, js_L ls 0, List.map js_V ((3, x) :: st), js_wd E.1 σ)) hI rfl rfl ?_
  show (match ip_get (js_L ls 0) (k : Nat) with
    | some x => if ip_isR x = true then some (pc + 1, js_L ls 0, x :: _, _) else none
    | none => none) = _
  rw [js_L_at hg (show (3 : Nat) ≠ 9 by decide)]
  rfl
theorem j_istore_n {k : Fin 4} {x : Int} {l2 : List js_v} (hI : js_I y pc = some (.istore_n k, 1)) (hs : js_s1 ls (k : Nat) (0, x) = l2) (hk : (k : Nat) < ls.length) : js_J E d y pc ls ((0, x) :: st) σ = js_J E d y (pc + 1) l2 st σ := by
  have ho : (k : Nat) < vt_ml.getD y 0 := of_decide_eq_true (js_ok hI)
  subst hs
  refine Eq.trans (js_si (r := (pc + 1, ip_set1 (js_L ls 0) (k : Nat) (js_V (0, x)), List.map js_V st, js_wd E.1 σ)) hI rfl rfl ?_) (js_li_s1 (show (0 : Nat) ≠ 9 by decide) hk)
  exact if_pos ho
theorem j_istore {k : Nat} {x : Int} {l2 : List js_v} (hI : js_I y pc = some (.istore k, 2)) (hs : js_s1 ls k (0, x) = l2) (hk : k < ls.length) : js_J E d y pc ls ((0, x) :: st) σ = js_J E d y (pc + 2) l2 st σ := by
  have ho : k < vt_ml.getD y 0 := of_decide_eq_true (js_ok hI)
  subst hs
  refine Eq.trans (js_si (r := (pc + 2, ip_set1 (js_L ls 0) k (js_V (0, x)), List.map js_V st, js_wd E.1 σ)) hI rfl rfl ?_) (js_li_s1 (show (0 : Nat) ≠ 9 by decide) hk)
  exact if_pos ho
theorem j_lstore_n {k : Fin 4} {x : Int} {l2 : List js_v} (hI : js_I y pc = some (.lstore_n k, 1)) (hs : js_s2 ls (k : Nat) (1, x) = l2) (hk : (k : Nat) < ls.length) : js_J E d y pc ls ((1, x) :: st) σ = js_J E d y (pc + 1) l2 st σ := by
  have ho : (k : Nat) + 1 < vt_ml.getD y 0 := of_decide_eq_true (js_ok hI)
  subst hs
  refine Eq.trans (js_si (r := (pc + 1, ip_set2 (js_L ls 0) (k : Nat) (js_V (1, x)), List.map js_V st, js_wd E.1 σ)) hI rfl rfl ?_) (js_li_s2 (show (1 : Nat) ≠ 9 by decide) hk)
  exact if_pos ho
theorem j_lstore {k : Nat} {x : Int} {l2 : List js_v} (hI : js_I y pc = some (.lstore k, 2)) (hs : js_s2 ls k (1, x) = l2) (hk : k < ls.length) : js_J E d y pc ls ((1, x) :: st) σ = js_J E d y (pc + 2) l2 st σ := by
  have ho : k + 1 < vt_ml.getD y 0 := of_decide_eq_true (js_ok hI)
  subst hs
  refine Eq.trans (js_si (r := (pc + 2, ip_set2 (js_L ls 0) k (js_V (1, x)), List.map js_V st, js_wd E.1 σ)) hI rfl rfl ?_) (js_li_s2 (show (1 : Nat) ≠ 9 by decide) hk)
  exact if_pos ho
theorem j_astore_n {k : Fin 4} {x : Int} {l2 : List js_v} (hI : js_I y pc = some (.astore_n k, 1)) (hs : js_s1 ls (k : Nat) (2, x) = l2) (hk : (k : Nat) < ls.length) : js_J E d y pc ls ((2, x) :: st) σ = js_J E d y (pc + 1) l2 st σ := by
  have ho : (k : Nat) < vt_ml.getD y 0 := of_decide_eq_true (js_ok hI)
  subst hs
  refine Eq.trans (js_si (r := (pc + 1, ip_set1 (js_L ls 0) (k : Nat) (js_V (2, x)), List.map js_V st, js_wd E.1 σ)) hI rfl rfl ?_) (js_li_s1 (show (2 : Nat) ≠ 9 by decide) hk)
  exact if_pos ⟨ho, js_isR x⟩
theorem j_astore {k : Nat} {x : Int} {l2 : List js_v} (hI : js_I y pc = some (.astore k, 2)) (hs : js_s1 ls k (2, x) = l2) (hk : k < ls.length) : js_J E d y pc ls ((2, x) :: st) σ = js_J E d y (pc + 2) l2 st σ := by
  have ho : k < vt_ml.getD y 0 := of_decide_eq_true (js_ok hI)
  subst hs
  refine Eq.trans (js_si (r := (pc + 2, ip_set1 (js_L ls 0) k (js_V (2, x)), List.map js_V st, js_wd E.1 σ)) hI rfl rfl ?_) (js_li_s1 (show (2 : Nat) ≠ 9 by decide) hk)
  exact if_pos ⟨ho, js_isR x⟩
theorem j_iinc {k : Nat} {z x : Int} {l2 : List js_v} (hI : js_I y pc = some (.iinc k z, 3)) (hg : ls[k]? = some (0, x)) (hs : js_s1 ls k (0, x + z) = l2) : js_J E d y pc ls st σ = js_J E d y (pc + 3) l2 st σ := by
  have ho : k < vt_ml.getD y 0 := of_decide_eq_true (js_ok hI)
  subst hs
  refine Eq.trans (js_si (r := (pc + 3, ip_set1 (js_L ls 0) k (js_V (0, x + z)), List.map js_V st, js_wd E.1 σ)) hI rfl rfl ?_) (js_li_s1 (show (0 : Nat) ≠ 9 by decide) (List.getElem?_eq_some_iff.mp hg).1)
  show (match ip_get (js_L ls 0) k with
    | some (.int x) => if k < vt_ml.getD y 0 then some (pc + 3, ip_set1 (js_L ls 0) k (.int (x + Int32.ofInt z)), _, _) else none
    | _ => none) = _
  rw [js_L_at hg (show (0 : Nat) ≠ 9 by decide)]
  show (if k < vt_ml.getD y 0 then some (pc + 3, ip_set1 (js_L ls 0) k (.int (Int32.ofInt x + Int32.ofInt z)), _, _) else none) = some (pc + 3, ip_set1 (js_L ls 0) k (.int (Int32.ofInt (x + z))), _, _)
  rw [if_pos ho, Int32.ofInt_add]
theorem j_ifeq {a : Int} {off : Int} {t : Nat} (hI : js_I y pc = some (.ifCond .eq off, 3)) (ht : ip_tg pc off = some t) : js_J E d y pc ls ((0, a) :: st) σ = if js_w a = 0 then js_J E d y (t) ls st σ else js_J E d y (pc + 3) ls st σ := by
  have h1 : js_J E d y pc ls ((0, a) :: st) σ = js_J E d y (if Int32.ofInt a = 0 then t else pc + 3) ls st σ := by
    refine js_si (r := (if Int32.ofInt a = 0 then t else pc + 3, js_L ls 0, List.map js_V st, js_wd E.1 σ)) hI rfl rfl ?_
    show (match ip_tg pc off with
      | some t => some (_, _, _, _)
      | none => none) = _
    rw [ht]
    rfl
  rw [h1]
  have e : (Int32.ofInt a = 0) ↔ (js_w a = 0) := js_w_inj a 0
  by_cases h : js_w a = 0
  · rw [if_pos h, if_pos (e.mpr h)]
  · rw [if_neg h, if_neg (fun hh => h (e.mp hh))]
theorem j_ifne {a : Int} {off : Int} {t : Nat} (hI : js_I y pc = some (.ifCond .ne off, 3)) (ht : ip_tg pc off = some t) : js_J E d y pc ls ((0, a) :: st) σ = if js_w a = 0 then js_J E d y (pc + 3) ls st σ else js_J E d y (t) ls st σ := by
  have h1 : js_J E d y pc ls ((0, a) :: st) σ = js_J E d y (if Int32.ofInt a ≠ 0 then t else pc + 3) ls st σ := by
    refine js_si (r := (if Int32.ofInt a ≠ 0 then t else pc + 3, js_L ls 0, List.map js_V st, js_wd E.1 σ)) hI rfl rfl ?_
    show (match ip_tg pc off with
      | some t => some (_, _, _, _)
      | none => none) = _
    rw [ht]
    rfl
  rw [h1]
  have e : (Int32.ofInt a ≠ 0) ↔ (¬ (js_w a = 0)) := not_congr (js_w_inj a 0)
  by_cases h : js_w a = 0
  · rw [if_pos h, if_neg (fun hh => (e.mp hh) h)]
  · rw [if_neg h, if_pos (e.mpr h)]
theorem j_iflt {a : Int} {off : Int} {t : Nat} (hI : js_I y pc = some (.ifCond .lt off, 3)) (ht : ip_tg pc off = some t) : js_J E d y pc ls ((0, a) :: st) σ = if js_w a < 0 then js_J E d y (t) ls st σ else js_J E d y (pc + 3) ls st σ := by
  have h1 : js_J E d y pc ls ((0, a) :: st) σ = js_J E d y (if Int32.ofInt a < 0 then t else pc + 3) ls st σ := by
    refine js_si (r := (if Int32.ofInt a < 0 then t else pc + 3, js_L ls 0, List.map js_V st, js_wd E.1 σ)) hI rfl rfl ?_
    show (match ip_tg pc off with
      | some t => some (_, _, _, _)
      | none => none) = _
    rw [ht]
    rfl
  rw [h1]
  have e : (Int32.ofInt a < 0) ↔ (js_w a < 0) := js_w_lt a 0
  by_cases h : js_w a < 0
  · rw [if_pos h, if_pos (e.mpr h)]
  · rw [if_neg h, if_neg (fun hh => h (e.mp hh))]
theorem j_ifge {a : Int} {off : Int} {t : Nat} (hI : js_I y pc = some (.ifCond .ge off, 3)) (ht : ip_tg pc off = some t) : js_J E d y pc ls ((0, a) :: st) σ = if js_w a < 0 then js_J E d y (pc + 3) ls st σ else js_J E d y (t) ls st σ := by
  have h1 : js_J E d y pc ls ((0, a) :: st) σ = js_J E d y (if 0 ≤ Int32.ofInt a then t else pc + 3) ls st σ := by
    refine js_si (r := (if 0 ≤ Int32.ofInt a then t else pc + 3, js_L ls 0, List.map js_V st, js_wd E.1 σ)) hI rfl rfl ?_
    show (match ip_tg pc off with
      | some t => some (_, _, _, _)
      | none => none) = _
    rw [ht]
    rfl
  rw [h1]
  have e : (0 ≤ Int32.ofInt a) ↔ (¬ (js_w a < 0)) := (js_w_le 0 a).trans Int.not_lt.symm
  by_cases h : js_w a < 0
  · rw [if_pos h, if_neg (fun hh => (e.mp hh) h)]
  · rw [if_neg h, if_pos (e.mpr h)]
theorem j_ifgt {a : Int} {off : Int} {t : Nat} (hI : js_I y pc = some (.ifCond .gt off, 3)) (ht : ip_tg pc off = some t) : js_J E d y pc ls ((0, a) :: st) σ = if 0 < js_w a then js_J E d y (t) ls st σ else js_J E d y (pc + 3) ls st σ := by
  have h1 : js_J E d y pc ls ((0, a) :: st) σ = js_J E d y (if 0 < Int32.ofInt a then t else pc + 3) ls st σ := by
    refine js_si (r := (if 0 < Int32.ofInt a then t else pc + 3, js_L ls 0, List.map js_V st, js_wd E.1 σ)) hI rfl rfl ?_
    show (match ip_tg pc off with
      | some t => some (_, _, _, _)
      | none => none) = _
    rw [ht]
    rfl
  rw [h1]
  have e : (0 < Int32.ofInt a) ↔ (0 < js_w a) := js_w_lt 0 a
  by_cases h : 0 < js_w a
  · rw [if_pos h, if_pos (e.mpr h)]
  · rw [if_neg h, if_neg (fun hh => h (e.mp hh))]
theorem j_ifle {a : Int} {off : Int} {t : Nat} (hI : js_I y pc = some (.ifCond .le off, 3)) (ht : ip_tg pc off = some t) : js_J E d y pc ls ((0, a) :: st) σ = if 0 < js_w a then js_J E d y (pc + 3) ls st σ else js_J E d y (t) ls st σ := by
  have h1 : js_J E d y pc ls ((0, a) :: st) σ = js_J E d y (if Int32.ofInt a ≤ 0 then t else pc + 3) ls st σ := by
    refine js_si (r := (if Int32.ofInt a ≤ 0 then t else pc + 3, js_L ls 0, List.map js_V st, js_wd E.1 σ)) hI rfl rfl ?_
    show (match ip_tg pc off with
      | some t => some (_, _, _, _)
      | none => none) = _
    rw [ht]
    rfl
  rw [h1]
  have e : (Int32.ofInt a ≤ 0) ↔ (¬ (0 < js_w a)) := (js_w_le a 0).trans Int.not_lt.symm
  by_cases h : 0 < js_w a
  · rw [if_pos h, if_neg (fun hh => (e.mp hh) h)]
  · rw [if_neg h, if_pos (e.mpr h)]
theorem j_cmpeq {a b : Int} {off : Int} {t : Nat} (hI : js_I y pc = some (.if_icmp .eq off, 3)) (ht : ip_tg pc off = some t) : js_J E d y pc ls ((0, b) :: (0, a) :: st) σ = if js_w a = js_w b then js_J E d y (t) ls st σ else js_J E d y (pc + 3) ls st σ := by
  have h1 : js_J E d y pc ls ((0, b) :: (0, a) :: st) σ = js_J E d y (if Int32.ofInt a = Int32.ofInt b then t else pc + 3) ls st σ := by
    refine js_si (r := (if Int32.ofInt a = Int32.ofInt b then t else pc + 3, js_L ls 0, List.map js_V st, js_wd E.1 σ)) hI rfl rfl ?_
    show (match ip_tg pc off with
      | some t => some (_, _, _, _)
      | none => none) = _
    rw [ht]
    rfl
  rw [h1]
  have e : (Int32.ofInt a = Int32.ofInt b) ↔ (js_w a = js_w b) := js_w_inj a b
  by_cases h : js_w a = js_w b
  · rw [if_pos h, if_pos (e.mpr h)]
  · rw [if_neg h, if_neg (fun hh => h (e.mp hh))]
theorem j_cmpne {a b : Int} {off : Int} {t : Nat} (hI : js_I y pc = some (.if_icmp .ne off, 3)) (ht : ip_tg pc off = some t) : js_J E d y pc ls ((0, b) :: (0, a) :: st) σ = if js_w a = js_w b then js_J E d y (pc + 3) ls st σ else js_J E d y (t) ls st σ := by
  have h1 : js_J E d y pc ls ((0, b) :: (0, a) :: st) σ = js_J E d y (if Int32.ofInt a ≠ Int32.ofInt b then t else pc + 3) ls st σ := by
    refine js_si (r := (if Int32.ofInt a ≠ Int32.ofInt b then t else pc + 3, js_L ls 0, List.map js_V st, js_wd E.1 σ)) hI rfl rfl ?_
    show (match ip_tg pc off with
      | some t => some (_, _, _, _)
      | none => none) = _
    rw [ht]
    rfl
  rw [h1]
  have e : (Int32.ofInt a ≠ Int32.ofInt b) ↔ (¬ (js_w a = js_w b)) := not_congr (js_w_inj a b)
  by_cases h : js_w a = js_w b
  · rw [if_pos h, if_neg (fun hh => (e.mp hh) h)]
  · rw [if_neg h, if_pos (e.mpr h)]
theorem j_cmplt {a b : Int} {off : Int} {t : Nat} (hI : js_I y pc = some (.if_icmp .lt off, 3)) (ht : ip_tg pc off = some t) : js_J E d y pc ls ((0, b) :: (0, a) :: st) σ = if js_w a < js_w b then js_J E d y (t) ls st σ else js_J E d y (pc + 3) ls st σ := by
  have h1 : js_J E d y pc ls ((0, b) :: (0, a) :: st) σ = js_J E d y (if Int32.ofInt a < Int32.ofInt b then t else pc + 3) ls st σ := by
    refine js_si (r := (if Int32.ofInt a < Int32.ofInt b then t else pc + 3, js_L ls 0, List.map js_V st, js_wd E.1 σ)) hI rfl rfl ?_
    show (match ip_tg pc off with
      | some t => some (_, _, _, _)
      | none => none) = _
    rw [ht]
    rfl
  rw [h1]
  have e : (Int32.ofInt a < Int32.ofInt b) ↔ (js_w a < js_w b) := js_w_lt a b
  by_cases h : js_w a < js_w b
  · rw [if_pos h, if_pos (e.mpr h)]
  · rw [if_neg h, if_neg (fun hh => h (e.mp hh))]
theorem j_cmpge {a b : Int} {off : Int} {t : Nat} (hI : js_I y pc = some (.if_icmp .ge off, 3)) (ht : ip_tg pc off = some t) : js_J E d y pc ls ((0, b) :: (0, a) :: st) σ = if js_w a < js_w b then js_J E d y (pc + 3) ls st σ else js_J E d y (t) ls st σ := by
  have h1 : js_J E d y pc ls ((0, b) :: (0, a) :: st) σ = js_J E d y (if Int32.ofInt b ≤ Int32.ofInt a then t else pc + 3) ls st σ := by
    refine js_si (r := (if Int32.ofInt b ≤ Int32.ofInt a then t else pc + 3, js_L ls 0, List.map js_V st, js_wd E.1 σ)) hI rfl rfl ?_
    show (match ip_tg pc off with
      | some t => some (_, _, _, _)
      | none => none) = _
    rw [ht]
    rfl
  rw [h1]
  have e : (Int32.ofInt b ≤ Int32.ofInt a) ↔ (¬ (js_w a < js_w b)) := (js_w_le b a).trans Int.not_lt.symm
  by_cases h : js_w a < js_w b
  · rw [if_pos h, if_neg (fun hh => (e.mp hh) h)]
  · rw [if_neg h, if_pos (e.mpr h)]
theorem j_cmpgt {a b : Int} {off : Int} {t : Nat} (hI : js_I y pc = some (.if_icmp .gt off, 3)) (ht : ip_tg pc off = some t) : js_J E d y pc ls ((0, b) :: (0, a) :: st) σ = if js_w b < js_w a then js_J E d y (t) ls st σ else js_J E d y (pc + 3) ls st σ := by
  have h1 : js_J E d y pc ls ((0, b) :: (0, a) :: st) σ = js_J E d y (if Int32.ofInt b < Int32.ofInt a then t else pc + 3) ls st σ := by
    refine js_si (r := (if Int32.ofInt b < Int32.ofInt a then t else pc + 3, js_L ls 0, List.map js_V st, js_wd E.1 σ)) hI rfl rfl ?_
    show (match ip_tg pc off with
      | some t => some (_, _, _, _)
      | none => none) = _
    rw [ht]
    rfl
  rw [h1]
  have e : (Int32.ofInt b < Int32.ofInt a) ↔ (js_w b < js_w a) := js_w_lt b a
  by_cases h : js_w b < js_w a
  · rw [if_pos h, if_pos (e.mpr h)]
  · rw [if_neg h, if_neg (fun hh => h (e.mp hh))]
theorem j_cmple {a b : Int} {off : Int} {t : Nat} (hI : js_I y pc = some (.if_icmp .le off, 3)) (ht : ip_tg pc off = some t) : js_J E d y pc ls ((0, b) :: (0, a) :: st) σ = if js_w b < js_w a then js_J E d y (pc + 3) ls st σ else js_J E d y (t) ls st σ := by
  have h1 : js_J E d y pc ls ((0, b) :: (0, a) :: st) σ = js_J E d y (if Int32.ofInt a ≤ Int32.ofInt b then t else pc + 3) ls st σ := by
    refine js_si (r := (if Int32.ofInt a ≤ Int32.ofInt b then t else pc + 3, js_L ls 0, List.map js_V st, js_wd E.1 σ)) hI rfl rfl ?_
    show (match ip_tg pc off with
      | some t => some (_, _, _, _)
      | none => none) = _
    rw [ht]
    rfl
  rw [h1]
  have e : (Int32.ofInt a ≤ Int32.ofInt b) ↔ (¬ (js_w b < js_w a)) := (js_w_le a b).trans Int.not_lt.symm
  by_cases h : js_w b < js_w a
  · rw [if_pos h, if_neg (fun hh => (e.mp hh) h)]
  · rw [if_neg h, if_pos (e.mpr h)]
theorem j_goto {off : Int} {t : Nat} (hI : js_I y pc = some (.goto off, 3)) (ht : ip_tg pc off = some t) : js_J E d y pc ls st σ = js_J E d y t ls st σ := by
  refine js_si (r := (t, js_L ls 0, List.map js_V st, js_wd E.1 σ)) hI rfl rfl ?_
  show (match ip_tg pc off with
    | some t => some (t, _, _, _)
    | none => none) = _
  rw [ht]
/-- two longs that are compared, and the branch behind it -/
theorem j_lcmp {a b : Int} (hI : js_I y pc = some (.lcmp, 1)) : js_J E d y pc ls ((1, b) :: (1, a) :: st) σ = js_J E d y (pc + 1) ls ((0, if js_l b < js_l a then 1 else if js_l a = js_l b then 0 else -1) :: st) σ := by
  refine js_si (r := (pc + 1, js_L ls 0, List.map js_V ((0, if js_l b < js_l a then 1 else if js_l a = js_l b then 0 else -1) :: st), js_wd E.1 σ)) hI rfl rfl ?_
  show some (pc + 1, _, Value.int (lg_cmp (Int64.ofInt a) (Int64.ofInt b)) :: _, _) = some (pc + 1, _, Value.int (Int32.ofInt (if js_l b < js_l a then 1 else if js_l a = js_l b then 0 else -1)) :: _, _)
  have e : lg_cmp (Int64.ofInt a) (Int64.ofInt b) = Int32.ofInt (if js_l b < js_l a then 1 else if js_l a = js_l b then 0 else -1) := by
    unfold lg_cmp
    have h1 : (Int64.ofInt a > Int64.ofInt b) ↔ js_l b < js_l a := js_l_lt b a
    have h2 := js_l_inj a b
    by_cases h3 : js_l b < js_l a
    · rw [if_pos h3, if_pos (h1.mpr h3)]
      rfl
    · rw [if_neg h3, if_neg (fun h => h3 (h1.mp h))]
      by_cases h4 : js_l a = js_l b
      · rw [if_pos h4, if_pos (h2.mpr h4)]
        rfl
      · rw [if_neg h4, if_neg (fun h => h4 (h2.mp h))]
        rfl
  rw [e]
theorem j_leq {a b off : Int} {t : Nat} (hI : js_I y pc = some (.lcmp, 1)) (hI2 : js_I y (pc + 1) = some (.ifCond .eq off, 3)) (ht : ip_tg (pc + 1) off = some t) : js_J E d y pc ls ((1, b) :: (1, a) :: st) σ = if js_l a = js_l b then js_J E d y (t) ls st σ else js_J E d y (pc + 1 + 3) ls st σ := by
  rw [j_lcmp hI, j_ifeq hI2 ht]
  have e1 : js_w 1 = 1 := rfl
  have e0 : js_w 0 = 0 := rfl
  have em : js_w (-1) = -1 := rfl
  by_cases h1 : js_l b < js_l a
  · rw [if_pos h1, e1]
    by_cases h2 : js_l a = js_l b
    · first | rw [if_pos h2, if_pos (by omega)] | (exfalso; omega)
    · first | rw [if_neg h2, if_neg (by omega)] | (exfalso; omega)
  · rw [if_neg h1]
    by_cases h3 : js_l a = js_l b
    · rw [if_pos h3, e0]
      by_cases h2 : js_l a = js_l b
      · first | rw [if_pos h2, if_pos (by omega)] | (exfalso; omega)
      · first | rw [if_neg h2, if_neg (by omega)] | (exfalso; omega)
    · rw [if_neg h3, em]
      by_cases h2 : js_l a = js_l b
      · first | rw [if_pos h2, if_pos (by omega)] | (exfalso; omega)
      · first | rw [if_neg h2, if_neg (by omega)] | (exfalso; omega)
theorem j_lne {a b off : Int} {t : Nat} (hI : js_I y pc = some (.lcmp, 1)) (hI2 : js_I y (pc + 1) = some (.ifCond .ne off, 3)) (ht : ip_tg (pc + 1) off = some t) : js_J E d y pc ls ((1, b) :: (1, a) :: st) σ = if js_l a = js_l b then js_J E d y (pc + 1 + 3) ls st σ else js_J E d y (t) ls st σ := by
  rw [j_lcmp hI, j_ifne hI2 ht]
  have e1 : js_w 1 = 1 := rfl
  have e0 : js_w 0 = 0 := rfl
  have em : js_w (-1) = -1 := rfl
  by_cases h1 : js_l b < js_l a
  · rw [if_pos h1, e1]
    by_cases h2 : js_l a = js_l b
    · first | rw [if_pos h2, if_pos (by omega)] | (exfalso; omega)
    · first | rw [if_neg h2, if_neg (by omega)] | (exfalso; omega)
  · rw [if_neg h1]
    by_cases h3 : js_l a = js_l b
    · rw [if_pos h3, e0]
      by_cases h2 : js_l a = js_l b
      · first | rw [if_pos h2, if_pos (by omega)] | (exfalso; omega)
      · first | rw [if_neg h2, if_neg (by omega)] | (exfalso; omega)
    · rw [if_neg h3, em]
      by_cases h2 : js_l a = js_l b
      · first | rw [if_pos h2, if_pos (by omega)] | (exfalso; omega)
      · first | rw [if_neg h2, if_neg (by omega)] | (exfalso; omega)
theorem j_llt {a b off : Int} {t : Nat} (hI : js_I y pc = some (.lcmp, 1)) (hI2 : js_I y (pc + 1) = some (.ifCond .lt off, 3)) (ht : ip_tg (pc + 1) off = some t) : js_J E d y pc ls ((1, b) :: (1, a) :: st) σ = if js_l a < js_l b then js_J E d y (t) ls st σ else js_J E d y (pc + 1 + 3) ls st σ := by
  rw [j_lcmp hI, j_iflt hI2 ht]
  have e1 : js_w 1 = 1 := rfl
  have e0 : js_w 0 = 0 := rfl
  have em : js_w (-1) = -1 := rfl
  by_cases h1 : js_l b < js_l a
  · rw [if_pos h1, e1]
    by_cases h2 : js_l a < js_l b
    · first | rw [if_pos h2, if_pos (by omega)] | (exfalso; omega)
    · first | rw [if_neg h2, if_neg (by omega)] | (exfalso; omega)
  · rw [if_neg h1]
    by_cases h3 : js_l a = js_l b
    · rw [if_pos h3, e0]
      by_cases h2 : js_l a < js_l b
      · first | rw [if_pos h2, if_pos (by omega)] | (exfalso; omega)
      · first | rw [if_neg h2, if_neg (by omega)] | (exfalso; omega)
    · rw [if_neg h3, em]
      by_cases h2 : js_l a < js_l b
      · first | rw [if_pos h2, if_pos (by omega)] | (exfalso; omega)
      · first | rw [if_neg h2, if_neg (by omega)] | (exfalso; omega)
theorem j_lge {a b off : Int} {t : Nat} (hI : js_I y pc = some (.lcmp, 1)) (hI2 : js_I y (pc + 1) = some (.ifCond .ge off, 3)) (ht : ip_tg (pc + 1) off = some t) : js_J E d y pc ls ((1, b) :: (1, a) :: st) σ = if js_l a < js_l b then js_J E d y (pc + 1 + 3) ls st σ else js_J E d y (t) ls st σ := by
  rw [j_lcmp hI, j_ifge hI2 ht]
  have e1 : js_w 1 = 1 := rfl
  have e0 : js_w 0 = 0 := rfl
  have em : js_w (-1) = -1 := rfl
  by_cases h1 : js_l b < js_l a
  · rw [if_pos h1, e1]
    by_cases h2 : js_l a < js_l b
    · first | rw [if_pos h2, if_pos (by omega)] | (exfalso; omega)
    · first | rw [if_neg h2, if_neg (by omega)] | (exfalso; omega)
  · rw [if_neg h1]
    by_cases h3 : js_l a = js_l b
    · rw [if_pos h3, e0]
      by_cases h2 : js_l a < js_l b
      · first | rw [if_pos h2, if_pos (by omega)] | (exfalso; omega)
      · first | rw [if_neg h2, if_neg (by omega)] | (exfalso; omega)
    · rw [if_neg h3, em]
      by_cases h2 : js_l a < js_l b
      · first | rw [if_pos h2, if_pos (by omega)] | (exfalso; omega)
      · first | rw [if_neg h2, if_neg (by omega)] | (exfalso; omega)
theorem j_lgt {a b off : Int} {t : Nat} (hI : js_I y pc = some (.lcmp, 1)) (hI2 : js_I y (pc + 1) = some (.ifCond .gt off, 3)) (ht : ip_tg (pc + 1) off = some t) : js_J E d y pc ls ((1, b) :: (1, a) :: st) σ = if js_l b < js_l a then js_J E d y (t) ls st σ else js_J E d y (pc + 1 + 3) ls st σ := by
  rw [j_lcmp hI, j_ifgt hI2 ht]
  have e1 : js_w 1 = 1 := rfl
  have e0 : js_w 0 = 0 := rfl
  have em : js_w (-1) = -1 := rfl
  by_cases h1 : js_l b < js_l a
  · rw [if_pos h1, e1]
    by_cases h2 : js_l b < js_l a
    · first | rw [if_pos h2, if_pos (by omega)] | (exfalso; omega)
    · first | rw [if_neg h2, if_neg (by omega)] | (exfalso; omega)
  · rw [if_neg h1]
    by_cases h3 : js_l a = js_l b
    · rw [if_pos h3, e0]
      by_cases h2 : js_l b < js_l a
      · first | rw [if_pos h2, if_pos (by omega)] | (exfalso; omega)
      · first | rw [if_neg h2, if_neg (by omega)] | (exfalso; omega)
    · rw [if_neg h3, em]
      by_cases h2 : js_l b < js_l a
      · first | rw [if_pos h2, if_pos (by omega)] | (exfalso; omega)
      · first | rw [if_neg h2, if_neg (by omega)] | (exfalso; omega)
theorem j_lle {a b off : Int} {t : Nat} (hI : js_I y pc = some (.lcmp, 1)) (hI2 : js_I y (pc + 1) = some (.ifCond .le off, 3)) (ht : ip_tg (pc + 1) off = some t) : js_J E d y pc ls ((1, b) :: (1, a) :: st) σ = if js_l b < js_l a then js_J E d y (pc + 1 + 3) ls st σ else js_J E d y (t) ls st σ := by
  rw [j_lcmp hI, j_ifle hI2 ht]
  have e1 : js_w 1 = 1 := rfl
  have e0 : js_w 0 = 0 := rfl
  have em : js_w (-1) = -1 := rfl
  by_cases h1 : js_l b < js_l a
  · rw [if_pos h1, e1]
    by_cases h2 : js_l b < js_l a
    · first | rw [if_pos h2, if_pos (by omega)] | (exfalso; omega)
    · first | rw [if_neg h2, if_neg (by omega)] | (exfalso; omega)
  · rw [if_neg h1]
    by_cases h3 : js_l a = js_l b
    · rw [if_pos h3, e0]
      by_cases h2 : js_l b < js_l a
      · first | rw [if_pos h2, if_pos (by omega)] | (exfalso; omega)
      · first | rw [if_neg h2, if_neg (by omega)] | (exfalso; omega)
    · rw [if_neg h3, em]
      by_cases h2 : js_l b < js_l a
      · first | rw [if_pos h2, if_pos (by omega)] | (exfalso; omega)
      · first | rw [if_neg h2, if_neg (by omega)] | (exfalso; omega)
theorem j_ifnull {a off : Int} {t : Nat} (hI : js_I y pc = some (.ifnull off, 3)) (ht : ip_tg pc off = some t) : js_J E d y pc ls ((2, a) :: st) σ = if a < 0 then js_J E d y (t) ls st σ else js_J E d y (pc + 3) ls st σ := by
  split
  · rename_i h
    refine js_si (r := (t, js_L ls 0, List.map js_V st, js_wd E.1 σ)) hI rfl rfl ?_
    show ip_st _ _ _ _ _ _ (.ifnull off) pc _ (js_rf a :: _) _ = _
    rw [show js_rf a = .null from if_pos h]
    simp only [ip_st, ht]
  · rename_i h
    refine js_si (r := (pc + 3, js_L ls 0, List.map js_V st, js_wd E.1 σ)) hI rfl rfl ?_
    show ip_st _ _ _ _ _ _ (.ifnull off) pc _ (js_rf a :: _) _ = _
    rw [show js_rf a = .ref a.toNat from if_neg h]
    simp only [ip_st, ht]
theorem j_ifnonnull {a off : Int} {t : Nat} (hI : js_I y pc = some (.ifnonnull off, 3)) (ht : ip_tg pc off = some t) : js_J E d y pc ls ((2, a) :: st) σ = if a < 0 then js_J E d y (pc + 3) ls st σ else js_J E d y (t) ls st σ := by
  split
  · rename_i h
    refine js_si (r := (pc + 3, js_L ls 0, List.map js_V st, js_wd E.1 σ)) hI rfl rfl ?_
    show ip_st _ _ _ _ _ _ (.ifnonnull off) pc _ (js_rf a :: _) _ = _
    rw [show js_rf a = .null from if_pos h]
    simp only [ip_st, ht]
  · rename_i h
    refine js_si (r := (t, js_L ls 0, List.map js_V st, js_wd E.1 σ)) hI rfl rfl ?_
    show ip_st _ _ _ _ _ _ (.ifnonnull off) pc _ (js_rf a :: _) _ = _
    rw [show js_rf a = .ref a.toNat from if_neg h]
    simp only [ip_st, ht]
theorem j_tsw {n : Nat} {a dd lw hi off : Int} {offs : Array Int} {t : Nat} (hI : js_I y pc = some (.tableswitch dd lw hi offs, n)) (h1 : lw ≤ js_w a) (h2 : js_w a ≤ hi) (h3 : offs[(js_w a - lw).toNat]? = some off) (ht : ip_tg pc off = some t) : js_J E d y pc ls ((0, a) :: st) σ = js_J E d y t ls st σ := by
  refine js_si (r := (t, js_L ls 0, List.map js_V st, js_wd E.1 σ)) hI rfl rfl ?_
  show (if (Int32.ofInt a).toInt < lw ∨ hi < (Int32.ofInt a).toInt then _ else (match offs[((Int32.ofInt a).toInt - lw).toNat]? with
    | some off => (match ip_tg pc off with
      | some t => some (t, _, _, _)
      | none => none)
    | none => none)) = _
  have h1' : lw ≤ (Int32.ofInt a).toInt := h1
  have h2' : (Int32.ofInt a).toInt ≤ hi := h2
  have h3' : offs[((Int32.ofInt a).toInt - lw).toNat]? = some off := h3
  rw [if_neg (by omega), h3']
  simp only [ht]
theorem j_tswd {n : Nat} {a dd lw hi : Int} {offs : Array Int} {t : Nat} (hI : js_I y pc = some (.tableswitch dd lw hi offs, n)) (h1 : js_w a < lw ∨ hi < js_w a) (ht : ip_tg pc dd = some t) : js_J E d y pc ls ((0, a) :: st) σ = js_J E d y t ls st σ := by
  refine js_si (r := (t, js_L ls 0, List.map js_V st, js_wd E.1 σ)) hI rfl rfl ?_
  show (if (Int32.ofInt a).toInt < lw ∨ hi < (Int32.ofInt a).toInt then (match ip_tg pc dd with
    | some t => some (t, _, _, _)
    | none => none) else _) = _
  have h1' : (Int32.ofInt a).toInt < lw ∨ hi < (Int32.ofInt a).toInt := h1
  rw [if_pos h1', ht]
theorem j_lsw {n : Nat} {a dd : Int} {ps : Array (Int × Int)} {t : Nat} (hI : js_I y pc = some (.lookupswitch dd ps, n)) (ht : ip_tg pc (Op.lookupswitch.offset ps.toList dd (js_w a)) = some t) : js_J E d y pc ls ((0, a) :: st) σ = js_J E d y t ls st σ := by
  have ho := js_ok hI
  refine js_si (r := (t, js_L ls 0, List.map js_V st, js_wd E.1 σ)) hI rfl rfl ?_
  have ho2 : (ps.toList.zip (ps.toList.drop 1)).all (fun (a, next) => a.1 < next.1) = true := ho
  show (if (ps.toList.zip (ps.toList.drop 1)).all (fun (a, next) => a.1 < next.1) = true then (match ip_tg pc (Op.lookupswitch.offset ps.toList dd (js_w a)) with
    | some t => some (t, _, _, _)
    | none => none) else none) = _
  rw [if_pos ho2, ht]
theorem j_ireturn {a : Int} (hI : js_I y pc = some (.ireturn, 1)) (hr : vt_rc.getD y 0 = 1) : js_J E d y pc ls [(0, a)] σ = js_r E (0, a) σ := by
  refine Eq.trans (js_send hI rfl) ?_
  exact if_pos (Or.inl hr)
theorem j_breturn {a : Int} (hI : js_I y pc = some (.ireturn, 1)) (hr : vt_rc.getD y 0 = 2) : js_J E d y pc ls [(0, a)] σ = if js_w a = 0 ∨ js_w a = 1 then js_r E (0, a) σ else none := by
  refine Eq.trans (js_send hI rfl) ?_
  show (if vt_rc.getD y 0 = 1 ∨ (vt_rc.getD y 0 = 2 ∧ (Int32.ofInt a = 0 ∨ Int32.ofInt a = 1)) then _ else none) = _
  by_cases h : js_w a = 0 ∨ js_w a = 1
  · rw [if_pos h, if_pos (Or.inr ⟨hr, h.imp (js_w_inj a 0).mpr (js_w_inj a 1).mpr⟩)]
    rfl
  · rw [if_neg h, if_neg]
    rintro (h1 | ⟨-, h1⟩)
    · rw [hr] at h1
      cases h1
    · exact h (h1.imp (js_w_inj a 0).mp (js_w_inj a 1).mp)
theorem j_breturn0 (hI : js_I y pc = some (.ireturn, 1)) (hr : vt_rc.getD y 0 = 2) : js_J E d y pc ls [(0, 0)] σ = js_r E (0, 0) σ := by
  rw [j_breturn hI hr]
  exact if_pos (Or.inl rfl)
theorem j_breturn1 (hI : js_I y pc = some (.ireturn, 1)) (hr : vt_rc.getD y 0 = 2) : js_J E d y pc ls [(0, 1)] σ = js_r E (0, 1) σ := by
  rw [j_breturn hI hr]
  exact if_pos (Or.inr rfl)
theorem j_lreturn {a : Int} (hI : js_I y pc = some (.lreturn, 1)) (hr : vt_rc.getD y 0 = 3) : js_J E d y pc ls [(1, a)] σ = js_r E (1, a) σ := by
  refine Eq.trans (js_send hI rfl) ?_
  show (if vt_rc.getD y 0 = 3 then _ else none) = _
  rw [if_pos hr]
  rfl
theorem j_areturn {a : Int} (hI : js_I y pc = some (.areturn, 1)) (hr : vt_rc.getD y 0 = 4) : js_J E d y pc ls [(2, a)] σ = js_r E (2, a) σ := by
  refine Eq.trans (js_send hI rfl) ?_
  show ip_end (vt_rc.getD y 0) .areturn [js_rf a] _ = some (.returned (some (js_rf a)), _)
  unfold js_rf
  split
  · exact if_pos hr
  · exact if_pos hr
theorem j_return (hI : js_I y pc = some (.return_, 1)) (hr : vt_rc.getD y 0 = 0) : js_J E d y pc ls [] σ = js_r0 E σ := by
  refine Eq.trans (js_send hI rfl) ?_
  show (if vt_rc.getD y 0 = 0 then _ else none) = _
  rw [if_pos hr]
  rfl
end JSI
