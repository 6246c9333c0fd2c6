/-! part 60: worlds out of a store of integers; the limit of the runs (table of cells: wip/whole/tools/gen60.py) -/
abbrev js_S : Type := Int → Int → Int
/-- a value: 0 int, 1 long, 2 reference (below 0: null), 3 a constant's number, 9 unset -/
abbrev js_v : Type := Nat × Int
/-- a cell's form: (0, class, fields) or (kind + 1, length, contents that never change); a field: 0 int, 1 long, 2 boolean, 3 reference, 4, 5, 6 a reference, int, long that never changes -/
abbrev js_D : Type := Nat × Int × List (Nat × Int)
abbrev js_E : Type := Int × Nat × (Nat → Int32)
def js_up (σ : js_S) (a i v : Int) : js_S := fun b j => if b = a ∧ j = i then v else σ b j
def js_w (x : Int) : Int := (Int32.ofInt x).toInt
def js_l (x : Int) : Int := (Int64.ofInt x).toInt
def js_rf (x : Int) : Value := if x < 0 then .null else .ref x.toNat
def js_V (v : js_v) : Value := match v with
  | (0, x) => .int (Int32.ofInt x)
  | (1, x) => .long (Int64.ofInt x)
  | (2, x) => js_rf x
  | (_, x) => .retAddr x.toNat
def js_fp (q : Nat × Int) (x : Int) : js_v := match q with
  | (0, _) => (0, x)
  | (1, _) => (1, x)
  | (2, _) => (0, x)
  | (3, _) => (2, x)
  | (4, c) => (2, c)
  | (5, c) => (0, c)
  | (_, c) => (1, c)
def js_fs : List (Nat × Int) → Int → (Int → Int) → List Value
  | [], _, _ => []
  | q :: r, j, f => js_V (js_fp q (f j)) :: js_fs r (j + 1) f
def js_ar (k : Nat) (cs : List (Nat × Int)) (f : Int → Int) : ip_A :=
  if k = 2 then .inr (.inl (fun i => Int64.ofInt (f i))) else if k = 4 then .inr (.inr (fun i => if f i < 0 then none else some (f i).toNat)) else .inl (fun i => Int32.ofInt (match cs with
    | [] => f i
    | _ :: _ => (cs.getD i (0, 0)).2))
def js_sym : List (Nat × Int) := [(0, 0), (0, 0), (0, 0), (0, 0), (0, 0), (0, 0), (0, 0), (0, 0), (0, 0), (0, 0), (0, 0), (0, 0), (2, 0), (2, 0), (0, 0)]
def js_tab0 (M : Int) : List js_D := [(0, 0, [(4, 1), (4, 56), (4, 82), (0, 0), (3, 0), (3, 0)]), (0, 8, [(0, 0), (0, 0), (0, 0), (0, 0), (4, 2), (0, 0), (0, 0), (4, 3), (4, 4), (4, 5), (0, 0), (0, 0)]), (2, 20, []), (2, 8192, []), (2, 8193, []), (1, 8193, []), (0, 4, [(4, 7), (4, 1), (5, M), (4, 21), (4, 22)]), (0, 7, [(4, 8), (0, 0), (0, 0), (0, 0), (0, 0), (0, 0), (0, 0), (4, 19), (4, 20)]), (0, 1, [(4, 9), (4, 10), (4, 11), (4, 12), (4, 13), (4, 14), (0, 0), (0, 0), (0, 0), (0, 0), (0, 0), (0, 0), (0, 0), (4, 15), (4, 16), (4, 17), (4, 18)]), (1, 8192, []), (1, 8192, []), (1, 8192, []), (1, 8192, []), (1, 8192, []), (1, 8192, []), (1, 401, []), (1, 401, []), (1, 1024, []), (1, 1024, []), (5, 400, []), (2, 8000, []), (0, 2, [(0, 0), (0, 0), (0, 0), (4, 1), (4, 7)]), (0, 10, [(0, 0), (4, 1), (4, 7), (4, 8), (4, 21), (4, 23)]), (0, 5, [(0, 0), (0, 0), (0, 0), (0, 0), (4, 1), (4, 7), (4, 8), (4, 21), (4, 24), (4, 25), (4, 26), (4, 27), (4, 28), (4, 29), (4, 30), (0, 0)]), (1, 512, []), (1, 512, []), (1, 512, []), (1, 512, []), (1, 512, []), (1, 512, []), (1, 512, []), (0, 4, [(4, 32), (4, 1), (5, M), (4, 46), (4, 47)]), (0, 7, [(4, 33), (0, 0), (0, 0), (0, 0), (0, 0), (0, 0), (0, 0), (4, 44), (4, 45)]), (0, 1, [(4, 34), (4, 35), (4, 36), (4, 37), (4, 38), (4, 39), (0, 0), (0, 0), (0, 0), (0, 0), (0, 0), (0, 0), (0, 0), (4, 40), (4, 41), (4, 42), (4, 43)]), (1, 8192, []), (1, 8192, []), (1, 8192, []), (1, 8192, []), (1, 8192, []), (1, 8192, []), (1, 401, []), (1, 401, []), (1, 1024, []), (1, 1024, []), (5, 400, []), (2, 8000, [])]
def js_tab1 (M : Int) : List js_D := [(0, 2, [(0, 0), (0, 0), (0, 0), (4, 1), (4, 32)]), (0, 10, [(0, 0), (4, 1), (4, 32), (4, 33), (4, 46), (4, 48)]), (0, 5, [(0, 0), (0, 0), (0, 0), (0, 0), (4, 1), (4, 32), (4, 33), (4, 46), (4, 49), (4, 50), (4, 51), (4, 52), (4, 53), (4, 54), (4, 55), (0, 0)]), (1, 512, []), (1, 512, []), (1, 512, []), (1, 512, []), (1, 512, []), (1, 512, []), (1, 512, []), (0, 6, [(4, 58), (3, 0), (2, 0), (0, 0), (0, 0), (4, 79), (4, 81), (4, 57), (0, 0), (0, 0), (4, 65), (4, 72), (4, 80)]), (1, 32, []), (0, 9, [(0, 0), (0, 0), (0, 0), (0, 0), (4, 59), (4, 62)]), (0, 3, [(1, 0), (1, 0), (0, 0), (0, 0), (6, 1), (4, 61), (4, 60)]), (1, 16, []), (3, M, []), (0, 3, [(1, 0), (1, 0), (0, 0), (0, 0), (6, 58659), (4, 64), (4, 63)]), (1, 16, []), (3, M, []), (0, 9, [(0, 0), (0, 0), (0, 0), (0, 0), (4, 66), (4, 69)]), (0, 3, [(1, 0), (1, 0), (0, 0), (0, 0), (6, 1), (4, 68), (4, 67)]), (1, 16, []), (3, M, []), (0, 3, [(1, 0), (1, 0), (0, 0), (0, 0), (6, 58659), (4, 71), (4, 70)]), (1, 16, []), (3, M, []), (0, 9, [(0, 0), (0, 0), (0, 0), (0, 0), (4, 73), (4, 76)]), (0, 3, [(1, 0), (1, 0), (0, 0), (0, 0), (6, 1), (4, 75), (4, 74)]), (1, 16, []), (3, M, []), (0, 3, [(1, 0), (1, 0), (0, 0), (0, 0), (6, 58659), (4, 78), (4, 77)]), (1, 16, []), (3, M, []), (1, M, []), (1, M, []), (1, 16 * M, []), (2, 64, []), (0, 12, [(0, 0), (4, 84), (0, 0), (4, 85), (0, 0), (0, 0), (0, 0), (0, 0), (0, 0), (0, 0), (0, 0), (0, 0), (4, 86), (4, 87), (4, 88), (4, 89), (4, 90), (4, 91), (4, 92), (4, 93), (4, 94), (4, 95), (4, 96), (4, 97), (4, 98), (4, 99), (0, 0), (0, 0), (0, 0), (0, 0), (0, 0), (0, 0), (0, 0), (0, 0), (4, 100), (4, 101), (4, 102), (4, 103), (4, 104), (4, 105), (4, 106), (4, 107), (1, 0), (1, 0), (0, 0), (0, 0), (0, 0), (0, 0), (0, 0), (0, 0), (0, 0), (0, 0), (0, 0), (0, 0), (0, 0), (0, 0), (4, 108), (4, 109), (4, 110), (4, 111), (4, 112), (4, 113), (4, 114), (4, 115), (2, 0), (0, 0), (0, 0), (4, 116), (4, 117), (4, 118), (4, 119), (4, 120), (4, 121), (4, 122), (4, 123), (4, 124), (4, 125), (0, 0), (0, 0), (0, 0), (0, 0), (0, 0), (0, 0), (0, 0), (4, 126), (0, 0), (4, 127), (4, 128), (4, 129), (4, 130), (0, 0), (4, 131), (4, 132), (4, 133), (4, 134), (4, 135), (0, 0)]), (2, 65536, []), (2, 106, [(0, 99), (0, 111), (0, 110), (0, 115), (0, 116), (0, 32), (0, 116), (0, 121), (0, 112), (0, 101), (0, 32), (0, 105), (0, 110), (0, 32), (0, 111), (0, 117), (0, 116), (0, 32), (0, 115), (0, 116), (0, 97), (0, 116), (0, 101), (0, 32), (0, 118), (0, 97), (0, 114), (0, 32), (0, 102), (0, 117), (0, 110), (0, 32), (0, 105), (0, 102), (0, 32), (0, 101), (0, 108), (0, 115), (0, 101), (0, 32), (0, 99), (0, 97), (0, 115), (0, 101), (0, 32), (0, 102), (0, 111), (0, 114), (0, 32), (0, 116), (0, 111), (0, 32), (0, 97), (0, 115), (0, 115), (0, 101), (0, 114), (0, 116), (0, 32), (0, 114), (0, 101), (0, 116), (0, 117), (0, 114), (0, 110), (0, 32), (0, 99), (0, 121), (0, 99), (0, 108), (0, 101), (0, 32), (0, 98), (0, 111), (0, 111), (0, 108), (0, 32), (0, 116), (0, 114), (0, 117), (0, 101), (0, 32), (0, 102), (0, 97), (0, 108), (0, 115), (0, 101), (0, 32), (0, 109), (0, 105), (0, 110), (0, 32), (0, 109), (0, 97), (0, 120), (0, 32), (0, 97), (0, 98), (0, 115), (0, 32), (0, 99), (0, 108), (0, 97), (0, 109), (0, 112), (0, 32)]), (1, 400, []), (1, 400, []), (1, 400, []), (1, 400, []), (1, 400, []), (1, 400, [])]
def js_tab2 (M : Int) : List js_D := [(4, 400, []), (1, 400, []), (1, 400, []), (1, 400, []), (1, 400, []), (1, 400, []), (2, 8000, []), (4, 400, []), (2, 66000, []), (1, 66000, []), (1, 66000, []), (1, 66000, []), (1, 66000, []), (1, 66000, []), (1, 66000, []), (1, 66000, []), (1, 400, []), (1, 400, []), (1, 66000, []), (1, 8192, []), (1, 8192, []), (1, 8192, []), (3, 8192, []), (3, 8192, []), (1, 4800, []), (2, 8000, []), (1, 24576, []), (3, 16384, []), (3, 8192, []), (3, 2, []), (3, 2, []), (1, 64, []), (1, 2, []), (1, 4096, []), (1, 65536, []), (1, 8, []), (1, 8, []), (1, 8, []), (1, 8, []), (3, 8196, []), (1, 4096, []), (1, 4096, []), (2, 134, [(0, 67), (0, 79), (0, 78), (0, 83), (0, 84), (0, 32), (0, 76), (0, 79), (0, 65), (0, 68), (0, 32), (0, 83), (0, 84), (0, 79), (0, 82), (0, 69), (0, 32), (0, 77), (0, 79), (0, 86), (0, 69), (0, 32), (0, 76), (0, 79), (0, 65), (0, 68), (0, 88), (0, 32), (0, 83), (0, 84), (0, 79), (0, 82), (0, 69), (0, 88), (0, 32), (0, 65), (0, 68), (0, 68), (0, 32), (0, 83), (0, 85), (0, 66), (0, 32), (0, 77), (0, 85), (0, 76), (0, 32), (0, 68), (0, 73), (0, 86), (0, 32), (0, 82), (0, 69), (0, 77), (0, 32), (0, 77), (0, 73), (0, 78), (0, 32), (0, 77), (0, 65), (0, 88), (0, 32), (0, 76), (0, 84), (0, 32), (0, 76), (0, 69), (0, 32), (0, 71), (0, 84), (0, 32), (0, 71), (0, 69), (0, 32), (0, 69), (0, 81), (0, 32), (0, 78), (0, 69), (0, 32), (0, 78), (0, 69), (0, 71), (0, 32), (0, 65), (0, 66), (0, 83), (0, 32), (0, 78), (0, 79), (0, 84), (0, 32), (0, 76), (0, 79), (0, 87), (0, 32), (0, 72), (0, 73), (0, 71), (0, 72), (0, 32), (0, 74), (0, 85), (0, 77), (0, 80), (0, 32), (0, 74), (0, 90), (0, 32), (0, 74), (0, 78), (0, 90), (0, 32), (0, 67), (0, 65), (0, 76), (0, 76), (0, 32), (0, 82), (0, 69), (0, 84), (0, 32), (0, 72), (0, 65), (0, 76), (0, 84), (0, 32), (0, 67), (0, 72), (0, 69), (0, 67), (0, 75), (0, 32)]), (2, 80, []), (3, 1, [])]
def js_tab (M : Int) : List js_D := js_tab0 M ++ (js_tab1 M ++ js_tab2 M)
/-- the form of the cell at a: fixed ones below 137; behind them Symbols and thrown ones; the store's row -1 holds the next address and the slots -/
def js_desc (M : Int) (σ : js_S) (a : Int) : Option js_D := if 0 ≤ a then (if a < 137 then (js_tab M)[a.toNat]? else if a < σ (-1) 0 then (if σ a 15 = 11 then some (0, 11, js_sym) else some (0, σ a 15, [])) else none) else none
def js_cell (M : Int) (σ : js_S) (a : Nat) : Option ip_E := match js_desc M σ (a : Int) with
  | none => none
  | some (0, ci, fs) => some (.inr (ci.toNat, js_fs fs 0 (σ (a : Int))))
  | some (k + 1, n, cs) => some (.inl (k, n.toNat, js_ar k cs (σ (a : Int))))
def js_wd (M : Int) (σ : js_S) : ip_W := ((σ (-1) 0).toNat, (σ (-1) 1).toNat, js_cell M σ)
theorem js_up_same (σ : js_S) (a i v : Int) : js_up σ a i v a i = v := if_pos ⟨rfl, rfl⟩
theorem js_up_ne (σ : js_S) {a i v b j : Int} (h : ¬ (b = a ∧ j = i)) : js_up σ a i v b j = σ b j := if_neg h
theorem js_w_of {x : Int} (h1 : -2147483648 ≤ x) (h2 : x < 2147483648) : js_w x = x := Int32.toInt_ofInt_of_le h1 h2
theorem js_l_of {x : Int} (h1 : -9223372036854775808 ≤ x) (h2 : x < 9223372036854775808) : js_l x = x := Int64.toInt_ofInt_of_le h1 h2
theorem js_w_in (x : Int) : -2147483648 ≤ js_w x ∧ js_w x < 2147483648 := ⟨Int32.le_toInt _, Int32.toInt_lt _⟩
theorem js_l_in (x : Int) : -9223372036854775808 ≤ js_l x ∧ js_l x < 9223372036854775808 := ⟨Int64.le_toInt _, Int64.toInt_lt _⟩
theorem js_w_w (x : Int) : js_w (js_w x) = js_w x := js_w_of (js_w_in x).1 (js_w_in x).2
theorem js_l_l (x : Int) : js_l (js_l x) = js_l x := js_l_of (js_l_in x).1 (js_l_in x).2
theorem js_l_w (x : Int) : js_l (js_w x) = js_w x := by
  have h := js_w_in x
  exact js_l_of (by omega) (by omega)
theorem js_ofw (x : Int) : Int32.ofInt (js_w x) = Int32.ofInt x := Int32.ofInt_toInt _
theorem js_ofl (x : Int) : Int64.ofInt (js_l x) = Int64.ofInt x := Int64.ofInt_toInt _
theorem js_fs_get : ∀ (l : List (Nat × Int)) (j : Int) (f : Int → Int) (k : Nat), (js_fs l j f)[k]? = (l[k]?).map (fun q => js_V (js_fp q (f (j + k))))
  | [], j, f, k => by simp [js_fs]
  | q :: r, j, f, 0 => by simp [js_fs]
  | q :: r, j, f, k + 1 => by
    simp only [js_fs, List.getElem?_cons_succ]
    rw [js_fs_get r (j + 1) f k]
    congr 1
    funext q
    congr 3
    push_cast
    omega
theorem js_fs_len : ∀ (l : List (Nat × Int)) (j : Int) (f : Int → Int), (js_fs l j f).length = l.length
  | [], _, _ => rfl
  | _ :: r, j, f => by simp [js_fs, js_fs_len r (j + 1) f]
theorem js_fs_eq : ∀ (l : List (Nat × Int)) (j : Int) (f g : Int → Int), (∀ i : Int, j ≤ i → f i = g i) → js_fs l j f = js_fs l j g
  | [], _, _, _, _ => rfl
  | q :: r, j, f, g, h => by
    simp only [js_fs]
    rw [h j (by omega), js_fs_eq r (j + 1) f g (fun i hi => h i (by omega))]
theorem js_fs_set : ∀ (l : List (Nat × Int)) (j : Int) (f g : Int → Int) (k : Nat) (q : Nat × Int), l[k]? = some q → (∀ i : Int, i ≠ j + k → f i = g i) → (js_fs l j f).set k (js_V (js_fp q (g (j + k)))) = js_fs l j g
  | [], _, _, _, _, _, h, _ => by simp at h
  | q0 :: r, j, f, g, 0, q, h, hg => by
    simp only [List.getElem?_cons_zero, Option.some.injEq] at h
    subst h
    simp only [js_fs, List.set_cons_zero]
    rw [js_fs_eq r (j + 1) f g (fun i hi => hg i (by simp; omega))]
    simp
  | q0 :: r, j, f, g, k + 1, q, h, hg => by
    simp only [List.getElem?_cons_succ] at h
    simp only [js_fs, List.set_cons_succ]
    have e1 : j + ((k + 1 : Nat) : Int) = (j + 1) + (k : Int) := by push_cast; omega
    rw [hg j (by push_cast; omega), e1, js_fs_set r (j + 1) f g k q h (fun i hi => hg i (by rw [e1]; exact hi))]
theorem js_desc_nn {M : Int} {σ : js_S} {a : Int} {D : js_D} (h : js_desc M σ a = some D) : 0 ≤ a := by
  unfold js_desc at h
  split at h
  · assumption
  · cases h
theorem js_at_o {M : Int} {σ : js_S} {a ci : Int} {fs : List (Nat × Int)} (h : js_desc M σ a = some (0, ci, fs)) : (js_wd M σ).2.2 a.toNat = some (.inr (ci.toNat, js_fs fs 0 (σ a))) := by
  have h0 := js_desc_nn h
  simp only [js_wd]
  unfold js_cell
  rw [Int.toNat_of_nonneg h0, h]
theorem js_at_a {M : Int} {σ : js_S} {a n : Int} {k : Nat} {cs : List (Nat × Int)} (h : js_desc M σ a = some (k + 1, n, cs)) : (js_wd M σ).2.2 a.toNat = some (.inl (k, n.toNat, js_ar k cs (σ a))) := by
  have h0 := js_desc_nn h
  simp only [js_wd]
  unfold js_cell
  rw [Int.toNat_of_nonneg h0, h]
/-- a store that differs at one place alone, which no form hangs on -/
theorem js_desc_up {M : Int} {σ : js_S} {a i x : Int} (h0 : 0 ≤ a) (h1 : 137 ≤ a → i ≠ 15) (b : Int) : js_desc M (js_up σ a i x) b = js_desc M σ b := by
  have e0 : js_up σ a i x (-1) 0 = σ (-1) 0 := js_up_ne σ (fun h => by omega)
  unfold js_desc
  rw [e0]
  by_cases hb : b < 137
  · simp only [hb, if_true]
  · rw [js_up_ne σ (b := b) (j := 15) (fun h => h1 (by omega) h.2.symm)]
theorem js_wd_up {M : Int} {σ : js_S} {a i x : Int} (h0 : 0 ≤ a) (h1 : 137 ≤ a → i ≠ 15) {y : ip_E} (hy : js_cell M (js_up σ a i x) a.toNat = some y) : js_wd M (js_up σ a i x) = ((js_wd M σ).1, (js_wd M σ).2.1, va_up (js_wd M σ).2.2 a.toNat (some y)) := by
  have e0 : js_up σ a i x (-1) 0 = σ (-1) 0 := js_up_ne σ (fun h => by omega)
  have e1 : js_up σ a i x (-1) 1 = σ (-1) 1 := js_up_ne σ (fun h => by omega)
  have e2 : js_cell M (js_up σ a i x) = va_up (js_cell M σ) a.toNat (some y) := by
    funext q
    unfold va_up
    split
    · rename_i hq
      rw [hq, hy]
    · rename_i hq
      have hne : (q : Int) ≠ a := fun h => hq (by omega)
      have e3 : js_up σ a i x (q : Int) = σ (q : Int) := by
        funext j
        exact js_up_ne σ (fun h => hne h.1)
      unfold js_cell
      rw [js_desc_up h0 h1, e3]
  simp only [js_wd]
  rw [e0, e1, e2]
theorem js_put {M : Int} {σ : js_S} {a ci x : Int} {fs : List (Nat × Int)} {j : Nat} {q : Nat × Int} (h : js_desc M σ a = some (0, ci, fs)) (hj : fs[j]? = some q) : js_wd M (js_up σ a j x) = ((js_wd M σ).1, (js_wd M σ).2.1, va_up (js_wd M σ).2.2 a.toNat (some (.inr (ci.toNat, (js_fs fs 0 (σ a)).set j (js_V (js_fp q x)))))) := by
  have h0 := js_desc_nn h
  have hlt : j < fs.length := (List.getElem?_eq_some_iff.mp hj).1
  have h1 : 137 ≤ a → (j : Int) ≠ 15 := by
    intro h2 h3
    unfold js_desc at h
    rw [if_pos h0, if_neg (by omega)] at h
    split at h
    · split at h
      · cases h
        have : js_sym.length = 15 := rfl
        omega
      · cases h
        simp at hlt
    · cases h
  refine js_wd_up h0 h1 ?_
  unfold js_cell
  rw [Int.toNat_of_nonneg h0, js_desc_up h0 h1, h]
  have e := js_fs_set fs 0 (σ a) (js_up σ a j x a) j q hj (fun i hi => (js_up_ne σ (fun hh => hi (by omega))).symm)
  have e4 : js_up σ a j x a ((0 : Int) + (j : Int)) = x := by
    rw [Int.zero_add]
    exact js_up_same _ _ _ _
  rw [e4] at e
  rw [e]
theorem js_puta {M : Int} {σ : js_S} {a n i x : Int} {k : Nat} {cs : List (Nat × Int)} (h : js_desc M σ a = some (k + 1, n, cs)) : js_wd M (js_up σ a i x) = ((js_wd M σ).1, (js_wd M σ).2.1, va_up (js_wd M σ).2.2 a.toNat (some (.inl (k, n.toNat, js_ar k cs (js_up σ a i x a))))) := by
  have h0 := js_desc_nn h
  have h1 : 137 ≤ a → i ≠ 15 := by
    intro h2
    unfold js_desc at h
    rw [if_pos h0, if_neg (by omega)] at h
    split at h
    · split at h <;> cases h
    · cases h
  refine js_wd_up h0 h1 ?_
  unfold js_cell
  rw [Int.toNat_of_nonneg h0, js_desc_up h0 h1, h]
