/-! part 18: what holds of the state beside tables and world, and stays; words that the library's members and the exceptions need (numbers printed by wip/whole/tools/gen19.py) -/
def vt_sll : List Nat := [19, 106, 23, 186, 27, 20, 10, 19, 28, 20, 20]
def vt_sby : List (List Int32) := [[40, 41, 123, 125, 91, 93, 44, 59, 58, 63, 61, 43, 45, 42, 47, 37, 60, 62, 33], [99, 111, 110, 115, 116, 32, 116, 121, 112, 101, 32, 105, 110, 32, 111, 117, 116, 32, 115, 116, 97, 116, 101, 32, 118, 97, 114, 32, 102, 117, 110, 32, 105, 102, 32, 101, 108, 115, 101, 32, 99, 97, 115, 101, 32, 102, 111, 114, 32, 116, 111, 32, 97, 115, 115, 101, 114, 116, 32, 114, 101, 116, 117, 114, 110, 32, 99, 121, 99, 108, 101, 32, 98, 111, 111, 108, 32, 116, 114, 117, 101, 32, 102, 97, 108, 115, 101, 32, 109, 105, 110, 32, 109, 97, 120, 32, 97, 98, 115, 32, 99, 108, 97, 109, 112, 32], [116, 104, 101, 32, 112, 114, 111, 103, 114, 97, 109, 32, 104, 97, 115, 32, 97, 32, 102, 97, 117, 108, 116], [67, 79, 78, 83, 84, 32, 76, 79, 65, 68, 32, 32, 83, 84, 79, 82, 69, 32, 77, 79, 86, 69, 32, 32, 76, 79, 65, 68, 88, 32, 83, 84, 79, 82, 69, 88, 65, 68, 68, 32, 32, 32, 83, 85, 66, 32, 32, 32, 77, 85, 76, 32, 32, 32, 68, 73, 86, 32, 32, 32, 82, 69, 77, 32, 32, 32, 77, 73, 78, 32, 32, 32, 77, 65, 88, 32, 32, 32, 76, 84, 32, 32, 32, 32, 76, 69, 32, 32, 32, 32, 71, 84, 32, 32, 32, 32, 71, 69, 32, 32, 32, 32, 69, 81, 32, 32, 32, 32, 78, 69, 32, 32, 32, 32, 78, 69, 71, 32, 32, 32, 65, 66, 83, 32, 32, 32, 78, 79, 84, 32, 32, 32, 76, 79, 87, 32, 32, 32, 72, 73, 71, 72, 32, 32, 74, 85, 77, 80, 32, 32, 74, 90, 32, 32, 32, 32, 74, 78, 90, 32, 32, 32, 67, 65, 76, 76, 32, 32, 82, 69, 84, 32, 32, 32, 72, 65, 76, 84, 32, 32, 67, 72, 69, 67, 75, 32], [110, 111, 32, 115, 117, 99, 104, 32, 73, 78, 83, 84, 82, 85, 67, 84, 73, 79, 78, 32, 111, 114, 32, 119, 104, 97, 116], [110, 32, 105, 115, 32, 110, 111, 116, 32, 49, 32, 46, 46, 32, 50, 48, 48, 48, 48, 48], [110, 111, 32, 112, 114, 111, 103, 114, 97, 109], [110, 111, 32, 115, 117, 99, 104, 32, 99, 101, 108, 108, 32, 111, 102, 32, 111, 117, 116], [110, 111, 32, 115, 117, 99, 104, 32, 67, 89, 67, 76, 69, 32, 111, 114, 32, 99, 101, 108, 108, 32, 111, 102, 32, 111, 117, 116], [110, 111, 32, 115, 117, 99, 104, 32, 99, 111, 112, 121, 32, 111, 114, 32, 99, 101, 108, 108], [110, 111, 32, 115, 117, 99, 104, 32, 99, 111, 112, 121, 32, 111, 114, 32, 119, 104, 97, 116]]
def vt_sD (i : Nat) : String × Nat × String := vt_sn.getD i ("", 0, "")
/-- statics of Throwable; the script; the String constants and the statics that String's members read; a class that isn't another's -/
def vt_Ev (b : Nat) (sc adV : Nat → Nat) (L : Nat) (xs : Nat → Int32) (s : State) : Prop :=
  va_Zq Bundle.tN "UNASSIGNED_STACK" Bundle.steD (fun q => b ≤ q) s s.heap ∧ va_Zq Bundle.tN "SUPPRESSED_SENTINEL" Bundle.listD (fun q => b ≤ q) s s.heap ∧
  va_T .int (sc 100) L (fun j => .int (xs j)) (fun q => b ≤ q) s s.heap ∧
  (∀ i : Nat, i < 11 → vk_R (vt_sD i).1 (vt_sD i).2.1 (vt_sD i).2.2 (sc i) s) ∧ (vk_S 11 vt_sll vt_sby sc adV (fun q => b ≤ q) s s.heap ∧ va_Z "java/lang/String" "COMPACT_STRINGS" "Z" (.int 1) (fun q => b ≤ q) s s.heap ∧ va_Zq "jdk/internal/util/Preconditions" "SIOOBE_FORMATTER" "Ljava/util/function/BiFunction;" (fun q => b ≤ q) s s.heap) ∧
  (∀ cA cB : ClassId, s.vm.findClass "java/lang/IllegalStateException" = some cA → s.vm.findClass "java/lang/IllegalArgumentException" = some cB → s.vm.assignable cA cB = false) ∧
  (∀ a : Array Value, (Cond.laysStatic Bundle.tN "UNASSIGNED_STACK" Bundle.steD).before a s = true) ∧ ∀ a : Array Value, (Cond.laysStatic Bundle.tN "SUPPRESSED_SENTINEL" Bundle.listD).before a s = true
theorem vt_low {s : State} {C n d : String} {b a : Nat} {cf : ClassId} {kf : Class} {fi : Nat} {f : Field} (h : va_Zq C n d (fun q => b ≤ q) s s.heap) (hf : s.fieldFound? C n d = some (cf, kf, fi, f)) (ha : kf.statics = some a) : a < b := by
  have key : ∀ v, va_Z C n d v (fun q => b ≤ q) s s.heap → a < b := by
    intro v hv
    obtain ⟨cf', kf', fi', f', a', cell, h1, h2, h3, h4, h5, h6, h7, h8⟩ := hv
    have e1 := Option.some.inj (h1.symm.trans hf)
    simp only [Prod.mk.injEq] at e1
    obtain ⟨-, rfl, -, -⟩ := e1
    cases h4.symm.trans ha
    exact Nat.not_le.mp h8
  rcases h with h | ⟨t, h⟩
  · exact key _ h
  · exact key _ h
theorem vt_lsK {C n d : String} {b : Nat} {s U : State} (hZ : va_Zq C n d (fun q => b ≤ q) s s.heap) (hW : s.WarmedH U.vm) (hl : ∀ q : Nat, q < b → U.heap[q]? = s.heap[q]?) (h : ∀ a : Array Value, (Cond.laysStatic C n d).before a s = true) (a' : Array Value) : (Cond.laysStatic C n d).before a' U = true := by
  obtain ⟨c, k, i, f, a, cell, hc, hi, hst, ha, hcell, hs, hcls, hlt, hty⟩ := Cond.laysStatic_spec (h a')
  obtain ⟨k', hi', hek⟩ := State.fieldFound?_setVm hW.alike hi
  exact Cond.laysStatic_of (s := U) (by rw [hW.alike.findClass]; exact hc) hi' hst (by rw [hek]; exact ha) (by rw [hl a (vt_low hZ hi ha)]; exact hcell) hs hcls hlt (by rw [hek]; exact hty)
theorem vt_Ek {b : Nat} {sc adV : Nat → Nat} {L : Nat} {xs : Nat → Int32} : ip_Ek b (vt_Ev b sc adV L xs) := by
  intro s U h hW hl
  obtain ⟨h1, h2, h3, h4, h5, h6, h7, h8⟩ := h
  have hq : ∀ a : Nat, a < s.heap.size → ¬ b ≤ a → U.heap[a]? = s.heap[a]? := fun a _ ha => hl a (by omega)
  refine ⟨(h1.moved hW.alike).kept hq, (h2.moved hW.alike).kept hq, (va_T.moved hW.alike h3).kept hq, fun i hi => vk_R.warm hW (h4 i hi), ⟨(h5.1.moved hW.alike).kept hq, (h5.2.1.moved hW.alike).kept hq, (h5.2.2.moved hW.alike).kept hq⟩, fun cA cB hA hB => ?_, fun a => vt_lsK h1 hW hl h7 a, fun a => vt_lsK h2 hW hl h8 a⟩
  rw [hW.alike.assignable]
  rw [hW.alike.findClass] at hA hB
  exact h6 cA cB hA hB
def vt_up : List String := ["java/lang/RuntimeException", "java/lang/Exception"]
/-- where exceptions are made: the class that makes, the constructor's link, the exception's number -/
def vt_thl : List (Nat × Nat × Nat) := [(8, 141, 13), (0, 113, 15), (0, 140, 14), (0, 147, 13)]
def vt_nr (w : Cond) : Bool := match w with
  | .isRef _ => false
  | .laysStatic _ _ _ => false
  | _ => true
def vt_X1 : List Cond := vt_thl.flatMap fun q => (Bundle.ownAtoms (vt_c q.1) q.2.1 (vt_ct q.2.2).1 vt_up).filter vt_nr
def vt_PN (z : Nat) : MethodName := match z with
  | 0 => ⟨"java/lang/Math", "min", "(II)I"⟩
  | 1 => ⟨"java/lang/Math", "max", "(II)I"⟩
  | 2 => ⟨"java/lang/Math", "abs", "(I)I"⟩
  | 3 => ⟨"java/lang/Math", "min", "(JJ)J"⟩
  | 4 => ⟨"java/lang/Math", "max", "(JJ)J"⟩
  | 5 => ⟨"java/lang/Math", "abs", "(J)J"⟩
  | 6 => ⟨"java/lang/System", "arraycopy", "(Ljava/lang/Object;ILjava/lang/Object;II)V"⟩
  | 7 => ⟨"java/lang/String", "length", "()I"⟩
  | 8 => ⟨"java/lang/String", "charAt", "(I)C"⟩
  | 9 => ⟨"java/lang/String", "indexOf", "(I)I"⟩
  | _ => ⟨"", "", ""⟩
def vt_pw (o : Nat) (q : Nat × (Nat × Nat × Nat × Nat)) : List Cond := if 4 ≤ q.2.2.2.1 then [.methodLink (vt_c o) q.1 (vt_PN q.2.1)] else []
def vt_X2 : List Cond := (List.range 21).flatMap fun o => (vt_ML.getD o []).flatMap (vt_pw o)
def vt_X3a : List Cond := [.static (vt_PN 0), .static (vt_PN 1), .static (vt_PN 2), .static (vt_PN 3), .static (vt_PN 4), .static (vt_PN 5), .static (vt_PN 6), .initialized "java/lang/Math", .initialized "java/lang/System", .native (vt_PN 6), .code Lib.Math.min.name Lib.Math.min.code 2 (some .int), .code Lib.Math.max.name Lib.Math.max.code 2 (some .int), .code Lib.Math.abs.name Lib.Math.abs.code 1 (some .int), .code Lib.MathLoose.min_long.x Lib.MathLoose.min_long.code 4 (some .long), .code Lib.MathLoose.max_long.x Lib.MathLoose.max_long.code 4 (some .long), .code Lib.MathLoose.abs_long.x Lib.MathLoose.abs_long.code 2 (some .long)]
def vt_X3 : List Cond := vt_X3a ++ zs_L
def vt_hw : List (Nat × Nat × Nat) := [(0, 61, 16), (19, 13, 18), (19, 19, 17), (19, 21, 16), (19, 21, 16), (19, 13, 18), (19, 13, 18), (19, 13, 18), (19, 13, 18)]
def vt_X4 : List Cond := vt_hw.map fun q => .classLink (vt_c q.1) q.2.1 (vt_ct q.2.2).1
def vt_X : List Cond := vt_X1 ++ (vt_X2 ++ (vt_X3 ++ vt_X4))
theorem vt_gX : vt_X.all ip_gw = true := by decide +kernel
theorem vt_XK : (List.range 21).all (fun o => (vt_ML.getD o []).all (fun q => decide (q.2.2.2.1 < 4) || (decide (q.2.1 < 7) && decide (q.2.2.2.1 = 4)) || (decide (7 ≤ q.2.1) && decide (q.2.2.2.1 = 5)))) = true := by decide +kernel
def vt_tk2 (y : Nat) (l : List (Nat × (Instr × Nat))) (pc ls ci : Nat) : Bool := match ip_lk l (pc + 4 + ls) with
  | some (.invokespecial ic, 3) => vt_thl.contains (vt_O y, ic, ci) && (match ip_lk l (pc + 7 + ls) with
    | some (.athrow, 1) => true
    | _ => false)
  | _ => false
def vt_tk1 (y : Nat) (l : List (Nat × (Instr × Nat))) (pc ci : Nat) : Bool := (match ip_lk l (pc + 3) with
  | some (.dup, 1) => true
  | _ => false) && (match ip_lk l (pc + 4) with
    | some (.ldc k, 2) => (match ip_lk (vt_CL.getD (vt_O y) []) k with
      | some (.retAddr j) => decide (j < 11) && decide ((vt_sD j).1 = vt_c (vt_O y) ∧ (vt_sD j).2.1 = k) && vt_tk2 y l pc 2 ci
      | _ => false)
    | _ => false)
def vt_tk (y : Nat) : Bool := (vt_pr.getD y (⟨#[]⟩, [])).2.all fun r => match r.2.1 with
  | .new k => (match ip_lk (vt_NL.getD (vt_O y) []) k with
    | some (ci, _) => decide (ci < 13) || (decide (ci < 16) && vt_tk1 y (vt_pr.getD y (⟨#[]⟩, [])).2 r.1 ci)
    | none => true)
  | _ => true
theorem vt_TK : (List.range 310).all vt_tk = true := by decide +kernel
theorem zs_in_code : zs_code.map some = ([605, 601, 615, 626, 621, 618, 611, 668, 673, 665, 661, 657] : List Nat).map (fun i => tables_1[i]?) := by decide +kernel
theorem zs_in_fl : zs_fl.map some = ([2445, 2446, 606, 622] : List Nat).map (fun i => tables_1[i]?) := by decide +kernel
theorem zs_in_ml : zs_ml.map some = ([602, 612, 624, 619, 616, 666, 669, 670, 671, 662, 663, 658] : List Nat).map (fun i => tables_1[i]?) := by decide +kernel
theorem zs_in_kd : zs_kd.map some = ([625, 620, 617, 667, 672, 664, 603, 599, 613, 609, 659, 655, 604, 600, 614, 610, 660, 656, 16, 17, 18, 2, 40, 37, 41, 38] : List Nat).map (fun i => tables_1[i]?) := by decide +kernel
theorem zs_ix_in {l : List Cond} {is : List Nat} (h : l.map some = is.map (fun i => tables_1[i]?)) : ∀ w ∈ l, w ∈ tables_1 := by
  intro w hw
  obtain ⟨k, hk⟩ := List.mem_iff_getElem?.mp hw
  have h1 : (l.map some)[k]? = some (some w) := by rw [List.getElem?_map, hk]; rfl
  rw [h, List.getElem?_map] at h1
  cases hi : is[k]? with
  | none => rw [hi] at h1; cases h1
  | some i => rw [hi] at h1; exact List.mem_of_getElem? (Option.some.inj h1)
theorem zs_tb : ∀ w ∈ zs_L, w ∈ tables_1 := by
  intro w hw
  rcases List.mem_append.mp hw with h | h
  · exact zs_ix_in zs_in_code w h
  rcases List.mem_append.mp h with h | h
  · exact zs_ix_in zs_in_fl w h
  rcases List.mem_append.mp h with h | h
  · exact zs_ix_in zs_in_ml w h
  · exact zs_ix_in zs_in_kd w h
theorem vt_inX13 : (vt_X1 ++ vt_X3a).all (fun x => decide (x ∈ tables_1)) = true := by decide +kernel
theorem vt_inX24 : (vt_X2 ++ vt_X4).all (fun x => decide (x ∈ tables_1)) = true := by decide +kernel
theorem vt_inX : ∀ x ∈ vt_X, x ∈ lw_tbl := by
  intro x hx
  refine List.mem_append_right _ ?_
  rcases List.mem_append.mp hx with h | hx
  · simpa using List.all_eq_true.mp vt_inX13 x (List.mem_append_left _ h)
  rcases List.mem_append.mp hx with h | hx
  · simpa using List.all_eq_true.mp vt_inX24 x (List.mem_append_left _ h)
  rcases List.mem_append.mp hx with h | h
  · rcases List.mem_append.mp (show x ∈ vt_X3a ++ zs_L from h) with h | h
    · simpa using List.all_eq_true.mp vt_inX13 x (List.mem_append_right _ h)
    · exact zs_tb x h
  · simpa using List.all_eq_true.mp vt_inX24 x (List.mem_append_right _ h)
abbrev vt_W : List Cond := vt_Ts vt_X
theorem vt_Wok : ∀ x ∈ vt_W, x ∈ lw_tbl := vt_in vt_inX
