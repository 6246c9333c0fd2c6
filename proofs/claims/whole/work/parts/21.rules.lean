/-! part 21: the library's members, String constants, arrays that are read alone: all rules are paid -/
section IPB
variable {p : Program} {l : Launch} {e : Env} {R : Room} {s : State} {m : MethodId} {args : Array Value} {below : List Frame} {meth : Method} {c : Code} {Q : State → Prop}
variable {D : va_G} {cl : List vw_C} {aC : Nat → ClassId} {b : Nat} {sc : Nat → Nat} {nL n0 s0 : Nat} {cc : ByteArray} {w : ip_W} {pc : Nat} {lo : List (Nat × Value)} {rest : List Value}
theorem ip_acpI (hx : p.tables.exec = Jvm.exec) (hb : c.code = cc) (hml : c.maxLocals = nL) {own : String} {index : Nat} (hown : s.vm.findClass own = some m.cls) (hlink : (Cond.methodLink own index arraycopyName).before args s = true) (hnat : (Cond.native arraycopyName).before args s = true) (hstat : (Cond.static arraycopyName).before args s = true) (hini : (Cond.initialized "java/lang/System").before args s = true) (hK : va_K D cl (ip_T aC) s)
    {a0 a1 m0 m1 : Nat} {f g : Nat → Int32} (he0 : w.2.2 a0 = some (.inl (0, m0, .inl f))) (he1 : w.2.2 a1 = some (.inl (0, m1, .inl g))) {sp dp n : Int32} (h1 : ¬ sp < 0) (h2 : ¬ dp < 0) (h3 : ¬ n < 0) (h4 : sp.toNatClampNeg + n.toNatClampNeg ≤ m0) (h5 : dp.toNatClampNeg + n.toNatClampNeg ≤ m1) (hsum : (rest.map fun v => v.category).sum ≤ 8) (hframes : 1 ≤ R.frames) (hlocals : 192 ≤ R.locals) (hdg : decode cc pc = .ok (.invokestatic index, 3))
    (k : ip_V p l e R s m args below meth c D cl aC b sc nL n0 s0 Q (w.1, w.2.1, va_up w.2.2 a1 (some (.inl (0, m1, .inl (va_cpy f g sp.toNatClampNeg dp.toNatClampNeg n.toNatClampNeg))))) (pc + 3) lo rest) : ip_V p l e R s m args below meth c D cl aC b sc nL n0 s0 Q w pc lo (.int n :: .int dp :: .ref a1 :: .int sp :: .ref a0 :: rest) := by
  have nn : ∀ z : Int32, ¬ z < 0 → z.toInt = (z.toNatClampNeg : Int) := by
    intro z hz
    have hz0 : (0 : Int) ≤ z.toInt := by
      have := Int32.not_lt.mp hz
      simpa using Int32.le_iff_toInt_le.mp this
    show z.toInt = ((z.toInt.toNat : Nat) : Int)
    omega
  intro H locs ls hG hS hl T hT X
  have hc0 : H[b + a0]? = some (vp_cell (aC 0) (m0, .inl f)) := hG.2 a0 _ he0
  have hc1 : H[b + a1]? = some (vp_cell (aC 0) (m1, .inl g)) := hG.2 a1 _ he1
  obtain ⟨-, k0, hk0, cm0, hkk0⟩ := (hK.2 0 _ rfl).1 m0 (fun j => .int (f j))
  obtain ⟨-, k1, hk1, cm1, hkk1⟩ := (hK.2 0 _ rfl).1 m1 (fun j => .int (g j))
  have hnw : nativeFrameWords "java/lang/System" "arraycopy" 5 + 11 ≤ 184 := by decide
  have hsum2 : ((rest.map (ip_v b sc)).map fun v => v.category).sum ≤ 8 := by rw [ip_sum]; exact hsum
  obtain ⟨vm', X', step⟩ := X.arraycopy hx hown hlink hnat hstat hini (src := b + a0) (dst := b + a1) (cs := vp_cell (aC 0) (m0, .inl f)) (cd := vp_cell (aC 0) (m1, .inl g)) (srcPos := sp) (destPos := dp) (n := n) (by rw [hT]; exact hc0) (by rw [hT]; exact hc1)
    (fun _ h => by cases h) (fun _ h => by cases h) (fun h => by cases h) (fun h => by cases h) hk0 hk1 hkk0 hkk1 (by simp [refKind]) h1 h2 h3
    (by rw [nn sp h1, nn n h3]; show ¬ _ > ((arrV (aC 0) m0 (fun j => .int (f j))).slots.size : Int); rw [arrV_size]; omega)
    (by rw [nn dp h2, nn n h3]; show ¬ _ > ((arrV (aC 0) m1 (fun j => .int (g j))).slots.size : Int); rw [arrV_size]; omega)
    (fun vm₁ _ i hi => by
      have e : (vp_cell (aC 0) (m0, .inl f)).slots.getD (sp.toNatClampNeg + i) .null = .int (f (sp.toNatClampNeg + i)) := by
        show (arrV (aC 0) m0 (fun j => .int (f j))).slots.getD _ _ = _
        rw [Array.getD_eq_getD_getElem?, arrV_read _ _ (by omega)]
        rfl
      refine ⟨?_, ?_⟩
      · rw [e]
        rfl
      · rw [e]
        exact trivial)
    (g := F0 m pc ls (.int n :: .int dp :: .ref (b + a1) :: .int sp :: .ref (b + a0) :: rest.map (ip_v b sc))) rfl (by rw [hml]; exact hl.1) (rest := rest.map (ip_v b sc)) rfl (by rw [hb]; exact hdg) hframes (by show 2 * 0 + _ + _ ≤ _; omega)
  have e1 : copied (vp_cell (aC 0) (m0, .inl f)) (vp_cell (aC 0) (m1, .inl g)) sp dp n = vp_cell (aC 0) (m1, .inl (va_cpy f g sp.toNatClampNeg dp.toNatClampNeg n.toNatClampNeg)) := va_copied (fun z => .int z) (aC 0) (aC 0) f g h4
  rw [e1] at X' step
  have hl1 : b + a1 < H.size := (Array.getElem?_eq_some_iff.mp hc1).1
  have hheap : ((T.setVm vm').setCell (b + a1) (vp_cell (aC 0) (m1, .inl (va_cpy f g sp.toNatClampNeg dp.toNatClampNeg n.toNatClampNeg)))).heap = H.setIfInBounds (b + a1) (vp_cell (aC 0) (m1, .inl (va_cpy f g sp.toNatClampNeg dp.toNatClampNeg n.toNatClampNeg))) := by rw [← hT]; rfl
  have oq : ∀ q : Nat, q ≠ b + a1 → (H.setIfInBounds (b + a1) (vp_cell (aC 0) (m1, .inl (va_cpy f g sp.toNatClampNeg dp.toNatClampNeg n.toNatClampNeg))))[q]? = H[q]? := fun q hq => by simp [Array.getElem?_setIfInBounds, Ne.symm hq]
  obtain ⟨t, a2, b2⟩ := k _ _ ls (hG.turn (a := a1) (x := .inl (0, m1, .inl (va_cpy f g sp.toNatClampNeg dp.toNatClampNeg n.toNatClampNeg))) (by simp) oq (show (H.setIfInBounds (b + a1) _)[b + a1]? = some _ by simp [Array.getElem?_setIfInBounds, hl1])) ⟨by simp; exact hS.1, fun q g1 g2 => by
      rw [oq q (fun e => g2 (by rw [e]; exact Nat.le_add_right _ _))]
      exact hS.2.1 q g1 g2, fun q hq => by
      rcases List.mem_append.mp hq with h | h
      · exact hS.2.2 q h
      · obtain ⟨z, -, hz⟩ := List.mem_map.mp h
        rw [← hz]
        exact Nat.le_add_right _ _⟩ hl _ hheap X'
  exact ⟨t, step t a2, b2⟩
theorem ip_acpL (hx : p.tables.exec = Jvm.exec) (hb : c.code = cc) (hml : c.maxLocals = nL) {own : String} {index : Nat} (hown : s.vm.findClass own = some m.cls) (hlink : (Cond.methodLink own index arraycopyName).before args s = true) (hnat : (Cond.native arraycopyName).before args s = true) (hstat : (Cond.static arraycopyName).before args s = true) (hini : (Cond.initialized "java/lang/System").before args s = true) (hK : va_K D cl (ip_T aC) s)
    {a0 a1 m0 m1 : Nat} {f g : Nat → Int64} (he0 : w.2.2 a0 = some (.inl (2, m0, .inr (.inl f)))) (he1 : w.2.2 a1 = some (.inl (2, m1, .inr (.inl g)))) {sp dp n : Int32} (h1 : ¬ sp < 0) (h2 : ¬ dp < 0) (h3 : ¬ n < 0) (h4 : sp.toNatClampNeg + n.toNatClampNeg ≤ m0) (h5 : dp.toNatClampNeg + n.toNatClampNeg ≤ m1) (hsum : (rest.map fun v => v.category).sum ≤ 8) (hframes : 1 ≤ R.frames) (hlocals : 192 ≤ R.locals) (hdg : decode cc pc = .ok (.invokestatic index, 3))
    (k : ip_V p l e R s m args below meth c D cl aC b sc nL n0 s0 Q (w.1, w.2.1, va_up w.2.2 a1 (some (.inl (2, m1, .inr (.inl (va_cpy f g sp.toNatClampNeg dp.toNatClampNeg n.toNatClampNeg)))))) (pc + 3) lo rest) : ip_V p l e R s m args below meth c D cl aC b sc nL n0 s0 Q w pc lo (.int n :: .int dp :: .ref a1 :: .int sp :: .ref a0 :: rest) := by
  have nn : ∀ z : Int32, ¬ z < 0 → z.toInt = (z.toNatClampNeg : Int) := by
    intro z hz
    have hz0 : (0 : Int) ≤ z.toInt := by
      have := Int32.not_lt.mp hz
      simpa using Int32.le_iff_toInt_le.mp this
    show z.toInt = ((z.toInt.toNat : Nat) : Int)
    omega
  intro H locs ls hG hS hl T hT X
  have hc0 : H[b + a0]? = some (vp_cell (aC 2) (m0, .inr (.inl f))) := hG.2 a0 _ he0
  have hc1 : H[b + a1]? = some (vp_cell (aC 2) (m1, .inr (.inl g))) := hG.2 a1 _ he1
  obtain ⟨-, k0, hk0, cm0, hkk0⟩ := (hK.2 2 _ rfl).1 m0 (fun j => .long (f j))
  obtain ⟨-, k1, hk1, cm1, hkk1⟩ := (hK.2 2 _ rfl).1 m1 (fun j => .long (g j))
  have hnw : nativeFrameWords "java/lang/System" "arraycopy" 5 + 11 ≤ 184 := by decide
  have hsum2 : ((rest.map (ip_v b sc)).map fun v => v.category).sum ≤ 8 := by rw [ip_sum]; exact hsum
  obtain ⟨vm', X', step⟩ := X.arraycopy hx hown hlink hnat hstat hini (src := b + a0) (dst := b + a1) (cs := vp_cell (aC 2) (m0, .inr (.inl f))) (cd := vp_cell (aC 2) (m1, .inr (.inl g))) (srcPos := sp) (destPos := dp) (n := n) (by rw [hT]; exact hc0) (by rw [hT]; exact hc1)
    (fun _ h => by cases h) (fun _ h => by cases h) (fun h => by cases h) (fun h => by cases h) hk0 hk1 hkk0 hkk1 (by simp [refKind]) h1 h2 h3
    (by rw [nn sp h1, nn n h3]; show ¬ _ > ((arrV (aC 2) m0 (fun j => .long (f j))).slots.size : Int); rw [arrV_size]; omega)
    (by rw [nn dp h2, nn n h3]; show ¬ _ > ((arrV (aC 2) m1 (fun j => .long (g j))).slots.size : Int); rw [arrV_size]; omega)
    (fun vm₁ _ i hi => by
      have e : (vp_cell (aC 2) (m0, .inr (.inl f))).slots.getD (sp.toNatClampNeg + i) .null = .long (f (sp.toNatClampNeg + i)) := by
        show (arrV (aC 2) m0 (fun j => .long (f j))).slots.getD _ _ = _
        rw [Array.getD_eq_getD_getElem?, arrV_read _ _ (by omega)]
        rfl
      refine ⟨?_, ?_⟩
      · rw [e]
        rfl
      · rw [e]
        exact trivial)
    (g := F0 m pc ls (.int n :: .int dp :: .ref (b + a1) :: .int sp :: .ref (b + a0) :: rest.map (ip_v b sc))) rfl (by rw [hml]; exact hl.1) (rest := rest.map (ip_v b sc)) rfl (by rw [hb]; exact hdg) hframes (by show 2 * 0 + _ + _ ≤ _; omega)
  have e1 : copied (vp_cell (aC 2) (m0, .inr (.inl f))) (vp_cell (aC 2) (m1, .inr (.inl g))) sp dp n = vp_cell (aC 2) (m1, .inr (.inl (va_cpy f g sp.toNatClampNeg dp.toNatClampNeg n.toNatClampNeg))) := va_copied (fun z => .long z) (aC 2) (aC 2) f g h4
  rw [e1] at X' step
  have hl1 : b + a1 < H.size := (Array.getElem?_eq_some_iff.mp hc1).1
  have hheap : ((T.setVm vm').setCell (b + a1) (vp_cell (aC 2) (m1, .inr (.inl (va_cpy f g sp.toNatClampNeg dp.toNatClampNeg n.toNatClampNeg))))).heap = H.setIfInBounds (b + a1) (vp_cell (aC 2) (m1, .inr (.inl (va_cpy f g sp.toNatClampNeg dp.toNatClampNeg n.toNatClampNeg)))) := by rw [← hT]; rfl
  have oq : ∀ q : Nat, q ≠ b + a1 → (H.setIfInBounds (b + a1) (vp_cell (aC 2) (m1, .inr (.inl (va_cpy f g sp.toNatClampNeg dp.toNatClampNeg n.toNatClampNeg)))))[q]? = H[q]? := fun q hq => by simp [Array.getElem?_setIfInBounds, Ne.symm hq]
  obtain ⟨t, a2, b2⟩ := k _ _ ls (hG.turn (a := a1) (x := .inl (2, m1, .inr (.inl (va_cpy f g sp.toNatClampNeg dp.toNatClampNeg n.toNatClampNeg)))) (by simp) oq (show (H.setIfInBounds (b + a1) _)[b + a1]? = some _ by simp [Array.getElem?_setIfInBounds, hl1])) ⟨by simp; exact hS.1, fun q g1 g2 => by
      rw [oq q (fun e => g2 (by rw [e]; exact Nat.le_add_right _ _))]
      exact hS.2.1 q g1 g2, fun q hq => by
      rcases List.mem_append.mp hq with h | h
      · exact hS.2.2 q h
      · obtain ⟨z, -, hz⟩ := List.mem_map.mp h
        rw [← hz]
        exact Nat.le_add_right _ _⟩ hl _ hheap X'
  exact ⟨t, step t a2, b2⟩
theorem vt_ldcwS {H : Heap} {locs : List Loc} {cells slots : Nat} {ls : Array Slot} (hexec : p.tables.exec = Jvm.exec) (hb : c.code = cc) {own tx : String} {index q : Nat} (hown : s.vm.findClass own = some m.cls) (hZ : vk_R own index tx q s) (hdg : decode cc pc = .ok (.ldc_w index, 3))
    (k : W p l e R s m args below meth c H locs cells slots Q (F0 m (pc + 3) ls (.ref q :: rest))) : W p l e R s m args below meth c H locs cells slots Q (F0 m pc ls rest) := by
  intro T hT X
  obtain ⟨t, a1, b1⟩ := k T hT X
  refine ⟨t, ?_, b1⟩
  obtain ⟨k, cf, i, a', hk, hcf, hcp, -, hr, hev'⟩ := Cond.stringRef_spec hown hZ.1
  cases hZ.2.symm.trans hev'
  obtain ⟨k', hk', he⟩ := X.warmed.alike.2.2 _ _ hk
  have hr' : k'.resolved[index]? = some (some (.string q)) := by
    rcases X.warmed.entry hk hk' index with h | ⟨h, -⟩
    · rw [h]; exact hr
    · rw [hr] at h; cases h
  jvm_step X.here [hexec, hb, hdg, ldc_w.wp_string (e := e) (s := T) (f := F0 m pc ls rest) X.here.top hk' (by rw [he]; exact hcf) hcp hr']
  exact a1
end IPB
/-- what the library's members give -/
def vt_P (z : Nat) (av : List Value) (w : ip_W) : Option (Option Value × ip_W) := match z, av with
  | 0, [.int x, .int y] => some (some (.int (if y < x then y else x)), w)
  | 1, [.int x, .int y] => some (some (.int (if x < y then y else x)), w)
  | 2, [.int x] => some (some (.int (if 0 ≤ x then x else 0 - x)), w)
  | 3, [.long x, .long y] => some (some (.long (if y < x then y else x)), w)
  | 4, [.long x, .long y] => some (some (.long (if y < x then x else y)), w)
  | 5, [.long x] => some (some (.long (if 0 < x then x else -x)), w)
  | 6, [.ref a0, .int sp, .ref a1, .int dp, .int n] => if ¬ sp < 0 ∧ ¬ dp < 0 ∧ ¬ n < 0 then (match w.2.2 a0, w.2.2 a1 with
    | some (.inl (0, m0, .inl f)), some (.inl (0, m1, .inl g)) => if sp.toNatClampNeg + n.toNatClampNeg ≤ m0 ∧ dp.toNatClampNeg + n.toNatClampNeg ≤ m1 then some (none, (w.1, w.2.1, va_up w.2.2 a1 (some (.inl (0, m1, .inl (va_cpy f g sp.toNatClampNeg dp.toNatClampNeg n.toNatClampNeg)))))) else none
    | some (.inl (2, m0, .inr (.inl f))), some (.inl (2, m1, .inr (.inl g))) => if sp.toNatClampNeg + n.toNatClampNeg ≤ m0 ∧ dp.toNatClampNeg + n.toNatClampNeg ≤ m1 then some (none, (w.1, w.2.1, va_up w.2.2 a1 (some (.inl (2, m1, .inr (.inl (va_cpy f g sp.toNatClampNeg dp.toNatClampNeg n.toNatClampNeg))))))) else none
    | _, _ => none) else none
  | 7, [.retAddr j] => if j < 11 then some (some (.int (Int32.ofNat (vt_sll.getD j 0))), w) else none
  | 8, [.retAddr j, .int k] => if j < 11 ∧ ¬ k < 0 ∧ k.toNatClampNeg < vt_sll.getD j 0 then some (some (.int ((vt_sby.getD j []).getD k.toNatClampNeg 0)), w) else none
  | 9, [.retAddr j, .int c] => if j < 11 ∧ ¬ c < 0 ∧ c < 128 then some (some (.int (vt_ix c (vt_sby.getD j []) 0)), w) else none
  | _, _ => none
/-- the script, to be read alone -/
def vt_Ro (L : Nat) (xs : Nat → Int32) (j : Nat) : Option (Nat × Nat × (Nat → Int32)) := if j = 100 then some (0, L, xs) else none
theorem vt_kS : (List.range 21).all (fun o => (vt_CL.getD o []).all (fun q => match q.2 with
  | .retAddr j => decide (j < 11) && decide ((vt_sD j).1 = vt_c o) && decide ((vt_sD j).2.1 = q.1)
  | _ => true)) = true := by decide +kernel
section VTP
variable {P : Nat → List Value → ip_W → Option (Option Value × ip_W)} {Ro : Nat → Option (Nat × Nat × (Nat → Int32))} {l : Launch} {b : Nat} {sc adV : Nat → Nat} {L : Nat} {xs : Nat → Int32} {D : va_G} {aC : Nat → ClassId}
theorem vt_Sall : ip_Sall l (vt_tb P Ro) vt_W (vt_Ev b sc adV L xs) D vt_cl aC b sc vt_N vt_B := by
  intro y p e R s m args below meth c n0 s0 Q hC k j pc n i w lo st hCn hdg hi kk
  obtain ⟨hx, hb, hml, hrc, hlocks, hexc, hname, hown, hts, hE, hK, hb0⟩ := hC
  obtain ⟨ho, hy, hcls, hm⟩ := vt_ow (L := vt_CL) (by decide +kernel) hCn
  have h1 := List.all_eq_true.mp (List.all_eq_true.mp vt_kS _ (List.mem_range.mpr ho)) _ hm
  simp only [Bool.and_eq_true, decide_eq_true_eq] at h1
  obtain ⟨⟨hj, h2⟩, h3⟩ := h1
  have hR := hE.2.2.2.1 j hj
  rw [h2, h3, ← hcls] at hR
  intro H locs ls hG hS hl
  rcases hi with ⟨rfl, rfl⟩ | ⟨rfl, rfl⟩
  · exact va_ldcS hx rfl hown hR hdg (kk H locs ls hG hS hl)
  · exact vt_ldcwS hx rfl hown hR hdg (kk H locs ls hG hS hl)
theorem vt_Rall : ip_Rall l (vt_tb P (vt_Ro L xs)) vt_W (vt_Ev b sc adV L xs) D vt_cl aC b sc vt_N vt_B := by
  intro y p e R s m args below meth c n0 s0 Q pc i lo st st2 w hC hrd hdg kk
  obtain ⟨hx, hb, hml, hrc, hlocks, hexc, hname, hown, hts, hE, hK, hb0⟩ := hC
  have hT := hE.2.2.1
  have hro : ∀ (j k n : Nat) (f : Nat → Int32), vt_Ro L xs j = some (k, n, f) → j = 100 ∧ k = 0 ∧ n = L ∧ f = xs := by
    intro j k n f h
    unfold vt_Ro at h
    split at h
    · rename_i hj
      cases h
      exact ⟨hj, rfl, rfl, rfl⟩
    · cases h
  have hrd : ip_rd (vt_Ro L xs) i st = some st2 := hrd
  intro H locs ls hG hS hl
  cases i <;> simp only [ip_rd] at hrd <;> first | (cases hrd; done) | skip
  case iaload =>
    split at hrd
    · rename_i x j r
      split at hrd
      · rename_i n f hr
        obtain ⟨rfl, -, rfl, rfl⟩ := hro _ _ _ _ hr
        split at hrd
        · rename_i hin
          cases hrd
          exact va_ti hx hb hT hS (ip_in_of hin) rfl hdg (kk H locs ls hG hS hl)
        · cases hrd
      · cases hrd
    · cases hrd
  case baload =>
    split at hrd
    · rename_i x j r
      split at hrd
      · rename_i n f hr
        obtain ⟨-, h, -, -⟩ := hro _ _ _ _ hr
        cases h
      · cases hrd
    · cases hrd
  case arraylength =>
    split at hrd
    · rename_i j r
      split at hrd
      · rename_i kq n f hr
        obtain ⟨rfl, rfl, rfl, rfl⟩ := hro _ _ _ _ hr
        cases hrd
        exact va_tlen hx hb hT hS rfl hdg (kk H locs ls hG hS hl)
      · cases hrd
    · cases hrd
theorem vt_prl {y k z n kc ci : Nat} (h : tM (vt_tb P Ro) y k = some (z, n, kc + 4, ci)) : Cond.methodLink (vt_N y).cls k (vt_PN z) ∈ vt_W ∧ ((z < 7 ∧ kc = 0) ∨ (7 ≤ z ∧ kc = 1)) := by
  obtain ⟨ho, hy, hcls, hm⟩ := vt_ow (L := vt_ML) (by decide +kernel) h
  have h1 := List.all_eq_true.mp (List.all_eq_true.mp vt_XK _ (List.mem_range.mpr ho)) _ hm
  simp only [Bool.or_eq_true, Bool.and_eq_true, decide_eq_true_eq] at h1
  refine ⟨?_, by omega⟩
  rw [hcls]
  refine vt_iX (List.mem_append_right _ (List.mem_append_left _ (List.mem_flatMap.mpr ⟨vt_O y, List.mem_range.mpr ho, List.mem_flatMap.mpr ⟨_, hm, ?_⟩⟩)))
  unfold vt_pw
  rw [if_pos (by show 4 ≤ kc + 4; omega)]
  exact List.mem_cons_self
theorem vt_x3 {x : Cond} (h : x ∈ vt_X3) : x ∈ vt_W := vt_iX (List.mem_append_right _ (List.mem_append_right _ (List.mem_append_left _ h)))
/-- what String's members need, at a call -/
theorem zs_of {s : State} {H : Heap} {locs : List Loc} {j : Nat} (hE : vt_Ev b sc adV L xs s) (hj : j < 11) (hS : va_S (fun q => b ≤ q) s.heap H locs) : (∃ cell : Cell, H[sc j]? = some cell ∧ cell.vm.isStatics = false ∧ s.vm.findClass "java/lang/String" = some cell.cls) ∧ ∀ U : State, U.heap = H → s.WarmedH U.vm → zs_S (sc j) (adV j) (vt_sll.getD j 0) (fun i => (vt_sby.getD j []).getD i 0) U := by
  obtain ⟨-, -, -, -, ⟨hV, hZ, hQ⟩, -⟩ := hE
  refine ⟨vk_recv hV hj hS, fun U hU hW => ?_⟩
  obtain ⟨g1, g2, g3, g4⟩ := hV.1 j hj
  unfold zs_S
  rw [hU]
  exact ⟨(va_O.moved hW.alike (g1.kept hS.2.1)).narrow (fun _ h => h.elim), (va_OF.moved hW.alike (g2.kept hS.2.1)).narrow (fun _ h => h.elim), (va_OF.moved hW.alike (g3.kept hS.2.1)).narrow (fun _ h => h.elim), (va_T.moved hW.alike (g4.kept hS.2.1)).narrow (fun _ h => h.elim), (va_Z.moved hW.alike (hZ.kept hS.2.1)).narrow (fun _ h => h.elim), (va_Zq.moved hW.alike (hQ.kept hS.2.1)).narrow (fun _ h => h.elim)⟩
theorem zs_by : (List.range 11).all (fun j => decide (vt_sll.getD j 0 = (vt_sby.getD j []).length ∧ 0 < vt_sll.getD j 0 ∧ vt_sll.getD j 0 < 2 ^ 31) && (vt_sby.getD j []).all (fun b => decide (b &&& 255 = b))) = true := by decide +kernel
theorem zs_byj {j : Nat} (hj : j < 11) : vt_sll.getD j 0 = (vt_sby.getD j []).length ∧ 0 < vt_sll.getD j 0 ∧ vt_sll.getD j 0 < 2 ^ 31 ∧ ∀ i : Nat, (vt_sby.getD j []).getD i 0 &&& 255 = (vt_sby.getD j []).getD i 0 := by
  have h := List.all_eq_true.mp zs_by j (List.mem_range.mpr hj)
  rw [Bool.and_eq_true] at h
  obtain ⟨h1, h2⟩ := h
  have h1 := of_decide_eq_true h1
  refine ⟨h1.1, h1.2.1, h1.2.2, fun i => ?_⟩
  generalize vt_sby.getD j [] = bs at h2
  rw [List.getD_eq_getElem?_getD]
  cases hi : bs[i]? with
  | none => show (0 : Int32) &&& 255 = 0; decide
  | some b => exact of_decide_eq_true (List.all_eq_true.mp h2 b (List.mem_of_getElem? hi))
theorem zs_b8 : ∀ n : Nat, n < 128 → (nI n).toInt8.toInt32 = nI n := by decide +kernel
set_option maxHeartbeats 1000000 in
theorem vt_Pall : ip_Pall l (vt_tb vt_P Ro) vt_W (vt_Ev b sc adV L xs) D vt_cl aC b sc vt_N vt_B := by
  intro y p e R s m args below meth c n0 s0 Q k z n kc ci pc i av rest st lo v w w2 hC hM hci hdg ha hsum hfr hlo hn0 hs0 hcells hslots hP kk
  obtain ⟨hx, hb, hml, hrc, hlocks, hexc, hname, hown, hts, hE, hK, hb0⟩ := hC
  obtain ⟨hlk, hz⟩ := vt_prl hM
  have hlink := hts _ hlk args
  have hP : vt_P z av w = some (v, w2) := hP
  have hsum2 : ((rest.map (ip_v b sc)).map fun v => v.category).sum ≤ 8 := by rw [ip_sum]; exact hsum
  have h07 : z < 7 → kc = 0 := fun h => by omega
  unfold vt_P at hP
  split at hP
  case h_1 x1 x2 =>
    obtain rfl := h07 (by decide)
    obtain ⟨rfl, -⟩ := ip_take_of ha
    rcases ip_ci_of hci with ⟨rfl, -⟩ | ⟨_, h9⟩ | ⟨_, h9⟩
    · cases hP
      exact fun H locs ls hG hS hl => va_mmin (rest := rest.map (ip_v b sc)) hx hb (by rw [hml]; exact hl.1.symm) hown hlink (hts _ (vt_x3 (x := .static (vt_PN 0)) (by decide +kernel)) args) (hts _ (vt_x3 (x := .initialized "java/lang/Math") (by decide +kernel)) args) (hts _ (vt_x3 (x := .code Lib.Math.min.name Lib.Math.min.code 2 (some .int)) (by decide +kernel)) args) (by omega) (by omega) (by omega) (by omega) hdg (kk H locs ls hG hS hl)
    · cases h9
    · cases h9
  case h_2 x1 x2 =>
    obtain rfl := h07 (by decide)
    obtain ⟨rfl, -⟩ := ip_take_of ha
    rcases ip_ci_of hci with ⟨rfl, -⟩ | ⟨_, h9⟩ | ⟨_, h9⟩
    · cases hP
      exact fun H locs ls hG hS hl => va_mmax (rest := rest.map (ip_v b sc)) hx hb (by rw [hml]; exact hl.1.symm) hown hlink (hts _ (vt_x3 (x := .static (vt_PN 1)) (by decide +kernel)) args) (hts _ (vt_x3 (x := .initialized "java/lang/Math") (by decide +kernel)) args) (hts _ (vt_x3 (x := .code Lib.Math.max.name Lib.Math.max.code 2 (some .int)) (by decide +kernel)) args) (by omega) (by omega) (by omega) (by omega) hdg (kk H locs ls hG hS hl)
    · cases h9
    · cases h9
  case h_3 x1 =>
    obtain rfl := h07 (by decide)
    obtain ⟨rfl, -⟩ := ip_take_of ha
    rcases ip_ci_of hci with ⟨rfl, -⟩ | ⟨_, h9⟩ | ⟨_, h9⟩
    · cases hP
      exact fun H locs ls hG hS hl => va_mabs (rest := rest.map (ip_v b sc)) hx hb (by rw [hml]; exact hl.1.symm) hown hlink (hts _ (vt_x3 (x := .static (vt_PN 2)) (by decide +kernel)) args) (hts _ (vt_x3 (x := .initialized "java/lang/Math") (by decide +kernel)) args) (hts _ (vt_x3 (x := .code Lib.Math.abs.name Lib.Math.abs.code 1 (some .int)) (by decide +kernel)) args) (by omega) (by omega) (by omega) (by omega) hdg (kk H locs ls hG hS hl)
    · cases h9
    · cases h9
  case h_4 x1 x2 =>
    obtain rfl := h07 (by decide)
    obtain ⟨rfl, -⟩ := ip_take_of ha
    rcases ip_ci_of hci with ⟨rfl, -⟩ | ⟨_, h9⟩ | ⟨_, h9⟩
    · cases hP
      exact fun H locs ls hG hS hl => va_mmin_long (rest := rest.map (ip_v b sc)) hx hb (by rw [hml]; exact hl.1.symm) hown hlink (hts _ (vt_x3 (x := .static (vt_PN 3)) (by decide +kernel)) args) (hts _ (vt_x3 (x := .initialized "java/lang/Math") (by decide +kernel)) args) (hts _ (vt_x3 (x := .code Lib.MathLoose.min_long.x Lib.MathLoose.min_long.code 4 (some .long)) (by decide +kernel)) args) (by omega) (by omega) (by omega) (by omega) hdg (kk H locs ls hG hS hl)
    · cases h9
    · cases h9
  case h_5 x1 x2 =>
    obtain rfl := h07 (by decide)
    obtain ⟨rfl, -⟩ := ip_take_of ha
    rcases ip_ci_of hci with ⟨rfl, -⟩ | ⟨_, h9⟩ | ⟨_, h9⟩
    · cases hP
      exact fun H locs ls hG hS hl => va_mmax_long (rest := rest.map (ip_v b sc)) hx hb (by rw [hml]; exact hl.1.symm) hown hlink (hts _ (vt_x3 (x := .static (vt_PN 4)) (by decide +kernel)) args) (hts _ (vt_x3 (x := .initialized "java/lang/Math") (by decide +kernel)) args) (hts _ (vt_x3 (x := .code Lib.MathLoose.max_long.x Lib.MathLoose.max_long.code 4 (some .long)) (by decide +kernel)) args) (by omega) (by omega) (by omega) (by omega) hdg (kk H locs ls hG hS hl)
    · cases h9
    · cases h9
  case h_6 x1 =>
    obtain rfl := h07 (by decide)
    obtain ⟨rfl, -⟩ := ip_take_of ha
    rcases ip_ci_of hci with ⟨rfl, -⟩ | ⟨_, h9⟩ | ⟨_, h9⟩
    · cases hP
      exact fun H locs ls hG hS hl => va_mabs_long (rest := rest.map (ip_v b sc)) hx hb (by rw [hml]; exact hl.1.symm) hown hlink (hts _ (vt_x3 (x := .static (vt_PN 5)) (by decide +kernel)) args) (hts _ (vt_x3 (x := .initialized "java/lang/Math") (by decide +kernel)) args) (hts _ (vt_x3 (x := .code Lib.MathLoose.abs_long.x Lib.MathLoose.abs_long.code 2 (some .long)) (by decide +kernel)) args) (by omega) (by omega) (by omega) (by omega) hdg (kk H locs ls hG hS hl)
    · cases h9
    · cases h9
  case h_7 a0 sp a1 dp nn =>
    obtain rfl := h07 (by decide)
    obtain ⟨rfl, -⟩ := ip_take_of ha
    rcases ip_ci_of hci with ⟨rfl, -⟩ | ⟨_, h9⟩ | ⟨_, h9⟩
    · split at hP
      · rename_i hp
        split at hP
        · rename_i m0 f m1 g h0 h1
          split at hP
          · rename_i hq
            cases hP
            exact ip_acpI hx hb hml hown hlink (hts _ (vt_x3 (x := .native (vt_PN 6)) (by decide +kernel)) args) (hts _ (vt_x3 (x := .static (vt_PN 6)) (by decide +kernel)) args) (hts _ (vt_x3 (x := .initialized "java/lang/System") (by decide +kernel)) args) hK h0 h1 hp.1 hp.2.1 hp.2.2 hq.1 hq.2 hsum (by omega) hlo hdg kk
          · cases hP
        · rename_i m0 f m1 g h0 h1
          split at hP
          · rename_i hq
            cases hP
            exact ip_acpL hx hb hml hown hlink (hts _ (vt_x3 (x := .native (vt_PN 6)) (by decide +kernel)) args) (hts _ (vt_x3 (x := .static (vt_PN 6)) (by decide +kernel)) args) (hts _ (vt_x3 (x := .initialized "java/lang/System") (by decide +kernel)) args) hK h0 h1 hp.1 hp.2.1 hp.2.2 hq.1 hq.2 hsum (by omega) hlo hdg kk
          · cases hP
        · cases hP
      · cases hP
    · cases h9
    · cases h9
  case h_8 j =>
    obtain rfl : kc = 1 := by omega
    obtain ⟨rfl, -⟩ := ip_take_of ha
    rcases ip_ci_of hci with ⟨_, h9⟩ | ⟨rfl, -⟩ | ⟨_, h9⟩
    · cases h9
    · split at hP
      · rename_i hj
        cases hP
        intro H locs ls hG hS hl
        obtain ⟨hO, hU⟩ := zs_of hE hj hS
        exact zs_callV (av := []) (rest := rest.map (ip_v b sc)) (k := 0) hx hb hml hown (fun w hw => hts w (vt_x3 (List.mem_append_right _ hw)) args) zc_length (by decide +kernel) hlink (by decide +kernel) rfl ⟨rfl, rfl⟩ ⟨by show 1 + 1 ≤ _; omega, by show 8 + (1 + 11) + 20 ≤ _; omega⟩ ⟨by omega, by omega⟩ hO hU hl.1 hsum2 hdg (kk H locs ls hG hS hl)
      · cases hP
    · cases h9
  case h_9 j x =>
    obtain rfl : kc = 1 := by omega
    obtain ⟨rfl, -⟩ := ip_take_of ha
    rcases ip_ci_of hci with ⟨_, h9⟩ | ⟨rfl, -⟩ | ⟨_, h9⟩
    · cases h9
    · split at hP
      · rename_i hq
        obtain ⟨hj, h0, hlt⟩ := hq
        obtain ⟨k0, hk0, rfl⟩ := nI_of h0
        have hcl : (nI k0).toNatClampNeg = k0 := nI_clamp hk0
        rw [hcl] at hP hlt
        cases hP
        intro H locs ls hG hS hl
        obtain ⟨hO, hU⟩ := zs_of hE hj hS
        obtain ⟨b1, b2, b3, b4⟩ := zs_byj hj
        exact zs_callV (av := [.int (nI k0)]) (rest := rest.map (ip_v b sc)) (k := 1) hx hb hml hown (fun w hw => hts w (vt_x3 (List.mem_append_right _ hw)) args) (zc_at (k := k0) b3 hlt (b4 k0)) (by decide +kernel) hlink (by decide +kernel) rfl ⟨rfl, rfl⟩ ⟨by show 3 + 1 ≤ _; omega, by show 8 + (2 + 11) + 64 ≤ _; omega⟩ ⟨by omega, by omega⟩ hO hU hl.1 hsum2 hdg (kk H locs ls hG hS hl)
      · cases hP
    · cases h9
  case h_10 j x =>
    obtain rfl : kc = 1 := by omega
    obtain ⟨rfl, -⟩ := ip_take_of ha
    rcases ip_ci_of hci with ⟨_, h9⟩ | ⟨rfl, -⟩ | ⟨_, h9⟩
    · cases h9
    · split at hP
      · rename_i hq
        obtain ⟨hj, h0, hlt⟩ := hq
        cases hP
        intro H locs ls hG hS hl
        obtain ⟨hO, hU⟩ := zs_of hE hj hS
        obtain ⟨b1, b2, b3, b4⟩ := zs_byj hj
        rw [b1] at hU b2 b3
        obtain ⟨m0, hm0, rfl⟩ := nI_of h0
        have hm : m0 < 128 := (nI_ltI hm0 (by decide)).mp (show nI m0 < nI 128 from hlt)
        exact zs_callV (av := [.int (nI m0)]) (rest := rest.map (ip_v b sc)) (k := 1) hx hb hml hown (fun w hw => hts w (vt_x3 (List.mem_append_right _ hw)) args) (zc_ix b3 b2 (zs_b8 m0 hm) h0 (nI_nlt (a := 255) (b := m0) (by omega) (by decide))) (by decide +kernel) hlink (by decide +kernel) rfl ⟨rfl, rfl⟩ ⟨by show 3 + 1 ≤ _; omega, by show 8 + (2 + 11) + 70 ≤ _; omega⟩ ⟨by omega, by omega⟩ hO hU hl.1 hsum2 hdg (kk H locs ls hG hS hl)
      · cases hP
    · cases h9
  case h_11 => cases hP
/-- ALL RULES ARE PAID -/
theorem vt_HY (hfl : l.flags = pinnedFlags ++ [noTraceFlag]) : ip_HY l (vt_tb vt_P (vt_Ro L xs)) vt_W (vt_Ev b sc adV L xs) D vt_cl aC b sc vt_N vt_B :=
  ⟨vt_Sall, vt_Pall, vt_Tall hfl, vt_Hall, vt_Rall⟩
end VTP
