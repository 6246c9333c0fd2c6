section
/-! part 01: a pure picture of values, cells, worlds; the judgement ip_V (the kit's W over any heap that holds the picture) and its rules, one a kind of instruction -/
abbrev ip_A : Type := (Nat → Int32) ⊕ (Nat → Int64) ⊕ (Nat → Option Nat)
/-- a cell: an array (kind, length, contents) or an object (class, fields); addresses count from the law's own first cell on -/
abbrev ip_E : Type := (Nat × Nat × ip_A) ⊕ (Nat × List Value)
/-- a world: the next address, the slots made so far, the cells -/
abbrev ip_W : Type := Nat × Nat × (Nat → Option ip_E)
/-- a value of the picture as the machine's: references count from b on, .retAddr k stands for String constant k -/
def ip_v (b : Nat) (sc : Nat → Nat) (v : Value) : Value := match v with
  | .ref k => .ref (b + k)
  | .retAddr k => .ref (sc k)
  | v => v
def ip_e (b : Nat) (sc : Nat → Nat) (aC : Nat → ClassId) (x : ip_E) : va_E := match x with
  | .inl (k, n, .inl f) => .inl (aC k, n, .inl f)
  | .inl (k, n, .inr (.inl f)) => .inl (aC k, n, .inr (.inl f))
  | .inl (k, n, .inr (.inr f)) => .inl (aC k, n, .inr (.inr (.inr (.inr (fun j => (f j).map (fun a => b + a))))))
  | .inr (ci, fs) => .inr (ci, fs.map (ip_v b sc))
def ip_G (D : va_G) (cl : List vw_C) (aC : Nat → ClassId) (b : Nat) (sc : Nat → Nat) (w : ip_W) (H : Heap) : Prop :=
  H.size = b + w.1 ∧ ∀ (k : Nat) (x : ip_E), w.2.2 k = some x → va_at D cl (b + k, ip_e b sc aC x) H
/-- locals of the picture as the machine's -/
def ip_l (b : Nat) (sc : Nat → Nat) (lo : List (Nat × Value)) : List (Nat × Value) := lo.map (fun q => (q.1, ip_v b sc q.2))
theorem ip_v_cat (b : Nat) (sc : Nat → Nat) (v : Value) : (ip_v b sc v).category = v.category := by cases v <;> rfl
def ip_get (lo : List (Nat × Value)) (i : Nat) : Option Value := match lo with
  | [] => none
  | q :: r => if q.1 = i then some q.2 else ip_get r i
def ip_set1 (lo : List (Nat × Value)) (i : Nat) (v : Value) : List (Nat × Value) := (i, v) :: lo.filter (fun q => !(q.1 == i) && !(q.1 + 1 == i && q.2.category == 2))
def ip_set2 (lo : List (Nat × Value)) (i : Nat) (v : Value) : List (Nat × Value) := (i, v) :: lo.filter (fun q => !(q.1 == i) && (!(q.1 == i + 1) && !(q.1 + 1 == i && q.2.category == 2)))
theorem ip_get_mem : ∀ (lo : List (Nat × Value)) (i : Nat) (v : Value), ip_get lo i = some v → (i, v) ∈ lo
  | [], i, v, h => by simp [ip_get] at h
  | q :: r, i, v, h => by
    unfold ip_get at h
    split at h
    · rename_i hq
      cases h
      subst hq
      exact List.mem_cons_self
    · exact List.mem_cons_of_mem _ (ip_get_mem r i v h)
theorem ip_get_at {b : Nat} {sc : Nat → Nat} {ls : Array Slot} {nL : Nat} {lo : List (Nat × Value)} (h : lv_has ls nL (ip_l b sc lo)) {i : Nat} {v : Value} (hg : ip_get lo i = some v) : ls[i]? = some (.val (ip_v b sc v)) :=
  h.2.2 (i, ip_v b sc v) (List.mem_map.mpr ⟨(i, v), ip_get_mem lo i v hg, rfl⟩)
theorem ip_get_pos {b : Nat} {sc : Nat → Nat} {lo : List (Nat × Value)} {i : Nat} {v : Value} (hg : ip_get lo i = some v) : ∃ k : Nat, (ip_l b sc lo)[k]? = some (i, ip_v b sc v) := by
  have h : (i, ip_v b sc v) ∈ ip_l b sc lo := List.mem_map.mpr ⟨(i, v), ip_get_mem lo i v hg, rfl⟩
  obtain ⟨k, hk⟩ := List.mem_iff_getElem?.mp h
  exact ⟨k, hk⟩
theorem ip_l_set1 (b : Nat) (sc : Nat → Nat) (lo : List (Nat × Value)) (i : Nat) (v : Value) : (i, ip_v b sc v) :: (ip_l b sc lo).filter (fun q => !(q.1 == i) && !(q.1 + 1 == i && q.2.category == 2)) = ip_l b sc (ip_set1 lo i v) := by
  simp only [ip_l, ip_set1, List.map_cons, List.filter_map, Function.comp_def, ip_v_cat]
theorem ip_l_set2 (b : Nat) (sc : Nat → Nat) (lo : List (Nat × Value)) (i : Nat) (v : Value) : (i, ip_v b sc v) :: (ip_l b sc lo).filter (fun q => !(q.1 == i) && (!(q.1 == i + 1) && !(q.1 + 1 == i && q.2.category == 2))) = ip_l b sc (ip_set2 lo i v) := by
  simp only [ip_l, ip_set2, List.map_cons, List.filter_map, Function.comp_def, ip_v_cat]
section IPV
variable {p : Program} {l : Launch} {e : Env} {R : Room} {s : State} {m : MethodId} {args : Array Value} {below : List Frame} {meth : Method} {c : Code} {Q : State → Prop}
variable {D : va_G} {cl : List vw_C} {aC : Nat → ClassId} {b : Nat} {sc : Nat → Nat} {nL n0 s0 : Nat} {cc : ByteArray} {w : ip_W} {pc : Nat} {lo : List (Nat × Value)} {st : List Value}
/-- from every heap that holds the world w: the method, at pc with these locals and this stack, comes to a state with Q; n0, s0: the world's counts at the method's entry -/
def ip_V (p : Program) (l : Launch) (e : Env) (R : Room) (s : State) (m : MethodId) (args : Array Value) (below : List Frame) (meth : Method) (c : Code) (D : va_G) (cl : List vw_C) (aC : Nat → ClassId) (b : Nat) (sc : Nat → Nat) (nL n0 s0 : Nat) (Q : State → Prop) (w : ip_W) (pc : Nat) (lo : List (Nat × Value)) (st : List Value) : Prop :=
  ∀ (H : Heap) (locs : List Loc) (ls : Array Slot), ip_G D cl aC b sc w H → va_S (fun q => b ≤ q) s.heap H locs → lv_has ls nL (ip_l b sc lo) → W p l e R s m args below meth c H locs (w.1 - n0) (w.2.1 - s0) Q (F0 m pc ls (st.map (ip_v b sc)))

theorem ip_iconst (hx : p.tables.exec = Jvm.exec) (hb : c.code = cc) {n : Int} (hdg : decode cc pc = .ok (.iconst n, 1)) (k : ip_V p l e R s m args below meth c D cl aC b sc nL n0 s0 Q w (pc + 1) lo (.int (Int32.ofInt n) :: st)) : ip_V p l e R s m args below meth c D cl aC b sc nL n0 s0 Q w pc lo (st) :=
  fun H locs ls hG hS hl => lv_iconst hx hb hdg rfl (k H locs ls hG hS hl)
theorem ip_bipush (hx : p.tables.exec = Jvm.exec) (hb : c.code = cc) {n : Int} (hdg : decode cc pc = .ok (.bipush n, 2)) (k : ip_V p l e R s m args below meth c D cl aC b sc nL n0 s0 Q w (pc + 2) lo (.int (Int8.ofInt n).toInt32 :: st)) : ip_V p l e R s m args below meth c D cl aC b sc nL n0 s0 Q w pc lo (st) :=
  fun H locs ls hG hS hl => lv_bipush hx hb hdg rfl (k H locs ls hG hS hl)
theorem ip_sipush (hx : p.tables.exec = Jvm.exec) (hb : c.code = cc) {n : Int} (hdg : decode cc pc = .ok (.sipush n, 3)) (k : ip_V p l e R s m args below meth c D cl aC b sc nL n0 s0 Q w (pc + 3) lo (.int (Int16.ofInt n).toInt32 :: st)) : ip_V p l e R s m args below meth c D cl aC b sc nL n0 s0 Q w pc lo (st) :=
  fun H locs ls hG hS hl => lv_sipush hx hb hdg rfl (k H locs ls hG hS hl)
theorem ip_lconst (hx : p.tables.exec = Jvm.exec) (hb : c.code = cc) {n : Fin 2} (hdg : decode cc pc = .ok (.lconst n, 1)) (k : ip_V p l e R s m args below meth c D cl aC b sc nL n0 s0 Q w (pc + 1) lo (.long (Int64.ofNat (n : Nat)) :: st)) : ip_V p l e R s m args below meth c D cl aC b sc nL n0 s0 Q w pc lo (st) :=
  fun H locs ls hG hS hl => lv_lconst hx hb hdg rfl (k H locs ls hG hS hl)
theorem ip_null (hx : p.tables.exec = Jvm.exec) (hb : c.code = cc) (hdg : decode cc pc = .ok (.aconst_null, 1)) (k : ip_V p l e R s m args below meth c D cl aC b sc nL n0 s0 Q w (pc + 1) lo (.null :: st)) : ip_V p l e R s m args below meth c D cl aC b sc nL n0 s0 Q w pc lo (st) :=
  fun H locs ls hG hS hl => lv_null hx hb hdg (k H locs ls hG hS hl)
theorem ip_iload_n (hx : p.tables.exec = Jvm.exec) (hb : c.code = cc) {i : Fin 4} {x : Int32} (hdg : decode cc pc = .ok (.iload_n i, 1)) (hg : ip_get lo i = some (.int x)) (k : ip_V p l e R s m args below meth c D cl aC b sc nL n0 s0 Q w (pc + 1) lo (.int x :: st)) : ip_V p l e R s m args below meth c D cl aC b sc nL n0 s0 Q w pc lo (st) :=
  fun H locs ls hG hS hl => lv_iload_n hx hb hdg rfl (ip_get_at hl hg) (k H locs ls hG hS hl)
theorem ip_iload (hx : p.tables.exec = Jvm.exec) (hb : c.code = cc) {i : Nat} {x : Int32} (hdg : decode cc pc = .ok (.iload i, 2)) (hg : ip_get lo i = some (.int x)) (k : ip_V p l e R s m args below meth c D cl aC b sc nL n0 s0 Q w (pc + 2) lo (.int x :: st)) : ip_V p l e R s m args below meth c D cl aC b sc nL n0 s0 Q w pc lo (st) :=
  fun H locs ls hG hS hl => lv_iload hx hb hdg (ip_get_at hl hg) (k H locs ls hG hS hl)
theorem ip_lload_n (hx : p.tables.exec = Jvm.exec) (hb : c.code = cc) {i : Fin 4} {x : Int64} (hdg : decode cc pc = .ok (.lload_n i, 1)) (hg : ip_get lo i = some (.long x)) (k : ip_V p l e R s m args below meth c D cl aC b sc nL n0 s0 Q w (pc + 1) lo (.long x :: st)) : ip_V p l e R s m args below meth c D cl aC b sc nL n0 s0 Q w pc lo (st) :=
  fun H locs ls hG hS hl => lv_lload_n hx hb hdg rfl (ip_get_at hl hg) (k H locs ls hG hS hl)
theorem ip_lload (hx : p.tables.exec = Jvm.exec) (hb : c.code = cc) {i : Nat} {x : Int64} (hdg : decode cc pc = .ok (.lload i, 2)) (hg : ip_get lo i = some (.long x)) (k : ip_V p l e R s m args below meth c D cl aC b sc nL n0 s0 Q w (pc + 2) lo (.long x :: st)) : ip_V p l e R s m args below meth c D cl aC b sc nL n0 s0 Q w pc lo (st) :=
  fun H locs ls hG hS hl => lv_lload hx hb hdg (ip_get_at hl hg) (k H locs ls hG hS hl)
theorem ip_aload_n (hx : p.tables.exec = Jvm.exec) (hb : c.code = cc) {i : Fin 4} {x : Value} (hdg : decode cc pc = .ok (.aload_n i, 1)) (hg : ip_get lo i = some x) (hr : (∃ a, x = .ref a) ∨ (∃ a, x = .retAddr a) ∨ x = .null) (k : ip_V p l e R s m args below meth c D cl aC b sc nL n0 s0 Q w (pc + 1) lo (x :: st)) : ip_V p l e R s m args below meth c D cl aC b sc nL n0 s0 Q w pc lo st := by
  intro H locs ls hG hS hl
  have ha := ip_get_at hl hg
  have kk := k H locs ls hG hS hl
  rcases hr with ⟨a, rfl⟩ | ⟨a, rfl⟩ | rfl
  · exact lv_aload_n hx hb hdg rfl ha kk
  · exact lv_aload_n hx hb hdg rfl ha kk
  · exact lv_aload_nN hx hb hdg rfl ha kk
theorem ip_aload (hx : p.tables.exec = Jvm.exec) (hb : c.code = cc) {i : Nat} {x : Value} (hdg : decode cc pc = .ok (.aload i, 2)) (hg : ip_get lo i = some x) (hr : (∃ a, x = .ref a) ∨ (∃ a, x = .retAddr a) ∨ x = .null) (k : ip_V p l e R s m args below meth c D cl aC b sc nL n0 s0 Q w (pc + 2) lo (x :: st)) : ip_V p l e R s m args below meth c D cl aC b sc nL n0 s0 Q w pc lo st := by
  intro H locs ls hG hS hl
  have ha := ip_get_at hl hg
  have kk := k H locs ls hG hS hl
  rcases hr with ⟨a, rfl⟩ | ⟨a, rfl⟩ | rfl
  · exact lv_aload hx hb hdg ha kk
  · exact lv_aload hx hb hdg ha kk
  · exact lv_aloadN hx hb hdg ha kk
theorem ip_istore_n (hx : p.tables.exec = Jvm.exec) (hb : c.code = cc) {i : Fin 4} {x : Int32} (hdg : decode cc pc = .ok (.istore_n i, 1)) (hn : (i : Nat) < nL) (k : ip_V p l e R s m args below meth c D cl aC b sc nL n0 s0 Q w (pc + 1) (ip_set1 lo i (.int x)) st) : ip_V p l e R s m args below meth c D cl aC b sc nL n0 s0 Q w pc lo (.int x :: st) :=
  fun H locs ls hG hS hl => lv_istore_n hx hb hdg rfl hl hn (ip_l_set1 b sc lo i (.int x)) (fun ls' hl' => k H locs ls' hG hS hl')
theorem ip_istore (hx : p.tables.exec = Jvm.exec) (hb : c.code = cc) {i : Nat} {x : Int32} (hdg : decode cc pc = .ok (.istore i, 2)) (hn : (i : Nat) < nL) (k : ip_V p l e R s m args below meth c D cl aC b sc nL n0 s0 Q w (pc + 2) (ip_set1 lo i (.int x)) st) : ip_V p l e R s m args below meth c D cl aC b sc nL n0 s0 Q w pc lo (.int x :: st) :=
  fun H locs ls hG hS hl => lv_istore hx hb hdg hl hn (ip_l_set1 b sc lo i (.int x)) (fun ls' hl' => k H locs ls' hG hS hl')
theorem ip_lstore_n (hx : p.tables.exec = Jvm.exec) (hb : c.code = cc) {i : Fin 4} {x : Int64} (hdg : decode cc pc = .ok (.lstore_n i, 1)) (hn : (i : Nat) + 1 < nL) (k : ip_V p l e R s m args below meth c D cl aC b sc nL n0 s0 Q w (pc + 1) (ip_set2 lo i (.long x)) st) : ip_V p l e R s m args below meth c D cl aC b sc nL n0 s0 Q w pc lo (.long x :: st) :=
  fun H locs ls hG hS hl => lv_lstore_n hx hb hdg rfl hl hn (ip_l_set2 b sc lo i (.long x)) (fun ls' hl' => k H locs ls' hG hS hl')
theorem ip_lstore (hx : p.tables.exec = Jvm.exec) (hb : c.code = cc) {i : Nat} {x : Int64} (hdg : decode cc pc = .ok (.lstore i, 2)) (hn : (i : Nat) + 1 < nL) (k : ip_V p l e R s m args below meth c D cl aC b sc nL n0 s0 Q w (pc + 2) (ip_set2 lo i (.long x)) st) : ip_V p l e R s m args below meth c D cl aC b sc nL n0 s0 Q w pc lo (.long x :: st) :=
  fun H locs ls hG hS hl => lv_lstore hx hb hdg hl hn (ip_l_set2 b sc lo i (.long x)) (fun ls' hl' => k H locs ls' hG hS hl')
theorem ip_astore_n (hx : p.tables.exec = Jvm.exec) (hb : c.code = cc) {i : Fin 4} {x : Value} (hdg : decode cc pc = .ok (.astore_n i, 1)) (hn : (i : Nat) < nL) (hr : (∃ a, x = .ref a) ∨ (∃ a, x = .retAddr a) ∨ x = .null) (k : ip_V p l e R s m args below meth c D cl aC b sc nL n0 s0 Q w (pc + 1) (ip_set1 lo i x) st) : ip_V p l e R s m args below meth c D cl aC b sc nL n0 s0 Q w pc lo (x :: st) := by
  intro H locs ls hG hS hl
  have hq := ip_l_set1 b sc lo i x
  rcases hr with ⟨a, rfl⟩ | ⟨a, rfl⟩ | rfl
  · exact lv_astore_n hx hb hdg rfl hl hn hq (fun ls' hl' => k H locs ls' hG hS hl')
  · exact lv_astore_n hx hb hdg rfl hl hn hq (fun ls' hl' => k H locs ls' hG hS hl')
  · exact lv_astore_nN hx hb hdg rfl hl hn hq (fun ls' hl' => k H locs ls' hG hS hl')
theorem ip_astore (hx : p.tables.exec = Jvm.exec) (hb : c.code = cc) {i : Nat} {x : Value} (hdg : decode cc pc = .ok (.astore i, 2)) (hn : (i : Nat) < nL) (hr : (∃ a, x = .ref a) ∨ (∃ a, x = .retAddr a) ∨ x = .null) (k : ip_V p l e R s m args below meth c D cl aC b sc nL n0 s0 Q w (pc + 2) (ip_set1 lo i x) st) : ip_V p l e R s m args below meth c D cl aC b sc nL n0 s0 Q w pc lo (x :: st) := by
  intro H locs ls hG hS hl
  have hq := ip_l_set1 b sc lo i x
  rcases hr with ⟨a, rfl⟩ | ⟨a, rfl⟩ | rfl
  · exact lv_astore hx hb hdg hl hn hq (fun ls' hl' => k H locs ls' hG hS hl')
  · exact lv_astore hx hb hdg hl hn hq (fun ls' hl' => k H locs ls' hG hS hl')
  · exact lv_astoreN hx hb hdg hl hn hq (fun ls' hl' => k H locs ls' hG hS hl')
theorem ip_iinc (hx : p.tables.exec = Jvm.exec) (hb : c.code = cc) {i : Nat} {n : Int} {x : Int32} (hdg : decode cc pc = .ok (.iinc i n, 3)) (hn : i < nL) (hg : ip_get lo i = some (.int x)) (k : ip_V p l e R s m args below meth c D cl aC b sc nL n0 s0 Q w (pc + 3) (ip_set1 lo i (.int (x + Int32.ofInt n))) st) : ip_V p l e R s m args below meth c D cl aC b sc nL n0 s0 Q w pc lo st := by
  intro H locs ls hG hS hl
  obtain ⟨j, hj⟩ := ip_get_pos (b := b) (sc := sc) hg
  exact lv_iinc hx hb hdg hl hj rfl hn (ip_l_set1 b sc lo i (.int (x + Int32.ofInt n))) (fun ls' hl' => k H locs ls' hG hS hl')
theorem ip_iadd (hx : p.tables.exec = Jvm.exec) (hb : c.code = cc) {x y : Int32} (hdg : decode cc pc = .ok (.iadd, 1)) (k : ip_V p l e R s m args below meth c D cl aC b sc nL n0 s0 Q w (pc + 1) lo (.int (x + y) :: st)) : ip_V p l e R s m args below meth c D cl aC b sc nL n0 s0 Q w pc lo (.int y :: .int x :: st) :=
  fun H locs ls hG hS hl => lv_iadd hx hb hdg (k H locs ls hG hS hl)
theorem ip_isub (hx : p.tables.exec = Jvm.exec) (hb : c.code = cc) {x y : Int32} (hdg : decode cc pc = .ok (.isub, 1)) (k : ip_V p l e R s m args below meth c D cl aC b sc nL n0 s0 Q w (pc + 1) lo (.int (x - y) :: st)) : ip_V p l e R s m args below meth c D cl aC b sc nL n0 s0 Q w pc lo (.int y :: .int x :: st) :=
  fun H locs ls hG hS hl => lv_isub hx hb hdg (k H locs ls hG hS hl)
theorem ip_imul (hx : p.tables.exec = Jvm.exec) (hb : c.code = cc) {x y : Int32} (hdg : decode cc pc = .ok (.imul, 1)) (k : ip_V p l e R s m args below meth c D cl aC b sc nL n0 s0 Q w (pc + 1) lo (.int (x * y) :: st)) : ip_V p l e R s m args below meth c D cl aC b sc nL n0 s0 Q w pc lo (.int y :: .int x :: st) :=
  fun H locs ls hG hS hl => lv_imul hx hb hdg (k H locs ls hG hS hl)
theorem ip_iand (hx : p.tables.exec = Jvm.exec) (hb : c.code = cc) {x y : Int32} (hdg : decode cc pc = .ok (.iand, 1)) (k : ip_V p l e R s m args below meth c D cl aC b sc nL n0 s0 Q w (pc + 1) lo (.int (x &&& y) :: st)) : ip_V p l e R s m args below meth c D cl aC b sc nL n0 s0 Q w pc lo (.int y :: .int x :: st) :=
  fun H locs ls hG hS hl => lv_iand hx hb hdg (k H locs ls hG hS hl)
theorem ip_ladd (hx : p.tables.exec = Jvm.exec) (hb : c.code = cc) {x y : Int64} (hdg : decode cc pc = .ok (.ladd, 1)) (k : ip_V p l e R s m args below meth c D cl aC b sc nL n0 s0 Q w (pc + 1) lo (.long (x + y) :: st)) : ip_V p l e R s m args below meth c D cl aC b sc nL n0 s0 Q w pc lo (.long y :: .long x :: st) :=
  fun H locs ls hG hS hl => lv_ladd hx hb hdg (k H locs ls hG hS hl)
theorem ip_lsub (hx : p.tables.exec = Jvm.exec) (hb : c.code = cc) {x y : Int64} (hdg : decode cc pc = .ok (.lsub, 1)) (k : ip_V p l e R s m args below meth c D cl aC b sc nL n0 s0 Q w (pc + 1) lo (.long (x - y) :: st)) : ip_V p l e R s m args below meth c D cl aC b sc nL n0 s0 Q w pc lo (.long y :: .long x :: st) :=
  fun H locs ls hG hS hl => lv_lsub hx hb hdg (k H locs ls hG hS hl)
theorem ip_lmul (hx : p.tables.exec = Jvm.exec) (hb : c.code = cc) {x y : Int64} (hdg : decode cc pc = .ok (.lmul, 1)) (k : ip_V p l e R s m args below meth c D cl aC b sc nL n0 s0 Q w (pc + 1) lo (.long (x * y) :: st)) : ip_V p l e R s m args below meth c D cl aC b sc nL n0 s0 Q w pc lo (.long y :: .long x :: st) :=
  fun H locs ls hG hS hl => lv_lmul hx hb hdg (k H locs ls hG hS hl)
theorem ip_land (hx : p.tables.exec = Jvm.exec) (hb : c.code = cc) {x y : Int64} (hdg : decode cc pc = .ok (.land, 1)) (k : ip_V p l e R s m args below meth c D cl aC b sc nL n0 s0 Q w (pc + 1) lo (.long (x &&& y) :: st)) : ip_V p l e R s m args below meth c D cl aC b sc nL n0 s0 Q w pc lo (.long y :: .long x :: st) :=
  fun H locs ls hG hS hl => lv_land hx hb hdg (k H locs ls hG hS hl)
theorem ip_lor (hx : p.tables.exec = Jvm.exec) (hb : c.code = cc) {x y : Int64} (hdg : decode cc pc = .ok (.lor, 1)) (k : ip_V p l e R s m args below meth c D cl aC b sc nL n0 s0 Q w (pc + 1) lo (.long (x ||| y) :: st)) : ip_V p l e R s m args below meth c D cl aC b sc nL n0 s0 Q w pc lo (.long y :: .long x :: st) :=
  fun H locs ls hG hS hl => lv_lor hx hb hdg (k H locs ls hG hS hl)
theorem ip_lxor (hx : p.tables.exec = Jvm.exec) (hb : c.code = cc) {x y : Int64} (hdg : decode cc pc = .ok (.lxor, 1)) (k : ip_V p l e R s m args below meth c D cl aC b sc nL n0 s0 Q w (pc + 1) lo (.long (x ^^^ y) :: st)) : ip_V p l e R s m args below meth c D cl aC b sc nL n0 s0 Q w pc lo (.long y :: .long x :: st) :=
  fun H locs ls hG hS hl => lv_lxor hx hb hdg (k H locs ls hG hS hl)
theorem ip_idiv (hx : p.tables.exec = Jvm.exec) (hb : c.code = cc) {x y : Int32} (hdg : decode cc pc = .ok (.idiv, 1)) (hne : ¬ y = 0) (k : ip_V p l e R s m args below meth c D cl aC b sc nL n0 s0 Q w (pc + 1) lo (.int (x / y) :: st)) : ip_V p l e R s m args below meth c D cl aC b sc nL n0 s0 Q w pc lo (.int y :: .int x :: st) :=
  fun H locs ls hG hS hl => lv_idiv hx hb hdg hne (k H locs ls hG hS hl)
theorem ip_irem (hx : p.tables.exec = Jvm.exec) (hb : c.code = cc) {x y : Int32} (hdg : decode cc pc = .ok (.irem, 1)) (hne : ¬ y = 0) (k : ip_V p l e R s m args below meth c D cl aC b sc nL n0 s0 Q w (pc + 1) lo (.int (x - x / y * y) :: st)) : ip_V p l e R s m args below meth c D cl aC b sc nL n0 s0 Q w pc lo (.int y :: .int x :: st) :=
  fun H locs ls hG hS hl => lv_irem hx hb hdg hne (k H locs ls hG hS hl)
theorem ip_ldiv (hx : p.tables.exec = Jvm.exec) (hb : c.code = cc) {x y : Int64} (hdg : decode cc pc = .ok (.ldiv, 1)) (hne : ¬ y = 0) (k : ip_V p l e R s m args below meth c D cl aC b sc nL n0 s0 Q w (pc + 1) lo (.long (x / y) :: st)) : ip_V p l e R s m args below meth c D cl aC b sc nL n0 s0 Q w pc lo (.long y :: .long x :: st) :=
  fun H locs ls hG hS hl => lv_ldiv hx hb hdg hne (k H locs ls hG hS hl)
theorem ip_lrem (hx : p.tables.exec = Jvm.exec) (hb : c.code = cc) {x y : Int64} (hdg : decode cc pc = .ok (.lrem, 1)) (hne : ¬ y = 0) (k : ip_V p l e R s m args below meth c D cl aC b sc nL n0 s0 Q w (pc + 1) lo (.long (x - x / y * y) :: st)) : ip_V p l e R s m args below meth c D cl aC b sc nL n0 s0 Q w pc lo (.long y :: .long x :: st) :=
  fun H locs ls hG hS hl => lv_lrem hx hb hdg hne (k H locs ls hG hS hl)
theorem ip_ineg (hx : p.tables.exec = Jvm.exec) (hb : c.code = cc) {x : Int32} (hdg : decode cc pc = .ok (.ineg, 1)) (k : ip_V p l e R s m args below meth c D cl aC b sc nL n0 s0 Q w (pc + 1) lo (.int (-x) :: st)) : ip_V p l e R s m args below meth c D cl aC b sc nL n0 s0 Q w pc lo (.int x :: st) :=
  fun H locs ls hG hS hl => lv_ineg hx hb hdg (k H locs ls hG hS hl)
theorem ip_lneg (hx : p.tables.exec = Jvm.exec) (hb : c.code = cc) {x : Int64} (hdg : decode cc pc = .ok (.lneg, 1)) (k : ip_V p l e R s m args below meth c D cl aC b sc nL n0 s0 Q w (pc + 1) lo (.long (-x) :: st)) : ip_V p l e R s m args below meth c D cl aC b sc nL n0 s0 Q w pc lo (.long x :: st) :=
  fun H locs ls hG hS hl => lv_lneg hx hb hdg (k H locs ls hG hS hl)
theorem ip_i2l (hx : p.tables.exec = Jvm.exec) (hb : c.code = cc) {x : Int32} (hdg : decode cc pc = .ok (.i2l, 1)) (k : ip_V p l e R s m args below meth c D cl aC b sc nL n0 s0 Q w (pc + 1) lo (.long x.toInt64 :: st)) : ip_V p l e R s m args below meth c D cl aC b sc nL n0 s0 Q w pc lo (.int x :: st) :=
  fun H locs ls hG hS hl => lv_i2l hx hb hdg rfl (k H locs ls hG hS hl)
theorem ip_l2i (hx : p.tables.exec = Jvm.exec) (hb : c.code = cc) {x : Int64} (hdg : decode cc pc = .ok (.l2i, 1)) (k : ip_V p l e R s m args below meth c D cl aC b sc nL n0 s0 Q w (pc + 1) lo (.int x.toInt32 :: st)) : ip_V p l e R s m args below meth c D cl aC b sc nL n0 s0 Q w pc lo (.long x :: st) :=
  fun H locs ls hG hS hl => lv_l2i hx hb hdg rfl (k H locs ls hG hS hl)
theorem ip_i2b (hx : p.tables.exec = Jvm.exec) (hb : c.code = cc) {x : Int32} (hdg : decode cc pc = .ok (.i2b, 1)) (k : ip_V p l e R s m args below meth c D cl aC b sc nL n0 s0 Q w (pc + 1) lo (.int x.toInt8.toInt32 :: st)) : ip_V p l e R s m args below meth c D cl aC b sc nL n0 s0 Q w pc lo (.int x :: st) :=
  fun H locs ls hG hS hl => lv_i2b hx hb hdg rfl (k H locs ls hG hS hl)
theorem ip_i2c (hx : p.tables.exec = Jvm.exec) (hb : c.code = cc) {x : Int32} (hdg : decode cc pc = .ok (.i2c, 1)) (k : ip_V p l e R s m args below meth c D cl aC b sc nL n0 s0 Q w (pc + 1) lo (.int (x.toUInt32 % 65536).toInt32 :: st)) : ip_V p l e R s m args below meth c D cl aC b sc nL n0 s0 Q w pc lo (.int x :: st) :=
  fun H locs ls hG hS hl => lv_i2c hx hb hdg rfl (k H locs ls hG hS hl)
theorem ip_lshl (hx : p.tables.exec = Jvm.exec) (hb : c.code = cc) {x : Int64} {y : Int32} (hdg : decode cc pc = .ok (.lshl, 1)) (k : ip_V p l e R s m args below meth c D cl aC b sc nL n0 s0 Q w (pc + 1) lo (.long (x <<< (y.toInt64 &&& 63)) :: st)) : ip_V p l e R s m args below meth c D cl aC b sc nL n0 s0 Q w pc lo (.int y :: .long x :: st) :=
  fun H locs ls hG hS hl => lv_lshl hx hb hdg rfl (k H locs ls hG hS hl)
theorem ip_lshr (hx : p.tables.exec = Jvm.exec) (hb : c.code = cc) {x : Int64} {y : Int32} (hdg : decode cc pc = .ok (.lshr, 1)) (k : ip_V p l e R s m args below meth c D cl aC b sc nL n0 s0 Q w (pc + 1) lo (.long (x >>> (y.toInt64 &&& 63)) :: st)) : ip_V p l e R s m args below meth c D cl aC b sc nL n0 s0 Q w pc lo (.int y :: .long x :: st) :=
  fun H locs ls hG hS hl => lv_lshr hx hb hdg rfl (k H locs ls hG hS hl)
theorem ip_lushr (hx : p.tables.exec = Jvm.exec) (hb : c.code = cc) {x : Int64} {y : Int32} (hdg : decode cc pc = .ok (.lushr, 1)) (k : ip_V p l e R s m args below meth c D cl aC b sc nL n0 s0 Q w (pc + 1) lo (.long (x.toUInt64 >>> (y.toInt64.toUInt64 &&& Int64.toUInt64 63)).toInt64 :: st)) : ip_V p l e R s m args below meth c D cl aC b sc nL n0 s0 Q w pc lo (.int y :: .long x :: st) :=
  fun H locs ls hG hS hl => lv_lushr hx hb hdg rfl (k H locs ls hG hS hl)
theorem ip_lcmp (hx : p.tables.exec = Jvm.exec) (hb : c.code = cc) {x y : Int64} (hdg : decode cc pc = .ok (.lcmp, 1)) (k : ip_V p l e R s m args below meth c D cl aC b sc nL n0 s0 Q w (pc + 1) lo (.int (lg_cmp x y) :: st)) : ip_V p l e R s m args below meth c D cl aC b sc nL n0 s0 Q w pc lo (.long y :: .long x :: st) :=
  fun H locs ls hG hS hl => W.lcmp hx hb hdg (k H locs ls hG hS hl)
theorem ip_dup (hx : p.tables.exec = Jvm.exec) (hb : c.code = cc) {v : Value} (hdg : decode cc pc = .ok (.dup, 1)) (hc : v.category = 1) (k : ip_V p l e R s m args below meth c D cl aC b sc nL n0 s0 Q w (pc + 1) lo (v :: v :: st)) : ip_V p l e R s m args below meth c D cl aC b sc nL n0 s0 Q w pc lo (v :: st) :=
  fun H locs ls hG hS hl => lv_dup hx hb hdg ((ip_v_cat b sc v).trans hc) (k H locs ls hG hS hl)
theorem ip_pop (hx : p.tables.exec = Jvm.exec) (hb : c.code = cc) {v : Value} (hdg : decode cc pc = .ok (.pop, 1)) (hc : v.category = 1) (k : ip_V p l e R s m args below meth c D cl aC b sc nL n0 s0 Q w (pc + 1) lo (st)) : ip_V p l e R s m args below meth c D cl aC b sc nL n0 s0 Q w pc lo (v :: st) :=
  fun H locs ls hG hS hl => lv_pop hx hb hdg ((ip_v_cat b sc v).trans hc) (k H locs ls hG hS hl)
theorem ip_dup2_11 (hx : p.tables.exec = Jvm.exec) (hb : c.code = cc) {v u : Value} (hdg : decode cc pc = .ok (.dup2, 1)) (hc : v.category = 1) (hd : u.category = 1) (k : ip_V p l e R s m args below meth c D cl aC b sc nL n0 s0 Q w (pc + 1) lo (v :: u :: v :: u :: st)) : ip_V p l e R s m args below meth c D cl aC b sc nL n0 s0 Q w pc lo (v :: u :: st) :=
  fun H locs ls hG hS hl => lv_dup2_11 hx hb hdg ((ip_v_cat b sc v).trans hc) ((ip_v_cat b sc u).trans hd) (k H locs ls hG hS hl)
theorem ip_dup2_2 (hx : p.tables.exec = Jvm.exec) (hb : c.code = cc) {v : Value} (hdg : decode cc pc = .ok (.dup2, 1)) (hc : v.category = 2) (k : ip_V p l e R s m args below meth c D cl aC b sc nL n0 s0 Q w (pc + 1) lo (v :: v :: st)) : ip_V p l e R s m args below meth c D cl aC b sc nL n0 s0 Q w pc lo (v :: st) :=
  fun H locs ls hG hS hl => lv_dup2_2 hx hb hdg ((ip_v_cat b sc v).trans hc) (k H locs ls hG hS hl)
theorem ip_if_eq (hx : p.tables.exec = Jvm.exec) (hb : c.code = cc) {x : Int32} {off : Int} {tgt : Nat} (hdg : decode cc pc = .ok (.ifCond .eq off, 3)) (ht : (pc : Int) + off = (tgt : Int)) (k : ip_V p l e R s m args below meth c D cl aC b sc nL n0 s0 Q w (if x = 0 then tgt else pc + 3) lo st) : ip_V p l e R s m args below meth c D cl aC b sc nL n0 s0 Q w pc lo (.int x :: st) := by
  intro H locs ls hG hS hl
  refine lv_if_eq hx hb hdg ht (fun hP => ?_) (fun hP => ?_)
  · have kk := k H locs ls hG hS hl
    rw [if_pos hP] at kk
    exact kk
  · have kk := k H locs ls hG hS hl
    rw [if_neg hP] at kk
    exact kk
theorem ip_if_ne (hx : p.tables.exec = Jvm.exec) (hb : c.code = cc) {x : Int32} {off : Int} {tgt : Nat} (hdg : decode cc pc = .ok (.ifCond .ne off, 3)) (ht : (pc : Int) + off = (tgt : Int)) (k : ip_V p l e R s m args below meth c D cl aC b sc nL n0 s0 Q w (if x ≠ 0 then tgt else pc + 3) lo st) : ip_V p l e R s m args below meth c D cl aC b sc nL n0 s0 Q w pc lo (.int x :: st) := by
  intro H locs ls hG hS hl
  refine lv_if_ne hx hb hdg ht (fun hP => ?_) (fun hP => ?_)
  · have kk := k H locs ls hG hS hl
    rw [if_pos hP] at kk
    exact kk
  · have kk := k H locs ls hG hS hl
    rw [if_neg (fun q => q hP)] at kk
    exact kk
theorem ip_if_lt (hx : p.tables.exec = Jvm.exec) (hb : c.code = cc) {x : Int32} {off : Int} {tgt : Nat} (hdg : decode cc pc = .ok (.ifCond .lt off, 3)) (ht : (pc : Int) + off = (tgt : Int)) (k : ip_V p l e R s m args below meth c D cl aC b sc nL n0 s0 Q w (if x < 0 then tgt else pc + 3) lo st) : ip_V p l e R s m args below meth c D cl aC b sc nL n0 s0 Q w pc lo (.int x :: st) := by
  intro H locs ls hG hS hl
  refine lv_if_lt hx hb hdg ht (fun hP => ?_) (fun hP => ?_)
  · have kk := k H locs ls hG hS hl
    rw [if_pos hP] at kk
    exact kk
  · have kk := k H locs ls hG hS hl
    rw [if_neg hP] at kk
    exact kk
theorem ip_if_ge (hx : p.tables.exec = Jvm.exec) (hb : c.code = cc) {x : Int32} {off : Int} {tgt : Nat} (hdg : decode cc pc = .ok (.ifCond .ge off, 3)) (ht : (pc : Int) + off = (tgt : Int)) (k : ip_V p l e R s m args below meth c D cl aC b sc nL n0 s0 Q w (if 0 ≤ x then tgt else pc + 3) lo st) : ip_V p l e R s m args below meth c D cl aC b sc nL n0 s0 Q w pc lo (.int x :: st) := by
  intro H locs ls hG hS hl
  refine lv_if_ge hx hb hdg ht (fun hP => ?_) (fun hP => ?_)
  · have kk := k H locs ls hG hS hl
    rw [if_pos hP] at kk
    exact kk
  · have kk := k H locs ls hG hS hl
    rw [if_neg hP] at kk
    exact kk
theorem ip_if_gt (hx : p.tables.exec = Jvm.exec) (hb : c.code = cc) {x : Int32} {off : Int} {tgt : Nat} (hdg : decode cc pc = .ok (.ifCond .gt off, 3)) (ht : (pc : Int) + off = (tgt : Int)) (k : ip_V p l e R s m args below meth c D cl aC b sc nL n0 s0 Q w (if 0 < x then tgt else pc + 3) lo st) : ip_V p l e R s m args below meth c D cl aC b sc nL n0 s0 Q w pc lo (.int x :: st) := by
  intro H locs ls hG hS hl
  refine lv_if_gt hx hb hdg ht (fun hP => ?_) (fun hP => ?_)
  · have kk := k H locs ls hG hS hl
    rw [if_pos hP] at kk
    exact kk
  · have kk := k H locs ls hG hS hl
    rw [if_neg hP] at kk
    exact kk
theorem ip_if_le (hx : p.tables.exec = Jvm.exec) (hb : c.code = cc) {x : Int32} {off : Int} {tgt : Nat} (hdg : decode cc pc = .ok (.ifCond .le off, 3)) (ht : (pc : Int) + off = (tgt : Int)) (k : ip_V p l e R s m args below meth c D cl aC b sc nL n0 s0 Q w (if x ≤ 0 then tgt else pc + 3) lo st) : ip_V p l e R s m args below meth c D cl aC b sc nL n0 s0 Q w pc lo (.int x :: st) := by
  intro H locs ls hG hS hl
  refine lv_if_le hx hb hdg ht (fun hP => ?_) (fun hP => ?_)
  · have kk := k H locs ls hG hS hl
    rw [if_pos hP] at kk
    exact kk
  · have kk := k H locs ls hG hS hl
    rw [if_neg hP] at kk
    exact kk
theorem ip_icmp_eq (hx : p.tables.exec = Jvm.exec) (hb : c.code = cc) {x y : Int32} {off : Int} {tgt : Nat} (hdg : decode cc pc = .ok (.if_icmp .eq off, 3)) (ht : (pc : Int) + off = (tgt : Int)) (k : ip_V p l e R s m args below meth c D cl aC b sc nL n0 s0 Q w (if x = y then tgt else pc + 3) lo st) : ip_V p l e R s m args below meth c D cl aC b sc nL n0 s0 Q w pc lo (.int y :: .int x :: st) := by
  intro H locs ls hG hS hl
  refine lv_icmp_eq hx hb hdg ht (fun hP => ?_) (fun hP => ?_)
  · have kk := k H locs ls hG hS hl
    rw [if_pos hP] at kk
    exact kk
  · have kk := k H locs ls hG hS hl
    rw [if_neg hP] at kk
    exact kk
theorem ip_icmp_ne (hx : p.tables.exec = Jvm.exec) (hb : c.code = cc) {x y : Int32} {off : Int} {tgt : Nat} (hdg : decode cc pc = .ok (.if_icmp .ne off, 3)) (ht : (pc : Int) + off = (tgt : Int)) (k : ip_V p l e R s m args below meth c D cl aC b sc nL n0 s0 Q w (if x ≠ y then tgt else pc + 3) lo st) : ip_V p l e R s m args below meth c D cl aC b sc nL n0 s0 Q w pc lo (.int y :: .int x :: st) := by
  intro H locs ls hG hS hl
  refine lv_icmp_ne hx hb hdg ht (fun hP => ?_) (fun hP => ?_)
  · have kk := k H locs ls hG hS hl
    rw [if_pos hP] at kk
    exact kk
  · have kk := k H locs ls hG hS hl
    rw [if_neg (fun q => q hP)] at kk
    exact kk
theorem ip_icmp_lt (hx : p.tables.exec = Jvm.exec) (hb : c.code = cc) {x y : Int32} {off : Int} {tgt : Nat} (hdg : decode cc pc = .ok (.if_icmp .lt off, 3)) (ht : (pc : Int) + off = (tgt : Int)) (k : ip_V p l e R s m args below meth c D cl aC b sc nL n0 s0 Q w (if x < y then tgt else pc + 3) lo st) : ip_V p l e R s m args below meth c D cl aC b sc nL n0 s0 Q w pc lo (.int y :: .int x :: st) := by
  intro H locs ls hG hS hl
  refine lv_icmp_lt hx hb hdg ht (fun hP => ?_) (fun hP => ?_)
  · have kk := k H locs ls hG hS hl
    rw [if_pos hP] at kk
    exact kk
  · have kk := k H locs ls hG hS hl
    rw [if_neg hP] at kk
    exact kk
theorem ip_icmp_ge (hx : p.tables.exec = Jvm.exec) (hb : c.code = cc) {x y : Int32} {off : Int} {tgt : Nat} (hdg : decode cc pc = .ok (.if_icmp .ge off, 3)) (ht : (pc : Int) + off = (tgt : Int)) (k : ip_V p l e R s m args below meth c D cl aC b sc nL n0 s0 Q w (if y ≤ x then tgt else pc + 3) lo st) : ip_V p l e R s m args below meth c D cl aC b sc nL n0 s0 Q w pc lo (.int y :: .int x :: st) := by
  intro H locs ls hG hS hl
  refine lv_icmp_ge hx hb hdg ht (fun hP => ?_) (fun hP => ?_)
  · have kk := k H locs ls hG hS hl
    rw [if_pos hP] at kk
    exact kk
  · have kk := k H locs ls hG hS hl
    rw [if_neg hP] at kk
    exact kk
theorem ip_icmp_gt (hx : p.tables.exec = Jvm.exec) (hb : c.code = cc) {x y : Int32} {off : Int} {tgt : Nat} (hdg : decode cc pc = .ok (.if_icmp .gt off, 3)) (ht : (pc : Int) + off = (tgt : Int)) (k : ip_V p l e R s m args below meth c D cl aC b sc nL n0 s0 Q w (if y < x then tgt else pc + 3) lo st) : ip_V p l e R s m args below meth c D cl aC b sc nL n0 s0 Q w pc lo (.int y :: .int x :: st) := by
  intro H locs ls hG hS hl
  refine lv_icmp_gt hx hb hdg ht (fun hP => ?_) (fun hP => ?_)
  · have kk := k H locs ls hG hS hl
    rw [if_pos hP] at kk
    exact kk
  · have kk := k H locs ls hG hS hl
    rw [if_neg hP] at kk
    exact kk
theorem ip_icmp_le (hx : p.tables.exec = Jvm.exec) (hb : c.code = cc) {x y : Int32} {off : Int} {tgt : Nat} (hdg : decode cc pc = .ok (.if_icmp .le off, 3)) (ht : (pc : Int) + off = (tgt : Int)) (k : ip_V p l e R s m args below meth c D cl aC b sc nL n0 s0 Q w (if x ≤ y then tgt else pc + 3) lo st) : ip_V p l e R s m args below meth c D cl aC b sc nL n0 s0 Q w pc lo (.int y :: .int x :: st) := by
  intro H locs ls hG hS hl
  refine lv_icmp_le hx hb hdg ht (fun hP => ?_) (fun hP => ?_)
  · have kk := k H locs ls hG hS hl
    rw [if_pos hP] at kk
    exact kk
  · have kk := k H locs ls hG hS hl
    rw [if_neg hP] at kk
    exact kk
theorem ip_goto (hx : p.tables.exec = Jvm.exec) (hb : c.code = cc) {off : Int} {tgt : Nat} (hdg : decode cc pc = .ok (.goto off, 3)) (ht : (pc : Int) + off = (tgt : Int)) (k : ip_V p l e R s m args below meth c D cl aC b sc nL n0 s0 Q w tgt lo st) : ip_V p l e R s m args below meth c D cl aC b sc nL n0 s0 Q w pc lo st :=
  fun H locs ls hG hS hl => lv_goto hx hb hdg ht (k H locs ls hG hS hl)
theorem ip_ifnonnull (hx : p.tables.exec = Jvm.exec) (hb : c.code = cc) {off : Int} {tgt : Nat} {x : Nat} (hdg : decode cc pc = .ok (.ifnonnull off, 3)) (ht : (pc : Int) + off = (tgt : Int)) (k : ip_V p l e R s m args below meth c D cl aC b sc nL n0 s0 Q w tgt lo st) : ip_V p l e R s m args below meth c D cl aC b sc nL n0 s0 Q w pc lo (.ref x :: st) :=
  fun H locs ls hG hS hl => lv_ifnonnull hx hb hdg ht (k H locs ls hG hS hl)
theorem ip_ifnonnullN (hx : p.tables.exec = Jvm.exec) (hb : c.code = cc) {off : Int} (hdg : decode cc pc = .ok (.ifnonnull off, 3)) (k : ip_V p l e R s m args below meth c D cl aC b sc nL n0 s0 Q w (pc + 3) lo st) : ip_V p l e R s m args below meth c D cl aC b sc nL n0 s0 Q w pc lo (.null :: st) :=
  fun H locs ls hG hS hl => lv_ifnonnullN hx hb hdg (k H locs ls hG hS hl)
theorem ip_ifnull (hx : p.tables.exec = Jvm.exec) (hb : c.code = cc) {off : Int} {x : Nat} (hdg : decode cc pc = .ok (.ifnull off, 3)) (k : ip_V p l e R s m args below meth c D cl aC b sc nL n0 s0 Q w (pc + 3) lo st) : ip_V p l e R s m args below meth c D cl aC b sc nL n0 s0 Q w pc lo (.ref x :: st) :=
  fun H locs ls hG hS hl => lv_ifnull hx hb hdg (k H locs ls hG hS hl)
theorem ip_ifnullN (hx : p.tables.exec = Jvm.exec) (hb : c.code = cc) {off : Int} {tgt : Nat} (hdg : decode cc pc = .ok (.ifnull off, 3)) (ht : (pc : Int) + off = (tgt : Int)) (k : ip_V p l e R s m args below meth c D cl aC b sc nL n0 s0 Q w tgt lo st) : ip_V p l e R s m args below meth c D cl aC b sc nL n0 s0 Q w pc lo (.null :: st) :=
  fun H locs ls hG hS hl => lv_ifnullN hx hb hdg ht (k H locs ls hG hS hl)
theorem ip_lookup (hx : p.tables.exec = Jvm.exec) (hb : c.code = cc) {dflt : Int} {ps : Array (Int × Int)} {len : Nat} {x : Int32} {off : Int} {tgt : Nat} (hdg : decode cc pc = .ok (.lookupswitch dflt ps, len)) (hp : (ps.toList.zip (ps.toList.drop 1)).all (fun (a, next) => a.1 < next.1) = true) (ho : Op.lookupswitch.offset ps.toList dflt x.toInt = off) (ht : (pc : Int) + off = (tgt : Int)) (k : ip_V p l e R s m args below meth c D cl aC b sc nL n0 s0 Q w tgt lo st) : ip_V p l e R s m args below meth c D cl aC b sc nL n0 s0 Q w pc lo (.int x :: st) :=
  fun H locs ls hG hS hl => lv_lookup hx hb hdg hp ho ht (k H locs ls hG hS hl)
theorem ip_tableOut (hx : p.tables.exec = Jvm.exec) (hb : c.code = cc) {dflt lw hi : Int} {offs : Array Int} {len : Nat} {x : Int32} {tgt : Nat} (hdg : decode cc pc = .ok (.tableswitch dflt lw hi offs, len)) (h : x.toInt < lw ∨ hi < x.toInt) (ht : (pc : Int) + dflt = (tgt : Int)) (k : ip_V p l e R s m args below meth c D cl aC b sc nL n0 s0 Q w tgt lo st) : ip_V p l e R s m args below meth c D cl aC b sc nL n0 s0 Q w pc lo (.int x :: st) :=
  fun H locs ls hG hS hl => lv_tableOut hx hb hdg h ht (k H locs ls hG hS hl)
theorem ip_tableIn (hx : p.tables.exec = Jvm.exec) (hb : c.code = cc) {dflt lw hi : Int} {offs : Array Int} {len : Nat} {x : Int32} {off : Int} {tgt : Nat} (hdg : decode cc pc = .ok (.tableswitch dflt lw hi offs, len)) (h1 : ¬ x.toInt < lw) (h2 : ¬ hi < x.toInt) (ho : offs[(x.toInt - lw).toNat]? = some off) (ht : (pc : Int) + off = (tgt : Int)) (k : ip_V p l e R s m args below meth c D cl aC b sc nL n0 s0 Q w tgt lo st) : ip_V p l e R s m args below meth c D cl aC b sc nL n0 s0 Q w pc lo (.int x :: st) :=
  fun H locs ls hG hS hl => lv_tableIn hx hb hdg h1 h2 ho ht (k H locs ls hG hS hl)
end IPV
end
section
/-! part 02: the rules of fields, arrays, new -/
/-- the kinds of arrays: 0 int, 1 byte, 2 long, 3 boolean, 4 of Symbols -/
def ip_T (aC : Nat → ClassId) : List (ClassId × FieldType) := [(aC 0, .int), (aC 1, .byte), (aC 2, .long), (aC 3, .boolean), (aC 4, .object "VitalTwin$Symbol")]
/-- one cell of a world turns, all else stays -/
theorem ip_G.turn {D : va_G} {cl : List vw_C} {aC : Nat → ClassId} {b : Nat} {sc : Nat → Nat} {w : ip_W} {H H1 : Heap} {a : Nat} {x : ip_E} (h : ip_G D cl aC b sc w H) (z : H1.size = H.size) (oq : ∀ q : Nat, q ≠ b + a → H1[q]? = H[q]?) (ha : va_at D cl (b + a, ip_e b sc aC x) H1) : ip_G D cl aC b sc (w.1, w.2.1, va_up w.2.2 a (some x)) H1 := by
  refine ⟨by rw [z]; exact h.1, fun k y hk => ?_⟩
  by_cases hka : k = a
  · subst hka
    have hk' : va_up w.2.2 k (some x) k = some y := hk
    simp [va_up] at hk'
    subst hk'
    exact ha
  · have hk' : va_up w.2.2 a (some x) k = some y := hk
    simp [va_up, hka] at hk'
    exact (h.2 k y hk').kept (oq (b + k) (by omega))
/-- a world grows by a cell -/
theorem ip_G.grow {D : va_G} {cl : List vw_C} {aC : Nat → ClassId} {b : Nat} {sc : Nat → Nat} {w : ip_W} {H H1 : Heap} {N : Nat} {x : ip_E} (h : ip_G D cl aC b sc w H) (z : H1.size = H.size + 1) (oq : ∀ q : Nat, q < H.size → H1[q]? = H[q]?) (ha : va_at D cl (b + w.1, ip_e b sc aC x) H1) : ip_G D cl aC b sc (w.1 + 1, w.2.1 + N, va_up w.2.2 w.1 (some x)) H1 := by
  refine ⟨by show H1.size = b + (w.1 + 1); rw [z, h.1]; omega, fun k y hk => ?_⟩
  by_cases hka : k = w.1
  · have hk' : va_up w.2.2 w.1 (some x) k = some y := hk
    rw [hka] at hk' ⊢
    simp [va_up] at hk'
    subst hk'
    exact ha
  · have hk' : va_up w.2.2 w.1 (some x) k = some y := hk
    simp [va_up, hka] at hk'
    have h2 := h.2 k y hk'
    exact h2.kept (oq (b + k) h2.lt)
theorem ip_S.grow {A : Nat → Prop} {H0 H H1 : Heap} {locs : List Loc} (hS : va_S A H0 H locs) (z : H1.size = H.size + 1) (oq : ∀ q : Nat, q < H.size → H1[q]? = H[q]?) : va_S A H0 H1 locs :=
  ⟨Nat.le_trans hS.1 (by omega), fun x h1 h2 => (oq x (Nat.lt_of_lt_of_le h1 hS.1)).trans (hS.2.1 x h1 h2), hS.2.2⟩
section IPH
variable {p : Program} {l : Launch} {e : Env} {R : Room} {s : State} {m : MethodId} {args : Array Value} {below : List Frame} {meth : Method} {c : Code} {Q : State → Prop}
variable {D : va_G} {cl : List vw_C} {aC : Nat → ClassId} {b : Nat} {sc : Nat → Nat} {nL n0 s0 : Nat} {cc : ByteArray} {w : ip_W} {pc : Nat} {lo : List (Nat × Value)} {st : List Value}
theorem ip_getf (hx : p.tables.exec = Jvm.exec) (hb : c.code = cc) {own ref C : String} {T : u_T} {N ci index a : Nat} {Ts : List Cond} (hts : ∀ w ∈ Ts, w.before args s = true) (hin : ∀ w ∈ u_ws C T N, w ∈ Ts) (hown : s.vm.findClass own = some m.cls) (hK : va_K D cl (ip_T aC) s) {fs : List Value} (he : w.2.2 a = some (.inr (ci, fs))) (hc : cl[ci]? = some (C, T, N)) (j : Nat) (hj : j < N) (hlink : (Cond.fieldLink own index ref (T j).2.1 (T j).2.2.1).before args s = true) (hsame : ∀ x, s.fieldFound? (T j).1 (T j).2.1 (T j).2.2.1 = some x → s.fieldFound? ref (T j).2.1 (T j).2.2.1 = some x) {v : Value} (hv : fs[j]? = some v) (hdg : decode cc pc = .ok (.getfield index, 3)) (k : ip_V p l e R s m args below meth c D cl aC b sc nL n0 s0 Q w (pc + 3) lo (v :: st)) : ip_V p l e R s m args below meth c D cl aC b sc nL n0 s0 Q w pc lo (.ref a :: st) := by
  intro H locs ls hG hS hl
  have hP : va_P D cl [(b + a, ip_e b sc aC (.inr (ci, fs)))] H := fun i q hi => by
    have hz : i < 1 := (List.getElem?_eq_some_iff.mp hi).1
    rw [show i = 0 by omega] at hi
    cases hi
    exact hG.2 a _ he
  exact va_get hx hb hts hin hown hK hP 0 rfl hc j hj hlink hsame (v := ip_v b sc v) (by rw [List.getElem?_map, hv]; rfl) hdg (k H locs ls hG hS hl)
theorem ip_putf (hx : p.tables.exec = Jvm.exec) (hb : c.code = cc) {own ref C : String} {T : u_T} {N ci index a : Nat} {Ts : List Cond} (hts : ∀ w ∈ Ts, w.before args s = true) (hin : ∀ w ∈ u_ws C T N, w ∈ Ts) (ty0 : Nat → FieldType) (hty : ∀ k, k < N → parseFieldDescriptor (T k).2.2.1 = some (ty0 k)) (hnm : ∀ a, a < N → ∀ b, b < N → a ≠ b → (T a).2.1 ≠ (T b).2.1) (hown : s.vm.findClass own = some m.cls) (hK : va_K D cl (ip_T aC) s) {fs : List Value} (he : w.2.2 a = some (.inr (ci, fs))) (hc : cl[ci]? = some (C, T, N)) (j : Nat) (hj : j < N) (hlink : (Cond.fieldLink own index ref (T j).2.1 (T j).2.2.1).before args s = true) (hsame : ∀ x, s.fieldFound? (T j).1 (T j).2.1 (T j).2.2.1 = some x → s.fieldFound? ref (T j).2.1 (T j).2.2.1 = some x) (hfin : (T j).2.2.2 = false) {ty : FieldType} {v : Value} (hd : parseFieldDescriptor (T j).2.2.1 = some ty) (hn : narrow ty (ip_v b sc v) = ip_v b sc v) (hfit : fits ty (ip_v b sc v) = true) (hlen : j < fs.length) (hdg : decode cc pc = .ok (.putfield index, 3))
    (k : ip_V p l e R s m args below meth c D cl aC b sc nL n0 s0 Q (w.1, w.2.1, va_up w.2.2 a (some (.inr (ci, fs.set j v)))) (pc + 3) lo st) : ip_V p l e R s m args below meth c D cl aC b sc nL n0 s0 Q w pc lo (v :: .ref a :: st) := by
  intro H locs ls hG hS hl
  have hap := va_apart (own := own) hts hin ty0 hty hnm hK hc
  obtain ⟨r, h1, cell, q1, q2, q3, q4⟩ := hG.2 a _ he
  have hr : r = (C, T, N) := Option.some.inj (h1.symm.trans hc)
  subst hr
  obtain ⟨hSl, hfc, kC, hkC, hkind⟩ := hK.1 ci _ hc
  obtain ⟨cf, kf, fi, f, hi, hsl⟩ := hSl j hj
  have hlay := hts _ (hin _ (u_in_lay hj))
  unfold u_lay at hlay
  rw [if_neg (by rw [hfin]; decide)] at hlay
  have hst := (u_facts hfc hkC (u_lays hts hin hj) hi).1
  have h6 := u_store hfc hkC hkind hlay hi hd hn hfit
  refine W.putK hx hb (f := f) ⟨hown, hlink, ⟨_, _, _, hsame _ hi⟩, hst⟩ (by rw [q2]; exact h6) q1 q3 (by rw [hsl]; exact k2_hasslot (q4 j hj)) rfl rfl hdg fun H' e1 e2 e3 => ?_
  rw [hsl] at e1 ⊢
  refine k H' _ ls (hG.turn (a := a) (x := .inr (ci, fs.set j v)) e2 e3 ?_) (hS.put e2 e3 (Nat.le_add_right b a)) hl
  refine ⟨_, hc, t_OB.to (V := updV (vp_V (fs.map (ip_v b sc))) j (ip_v b sc v)) ⟨_, e1, q2, q3, t_set q4 hap hj _⟩ (fun i _ => ?_)⟩
  rw [vp_updV_set (by rw [List.length_map]; exact hlen), ← List.map_set]
theorem ip_putfF (hx : p.tables.exec = Jvm.exec) (hb : c.code = cc) {own ref C : String} {T : u_T} {N ci index a : Nat} {Ts : List Cond} (hts : ∀ w ∈ Ts, w.before args s = true) (hin : ∀ w ∈ u_ws C T N, w ∈ Ts) (ty0 : Nat → FieldType) (hty : ∀ k, k < N → parseFieldDescriptor (T k).2.2.1 = some (ty0 k)) (hnm : ∀ a, a < N → ∀ b, b < N → a ≠ b → (T a).2.1 ≠ (T b).2.1) (hown : s.vm.findClass own = some m.cls) (hK : va_K D cl (ip_T aC) s) {fs : List Value} (he : w.2.2 a = some (.inr (ci, fs))) (hc : cl[ci]? = some (C, T, N)) (j : Nat) (hj : j < N) (hlink : (Cond.fieldLink own index ref (T j).2.1 (T j).2.2.1).before args s = true) (hsame : ∀ x, s.fieldFound? (T j).1 (T j).2.1 (T j).2.2.1 = some x → s.fieldFound? ref (T j).2.1 (T j).2.2.1 = some x) (hfin : (T j).2.2.2 = true) (hin2 : meth.name = "<init>") (hdecl : (T j).1 = own) {ty : FieldType} {v : Value} (hd : parseFieldDescriptor (T j).2.2.1 = some ty) (hn : narrow ty (ip_v b sc v) = ip_v b sc v) (hfit : fits ty (ip_v b sc v) = true) (hlen : j < fs.length) (hdg : decode cc pc = .ok (.putfield index, 3))
    (k : ip_V p l e R s m args below meth c D cl aC b sc nL n0 s0 Q (w.1, w.2.1, va_up w.2.2 a (some (.inr (ci, fs.set j v)))) (pc + 3) lo st) : ip_V p l e R s m args below meth c D cl aC b sc nL n0 s0 Q w pc lo (v :: .ref a :: st) := by
  intro H locs ls hG hS hl
  have hap := va_apart (own := own) hts hin ty0 hty hnm hK hc
  obtain ⟨r, h1, cell, q1, q2, q3, q4⟩ := hG.2 a _ he
  have hr : r = (C, T, N) := Option.some.inj (h1.symm.trans hc)
  subst hr
  obtain ⟨hSl, hfc, kC, hkC, hkind⟩ := hK.1 ci _ hc
  obtain ⟨cf, kf, fi, f, hi, hsl⟩ := hSl j hj
  have hlay := hts _ (hin _ (u_in_lay hj))
  unfold u_lay at hlay
  rw [if_pos hfin] at hlay
  have hst := (u_facts hfc hkC (u_lays hts hin hj) hi).1
  have hcf : m.cls = cf := by
    obtain ⟨_, _, c', _, _, _, -, -, hf', -, -, -, hown2, -⟩ := Cond.laysFinal_spec hlay
    have e1 : c' = cf := by have := hi.symm.trans hf'; simp at this; exact this.1.symm
    rw [hdecl] at hown2
    rw [← e1]; exact Option.some.inj (hown.symm.trans hown2)
  have h6 := u_fits hfc hkC hkind (Or.inr hlay) hi hd hn hfit
  refine W.putFinK hx hb hown hlink (hsame _ hi) hst hcf hin2 (by rw [q2]; exact h6) q1 q3 (by rw [hsl]; exact k2_hasslot (q4 j hj)) rfl rfl hdg fun H' e1 e2 e3 => ?_
  rw [hsl] at e1 ⊢
  refine k H' _ ls (hG.turn (a := a) (x := .inr (ci, fs.set j v)) e2 e3 ?_) (hS.put e2 e3 (Nat.le_add_right b a)) hl
  refine ⟨_, hc, t_OB.to (V := updV (vp_V (fs.map (ip_v b sc))) j (ip_v b sc v)) ⟨_, e1, q2, q3, t_set q4 hap hj _⟩ (fun i _ => ?_)⟩
  rw [vp_updV_set (by rw [List.length_map]; exact hlen), ← List.map_set]
theorem ip_iald (hx : p.tables.exec = Jvm.exec) (hb : c.code = cc) (hK : va_K D cl (ip_T aC) s) {a n : Nat} {f : Nat → Int32} (he : w.2.2 a = some (.inl (0, n, .inl f))) {i : Int32} (hin : vp_in i n) (hdg : decode cc pc = .ok (.iaload, 1)) (k : ip_V p l e R s m args below meth c D cl aC b sc nL n0 s0 Q w (pc + 1) lo (.int (f i.toNatClampNeg) :: st)) : ip_V p l e R s m args below meth c D cl aC b sc nL n0 s0 Q w pc lo (.int i :: .ref a :: st) := by
  intro H locs ls hG hS hl
  have hP : va_P D cl [(b + a, ip_e b sc aC (.inl (0, n, .inl f)))] H := fun i q hi => by
    have hz : i < 1 := (List.getElem?_eq_some_iff.mp hi).1
    rw [show i = 0 by omega] at hi
    cases hi
    exact hG.2 a _ he
  exact va_iald hx hb hK hP 0 0 rfl rfl hin hdg (k H locs ls hG hS hl)
theorem ip_bald (hx : p.tables.exec = Jvm.exec) (hb : c.code = cc) (hK : va_K D cl (ip_T aC) s) {a n : Nat} {f : Nat → Int32} (he : w.2.2 a = some (.inl (1, n, .inl f))) {i : Int32} (hin : vp_in i n) (hdg : decode cc pc = .ok (.baload, 1)) (k : ip_V p l e R s m args below meth c D cl aC b sc nL n0 s0 Q w (pc + 1) lo (.int (f i.toNatClampNeg) :: st)) : ip_V p l e R s m args below meth c D cl aC b sc nL n0 s0 Q w pc lo (.int i :: .ref a :: st) := by
  intro H locs ls hG hS hl
  have hP : va_P D cl [(b + a, ip_e b sc aC (.inl (1, n, .inl f)))] H := fun i q hi => by
    have hz : i < 1 := (List.getElem?_eq_some_iff.mp hi).1
    rw [show i = 0 by omega] at hi
    cases hi
    exact hG.2 a _ he
  exact va_bald hx hb hK hP 0 1 rfl rfl hin hdg (k H locs ls hG hS hl)
theorem ip_zald (hx : p.tables.exec = Jvm.exec) (hb : c.code = cc) (hK : va_K D cl (ip_T aC) s) {a n : Nat} {f : Nat → Int32} (he : w.2.2 a = some (.inl (3, n, .inl f))) {i : Int32} (hin : vp_in i n) (hdg : decode cc pc = .ok (.baload, 1)) (k : ip_V p l e R s m args below meth c D cl aC b sc nL n0 s0 Q w (pc + 1) lo (.int (f i.toNatClampNeg) :: st)) : ip_V p l e R s m args below meth c D cl aC b sc nL n0 s0 Q w pc lo (.int i :: .ref a :: st) := by
  intro H locs ls hG hS hl
  have hP : va_P D cl [(b + a, ip_e b sc aC (.inl (3, n, .inl f)))] H := fun i q hi => by
    have hz : i < 1 := (List.getElem?_eq_some_iff.mp hi).1
    rw [show i = 0 by omega] at hi
    cases hi
    exact hG.2 a _ he
  exact va_zald hx hb hK hP 0 3 rfl rfl hin hdg (k H locs ls hG hS hl)
theorem ip_lald (hx : p.tables.exec = Jvm.exec) (hb : c.code = cc) (hK : va_K D cl (ip_T aC) s) {a n : Nat} {f : Nat → Int64} (he : w.2.2 a = some (.inl (2, n, .inr (.inl f)))) {i : Int32} (hin : vp_in i n) (hdg : decode cc pc = .ok (.laload, 1)) (k : ip_V p l e R s m args below meth c D cl aC b sc nL n0 s0 Q w (pc + 1) lo (.long (f i.toNatClampNeg) :: st)) : ip_V p l e R s m args below meth c D cl aC b sc nL n0 s0 Q w pc lo (.int i :: .ref a :: st) := by
  intro H locs ls hG hS hl
  have hP : va_P D cl [(b + a, ip_e b sc aC (.inl (2, n, .inr (.inl f))))] H := fun i q hi => by
    have hz : i < 1 := (List.getElem?_eq_some_iff.mp hi).1
    rw [show i = 0 by omega] at hi
    cases hi
    exact hG.2 a _ he
  exact va_lald hx hb hK hP 0 2 rfl rfl hin hdg (k H locs ls hG hS hl)
def ip_r (r : Option Nat) : Value := match r with
  | none => .null
  | some a => .ref a
theorem ip_aald (hx : p.tables.exec = Jvm.exec) (hb : c.code = cc) (hK : va_K D cl (ip_T aC) s) {a n : Nat} {f : Nat → Option Nat} (he : w.2.2 a = some (.inl (4, n, .inr (.inr f)))) {i : Int32} (hin : vp_in i n) (hdg : decode cc pc = .ok (.aaload, 1)) (k : ip_V p l e R s m args below meth c D cl aC b sc nL n0 s0 Q w (pc + 1) lo (ip_r (f i.toNatClampNeg) :: st)) : ip_V p l e R s m args below meth c D cl aC b sc nL n0 s0 Q w pc lo (.int i :: .ref a :: st) := by
  intro H locs ls hG hS hl
  have hP : va_P D cl [(b + a, ip_e b sc aC (.inl (4, n, .inr (.inr f))))] H := fun i q hi => by
    have hz : i < 1 := (List.getElem?_eq_some_iff.mp hi).1
    rw [show i = 0 by omega] at hi
    cases hi
    exact hG.2 a _ he
  have kk := k H locs ls hG hS hl
  refine va_aldq hx hb hK hP 0 4 rfl rfl hin hdg ?_
  have e1 : va_rf ((f i.toNatClampNeg).map (fun a => b + a)) = ip_v b sc (ip_r (f i.toNatClampNeg)) := by cases f i.toNatClampNeg <;> rfl
  rw [e1]
  exact kk
theorem ip_alen (hx : p.tables.exec = Jvm.exec) (hb : c.code = cc) (hK : va_K D cl (ip_T aC) s) {a kd n : Nat} {x : ip_A} (hkd : kd < 5) (he : w.2.2 a = some (.inl (kd, n, x))) (hdg : decode cc pc = .ok (.arraylength, 1)) (k : ip_V p l e R s m args below meth c D cl aC b sc nL n0 s0 Q w (pc + 1) lo (.int (Int32.ofNat n) :: st)) : ip_V p l e R s m args below meth c D cl aC b sc nL n0 s0 Q w pc lo (.ref a :: st) := by
  intro H locs ls hG hS hl
  have kk := k H locs ls hG hS hl
  have ht : ∃ ty, (ip_T aC)[kd]? = some (aC kd, ty) := by
    rcases (show kd = 0 ∨ kd = 1 ∨ kd = 2 ∨ kd = 3 ∨ kd = 4 by omega) with rfl | rfl | rfl | rfl | rfl <;> exact ⟨_, rfl⟩
  obtain ⟨ty, ht⟩ := ht
  obtain f | f | f := x
  all_goals
    have hP : va_P D cl [(b + a, ip_e b sc aC _)] H := fun i q hi => by
      have hz : i < 1 := (List.getElem?_eq_some_iff.mp hi).1
      rw [show i = 0 by omega] at hi
      cases hi
      exact hG.2 a _ he
    exact va_alen hx hb hK hP 0 kd rfl ht rfl hdg kk
theorem ip_iast (hx : p.tables.exec = Jvm.exec) (hb : c.code = cc) (hK : va_K D cl (ip_T aC) s) {a n : Nat} {f : Nat → Int32} (he : w.2.2 a = some (.inl (0, n, .inl f))) {i : Int32} {x : Int32} (hin : vp_in i n) (hdg : decode cc pc = .ok (.iastore, 1)) (k : ip_V p l e R s m args below meth c D cl aC b sc nL n0 s0 Q (w.1, w.2.1, va_up w.2.2 a (some (.inl (0, n, .inl (upd f i.toNatClampNeg x))))) (pc + 1) lo st) : ip_V p l e R s m args below meth c D cl aC b sc nL n0 s0 Q w pc lo (.int x :: .int i :: .ref a :: st) := by
  intro H locs ls hG hS hl
  have hcell : H[b + a]? = some (vp_cell (aC 0) (n, .inl f)) := hG.2 a _ he
  refine W.iast hx hb hcell ((hK.2 0 _ rfl).1 n (fun j => .int (f j))) (fun q => by cases q) (by show ¬ (i < 0 ∨ (arrV _ _ _).slots.size ≤ _); rw [arrV_size]; exact hin) rfl rfl hdg fun H1 e1 z oq => ?_
  refine k H1 _ ls (hG.turn (a := a) (x := .inl (0, n, .inl (upd f i.toNatClampNeg x))) z oq ?_) (hS.put z oq (Nat.le_add_right b a)) hl
  show H1[b + a]? = some (vp_cell (aC 0) (n, .inl (upd f i.toNatClampNeg x)))
  rw [e1]
  rw [vp_cell_i, vp_cell_i, arrV_store]
  congr 2
  funext q
  by_cases hq : q = i.toNatClampNeg
  · subst hq
    simp [updV, upd]
  · simp [updV, upd, hq]
theorem ip_bast (hx : p.tables.exec = Jvm.exec) (hb : c.code = cc) (hK : va_K D cl (ip_T aC) s) {a n : Nat} {f : Nat → Int32} (he : w.2.2 a = some (.inl (1, n, .inl f))) {i : Int32} {x : Int32} (hin : vp_in i n) (hdg : decode cc pc = .ok (.bastore, 1)) (k : ip_V p l e R s m args below meth c D cl aC b sc nL n0 s0 Q (w.1, w.2.1, va_up w.2.2 a (some (.inl (1, n, .inl (upd f i.toNatClampNeg (vp_nar .byte x)))))) (pc + 1) lo st) : ip_V p l e R s m args below meth c D cl aC b sc nL n0 s0 Q w pc lo (.int x :: .int i :: .ref a :: st) := by
  intro H locs ls hG hS hl
  have hcell : H[b + a]? = some (vp_cell (aC 1) (n, .inl f)) := hG.2 a _ he
  refine W.bast hx hb hcell ((hK.2 1 _ rfl).1 n (fun j => .int (f j))) (fun q => by cases q) (by show ¬ (i < 0 ∨ (arrV _ _ _).slots.size ≤ _); rw [arrV_size]; exact hin) rfl rfl hdg fun H1 e1 z oq => ?_
  refine k H1 _ ls (hG.turn (a := a) (x := .inl (1, n, .inl (upd f i.toNatClampNeg (vp_nar .byte x)))) z oq ?_) (hS.put z oq (Nat.le_add_right b a)) hl
  show H1[b + a]? = some (vp_cell (aC 1) (n, .inl (upd f i.toNatClampNeg (vp_nar .byte x))))
  rw [e1]
  rw [vp_cell_i, vp_cell_i, arrV_store]
  congr 2
  funext q
  by_cases hq : q = i.toNatClampNeg
  · subst hq
    simp [updV, upd, vp_nar]
    try rfl
  · simp [updV, upd, hq]
theorem ip_zast (hx : p.tables.exec = Jvm.exec) (hb : c.code = cc) (hK : va_K D cl (ip_T aC) s) {a n : Nat} {f : Nat → Int32} (he : w.2.2 a = some (.inl (3, n, .inl f))) {i : Int32} {x : Int32} (hin : vp_in i n) (hdg : decode cc pc = .ok (.bastore, 1)) (k : ip_V p l e R s m args below meth c D cl aC b sc nL n0 s0 Q (w.1, w.2.1, va_up w.2.2 a (some (.inl (3, n, .inl (upd f i.toNatClampNeg (vp_nar .boolean x)))))) (pc + 1) lo st) : ip_V p l e R s m args below meth c D cl aC b sc nL n0 s0 Q w pc lo (.int x :: .int i :: .ref a :: st) := by
  intro H locs ls hG hS hl
  have hcell : H[b + a]? = some (vp_cell (aC 3) (n, .inl f)) := hG.2 a _ he
  refine W.zast hx hb hcell ((hK.2 3 _ rfl).1 n (fun j => .int (f j))) (fun q => by cases q) (by show ¬ (i < 0 ∨ (arrV _ _ _).slots.size ≤ _); rw [arrV_size]; exact hin) rfl rfl hdg fun H1 e1 z oq => ?_
  refine k H1 _ ls (hG.turn (a := a) (x := .inl (3, n, .inl (upd f i.toNatClampNeg (vp_nar .boolean x)))) z oq ?_) (hS.put z oq (Nat.le_add_right b a)) hl
  show H1[b + a]? = some (vp_cell (aC 3) (n, .inl (upd f i.toNatClampNeg (vp_nar .boolean x))))
  rw [e1]
  rw [vp_cell_i, vp_cell_i, arrV_store]
  congr 2
  funext q
  by_cases hq : q = i.toNatClampNeg
  · subst hq
    simp [updV, upd, vp_nar]
    try rfl
  · simp [updV, upd, hq]
theorem ip_last (hx : p.tables.exec = Jvm.exec) (hb : c.code = cc) (hK : va_K D cl (ip_T aC) s) {a n : Nat} {f : Nat → Int64} (he : w.2.2 a = some (.inl (2, n, .inr (.inl f)))) {i : Int32} {x : Int64} (hin : vp_in i n) (hdg : decode cc pc = .ok (.lastore, 1)) (k : ip_V p l e R s m args below meth c D cl aC b sc nL n0 s0 Q (w.1, w.2.1, va_up w.2.2 a (some (.inl (2, n, .inr (.inl (vp_updL f i.toNatClampNeg x)))))) (pc + 1) lo st) : ip_V p l e R s m args below meth c D cl aC b sc nL n0 s0 Q w pc lo (.long x :: .int i :: .ref a :: st) := by
  intro H locs ls hG hS hl
  have hcell : H[b + a]? = some (vp_cell (aC 2) (n, .inr (.inl f))) := hG.2 a _ he
  refine W.last hx hb hcell ((hK.2 2 _ rfl).1 n (fun j => .long (f j))) (fun q => by cases q) (by show ¬ (i < 0 ∨ (arrV _ _ _).slots.size ≤ _); rw [arrV_size]; exact hin) rfl rfl hdg fun H1 e1 z oq => ?_
  refine k H1 _ ls (hG.turn (a := a) (x := .inl (2, n, .inr (.inl (vp_updL f i.toNatClampNeg x)))) z oq ?_) (hS.put z oq (Nat.le_add_right b a)) hl
  show H1[b + a]? = some (vp_cell (aC 2) (n, .inr (.inl (vp_updL f i.toNatClampNeg x))))
  rw [e1]
  rw [vp_cell_l, vp_cell_l, arrV_store]
  congr 2
  funext q
  by_cases hq : q = i.toNatClampNeg
  · subst hq
    simp [updV, vp_updL]
  · simp [updV, vp_updL, hq]
theorem ip_aast (hx : p.tables.exec = Jvm.exec) (hb : c.code = cc) (hK : va_K D cl (ip_T aC) s) {a n v ci : Nat} {f : Nat → Option Nat} {vs : List Value} {r : vw_C} (he : w.2.2 a = some (.inl (4, n, .inr (.inr f)))) (hv : w.2.2 v = some (.inr (ci, vs))) (hc : cl[ci]? = some r) (hr1 : r.1 = "VitalTwin$Symbol") {i : Int32} (hin : vp_in i n) (hdg : decode cc pc = .ok (.aastore, 1)) (k : ip_V p l e R s m args below meth c D cl aC b sc nL n0 s0 Q (w.1, w.2.1, va_up w.2.2 a (some (.inl (4, n, .inr (.inr (va_up f i.toNatClampNeg (some v))))))) (pc + 1) lo st) : ip_V p l e R s m args below meth c D cl aC b sc nL n0 s0 Q w pc lo (.ref v :: .int i :: .ref a :: st) := by
  intro H locs ls hG hS hl
  have hcell : H[b + a]? = some (vp_cell (aC 4) (n, .inr (.inr (.inr (.inr (fun j => (f j).map (fun a => b + a))))))) := hG.2 a _ he
  have hlt : i.toNatClampNeg < n := Nat.not_le.mp fun q => hin (Or.inr q)
  have h0 : ¬ i < 0 := fun q => hin (Or.inl q)
  obtain ⟨r', hr', cellV, g1, g2, g3, -⟩ := hG.2 v _ hv
  have hcls := (hK.1 ci r hc).2
  obtain ⟨kA, comp, k1, k2, k3, -⟩ := (hK.2 4 (aC 4, .object "VitalTwin$Symbol") rfl).2
  rw [hr1] at hcls
  have hcomp : comp = D.1 ci := Option.some.inj (k3.symm.trans hcls.1)
  subst hcomp
  obtain ⟨kC, hkC, -⟩ := hcls.2
  refine W.aast hx hb hcell (fun q h => by cases h) (fun h => by cases h) k1 k2 rfl hkC ⟨h0, by show _ < (arrV _ _ _).slots.size; rw [arrV_size]; exact hlt⟩ g1 (fun q h => by rw [g3] at h; cases h) (by rw [g2]; exact hkC) (by rw [g2]; exact va_assign hcls) rfl rfl hdg fun H1 e1 z oq => ?_
  refine k H1 _ ls (hG.turn (a := a) (x := .inl (4, n, .inr (.inr (va_up f i.toNatClampNeg (some v))))) z oq ?_) (hS.put z oq (Nat.le_add_right b a)) hl
  show H1[b + a]? = some (vp_cell (aC 4) (n, .inr (.inr (.inr (.inr (fun j => (va_up f i.toNatClampNeg (some v) j).map (fun a => b + a)))))))
  rw [e1]
  rw [vp_cell_q, vp_cell_q, arrV_store]
  congr 2
  funext q
  by_cases hq : q = i.toNatClampNeg
  · subst hq
    simp [updV, va_up, va_rf, ip_v]
  · simp [updV, va_up, hq]
theorem ip_new (hx : p.tables.exec = Jvm.exec) (hb : c.code = cc) {own C : String} {T : u_T} {N ci index : Nat} {Ts : List Cond} (hts : ∀ w ∈ Ts, w.before args s = true) (hin : ∀ w ∈ u_ws C T N, w ∈ Ts) (ty : Nat → FieldType) (hty : ∀ k, k < N → parseFieldDescriptor (T k).2.2.1 = some (ty k)) (hown : s.vm.findClass own = some m.cls) (hcl : (Cond.classLink own index C).before args s = true) (hinst : (Cond.instantiable C N).before args s = true) (hini : (Cond.initialized C).before args s = true)
    (hK : va_K D cl (ip_T aC) s) (hc : cl[ci]? = some (C, T, N)) {fs : List Value} (hfs : ∀ j, j < N → defaultValue (ty j) = vp_V (fs.map (ip_v b sc)) j) (hn0 : n0 ≤ w.1) (hs0 : s0 ≤ w.2.1) (hcells : w.1 + 1 ≤ n0 + R.cells) (hslots : w.2.1 + N ≤ s0 + R.slots) (hdg : decode cc pc = .ok (.new index, 3))
    (k : ip_V p l e R s m args below meth c D cl aC b sc nL n0 s0 Q (w.1 + 1, w.2.1 + N, va_up w.2.2 w.1 (some (.inr (ci, fs)))) (pc + 3) lo (.ref w.1 :: st)) : ip_V p l e R s m args below meth c D cl aC b sc nL n0 s0 Q w pc lo st := by
  intro H locs ls hG hS hl
  have hKn := hK.1 ci _ hc
  refine W.newcK hx hb hown hcl hinst hini rfl hdg (by omega) (by omega) hKn.2.1 rfl fun H1 kC hkC e1 z1 o1 => ?_
  have kk := k H1 locs ls (hG.grow (N := N) (x := .inr (ci, fs)) z1 o1 ?_) (ip_S.grow hS z1 o1) hl
  · rw [show w.1 - n0 + 1 = w.1 + 1 - n0 by omega, show w.2.1 - s0 + N = w.2.1 + N - s0 by omega, hG.1]
    exact kk
  · refine ⟨_, hc, ?_⟩
    have hbn := (u_born ty hts hin hKn hkC e1 hty).to hfs
    rw [hG.1] at hbn
    exact hbn
theorem ip_newa (hx : p.tables.exec = Jvm.exec) (hb : c.code = cc) {atype : ArrayType} (harr : (Cond.arrayClass (newarray.typeOf atype)).before args s = true) {ty : FieldType} (hty : newarray.typeOf atype = ty) {kd : Nat} (hK : va_K D cl (ip_T aC) s) (hkd : (ip_T aC)[kd]? = some (aC kd, ty)) {n : Int32} {N' : Nat} {x0 : ip_A} (ha : ∀ cA : ClassId, (match ip_e b sc (fun _ => cA) (.inl (kd, N', x0)) with | .inl y => vp_cell y.1 y.2 | .inr _ => arrV 0 0 (fun _ => .null)) = arrV cA N' (fun _ => defaultValue ty)) (hn : ¬ n < 0) (hN : n.toNatClampNeg = N') (hbytes : N' * componentBytes ty ≤ 536870912)
    (hnm : ∀ cA, va_RA s cA ty → s.vm.findClass ("[" ++ ty.toString) = some cA) (hn0 : n0 ≤ w.1) (hs0 : s0 ≤ w.2.1) (hcells : w.1 + 1 ≤ n0 + R.cells) (hslots : w.2.1 + N' ≤ s0 + R.slots) (hdg : decode cc pc = .ok (.newarray atype, 2))
    (k : ip_V p l e R s m args below meth c D cl aC b sc nL n0 s0 Q (w.1 + 1, w.2.1 + N', va_up w.2.2 w.1 (some (.inl (kd, N', x0)))) (pc + 2) lo (.ref w.1 :: st)) : ip_V p l e R s m args below meth c D cl aC b sc nL n0 s0 Q w pc lo (.int n :: st) := by
  subst hty
  intro H locs ls hG hS hl
  refine va_newaK hx hb harr rfl hdg rfl hn hN hbytes (by omega) (by omega) rfl fun H1 cA e1 z1 o1 hAr hNm => ?_
  have hcA : cA = aC kd := Option.some.inj (hNm.symm.trans (hnm _ (hK.2 kd _ hkd).2))
  subst hcA
  have kk := k H1 locs ls (hG.grow (N := N') (x := .inl (kd, N', x0)) z1 o1 ?_) (ip_S.grow hS z1 o1) hl
  · rw [show w.1 - n0 + 1 = w.1 + 1 - n0 by omega, show w.2.1 - s0 + N' = w.2.1 + N' - s0 by omega, hG.1]
    exact kk
  · rw [hG.1, ← ha] at e1
    obtain f | f | f := x0 <;> exact e1
theorem ip_anew (hx : p.tables.exec = Jvm.exec) (hb : c.code = cc) {own : String} {index : Nat} (hown : s.vm.findClass own = some m.cls) (hclink : (Cond.classLink own index "VitalTwin$Symbol").before args s = true) (hover : (Cond.arrayOver (.object "VitalTwin$Symbol")).before args s = true) (hK : va_K D cl (ip_T aC) s) {n : Int32} {N' : Nat} (hn : ¬ n < 0) (hN : n.toNatClampNeg = N') (hbytes : N' * 4 ≤ 536870912) (hn0 : n0 ≤ w.1) (hs0 : s0 ≤ w.2.1) (hcells : w.1 + 1 ≤ n0 + R.cells) (hslots : w.2.1 + N' ≤ s0 + R.slots) (hdg : decode cc pc = .ok (.anewarray index, 3))
    (k : ip_V p l e R s m args below meth c D cl aC b sc nL n0 s0 Q (w.1 + 1, w.2.1 + N', va_up w.2.2 w.1 (some (.inl (4, N', .inr (.inr (fun _ => none)))))) (pc + 3) lo (.ref w.1 :: st)) : ip_V p l e R s m args below meth c D cl aC b sc nL n0 s0 Q w pc lo (.int n :: st) := by
  subst hN
  intro H locs ls hG hS hl
  refine W.anew hx hb hown hclink hover rfl hdg rfl hn hbytes (by omega) (by omega) fun cA kA comp f1 f2 f3 f4 => ?_
  generalize hH1 : H.push ({ cls := cA, slots := Array.replicate n.toNatClampNeg .null, vm := .none } : Cell) = H1
  have z1 : H1.size = H.size + 1 := by rw [← hH1, Array.size_push]
  have e1 : H1[H.size]? = some (arrV cA n.toNatClampNeg (fun _ => .null)) := by rw [← hH1, Array.getElem?_push_size, ← arrV_new]
  have o1 : ∀ q : Nat, q < H.size → H1[q]? = H[q]? := fun q hq => by rw [← hH1, Array.getElem?_push, if_neg (Nat.ne_of_lt hq)]
  obtain ⟨kA', comp', g1, g2, g3, g4⟩ := (hK.2 4 (aC 4, .object "VitalTwin$Symbol") rfl).2
  have hcA : cA = aC 4 := Option.some.inj (f1.symm.trans g4)
  subst hcA
  have kk := k H1 locs ls (hG.grow (N := n.toNatClampNeg) (x := .inl (4, n.toNatClampNeg, .inr (.inr (fun _ => none)))) z1 o1 ?_) (ip_S.grow hS z1 o1) hl
  · rw [show w.1 - n0 + 1 = w.1 + 1 - n0 by omega, show w.2.1 - s0 + n.toNatClampNeg = w.2.1 + n.toNatClampNeg - s0 by omega, hG.1]
    exact kk
  · rw [hG.1] at e1
    exact e1
end IPH
end
section
/-! part 03: how a method ends, and calls: a callee that returns, a callee that throws (out of the caller, or to a handler of its) -/
def ip_o (b : Nat) (sc : Nat → Nat) (o : Outcome) : Outcome := match o with
  | .returned v => .returned (v.map (ip_v b sc))
  | .threw a => .threw (b + a)
/-- the end of a method that stood over 'below', from the state s, whose world counted n0 cells and s0 slots: the outcome o, the world w -/
def ip_Q (D : va_G) (cl : List vw_C) (aC : Nat → ClassId) (b : Nat) (sc : Nat → Nat) (w : ip_W) (o : Outcome) (below : List Frame) (s : State) (n0 s0 : Nat) : State → Prop := fun t =>
  t.status = .running ∧ Ended t below (ip_o b sc o) ∧ s.WarmedH t.vm ∧ (∃ L : List Loc, s.sameButNew ({ t with vm := s.vm } : State) L (w.1 - n0) (w.2.1 - s0) ∧ ∀ q ∈ L, b ≤ q.base) ∧ ip_G D cl aC b sc w t.heap ∧ ∀ q : Nat, q < b → t.heap[q]? = s.heap[q]?
theorem ip_low {b : Nat} {H0 H : Heap} {locs : List Loc} (hb0 : b ≤ H0.size) (hS : va_S (fun q => b ≤ q) H0 H locs) : ∀ q : Nat, q < b → H[q]? = H0[q]? := fun q hq => hS.2.1 q (by omega) (by show ¬ b ≤ q; omega)
section IPR
variable {p : Program} {l : Launch} {e : Env} {R : Room} {s : State} {m : MethodId} {args : Array Value} {below : List Frame} {meth : Method} {c : Code}
variable {D : va_G} {cl : List vw_C} {aC : Nat → ClassId} {b : Nat} {sc : Nat → Nat} {nL n0 s0 : Nat} {cc : ByteArray} {w : ip_W} {pc : Nat} {lo : List (Nat × Value)}
theorem ip_iret (hx : p.tables.exec = Jvm.exec) (hb : c.code = cc) {v : Int32} {ty : FieldType} (hr : meth.sig.returnType = some ty) (hnr : narrow ty (.int v) = .int v) (hlocks : meth.locks = false) (hb0 : b ≤ s.heap.size) (hdg : decode cc pc = .ok (.ireturn, 1)) : ip_V p l e R s m args below meth c D cl aC b sc nL n0 s0 (ip_Q D cl aC b sc w (.returned (some (.int v))) below s n0 s0) w pc lo [.int v] := by
  intro H locs ls hG hS hl T hT X
  obtain ⟨fs, hret, hrun, hended, hW, hframe⟩ := X.leave (v := some (.int v)) (fun h => by rw [hr] at h; cases h) hlocks
  have hmeth' : T.vm.method? m = some meth := X.method'
  refine ⟨T.setFrames fs, ?_, hrun, hended, hW, ⟨locs, hframe, hS.2.2⟩, by show ip_G D cl aC b sc w T.heap; rw [hT]; exact hG, by show ∀ q : Nat, q < b → T.heap[q]? = s.heap[q]?; rw [hT]; exact ip_low hb0 hS⟩
  simp only [List.map, ip_v]
  jvm_step X.here [X.here.top, hx, hb, hdg, hmeth', hr, hnr]
  (try refine ⟨rfl, ?_⟩); (try refine ⟨rfl, ?_⟩)
  first | (intro acts; rw [hret _ acts rfl rfl rfl]) | rw [hret _ _ rfl rfl rfl]
  exact Steps.refl _
theorem ip_lret (hx : p.tables.exec = Jvm.exec) (hb : c.code = cc) {v : Int64} (hr : meth.sig.returnType = some .long) (hlocks : meth.locks = false) (hb0 : b ≤ s.heap.size) (hdg : decode cc pc = .ok (.lreturn, 1)) : ip_V p l e R s m args below meth c D cl aC b sc nL n0 s0 (ip_Q D cl aC b sc w (.returned (some (.long v))) below s n0 s0) w pc lo [.long v] := by
  intro H locs ls hG hS hl T hT X
  obtain ⟨fs, hret, hrun, hended, hW, hframe⟩ := X.leave (v := some (.long v)) (fun h => by rw [hr] at h; cases h) hlocks
  have hmeth' : T.vm.method? m = some meth := X.method'
  refine ⟨T.setFrames fs, ?_, hrun, hended, hW, ⟨locs, hframe, hS.2.2⟩, by show ip_G D cl aC b sc w T.heap; rw [hT]; exact hG, by show ∀ q : Nat, q < b → T.heap[q]? = s.heap[q]?; rw [hT]; exact ip_low hb0 hS⟩
  simp only [List.map, ip_v]
  jvm_step X.here [X.here.top, hx, hb, hdg, hmeth', hr, narrow]
  (try refine ⟨rfl, ?_⟩); (try refine ⟨rfl, ?_⟩)
  first | (intro acts; rw [hret _ acts rfl rfl rfl]) | rw [hret _ _ rfl rfl rfl]
  exact Steps.refl _
theorem ip_vret (hx : p.tables.exec = Jvm.exec) (hb : c.code = cc)  (hr : meth.sig.returnType = none) (hlocks : meth.locks = false) (hb0 : b ≤ s.heap.size) (hdg : decode cc pc = .ok (.return_, 1)) : ip_V p l e R s m args below meth c D cl aC b sc nL n0 s0 (ip_Q D cl aC b sc w (.returned (none)) below s n0 s0) w pc lo [] := by
  intro H locs ls hG hS hl T hT X
  obtain ⟨fs, hret, hrun, hended, hW, hframe⟩ := X.leave (v := none) (fun _ => rfl) hlocks
  have hmeth' : T.vm.method? m = some meth := X.method'
  refine ⟨T.setFrames fs, ?_, hrun, hended, hW, ⟨locs, hframe, hS.2.2⟩, by show ip_G D cl aC b sc w T.heap; rw [hT]; exact hG, by show ∀ q : Nat, q < b → T.heap[q]? = s.heap[q]?; rw [hT]; exact ip_low hb0 hS⟩
  simp only [List.map, ip_v]
  jvm_step X.here [X.here.top, hx, hb, hdg, hmeth', hr]
  (try refine ⟨rfl, ?_⟩); (try refine ⟨rfl, ?_⟩)
  first | (intro acts; rw [hret _ acts rfl rfl rfl]) | rw [hret _ _ rfl rfl rfl]
  exact Steps.refl _
theorem ip_aret (hx : p.tables.exec = Jvm.exec) (hb : c.code = cc) {v : Value} {rt : FieldType} (hr : meth.sig.returnType = some rt) (hrt : (∃ n, rt = .object n) ∨ ∃ t, rt = .array t) (hv : v = .null ∨ ∃ a, v = .ref a) (hlocks : meth.locks = false) (hb0 : b ≤ s.heap.size) (hdg : decode cc pc = .ok (.areturn, 1)) : ip_V p l e R s m args below meth c D cl aC b sc nL n0 s0 (ip_Q D cl aC b sc w (.returned (some v)) below s n0 s0) w pc lo [v] := by
  intro H locs ls hG hS hl T hT X
  obtain ⟨fs, hret, hrun, hended, hW, hframe⟩ := X.leave (v := some (ip_v b sc v)) (fun h => by rw [hr] at h; cases h) hlocks
  have hmeth' : T.vm.method? m = some meth := X.method'
  refine ⟨T.setFrames fs, ?_, hrun, hended, hW, ⟨locs, hframe, hS.2.2⟩, by show ip_G D cl aC b sc w T.heap; rw [hT]; exact hG, by show ∀ q : Nat, q < b → T.heap[q]? = s.heap[q]?; rw [hT]; exact ip_low hb0 hS⟩
  rcases hrt with ⟨n, rfl⟩ | ⟨t, rfl⟩ <;> rcases hv with rfl | ⟨a, rfl⟩ <;>
    (simp only [List.map, ip_v] at hret ⊢
     jvm_step X.here [X.here.top, hx, hb, hdg, hmeth', hr]
     (try refine ⟨rfl, ?_⟩); (try refine ⟨rfl, ?_⟩)
     first | (intro acts; rw [hret _ acts rfl rfl rfl]) | rw [hret _ _ rfl rfl rfl]
     exact Steps.refl _)
theorem ip_athrow (hx : p.tables.exec = Jvm.exec) (hb : c.code = cc) {a : Nat} {st : List Value} (hlocks : meth.locks = false) (hb0 : b ≤ s.heap.size) (hout : ∀ x ∈ c.exceptionTable.toList, covers x pc = false) (hdg : decode cc pc = .ok (.athrow, 1)) : ip_V p l e R s m args below meth c D cl aC b sc nL n0 s0 (ip_Q D cl aC b sc w (.threw a) below s n0 s0) w pc lo (.ref a :: st) := by
  intro H locs ls hG hS hl T hT X
  obtain ⟨h1, h2, h3, h4, h5⟩ := X.athrowLeaves hx (g := F0 m pc ls ((Value.ref a :: st).map (ip_v b sc))) rfl rfl rfl hout (a := b + a) (rest := st.map (ip_v b sc)) rfl (by rw [hb]; exact hdg) hlocks
  exact ⟨_, h1, h2, h3, h4, ⟨locs, h5, hS.2.2⟩, by show ip_G D cl aC b sc w T.heap; rw [hT]; exact hG, by show ∀ q : Nat, q < b → T.heap[q]? = s.heap[q]?; rw [hT]; exact ip_low hb0 hS⟩
end IPR
/-- the words of the tables, at a state -/
def ip_TK (Ts : List Cond) (s : State) : Prop := ∀ w ∈ Ts, ∀ a : Array Value, w.before a s = true
theorem ip_TK.moved {Ts : List Cond} {s U : State} (h : ip_TK Ts s) (hg : ∀ w ∈ Ts, goodWord w = true) (hW : s.WarmedH U.vm) : ip_TK Ts U := fun w hw a => word_at hW (good_of_word (hg w hw)) (h w hw #[])
/-- A METHOD's MEANING: y, from the world w with the arguments av, comes to the outcome o and the world w2, with the room R -/
def ip_M (l : Launch) (Ev : State → Prop) (Ts : List Cond) (D : va_G) (cl : List vw_C) (aC : Nat → ClassId) (b : Nat) (sc : Nat → Nat) (y : MethodName) (R : Room) (w : ip_W) (av : List Value) (o : Outcome) (w2 : ip_W) : Prop :=
  ∀ (p : Program) (e : Env) (s : State) (m : MethodId) (args : Array Value) (below : List Frame) (meth : Method) (c : Code) (T : State), p.tables.exec = Jvm.exec → Stand p l e R s m args below meth c T [] 0 0 → s.methodNamed? y = some m → ip_TK Ts s → Ev s → va_K D cl (ip_T aC) s → args = (av.map (ip_v b sc)).toArray → T.heap = s.heap → b ≤ s.heap.size → ip_G D cl aC b sc w s.heap →
    ∃ t, Steps p.tables e below (T.setTop (entryFrame m args c.maxLocals)) t ∧ ip_Q D cl aC b sc w2 o below s w.1 w.2.1 t
/-- where the caller stands when its callee has ended so -/
def ip_af (b : Nat) (sc : Nat → Nat) (g : JFrame) (len : Nat) (T2 : State) (o : Outcome) : State := match o with
  | .returned v => T2.setTop { g with pc := g.pc + len, stack := (v.map (ip_v b sc)).toList ++ g.stack }
  | .threw a => (T2.setTop g).pushFrame (.throwing (b + a))
section IPC
variable {p : Program} {l : Launch} {e : Env} {R : Room} {s : State} {m : MethodId} {args : Array Value} {below : List Frame} {meth : Method} {c : Code} {T : State} {locs : List Loc} {Q : State → Prop}
variable {D : va_G} {cl : List vw_C} {aC : Nat → ClassId} {b : Nat} {sc : Nat → Nat} {nL n0 s0 : Nat} {cc : ByteArray} {w w2 : ip_W} {pc : Nat} {lo : List (Nat × Value)} {Ts : List Cond} {Ev : State → Prop} {y : MethodName} {R2 : Room} {av : List Value} {o : Outcome}
/-- what a callee's start needs of the state's other parts comes along -/
def ip_Ek (b : Nat) (Ev : State → Prop) : Prop := ∀ s U : State, Ev s → s.WarmedH U.vm → (∀ q : Nat, q < b → U.heap[q]? = s.heap[q]?) → Ev U
/-- the callee runs: from its invocation to its end, seen from the caller -/
theorem ip_run (hx : p.tables.exec = Jvm.exec) (X : Stand p l e R s m args below meth c T locs (w.1 - n0) (w.2.1 - s0)) (hgood : ∀ w ∈ Ts, goodWord w = true) (hts : ip_TK Ts s) (hEk : ip_Ek b Ev) (hE : Ev s) (hK : va_K D cl (ip_T aC) s) (hG : ip_G D cl aC b sc w T.heap) (hS : va_S (fun q => b ≤ q) s.heap T.heap locs) (hb0 : b ≤ s.heap.size) {g : JFrame} (hg : g.method = m) (hsize : g.locals.size = c.maxLocals) {ig : Instr} {len : Nat} (hdg : decode c.code g.pc = .ok (ig, len))
    {mk : MethodId} (hnamed : s.methodNamed? y = some mk) (hpl : plainFor y = true) {methk : Method} {ck : Code} (hmk : s.vm.method? mk = some methk) (hck : methk.code = some ck) (hlk : methk.locks = false)
    (hframes : R2.frames + 1 ≤ R.frames) (hlocals : 2 * g.monitorRoom + (g.stack.map fun v => v.category).sum + (ck.maxLocals + 11) + R2.locals ≤ R.locals) (hcells : w.1 - n0 + R2.cells ≤ R.cells) (hslots : w.2.1 - s0 + R2.slots ≤ R.slots)
    (hn0 : n0 ≤ w.1) (hs0 : s0 ≤ w.2.1) (hn1 : w.1 ≤ w2.1) (hs1 : w.2.1 ≤ w2.2.1) (hM : ip_M l Ev Ts D cl aC b sc y R2 w av o w2) :
    ∃ (T2 : State) (locs2 : List Loc), Stand p l e R s m args below meth c T2 locs2 (w2.1 - n0) (w2.2.1 - s0) ∧ ip_G D cl aC b sc w2 T2.heap ∧ va_S (fun q => b ≤ q) s.heap T2.heap locs2 ∧
      ∀ acts, Steps p.tables e below (doInvoke e (T.setTop g) acts mk (av.map (ip_v b sc)).toArray).1 (ip_af b sc g len T2 o) := by
  have hmkT : T.vm.method? mk = some methk := by rw [X.warmed.alike.method?]; exact hmk
  have hnT : T.methodNamed? y = some mk := X.named hnamed
  have hpk : T.plainMethod mk := State.plainMethod.of_named hpl hnT hmkT
  obtain ⟨Y, hin⟩ := X.into hg hsize hdg (av.map (ip_v b sc)).toArray (R' := R2) hmkT hck hlk hpk hframes hlocals hcells hslots
  have hWc : s.WarmedH (T.calling g mk (av.map (ip_v b sc)).toArray).vm := X.warmed
  have hnC : (T.calling g mk (av.map (ip_v b sc)).toArray).methodNamed? y = some mk := hnT
  obtain ⟨t, hst, hrun, hend, hW, ⟨L, hsame, hL⟩, hG2, hlow⟩ := hM p e (T.calling g mk (av.map (ip_v b sc)).toArray) mk (av.map (ip_v b sc)).toArray (.java g :: below) methk ck _ hx Y hnC (hts.moved hgood hWc) (hEk s _ hE hWc (fun q hq => by show T.heap[q]? = s.heap[q]?; exact ip_low hb0 hS q hq)) (va_K.moved hWc.alike hK) rfl rfl
    (by show b ≤ T.heap.size; rw [hG.1]; omega) (by show ip_G D cl aC b sc w T.heap; exact hG)
  have hlow2 : ∀ q : Nat, q < b → t.heap[q]? = T.heap[q]? := hlow
  have hsz : T.heap.size ≤ t.heap.size := by rw [hG.1, hG2.1]; omega
  have hS2 : va_S (fun q => b ≤ q) s.heap t.heap (locs ++ L) := ⟨Nat.le_trans hS.1 hsz, fun q h1 h2 => by
    have hq : q < b := Nat.not_le.mp h2
    rw [hlow2 q hq]
    exact hS.2.1 q h1 h2, fun q hq => by
    rcases List.mem_append.mp hq with h | h
    · exact hS.2.2 q h
    · exact hL q h⟩
  cases o with
  | returned v =>
    obtain ⟨T2, X2, hW2, -, ht⟩ := X.outOf hg hdg hend hW hsame
    have hh : t.heap = T2.heap := by rw [ht]; rfl
    rw [show w.1 - n0 + (w2.1 - w.1) = w2.1 - n0 by omega, show w.2.1 - s0 + (w2.2.1 - w.2.1) = w2.2.1 - s0 by omega] at X2
    refine ⟨T2, locs ++ L, X2, hh ▸ hG2, hh ▸ hS2, fun acts => ?_⟩
    rw [hin acts]
    show Steps p.tables e below _ (T2.setTop { g with pc := g.pc + len, stack := (v.map (ip_v b sc)).toList ++ g.stack })
    rw [← ht]
    exact Steps.weaken (mid := [.java g]) hst
  | threw a =>
    obtain ⟨T2, X2, hW2, -, ht⟩ := X.outOfThrown hg hend hW hsame
    have hh : t.heap = T2.heap := by rw [ht]; exact Stand.throwing_heap _ _ _
    rw [show w.1 - n0 + (w2.1 - w.1) = w2.1 - n0 by omega, show w.2.1 - s0 + (w2.2.1 - w.2.1) = w2.2.1 - s0 by omega] at X2
    refine ⟨T2, locs ++ L, X2, hh ▸ hG2, hh ▸ hS2, fun acts => ?_⟩
    rw [hin acts]
    show Steps p.tables e below _ ((T2.setTop g).pushFrame (.throwing (b + a)))
    rw [← ht]
    exact Steps.weaken (mid := [.java g]) hst
end IPC
end
section
/-! part 04: calls, as rules of ip_V -/
/-- as ip_V, but an exception, at a, has come to the method at pc -/
def ip_X (p : Program) (l : Launch) (e : Env) (R : Room) (s : State) (m : MethodId) (args : Array Value) (below : List Frame) (meth : Method) (c : Code) (D : va_G) (cl : List vw_C) (aC : Nat → ClassId) (b : Nat) (sc : Nat → Nat) (nL n0 s0 : Nat) (Q : State → Prop) (w : ip_W) (pc : Nat) (lo : List (Nat × Value)) (a : Nat) : Prop :=
  ∀ (T : State) (locs : List Loc) (ls : Array Slot) (stk : List Value), Stand p l e R s m args below meth c T locs (w.1 - n0) (w.2.1 - s0) → ip_G D cl aC b sc w T.heap → va_S (fun q => b ≤ q) s.heap T.heap locs → lv_has ls nL (ip_l b sc lo) → ∃ t, Steps p.tables e below ((T.setTop (F0 m pc ls stk)).pushFrame (.throwing (b + a))) t ∧ Q t
section IPX
variable {p : Program} {l : Launch} {e : Env} {R : Room} {s : State} {m : MethodId} {args : Array Value} {below : List Frame} {meth : Method} {c : Code} {Q : State → Prop}
variable {D : va_G} {cl : List vw_C} {aC : Nat → ClassId} {b : Nat} {sc : Nat → Nat} {nL n0 s0 : Nat} {cc : ByteArray} {w w2 : ip_W} {pc : Nat} {lo : List (Nat × Value)} {st rest : List Value} {Ts : List Cond} {Ev : State → Prop} {y : MethodName} {R2 : Room} {av : List Value} {o : Outcome}
/-- no handler: the method throws it on -/
theorem ip_Xout {a : Nat} (hlocks : meth.locks = false) (hb0 : b ≤ s.heap.size) (hout : ∀ x ∈ c.exceptionTable.toList, covers x pc = false) : ip_X p l e R s m args below meth c D cl aC b sc nL n0 s0 (ip_Q D cl aC b sc w (.threw a) below s n0 s0) w pc lo a := by
  intro T locs ls stk X hG hS hl
  obtain ⟨h1, h2, h3, h4, h5⟩ := X.leaveThrown (b + a) (g := F0 m pc ls stk) rfl rfl rfl hout hlocks
  exact ⟨_, h1, h2, h3, h4, ⟨locs, h5, hS.2.2⟩, hG, ip_low hb0 hS⟩
/-- a handler: the method goes on there -/
theorem ip_Xcatch {a hpc : Nat} (hfind : ∀ (T : State) (ls : Array Slot) (stk : List Value), s.WarmedH T.vm → ip_G D cl aC b sc w T.heap → Finds e ((T.setTop (F0 m pc ls stk)).pushFrame (.throwing (b + a))) (F0 m pc ls stk) (b + a) (.found hpc)) (k : ip_V p l e R s m args below meth c D cl aC b sc nL n0 s0 Q w hpc lo [.ref a]) : ip_X p l e R s m args below meth c D cl aC b sc nL n0 s0 Q w pc lo a := by
  intro T locs ls stk X hG hS hl
  obtain ⟨t, h1, h2⟩ := k T.heap locs ls hG hS hl T rfl X
  exact ⟨t, X.catchAt (b + a) rfl (hfind T ls stk X.warmed hG) h1, h2⟩
theorem ip_sum (l2 : List Value) : ((l2.map (ip_v b sc)).map fun v => v.category).sum = (l2.map fun v => v.category).sum := by
  rw [List.map_map]
  congr 1
  apply List.map_congr_left
  intro v _
  exact ip_v_cat b sc v
/-- what a call's end gives: the rest of the caller's walk -/
theorem ip_back {T T1 : State} {ls : Array Slot} {mk : MethodId} (hl : lv_has ls nL (ip_l b sc lo)) (hret : ∀ v, o = .returned v → ip_V p l e R s m args below meth c D cl aC b sc nL n0 s0 Q w2 (pc + 3) lo (v.toList ++ rest)) (hthr : ∀ a, o = .threw a → ip_X p l e R s m args below meth c D cl aC b sc nL n0 s0 Q w2 pc lo a)
    (hrun : ∃ (T2 : State) (locs2 : List Loc), Stand p l e R s m args below meth c T2 locs2 (w2.1 - n0) (w2.2.1 - s0) ∧ ip_G D cl aC b sc w2 T2.heap ∧ va_S (fun q => b ≤ q) s.heap T2.heap locs2 ∧
      ∀ acts, Steps p.tables e below (doInvoke e (T1.setTop (F0 m pc ls (rest.map (ip_v b sc)))) acts mk (av.map (ip_v b sc)).toArray).1 (ip_af b sc (F0 m pc ls (rest.map (ip_v b sc))) 3 T2 o))
    {g : JFrame} (hstep : ∀ target, (∀ acts, Steps p.tables e below (doInvoke e (T1.setTop (F0 m pc ls (rest.map (ip_v b sc)))) acts mk (av.map (ip_v b sc)).toArray).1 target) → Steps p.tables e below (T.setTop g) target) : ∃ t, Steps p.tables e below (T.setTop g) t ∧ Q t := by
  obtain ⟨T2, locs2, X2, hG2, hS2, hsteps⟩ := hrun
  cases o with
  | returned v =>
    obtain ⟨t, h1, h2⟩ := hret v rfl T2.heap locs2 ls hG2 hS2 hl T2 rfl X2
    refine ⟨t, hstep t fun acts => (hsteps acts).trans ?_, h2⟩
    have e1 : (v.map (ip_v b sc)).toList ++ rest.map (ip_v b sc) = (v.toList ++ rest).map (ip_v b sc) := by cases v <;> rfl
    show Steps p.tables e below (T2.setTop (F0 m (pc + 3) ls ((v.map (ip_v b sc)).toList ++ rest.map (ip_v b sc)))) t
    rw [e1]
    exact h1
  | threw a =>
    obtain ⟨t, h1, h2⟩ := hthr a rfl T2 locs2 ls _ X2 hG2 hS2 hl
    exact ⟨t, hstep t fun acts => (hsteps acts).trans h1, h2⟩
/-- what the tables say of a callee -/
def ip_C (s : State) (y : MethodName) (maxL : Nat) : Prop := ∀ mk, s.methodNamed? y = some mk → ∃ methM cM, s.vm.method? mk = some methM ∧ methM.code = some cM ∧ cM.maxLocals = maxL ∧ methM.locks = false ∧ parseMethodDescriptor y.desc = some methM.sig
theorem ip_C.of {bytes : ByteArray} {maxL : Nat} {ret : Option FieldType} (h : (Cond.code y bytes maxL ret).before args s = true) : ip_C s y maxL := by
  intro mk hn
  obtain ⟨m1, c1, h1, h2, h3, h4, h5, h6, -, h8⟩ := Cond.code_spec hn h
  exact ⟨m1, c1, h1, h2, h4, h6, h8⟩
theorem ip_C.ofWith {bytes : ByteArray} {maxL : Nat} {ret : Option FieldType} {hh : List (Nat × Nat × Nat × Nat)} (h : (Cond.codeWith y bytes maxL ret hh).before args s = true) : ip_C s y maxL := by
  intro mk hn
  obtain ⟨m0, m1, c1, h0, h1, h2, h3, h4, h5, h6, h7, h8⟩ := Cond.codeWith_spec h
  cases hn.symm.trans h0
  exact ⟨m1, c1, h1, h2, h4, h7, h8⟩
set_option maxHeartbeats 200000 in
theorem ip_callV (hx : p.tables.exec = Jvm.exec) (hb : c.code = cc) (hml : c.maxLocals = nL) {own C : String} {index maxL n a0 ci : Nat} {fs : List Value} {r : vw_C} (hgood : ∀ w ∈ Ts, goodWord w = true) (hts : ip_TK Ts s) (hEk : ip_Ek b Ev) (hE : Ev s) (hK : va_K D cl (ip_T aC) s) (hb0 : b ≤ s.heap.size) (hown : s.vm.findClass own = some m.cls) (hlink : (Cond.methodLink own index y).before args s = true) (hinst : (Cond.instanceMethod y).before args s = true) (hsel : (Cond.selects C y y).before args s = true) (hC : ip_C s y maxL) (hy : y.cls ≠ "java/lang/invoke/MethodHandle" ∧ y.cls ≠ "java/lang/invoke/VarHandle") (hpl : plainFor y = true) (hlen : (parseMethodDescriptor y.desc).map (fun d => d.parameters.length) = some n) (hn : av.length = n)
    (he : w.2.2 a0 = some (.inr (ci, fs))) (hc : cl[ci]? = some r) (hr1 : r.1 = C) (hsum : (rest.map fun v => v.category).sum ≤ 8) (hR : R2.frames + 1 ≤ R.frames ∧ 8 + (maxL + 11) + R2.locals ≤ R.locals) (hcells : w.1 + R2.cells ≤ n0 + R.cells) (hslots : w.2.1 + R2.slots ≤ s0 + R.slots) (hn0 : n0 ≤ w.1) (hs0 : s0 ≤ w.2.1) (hn1 : w.1 ≤ w2.1) (hs1 : w.2.1 ≤ w2.2.1)
    (hM : ip_M l Ev Ts D cl aC b sc y R2 w (.ref a0 :: av) o w2) (hdg : decode cc pc = .ok (.invokevirtual index, 3)) (hret : ∀ v, o = .returned v → ip_V p l e R s m args below meth c D cl aC b sc nL n0 s0 Q w2 (pc + 3) lo (v.toList ++ rest)) (hthr : ∀ a, o = .threw a → ip_X p l e R s m args below meth c D cl aC b sc nL n0 s0 Q w2 pc lo a) : ip_V p l e R s m args below meth c D cl aC b sc nL n0 s0 Q w pc lo (av.reverse ++ .ref a0 :: rest) := by
  intro H locs ls hG hS hl T hT X
  subst hT
  subst hb
  obtain ⟨mk, methM, hnamed, hmethM, hstM, habM⟩ := Cond.instanceMethod_spec hinst
  obtain ⟨methM', cM, hmethM', hcM, hmL, hlk, hsigM⟩ := hC mk hnamed
  cases hmethM.symm.trans hmethM'
  obtain ⟨r', hr', cellB, g1, g2, g3, -⟩ := hG.2 a0 _ he
  have hcls : s.vm.findClass C = some cellB.cls := by rw [g2, ← hr1]; exact (hK.1 ci r hc).2.1
  obtain ⟨c2, r2, m2, q1, q2, q3, q4, kP, hkP, hkPi⟩ := Cond.selects_spec hsel
  cases hcls.symm.trans q1
  cases (State.methodFound?_of_named hnamed hy).symm.trans q2
  cases hnamed.symm.trans q3
  have hselP : selectMethod e.platform s.vm cellB.cls mk = .method mk := by rw [Launch.admits_selectMethod X.admits]; exact q4
  have hlen2 : (av.map (ip_v b sc)).length = methM.sig.parameters.length := by
    rw [hsigM] at hlen
    rw [List.length_map, hn]
    exact (Option.some.inj hlen).symm
  obtain ⟨vm1, X1, hstep1⟩ := X.invokevirtual hx hown hlink hnamed hmethM hstM hkP hkPi hy (a := b + a0) (cell := cellB) g1 (fun z h => by rw [g3] at h; cases h) hselP hmethM habM hkP hkPi (g := F0 m pc ls ((av.reverse ++ Value.ref a0 :: rest).map (ip_v b sc))) rfl (argsL := av.map (ip_v b sc)) (rest := rest.map (ip_v b sc)) hlen2 (by simp [ip_v]) hdg
  have hroom : 2 * (F0 m pc ls (rest.map (ip_v b sc))).monitorRoom + ((rest.map (ip_v b sc)).map fun v => v.category).sum ≤ 8 := lv_room (by rw [ip_sum]; exact hsum)
  have h9 := hR.2
  have h8 : 2 * (F0 m pc ls (rest.map (ip_v b sc))).monitorRoom + ((rest.map (ip_v b sc)).map fun v => v.category).sum + (cM.maxLocals + 11) + R2.locals ≤ R.locals := by rw [hmL]; omega
  have hrun := ip_run (g := F0 m pc ls (rest.map (ip_v b sc))) (av := (Value.ref a0 :: av)) (o := o) (w2 := w2) hx X1 hgood hts hEk hE hK hG hS hb0 rfl (by rw [hml]; exact hl.1) hdg hnamed hpl hmethM hcM hlk hR.1 h8 (by omega) (by omega) hn0 hs0 hn1 hs1 hM
  exact ip_back (av := (Value.ref a0 :: av)) hl hret hthr hrun hstep1
set_option maxHeartbeats 200000 in
theorem ip_callS (hx : p.tables.exec = Jvm.exec) (hb : c.code = cc) (hml : c.maxLocals = nL) {own : String} {index maxL n : Nat} (hgood : ∀ w ∈ Ts, goodWord w = true) (hts : ip_TK Ts s) (hEk : ip_Ek b Ev) (hE : Ev s) (hK : va_K D cl (ip_T aC) s) (hb0 : b ≤ s.heap.size) (hown : s.vm.findClass own = some m.cls) (hlink : (Cond.methodLink own index y).before args s = true) (hstat : (Cond.static y).before args s = true) (hinit : (Cond.initialized y.cls).before args s = true) (hnm : ∃ mk, s.methodNamed? y = some mk) (hC : ip_C s y maxL) (hy : y.cls ≠ "java/lang/invoke/MethodHandle" ∧ y.cls ≠ "java/lang/invoke/VarHandle") (hpl : plainFor y = true) (hlen : (parseMethodDescriptor y.desc).map (fun d => d.parameters.length) = some n) (hn : av.length = n)
    (hsum : (rest.map fun v => v.category).sum ≤ 8) (hR : R2.frames + 1 ≤ R.frames ∧ 8 + (maxL + 11) + R2.locals ≤ R.locals) (hcells : w.1 + R2.cells ≤ n0 + R.cells) (hslots : w.2.1 + R2.slots ≤ s0 + R.slots) (hn0 : n0 ≤ w.1) (hs0 : s0 ≤ w.2.1) (hn1 : w.1 ≤ w2.1) (hs1 : w.2.1 ≤ w2.2.1)
    (hM : ip_M l Ev Ts D cl aC b sc y R2 w av o w2) (hdg : decode cc pc = .ok (.invokestatic index, 3)) (hret : ∀ v, o = .returned v → ip_V p l e R s m args below meth c D cl aC b sc nL n0 s0 Q w2 (pc + 3) lo (v.toList ++ rest)) (hthr : ∀ a, o = .threw a → ip_X p l e R s m args below meth c D cl aC b sc nL n0 s0 Q w2 pc lo a) : ip_V p l e R s m args below meth c D cl aC b sc nL n0 s0 Q w pc lo (av.reverse ++ rest) := by
  intro H locs ls hG hS hl T hT X
  subst hT
  subst hb
  obtain ⟨mk, hnamed⟩ := hnm
  obtain ⟨methM, cM, hmethM, hcM, hmL, hlk, hsigM⟩ := hC mk hnamed
  have hstatic : methM.isStatic = true := Cond.static_spec hnamed hmethM hstat
  obtain ⟨kP, hkP, -⟩ := className_of_methodNamed hnamed
  have hinitP : kP.init = .initialized := Cond.initialized_spec (findClass_of_methodNamed hnamed) hkP hinit
  have hlen2 : (av.map (ip_v b sc)).length = methM.sig.parameters.length := by
    rw [hsigM] at hlen
    rw [List.length_map, hn]
    exact (Option.some.inj hlen).symm
  obtain ⟨vm1, X1, hstep1⟩ := X.invokestatic hx hown hlink hnamed hmethM hstatic hkP hinitP hy (g := F0 m pc ls ((av.reverse ++ rest).map (ip_v b sc))) rfl (argsL := av.map (ip_v b sc)) (rest := rest.map (ip_v b sc)) hlen2 (by simp) hdg
  have hroom : 2 * (F0 m pc ls (rest.map (ip_v b sc))).monitorRoom + ((rest.map (ip_v b sc)).map fun v => v.category).sum ≤ 8 := lv_room (by rw [ip_sum]; exact hsum)
  have h9 := hR.2
  have h8 : 2 * (F0 m pc ls (rest.map (ip_v b sc))).monitorRoom + ((rest.map (ip_v b sc)).map fun v => v.category).sum + (cM.maxLocals + 11) + R2.locals ≤ R.locals := by rw [hmL]; omega
  have hrun := ip_run (g := F0 m pc ls (rest.map (ip_v b sc))) (av := av) (o := o) (w2 := w2) hx X1 hgood hts hEk hE hK hG hS hb0 rfl (by rw [hml]; exact hl.1) hdg hnamed hpl hmethM hcM hlk hR.1 h8 (by omega) (by omega) hn0 hs0 hn1 hs1 hM
  exact ip_back (av := av) hl hret hthr hrun hstep1
set_option maxHeartbeats 200000 in
theorem ip_callI (hx : p.tables.exec = Jvm.exec) (hb : c.code = cc) (hml : c.maxLocals = nL) {own : String} {index maxL n a0 : Nat} {bytes : ByteArray} (hgood : ∀ w ∈ Ts, goodWord w = true) (hts : ip_TK Ts s) (hEk : ip_Ek b Ev) (hE : Ev s) (hK : va_K D cl (ip_T aC) s) (hb0 : b ≤ s.heap.size) (hown : s.vm.findClass own = some m.cls) (hy1 : y.name = "<init>") (hlink : (Cond.methodLink own index y).before args s = true ∨ ∃ host, (Cond.methodLinkNest own index y host).before args s = true) (hinst : (Cond.instanceMethod y).before args s = true) (hcode : (Cond.code y bytes maxL none).before args s = true) (hy : y.cls ≠ "java/lang/invoke/MethodHandle" ∧ y.cls ≠ "java/lang/invoke/VarHandle") (hpl : plainFor y = true) (hlen : (parseMethodDescriptor y.desc).map (fun d => d.parameters.length) = some n) (hn : av.length = n)
    (hsum : (rest.map fun v => v.category).sum ≤ 8) (hR : R2.frames + 1 ≤ R.frames ∧ 8 + (maxL + 11) + R2.locals ≤ R.locals) (hcells : w.1 + R2.cells ≤ n0 + R.cells) (hslots : w.2.1 + R2.slots ≤ s0 + R.slots) (hn0 : n0 ≤ w.1) (hs0 : s0 ≤ w.2.1) (hn1 : w.1 ≤ w2.1) (hs1 : w.2.1 ≤ w2.2.1)
    (hM : ip_M l Ev Ts D cl aC b sc y R2 w (.ref a0 :: av) o w2) (hdg : decode cc pc = .ok (.invokespecial index, 3)) (hret : ∀ v, o = .returned v → ip_V p l e R s m args below meth c D cl aC b sc nL n0 s0 Q w2 (pc + 3) lo (v.toList ++ rest)) (hthr : ∀ a, o = .threw a → ip_X p l e R s m args below meth c D cl aC b sc nL n0 s0 Q w2 pc lo a) : ip_V p l e R s m args below meth c D cl aC b sc nL n0 s0 Q w pc lo (av.reverse ++ .ref a0 :: rest) := by
  intro H locs ls hG hS hl T hT X
  subst hT
  subst hb
  have hplat : e.platform.magicAccessors = ({} : Platform).magicAccessors := by rw [X.admits.platform]
  have hlen2 : ∀ sig, parseMethodDescriptor y.desc = some sig → (av.map (ip_v b sc)).length = sig.parameters.length := by
    intro sig h
    rw [h] at hlen
    rw [List.length_map, hn]
    exact (Option.some.inj hlen).symm
  have hmid : ∃ (mk : MethodId) (vm1 : Vm), s.methodNamed? y = some mk ∧ s.WarmedH vm1 ∧ ∀ target, (∀ acts, Steps p.tables e below (doInvoke e ((T.setVm vm1).setTop (F0 m pc ls (rest.map (ip_v b sc)))) acts mk ((Value.ref a0 :: av).map (ip_v b sc)).toArray).1 target) → Steps p.tables e below (T.setTop (F0 m pc ls ((av.reverse ++ Value.ref a0 :: rest).map (ip_v b sc)))) target := by
    rcases hlink with hlink | ⟨host, hlink⟩
    · obtain ⟨mk, methM, cM, kP, vm1, hnamed, -, -, -, -, -, -, -, hW1, hstep1⟩ := Steps.initColdArgs (e := e) X.here hx X.warmed hplat hown hy1 hy hlink hinst hcode (f := F0 m pc ls ((av.reverse ++ Value.ref a0 :: rest).map (ip_v b sc))) rfl (a := b + a0) (argsL := av.map (ip_v b sc)) (rest := rest.map (ip_v b sc)) hlen2 (by simp [ip_v]) hdg
      exact ⟨mk, vm1, hnamed, hW1, hstep1⟩
    · obtain ⟨mk, methM, cM, kP, vm1, hnamed, -, -, -, -, -, -, -, hW1, hstep1⟩ := Steps.initColdArgsNest (e := e) X.here hx X.warmed hplat hown hy1 hy hlink hinst hcode (f := F0 m pc ls ((av.reverse ++ Value.ref a0 :: rest).map (ip_v b sc))) rfl (a := b + a0) (argsL := av.map (ip_v b sc)) (rest := rest.map (ip_v b sc)) hlen2 (by simp [ip_v]) hdg
      exact ⟨mk, vm1, hnamed, hW1, hstep1⟩
  obtain ⟨mk, vm1, hnamed, hW1, hstep1⟩ := hmid
  have X1 := X.noted hW1
  obtain ⟨methM, cM, hmethM, hcM, hmL, hlk, hsigM⟩ := ip_C.of hcode mk hnamed
  have hroom : 2 * (F0 m pc ls (rest.map (ip_v b sc))).monitorRoom + ((rest.map (ip_v b sc)).map fun v => v.category).sum ≤ 8 := lv_room (by rw [ip_sum]; exact hsum)
  have h9 := hR.2
  have h8 : 2 * (F0 m pc ls (rest.map (ip_v b sc))).monitorRoom + ((rest.map (ip_v b sc)).map fun v => v.category).sum + (cM.maxLocals + 11) + R2.locals ≤ R.locals := by rw [hmL]; omega
  have hrun := ip_run (g := F0 m pc ls (rest.map (ip_v b sc))) (av := (Value.ref a0 :: av)) (o := o) (w2 := w2) hx X1 hgood hts hEk hE hK hG hS hb0 rfl (by rw [hml]; exact hl.1) hdg hnamed hpl hmethM hcM hlk hR.1 h8 (by omega) (by omega) hn0 hs0 hn1 hs1 hM
  exact ip_back (av := (Value.ref a0 :: av)) hl hret hthr hrun hstep1
end IPX
end
section
/-! part 05: the pure interpreter: one simple step, and the run of a method -/
def ip_ln (i : Instr) : Nat := match i with
  | .bipush _ => 2
  | .iload _ => 2
  | .lload _ => 2
  | .aload _ => 2
  | .istore _ => 2
  | .lstore _ => 2
  | .astore _ => 2
  | .ldc _ => 2
  | .newarray _ => 2
  | .sipush _ => 3
  | .getfield _ => 3
  | .putfield _ => 3
  | .ifCond _ _ => 3
  | .if_icmp _ _ => 3
  | .ifnull _ => 3
  | .ifnonnull _ => 3
  | .goto _ => 3
  | .invokevirtual _ => 3
  | .invokestatic _ => 3
  | .invokespecial _ => 3
  | .new _ => 3
  | .anewarray _ => 3
  | .iinc _ _ => 3
  | .ldc_w _ => 3
  | .ldc2_w _ => 3
  | _ => 1
def ip_tg (pc : Nat) (off : Int) : Option Nat := if 0 ≤ (pc : Int) + off then some ((pc : Int) + off).toNat else none
def ip_b1 (c : ClassFile.Cond) (x : Int32) (t f : Nat) : Nat := match c with
  | .eq => if x = 0 then t else f
  | .ne => if x ≠ 0 then t else f
  | .lt => if x < 0 then t else f
  | .ge => if 0 ≤ x then t else f
  | .gt => if 0 < x then t else f
  | .le => if x ≤ 0 then t else f
def ip_b2 (c : ClassFile.Cond) (x y : Int32) (t f : Nat) : Nat := match c with
  | .eq => if x = y then t else f
  | .ne => if x ≠ y then t else f
  | .lt => if x < y then t else f
  | .ge => if y ≤ x then t else f
  | .gt => if y < x then t else f
  | .le => if x ≤ y then t else f
def ip_isR (v : Value) : Bool := match v with
  | .ref _ => true
  | .retAddr _ => true
  | .null => true
  | _ => false
/-- a field's type: 0 int, 1 long, 2 boolean, 3 a reference -/
def ip_fok (tc : Nat) (v : Value) : Bool := match v with
  | .int x => tc == 0 || (tc == 2 && (x == 0 || x == 1))
  | .long _ => tc == 1
  | .ref _ => tc == 3
  | .retAddr _ => tc == 3
  | .null => tc == 3
  | _ => false
def ip_in (i : Int32) (n : Nat) : Bool := decide (¬ i < 0) && decide (i.toNatClampNeg < n)
/-- the tables of one method: fields (class, place), their types and finality, constants, classes that it makes (number, fields at first) -/
abbrev ip_R : Type := Nat × List (Nat × Value) × List Value × ip_W
def ip_atk (t : ArrayType) : Option (Nat × ip_A × Nat) := match t with
  | .int => some (0, .inl (fun _ => 0), 4)
  | .byte => some (1, .inl (fun _ => 0), 1)
  | .long => some (2, .inr (.inl (fun _ => 0)), 8)
  | .boolean => some (3, .inl (fun _ => 0), 1)
  | _ => none
def ip_st (Fd : Nat → Option (Nat × Nat)) (Ft : Nat → Nat → Option (Nat × Bool)) (Cn : Nat → Option Value) (Nw : Nat → Option (Nat × List Value)) (nL : Nat) (ini : Option Nat) (i : Instr) (pc : Nat) (lo : List (Nat × Value)) (st : List Value) (w : ip_W) : Option ip_R := match i with
  | .iconst k => some (pc + 1, lo, .int (Int32.ofInt k) :: st, w)
  | .bipush k => some (pc + 2, lo, .int (Int8.ofInt k).toInt32 :: st, w)
  | .sipush k => some (pc + 3, lo, .int (Int16.ofInt k).toInt32 :: st, w)
  | .lconst k => some (pc + 1, lo, .long (Int64.ofNat (k : Nat)) :: st, w)
  | .aconst_null => some (pc + 1, lo, .null :: st, w)
  | .iload_n k => (match ip_get lo k with
    | some (.int x) => some (pc + 1, lo, .int x :: st, w)
    | _ => none)
  | .iload k => (match ip_get lo k with
    | some (.int x) => some (pc + 2, lo, .int x :: st, w)
    | _ => none)
  | .lload_n k => (match ip_get lo k with
    | some (.long x) => some (pc + 1, lo, .long x :: st, w)
    | _ => none)
  | .lload k => (match ip_get lo k with
    | some (.long x) => some (pc + 2, lo, .long x :: st, w)
    | _ => none)
  | .aload_n k => (match ip_get lo k with
    | some x => if ip_isR x = true then some (pc + 1, lo, x :: st, w) else none
    | none => none)
  | .aload k => (match ip_get lo k with
    | some x => if ip_isR x = true then some (pc + 2, lo, x :: st, w) else none
    | none => none)
  | .istore_n k => (match st with
    | .int x :: r => if (k : Nat) < nL then some (pc + 1, ip_set1 lo k (.int x), r, w) else none
    | _ => none)
  | .istore k => (match st with
    | .int x :: r => if (k : Nat) < nL then some (pc + 2, ip_set1 lo k (.int x), r, w) else none
    | _ => none)
  | .lstore_n k => (match st with
    | .long x :: r => if (k : Nat) + 1 < nL then some (pc + 1, ip_set2 lo k (.long x), r, w) else none
    | _ => none)
  | .lstore k => (match st with
    | .long x :: r => if (k : Nat) + 1 < nL then some (pc + 2, ip_set2 lo k (.long x), r, w) else none
    | _ => none)
  | .astore_n k => (match st with
    | x :: r => if (k : Nat) < nL ∧ ip_isR x = true then some (pc + 1, ip_set1 lo k x, r, w) else none
    | _ => none)
  | .astore k => (match st with
    | x :: r => if (k : Nat) < nL ∧ ip_isR x = true then some (pc + 2, ip_set1 lo k x, r, w) else none
    | _ => none)
  | .iinc k z => (match ip_get lo k with
    | some (.int x) => if k < nL then some (pc + 3, ip_set1 lo k (.int (x + Int32.ofInt z)), st, w) else none
    | _ => none)
  | .iadd => (match st with
    | .int y :: .int x :: r => some (pc + 1, lo, .int (x + y) :: r, w)
    | _ => none)
  | .isub => (match st with
    | .int y :: .int x :: r => some (pc + 1, lo, .int (x - y) :: r, w)
    | _ => none)
  | .imul => (match st with
    | .int y :: .int x :: r => some (pc + 1, lo, .int (x * y) :: r, w)
    | _ => none)
  | .iand => (match st with
    | .int y :: .int x :: r => some (pc + 1, lo, .int (x &&& y) :: r, w)
    | _ => none)
  | .ladd => (match st with
    | .long y :: .long x :: r => some (pc + 1, lo, .long (x + y) :: r, w)
    | _ => none)
  | .lsub => (match st with
    | .long y :: .long x :: r => some (pc + 1, lo, .long (x - y) :: r, w)
    | _ => none)
  | .lmul => (match st with
    | .long y :: .long x :: r => some (pc + 1, lo, .long (x * y) :: r, w)
    | _ => none)
  | .land => (match st with
    | .long y :: .long x :: r => some (pc + 1, lo, .long (x &&& y) :: r, w)
    | _ => none)
  | .lor => (match st with
    | .long y :: .long x :: r => some (pc + 1, lo, .long (x ||| y) :: r, w)
    | _ => none)
  | .lxor => (match st with
    | .long y :: .long x :: r => some (pc + 1, lo, .long (x ^^^ y) :: r, w)
    | _ => none)
  | .idiv => (match st with
    | .int y :: .int x :: r => if ¬ y = 0 then some (pc + 1, lo, .int (x / y) :: r, w) else none
    | _ => none)
  | .irem => (match st with
    | .int y :: .int x :: r => if ¬ y = 0 then some (pc + 1, lo, .int (x - x / y * y) :: r, w) else none
    | _ => none)
  | .ldiv => (match st with
    | .long y :: .long x :: r => if ¬ y = 0 then some (pc + 1, lo, .long (x / y) :: r, w) else none
    | _ => none)
  | .lrem => (match st with
    | .long y :: .long x :: r => if ¬ y = 0 then some (pc + 1, lo, .long (x - x / y * y) :: r, w) else none
    | _ => none)
  | .ineg => (match st with
    | .int x :: r => some (pc + 1, lo, .int (-x) :: r, w)
    | _ => none)
  | .lneg => (match st with
    | .long x :: r => some (pc + 1, lo, .long (-x) :: r, w)
    | _ => none)
  | .i2l => (match st with
    | .int x :: r => some (pc + 1, lo, .long (x.toInt64) :: r, w)
    | _ => none)
  | .l2i => (match st with
    | .long x :: r => some (pc + 1, lo, .int (x.toInt32) :: r, w)
    | _ => none)
  | .i2b => (match st with
    | .int x :: r => some (pc + 1, lo, .int (x.toInt8.toInt32) :: r, w)
    | _ => none)
  | .i2c => (match st with
    | .int x :: r => some (pc + 1, lo, .int ((x.toUInt32 % 65536).toInt32) :: r, w)
    | _ => none)
  | .lshl => (match st with
    | .int y :: .long x :: r => some (pc + 1, lo, .long (x <<< (y.toInt64 &&& 63)) :: r, w)
    | _ => none)
  | .lshr => (match st with
    | .int y :: .long x :: r => some (pc + 1, lo, .long (x >>> (y.toInt64 &&& 63)) :: r, w)
    | _ => none)
  | .lushr => (match st with
    | .int y :: .long x :: r => some (pc + 1, lo, .long ((x.toUInt64 >>> (y.toInt64.toUInt64 &&& Int64.toUInt64 63)).toInt64) :: r, w)
    | _ => none)
  | .lcmp => (match st with
    | .long y :: .long x :: r => some (pc + 1, lo, .int (lg_cmp x y) :: r, w)
    | _ => none)
  | .dup => (match st with
    | v :: r => if v.category = 1 then some (pc + 1, lo, v :: v :: r, w) else none
    | _ => none)
  | .pop => (match st with
    | v :: r => if v.category = 1 then some (pc + 1, lo, r, w) else none
    | _ => none)
  | .dup2 => (match st with
    | v :: r => if v.category = 2 then some (pc + 1, lo, v :: v :: r, w) else (match r with
      | u :: r2 => if v.category = 1 ∧ u.category = 1 then some (pc + 1, lo, v :: u :: v :: u :: r2, w) else none
      | _ => none)
    | _ => none)
  | .ifCond c off => (match st with
    | .int x :: r => (match ip_tg pc off with
      | some t => some (ip_b1 c x t (pc + 3), lo, r, w)
      | none => none)
    | _ => none)
  | .if_icmp c off => (match st with
    | .int y :: .int x :: r => (match ip_tg pc off with
      | some t => some (ip_b2 c x y t (pc + 3), lo, r, w)
      | none => none)
    | _ => none)
  | .goto off => (match ip_tg pc off with
    | some t => some (t, lo, st, w)
    | none => none)
  | .ifnull off => (match st with
    | .ref _ :: r => some (pc + 3, lo, r, w)
    | .null :: r => (match ip_tg pc off with
      | some t => some (t, lo, r, w)
      | none => none)
    | _ => none)
  | .ifnonnull off => (match st with
    | .null :: r => some (pc + 3, lo, r, w)
    | .ref _ :: r => (match ip_tg pc off with
      | some t => some (t, lo, r, w)
      | none => none)
    | _ => none)
  | .lookupswitch d ps => (match st with
    | .int x :: r => if (ps.toList.zip (ps.toList.drop 1)).all (fun (a, next) => a.1 < next.1) = true then (match ip_tg pc (Op.lookupswitch.offset ps.toList d x.toInt) with
      | some t => some (t, lo, r, w)
      | none => none) else none
    | _ => none)
  | .tableswitch d lw hi offs => (match st with
    | .int x :: r => if x.toInt < lw ∨ hi < x.toInt then (match ip_tg pc d with
      | some t => some (t, lo, r, w)
      | none => none) else (match offs[(x.toInt - lw).toNat]? with
      | some off => (match ip_tg pc off with
        | some t => some (t, lo, r, w)
        | none => none)
      | none => none)
    | _ => none)
  | .ldc k => (match Cn k with
    | some v => some (pc + 2, lo, v :: st, w)
    | none => none)
  | .ldc_w k => (match Cn k with
    | some v => some (pc + 3, lo, v :: st, w)
    | none => none)
  | .ldc2_w k => (match Cn k with
    | some v => some (pc + 3, lo, v :: st, w)
    | none => none)
  | .getfield k => (match st with
    | .ref a :: r => (match Fd k, w.2.2 a with
      | some (ci, j), some (.inr (ci2, fs)) => if ci = ci2 then (match fs[j]? with
        | some v => some (pc + 3, lo, v :: r, w)
        | none => none) else none
      | _, _ => none)
    | _ => none)
  | .putfield k => (match st with
    | v :: .ref a :: r => (match Fd k, w.2.2 a with
      | some (ci, j), some (.inr (ci2, fs)) => (match Ft ci j with
        | some (tc, fin) => if ci = ci2 ∧ ip_fok tc v = true ∧ j < fs.length ∧ (fin = true → ini = some ci) then some (pc + 3, lo, r, (w.1, w.2.1, va_up w.2.2 a (some (.inr (ci, fs.set j v))))) else none
        | none => none)
      | _, _ => none)
    | _ => none)
  | .arraylength => (match st with
    | .ref a :: r => (match w.2.2 a with
      | some (.inl (kd, n, _)) => if kd < 5 then some (pc + 1, lo, .int (Int32.ofNat n) :: r, w) else none
      | _ => none)
    | _ => none)
  | .iaload => (match st with
    | .int i :: .ref a :: r => (match w.2.2 a with
      | some (.inl (0, n, .inl f)) => if ip_in i n = true then some (pc + 1, lo, .int (f i.toNatClampNeg) :: r, w) else none
      | _ => none)
    | _ => none)
  | .baload => (match st with
    | .int i :: .ref a :: r => (match w.2.2 a with
      | some (.inl (1, n, .inl f)) => if ip_in i n = true then some (pc + 1, lo, .int (f i.toNatClampNeg) :: r, w) else none
      | some (.inl (3, n, .inl f)) => if ip_in i n = true then some (pc + 1, lo, .int (f i.toNatClampNeg) :: r, w) else none
      | _ => none)
    | _ => none)
  | .laload => (match st with
    | .int i :: .ref a :: r => (match w.2.2 a with
      | some (.inl (2, n, .inr (.inl f))) => if ip_in i n = true then some (pc + 1, lo, .long (f i.toNatClampNeg) :: r, w) else none
      | _ => none)
    | _ => none)
  | .aaload => (match st with
    | .int i :: .ref a :: r => (match w.2.2 a with
      | some (.inl (4, n, .inr (.inr f))) => if ip_in i n = true then some (pc + 1, lo, ip_r (f i.toNatClampNeg) :: r, w) else none
      | _ => none)
    | _ => none)
  | .iastore => (match st with
    | .int x :: .int i :: .ref a :: r => (match w.2.2 a with
      | some (.inl (0, n, .inl f)) => if ip_in i n = true then some (pc + 1, lo, r, (w.1, w.2.1, va_up w.2.2 a (some (.inl (0, n, .inl (upd f i.toNatClampNeg x)))))) else none
      | _ => none)
    | _ => none)
  | .bastore => (match st with
    | .int x :: .int i :: .ref a :: r => (match w.2.2 a with
      | some (.inl (1, n, .inl f)) => if ip_in i n = true then some (pc + 1, lo, r, (w.1, w.2.1, va_up w.2.2 a (some (.inl (1, n, .inl (upd f i.toNatClampNeg (vp_nar .byte x))))))) else none
      | some (.inl (3, n, .inl f)) => if ip_in i n = true then some (pc + 1, lo, r, (w.1, w.2.1, va_up w.2.2 a (some (.inl (3, n, .inl (upd f i.toNatClampNeg (vp_nar .boolean x))))))) else none
      | _ => none)
    | _ => none)
  | .lastore => (match st with
    | .long x :: .int i :: .ref a :: r => (match w.2.2 a with
      | some (.inl (2, n, .inr (.inl f))) => if ip_in i n = true then some (pc + 1, lo, r, (w.1, w.2.1, va_up w.2.2 a (some (.inl (2, n, .inr (.inl (vp_updL f i.toNatClampNeg x))))))) else none
      | _ => none)
    | _ => none)
  | .aastore => (match st with
    | .ref v :: .int i :: .ref a :: r => (match w.2.2 a, w.2.2 v with
      | some (.inl (4, n, .inr (.inr f))), some (.inr (11, _)) => if ip_in i n = true then some (pc + 1, lo, r, (w.1, w.2.1, va_up w.2.2 a (some (.inl (4, n, .inr (.inr (va_up f i.toNatClampNeg (some v)))))))) else none
      | _, _ => none)
    | _ => none)
  | .new k => (match Nw k with
    | some (ci, fs) => some (pc + 3, lo, .ref w.1 :: st, (w.1 + 1, w.2.1 + fs.length, va_up w.2.2 w.1 (some (.inr (ci, fs)))))
    | none => none)
  | .newarray t => (match st with
    | .int n :: r => (match ip_atk t with
      | some (kd, x0, _) => if ¬ n < 0 ∧ n.toNatClampNeg ≤ 1000000 then some (pc + 2, lo, .ref w.1 :: r, (w.1 + 1, w.2.1 + n.toNatClampNeg, va_up w.2.2 w.1 (some (.inl (kd, n.toNatClampNeg, x0))))) else none
      | none => none)
    | _ => none)
  | .anewarray _ => (match st with
    | .int n :: r => if ¬ n < 0 ∧ n.toNatClampNeg ≤ 1000000 then some (pc + 3, lo, .ref w.1 :: r, (w.1 + 1, w.2.1 + n.toNatClampNeg, va_up w.2.2 w.1 (some (.inl (4, n.toNatClampNeg, .inr (.inr (fun _ => none))))))) else none
    | _ => none)
  | _ => none
end
section
/-! part 06: the simple step is sound -/
section IPS
variable {p : Program} {l : Launch} {e : Env} {R : Room} {s : State} {m : MethodId} {args : Array Value} {below : List Frame} {meth : Method} {c : Code} {Q : State → Prop}
variable {D : va_G} {cl : List vw_C} {aC : Nat → ClassId} {b : Nat} {sc : Nat → Nat} {nL n0 s0 : Nat} {cc : ByteArray} {w : ip_W} {pc : Nat} {lo : List (Nat × Value)} {st : List Value} {Ts : List Cond} {own : String}
variable {Fd : Nat → Option (Nat × Nat)} {Ft : Nat → Nat → Option (Nat × Bool)} {Cn : Nat → Option Value} {Nw : Nat → Option (Nat × List Value)} {ini : Option Nat} {r : ip_R}
/-- ip_V at what a step gives -/
def ip_Vr (p : Program) (l : Launch) (e : Env) (R : Room) (s : State) (m : MethodId) (args : Array Value) (below : List Frame) (meth : Method) (c : Code) (D : va_G) (cl : List vw_C) (aC : Nat → ClassId) (b : Nat) (sc : Nat → Nat) (nL n0 s0 : Nat) (Q : State → Prop) (r : ip_R) : Prop := ip_V p l e R s m args below meth c D cl aC b sc nL n0 s0 Q r.2.2.2 r.1 r.2.1 r.2.2.1
theorem ip_isR_of {x : Value} (h : ip_isR x = true) : (∃ a, x = .ref a) ∨ (∃ a, x = .retAddr a) ∨ x = .null := by
  cases x with
  | ref a => exact Or.inl ⟨a, rfl⟩
  | retAddr a => exact Or.inr (Or.inl ⟨a, rfl⟩)
  | null => exact Or.inr (Or.inr rfl)
  | _ => simp [ip_isR] at h
theorem ip_tg_of {off : Int} {t : Nat} (h : ip_tg pc off = some t) : (pc : Int) + off = (t : Int) := by
  unfold ip_tg at h
  split at h
  · rename_i h0
    cases h
    exact (Int.toNat_of_nonneg h0).symm
  · cases h
theorem ip_in_of {i : Int32} {n : Nat} (h : ip_in i n = true) : vp_in i n := by
  unfold ip_in at h
  simp only [Bool.and_eq_true, decide_eq_true_eq] at h
  intro q
  rcases q with q | q
  · exact h.1 q
  · omega
theorem ip_s_iconst {n : Int} (h : ip_st Fd Ft Cn Nw nL ini (.iconst n) pc lo st w = some r) (hx : p.tables.exec = Jvm.exec) (hb : c.code = cc) (hdg : decode cc pc = .ok (.iconst n, 1)) (k : ip_Vr p l e R s m args below meth c D cl aC b sc nL n0 s0 Q r) : ip_V p l e R s m args below meth c D cl aC b sc nL n0 s0 Q w pc lo st := by
  simp only [ip_st] at h
  cases h
  exact ip_iconst hx hb hdg k
theorem ip_s_bipush {n : Int} (h : ip_st Fd Ft Cn Nw nL ini (.bipush n) pc lo st w = some r) (hx : p.tables.exec = Jvm.exec) (hb : c.code = cc) (hdg : decode cc pc = .ok (.bipush n, 2)) (k : ip_Vr p l e R s m args below meth c D cl aC b sc nL n0 s0 Q r) : ip_V p l e R s m args below meth c D cl aC b sc nL n0 s0 Q w pc lo st := by
  simp only [ip_st] at h
  cases h
  exact ip_bipush hx hb hdg k
theorem ip_s_sipush {n : Int} (h : ip_st Fd Ft Cn Nw nL ini (.sipush n) pc lo st w = some r) (hx : p.tables.exec = Jvm.exec) (hb : c.code = cc) (hdg : decode cc pc = .ok (.sipush n, 3)) (k : ip_Vr p l e R s m args below meth c D cl aC b sc nL n0 s0 Q r) : ip_V p l e R s m args below meth c D cl aC b sc nL n0 s0 Q w pc lo st := by
  simp only [ip_st] at h
  cases h
  exact ip_sipush hx hb hdg k
theorem ip_s_lconst {n : Fin 2} (h : ip_st Fd Ft Cn Nw nL ini (.lconst n) pc lo st w = some r) (hx : p.tables.exec = Jvm.exec) (hb : c.code = cc) (hdg : decode cc pc = .ok (.lconst n, 1)) (k : ip_Vr p l e R s m args below meth c D cl aC b sc nL n0 s0 Q r) : ip_V p l e R s m args below meth c D cl aC b sc nL n0 s0 Q w pc lo st := by
  simp only [ip_st] at h
  cases h
  exact ip_lconst hx hb hdg k
theorem ip_s_null (h : ip_st Fd Ft Cn Nw nL ini (.aconst_null) pc lo st w = some r) (hx : p.tables.exec = Jvm.exec) (hb : c.code = cc) (hdg : decode cc pc = .ok (.aconst_null, 1)) (k : ip_Vr p l e R s m args below meth c D cl aC b sc nL n0 s0 Q r) : ip_V p l e R s m args below meth c D cl aC b sc nL n0 s0 Q w pc lo st := by
  simp only [ip_st] at h
  cases h
  exact ip_null hx hb hdg k
theorem ip_s_iload_n {i : Fin 4} (h : ip_st Fd Ft Cn Nw nL ini (.iload_n i) pc lo st w = some r) (hx : p.tables.exec = Jvm.exec) (hb : c.code = cc) (hdg : decode cc pc = .ok (.iload_n i, 1)) (k : ip_Vr p l e R s m args below meth c D cl aC b sc nL n0 s0 Q r) : ip_V p l e R s m args below meth c D cl aC b sc nL n0 s0 Q w pc lo st := by
  simp only [ip_st] at h
  split at h
  · rename_i hg
    cases h
    exact ip_iload_n hx hb hdg hg k
  · cases h
theorem ip_s_iload {i : Nat} (h : ip_st Fd Ft Cn Nw nL ini (.iload i) pc lo st w = some r) (hx : p.tables.exec = Jvm.exec) (hb : c.code = cc) (hdg : decode cc pc = .ok (.iload i, 2)) (k : ip_Vr p l e R s m args below meth c D cl aC b sc nL n0 s0 Q r) : ip_V p l e R s m args below meth c D cl aC b sc nL n0 s0 Q w pc lo st := by
  simp only [ip_st] at h
  split at h
  · rename_i hg
    cases h
    exact ip_iload hx hb hdg hg k
  · cases h
theorem ip_s_lload_n {i : Fin 4} (h : ip_st Fd Ft Cn Nw nL ini (.lload_n i) pc lo st w = some r) (hx : p.tables.exec = Jvm.exec) (hb : c.code = cc) (hdg : decode cc pc = .ok (.lload_n i, 1)) (k : ip_Vr p l e R s m args below meth c D cl aC b sc nL n0 s0 Q r) : ip_V p l e R s m args below meth c D cl aC b sc nL n0 s0 Q w pc lo st := by
  simp only [ip_st] at h
  split at h
  · rename_i hg
    cases h
    exact ip_lload_n hx hb hdg hg k
  · cases h
theorem ip_s_lload {i : Nat} (h : ip_st Fd Ft Cn Nw nL ini (.lload i) pc lo st w = some r) (hx : p.tables.exec = Jvm.exec) (hb : c.code = cc) (hdg : decode cc pc = .ok (.lload i, 2)) (k : ip_Vr p l e R s m args below meth c D cl aC b sc nL n0 s0 Q r) : ip_V p l e R s m args below meth c D cl aC b sc nL n0 s0 Q w pc lo st := by
  simp only [ip_st] at h
  split at h
  · rename_i hg
    cases h
    exact ip_lload hx hb hdg hg k
  · cases h
theorem ip_s_aload_n {i : Fin 4} (h : ip_st Fd Ft Cn Nw nL ini (.aload_n i) pc lo st w = some r) (hx : p.tables.exec = Jvm.exec) (hb : c.code = cc) (hdg : decode cc pc = .ok (.aload_n i, 1)) (k : ip_Vr p l e R s m args below meth c D cl aC b sc nL n0 s0 Q r) : ip_V p l e R s m args below meth c D cl aC b sc nL n0 s0 Q w pc lo st := by
  simp only [ip_st] at h
  split at h
  · rename_i hg
    split at h
    · rename_i hr
      cases h
      exact ip_aload_n hx hb hdg hg (ip_isR_of hr) k
    · cases h
  · cases h
theorem ip_s_aload {i : Nat} (h : ip_st Fd Ft Cn Nw nL ini (.aload i) pc lo st w = some r) (hx : p.tables.exec = Jvm.exec) (hb : c.code = cc) (hdg : decode cc pc = .ok (.aload i, 2)) (k : ip_Vr p l e R s m args below meth c D cl aC b sc nL n0 s0 Q r) : ip_V p l e R s m args below meth c D cl aC b sc nL n0 s0 Q w pc lo st := by
  simp only [ip_st] at h
  split at h
  · rename_i hg
    split at h
    · rename_i hr
      cases h
      exact ip_aload hx hb hdg hg (ip_isR_of hr) k
    · cases h
  · cases h
theorem ip_s_istore_n {i : Fin 4} (h : ip_st Fd Ft Cn Nw nL ini (.istore_n i) pc lo st w = some r) (hx : p.tables.exec = Jvm.exec) (hb : c.code = cc) (hdg : decode cc pc = .ok (.istore_n i, 1)) (k : ip_Vr p l e R s m args below meth c D cl aC b sc nL n0 s0 Q r) : ip_V p l e R s m args below meth c D cl aC b sc nL n0 s0 Q w pc lo st := by
  simp only [ip_st] at h
  split at h
  · split at h
    · rename_i hn
      cases h
      exact ip_istore_n hx hb hdg hn k
    · cases h
  · cases h
theorem ip_s_istore {i : Nat} (h : ip_st Fd Ft Cn Nw nL ini (.istore i) pc lo st w = some r) (hx : p.tables.exec = Jvm.exec) (hb : c.code = cc) (hdg : decode cc pc = .ok (.istore i, 2)) (k : ip_Vr p l e R s m args below meth c D cl aC b sc nL n0 s0 Q r) : ip_V p l e R s m args below meth c D cl aC b sc nL n0 s0 Q w pc lo st := by
  simp only [ip_st] at h
  split at h
  · split at h
    · rename_i hn
      cases h
      exact ip_istore hx hb hdg hn k
    · cases h
  · cases h
theorem ip_s_lstore_n {i : Fin 4} (h : ip_st Fd Ft Cn Nw nL ini (.lstore_n i) pc lo st w = some r) (hx : p.tables.exec = Jvm.exec) (hb : c.code = cc) (hdg : decode cc pc = .ok (.lstore_n i, 1)) (k : ip_Vr p l e R s m args below meth c D cl aC b sc nL n0 s0 Q r) : ip_V p l e R s m args below meth c D cl aC b sc nL n0 s0 Q w pc lo st := by
  simp only [ip_st] at h
  split at h
  · split at h
    · rename_i hn
      cases h
      exact ip_lstore_n hx hb hdg hn k
    · cases h
  · cases h
theorem ip_s_lstore {i : Nat} (h : ip_st Fd Ft Cn Nw nL ini (.lstore i) pc lo st w = some r) (hx : p.tables.exec = Jvm.exec) (hb : c.code = cc) (hdg : decode cc pc = .ok (.lstore i, 2)) (k : ip_Vr p l e R s m args below meth c D cl aC b sc nL n0 s0 Q r) : ip_V p l e R s m args below meth c D cl aC b sc nL n0 s0 Q w pc lo st := by
  simp only [ip_st] at h
  split at h
  · split at h
    · rename_i hn
      cases h
      exact ip_lstore hx hb hdg hn k
    · cases h
  · cases h
theorem ip_s_astore_n {i : Fin 4} (h : ip_st Fd Ft Cn Nw nL ini (.astore_n i) pc lo st w = some r) (hx : p.tables.exec = Jvm.exec) (hb : c.code = cc) (hdg : decode cc pc = .ok (.astore_n i, 1)) (k : ip_Vr p l e R s m args below meth c D cl aC b sc nL n0 s0 Q r) : ip_V p l e R s m args below meth c D cl aC b sc nL n0 s0 Q w pc lo st := by
  simp only [ip_st] at h
  split at h
  · split at h
    · rename_i hn
      cases h
      exact ip_astore_n hx hb hdg hn.1 (ip_isR_of hn.2) k
    · cases h
  · cases h
theorem ip_s_astore {i : Nat} (h : ip_st Fd Ft Cn Nw nL ini (.astore i) pc lo st w = some r) (hx : p.tables.exec = Jvm.exec) (hb : c.code = cc) (hdg : decode cc pc = .ok (.astore i, 2)) (k : ip_Vr p l e R s m args below meth c D cl aC b sc nL n0 s0 Q r) : ip_V p l e R s m args below meth c D cl aC b sc nL n0 s0 Q w pc lo st := by
  simp only [ip_st] at h
  split at h
  · split at h
    · rename_i hn
      cases h
      exact ip_astore hx hb hdg hn.1 (ip_isR_of hn.2) k
    · cases h
  · cases h
theorem ip_s_iinc {i : Nat} {n : Int} (h : ip_st Fd Ft Cn Nw nL ini (.iinc i n) pc lo st w = some r) (hx : p.tables.exec = Jvm.exec) (hb : c.code = cc) (hdg : decode cc pc = .ok (.iinc i n, 3)) (k : ip_Vr p l e R s m args below meth c D cl aC b sc nL n0 s0 Q r) : ip_V p l e R s m args below meth c D cl aC b sc nL n0 s0 Q w pc lo st := by
  simp only [ip_st] at h
  split at h
  · rename_i hg
    split at h
    · rename_i hn
      cases h
      exact ip_iinc hx hb hdg hn hg k
    · cases h
  · cases h
theorem ip_s_iadd (h : ip_st Fd Ft Cn Nw nL ini (.iadd) pc lo st w = some r) (hx : p.tables.exec = Jvm.exec) (hb : c.code = cc) (hdg : decode cc pc = .ok (.iadd, 1)) (k : ip_Vr p l e R s m args below meth c D cl aC b sc nL n0 s0 Q r) : ip_V p l e R s m args below meth c D cl aC b sc nL n0 s0 Q w pc lo st := by
  simp only [ip_st] at h
  split at h
  · cases h
    exact ip_iadd hx hb hdg k
  · cases h
theorem ip_s_isub (h : ip_st Fd Ft Cn Nw nL ini (.isub) pc lo st w = some r) (hx : p.tables.exec = Jvm.exec) (hb : c.code = cc) (hdg : decode cc pc = .ok (.isub, 1)) (k : ip_Vr p l e R s m args below meth c D cl aC b sc nL n0 s0 Q r) : ip_V p l e R s m args below meth c D cl aC b sc nL n0 s0 Q w pc lo st := by
  simp only [ip_st] at h
  split at h
  · cases h
    exact ip_isub hx hb hdg k
  · cases h
theorem ip_s_imul (h : ip_st Fd Ft Cn Nw nL ini (.imul) pc lo st w = some r) (hx : p.tables.exec = Jvm.exec) (hb : c.code = cc) (hdg : decode cc pc = .ok (.imul, 1)) (k : ip_Vr p l e R s m args below meth c D cl aC b sc nL n0 s0 Q r) : ip_V p l e R s m args below meth c D cl aC b sc nL n0 s0 Q w pc lo st := by
  simp only [ip_st] at h
  split at h
  · cases h
    exact ip_imul hx hb hdg k
  · cases h
theorem ip_s_iand (h : ip_st Fd Ft Cn Nw nL ini (.iand) pc lo st w = some r) (hx : p.tables.exec = Jvm.exec) (hb : c.code = cc) (hdg : decode cc pc = .ok (.iand, 1)) (k : ip_Vr p l e R s m args below meth c D cl aC b sc nL n0 s0 Q r) : ip_V p l e R s m args below meth c D cl aC b sc nL n0 s0 Q w pc lo st := by
  simp only [ip_st] at h
  split at h
  · cases h
    exact ip_iand hx hb hdg k
  · cases h
theorem ip_s_ladd (h : ip_st Fd Ft Cn Nw nL ini (.ladd) pc lo st w = some r) (hx : p.tables.exec = Jvm.exec) (hb : c.code = cc) (hdg : decode cc pc = .ok (.ladd, 1)) (k : ip_Vr p l e R s m args below meth c D cl aC b sc nL n0 s0 Q r) : ip_V p l e R s m args below meth c D cl aC b sc nL n0 s0 Q w pc lo st := by
  simp only [ip_st] at h
  split at h
  · cases h
    exact ip_ladd hx hb hdg k
  · cases h
theorem ip_s_lsub (h : ip_st Fd Ft Cn Nw nL ini (.lsub) pc lo st w = some r) (hx : p.tables.exec = Jvm.exec) (hb : c.code = cc) (hdg : decode cc pc = .ok (.lsub, 1)) (k : ip_Vr p l e R s m args below meth c D cl aC b sc nL n0 s0 Q r) : ip_V p l e R s m args below meth c D cl aC b sc nL n0 s0 Q w pc lo st := by
  simp only [ip_st] at h
  split at h
  · cases h
    exact ip_lsub hx hb hdg k
  · cases h
theorem ip_s_lmul (h : ip_st Fd Ft Cn Nw nL ini (.lmul) pc lo st w = some r) (hx : p.tables.exec = Jvm.exec) (hb : c.code = cc) (hdg : decode cc pc = .ok (.lmul, 1)) (k : ip_Vr p l e R s m args below meth c D cl aC b sc nL n0 s0 Q r) : ip_V p l e R s m args below meth c D cl aC b sc nL n0 s0 Q w pc lo st := by
  simp only [ip_st] at h
  split at h
  · cases h
    exact ip_lmul hx hb hdg k
  · cases h
theorem ip_s_land (h : ip_st Fd Ft Cn Nw nL ini (.land) pc lo st w = some r) (hx : p.tables.exec = Jvm.exec) (hb : c.code = cc) (hdg : decode cc pc = .ok (.land, 1)) (k : ip_Vr p l e R s m args below meth c D cl aC b sc nL n0 s0 Q r) : ip_V p l e R s m args below meth c D cl aC b sc nL n0 s0 Q w pc lo st := by
  simp only [ip_st] at h
  split at h
  · cases h
    exact ip_land hx hb hdg k
  · cases h
theorem ip_s_lor (h : ip_st Fd Ft Cn Nw nL ini (.lor) pc lo st w = some r) (hx : p.tables.exec = Jvm.exec) (hb : c.code = cc) (hdg : decode cc pc = .ok (.lor, 1)) (k : ip_Vr p l e R s m args below meth c D cl aC b sc nL n0 s0 Q r) : ip_V p l e R s m args below meth c D cl aC b sc nL n0 s0 Q w pc lo st := by
  simp only [ip_st] at h
  split at h
  · cases h
    exact ip_lor hx hb hdg k
  · cases h
theorem ip_s_lxor (h : ip_st Fd Ft Cn Nw nL ini (.lxor) pc lo st w = some r) (hx : p.tables.exec = Jvm.exec) (hb : c.code = cc) (hdg : decode cc pc = .ok (.lxor, 1)) (k : ip_Vr p l e R s m args below meth c D cl aC b sc nL n0 s0 Q r) : ip_V p l e R s m args below meth c D cl aC b sc nL n0 s0 Q w pc lo st := by
  simp only [ip_st] at h
  split at h
  · cases h
    exact ip_lxor hx hb hdg k
  · cases h
theorem ip_s_ineg (h : ip_st Fd Ft Cn Nw nL ini (.ineg) pc lo st w = some r) (hx : p.tables.exec = Jvm.exec) (hb : c.code = cc) (hdg : decode cc pc = .ok (.ineg, 1)) (k : ip_Vr p l e R s m args below meth c D cl aC b sc nL n0 s0 Q r) : ip_V p l e R s m args below meth c D cl aC b sc nL n0 s0 Q w pc lo st := by
  simp only [ip_st] at h
  split at h
  · cases h
    exact ip_ineg hx hb hdg k
  · cases h
theorem ip_s_lneg (h : ip_st Fd Ft Cn Nw nL ini (.lneg) pc lo st w = some r) (hx : p.tables.exec = Jvm.exec) (hb : c.code = cc) (hdg : decode cc pc = .ok (.lneg, 1)) (k : ip_Vr p l e R s m args below meth c D cl aC b sc nL n0 s0 Q r) : ip_V p l e R s m args below meth c D cl aC b sc nL n0 s0 Q w pc lo st := by
  simp only [ip_st] at h
  split at h
  · cases h
    exact ip_lneg hx hb hdg k
  · cases h
theorem ip_s_i2l (h : ip_st Fd Ft Cn Nw nL ini (.i2l) pc lo st w = some r) (hx : p.tables.exec = Jvm.exec) (hb : c.code = cc) (hdg : decode cc pc = .ok (.i2l, 1)) (k : ip_Vr p l e R s m args below meth c D cl aC b sc nL n0 s0 Q r) : ip_V p l e R s m args below meth c D cl aC b sc nL n0 s0 Q w pc lo st := by
  simp only [ip_st] at h
  split at h
  · cases h
    exact ip_i2l hx hb hdg k
  · cases h
theorem ip_s_l2i (h : ip_st Fd Ft Cn Nw nL ini (.l2i) pc lo st w = some r) (hx : p.tables.exec = Jvm.exec) (hb : c.code = cc) (hdg : decode cc pc = .ok (.l2i, 1)) (k : ip_Vr p l e R s m args below meth c D cl aC b sc nL n0 s0 Q r) : ip_V p l e R s m args below meth c D cl aC b sc nL n0 s0 Q w pc lo st := by
  simp only [ip_st] at h
  split at h
  · cases h
    exact ip_l2i hx hb hdg k
  · cases h
theorem ip_s_i2b (h : ip_st Fd Ft Cn Nw nL ini (.i2b) pc lo st w = some r) (hx : p.tables.exec = Jvm.exec) (hb : c.code = cc) (hdg : decode cc pc = .ok (.i2b, 1)) (k : ip_Vr p l e R s m args below meth c D cl aC b sc nL n0 s0 Q r) : ip_V p l e R s m args below meth c D cl aC b sc nL n0 s0 Q w pc lo st := by
  simp only [ip_st] at h
  split at h
  · cases h
    exact ip_i2b hx hb hdg k
  · cases h
theorem ip_s_i2c (h : ip_st Fd Ft Cn Nw nL ini (.i2c) pc lo st w = some r) (hx : p.tables.exec = Jvm.exec) (hb : c.code = cc) (hdg : decode cc pc = .ok (.i2c, 1)) (k : ip_Vr p l e R s m args below meth c D cl aC b sc nL n0 s0 Q r) : ip_V p l e R s m args below meth c D cl aC b sc nL n0 s0 Q w pc lo st := by
  simp only [ip_st] at h
  split at h
  · cases h
    exact ip_i2c hx hb hdg k
  · cases h
theorem ip_s_lshl (h : ip_st Fd Ft Cn Nw nL ini (.lshl) pc lo st w = some r) (hx : p.tables.exec = Jvm.exec) (hb : c.code = cc) (hdg : decode cc pc = .ok (.lshl, 1)) (k : ip_Vr p l e R s m args below meth c D cl aC b sc nL n0 s0 Q r) : ip_V p l e R s m args below meth c D cl aC b sc nL n0 s0 Q w pc lo st := by
  simp only [ip_st] at h
  split at h
  · cases h
    exact ip_lshl hx hb hdg k
  · cases h
theorem ip_s_lshr (h : ip_st Fd Ft Cn Nw nL ini (.lshr) pc lo st w = some r) (hx : p.tables.exec = Jvm.exec) (hb : c.code = cc) (hdg : decode cc pc = .ok (.lshr, 1)) (k : ip_Vr p l e R s m args below meth c D cl aC b sc nL n0 s0 Q r) : ip_V p l e R s m args below meth c D cl aC b sc nL n0 s0 Q w pc lo st := by
  simp only [ip_st] at h
  split at h
  · cases h
    exact ip_lshr hx hb hdg k
  · cases h
theorem ip_s_lushr (h : ip_st Fd Ft Cn Nw nL ini (.lushr) pc lo st w = some r) (hx : p.tables.exec = Jvm.exec) (hb : c.code = cc) (hdg : decode cc pc = .ok (.lushr, 1)) (k : ip_Vr p l e R s m args below meth c D cl aC b sc nL n0 s0 Q r) : ip_V p l e R s m args below meth c D cl aC b sc nL n0 s0 Q w pc lo st := by
  simp only [ip_st] at h
  split at h
  · cases h
    exact ip_lushr hx hb hdg k
  · cases h
theorem ip_s_lcmp (h : ip_st Fd Ft Cn Nw nL ini (.lcmp) pc lo st w = some r) (hx : p.tables.exec = Jvm.exec) (hb : c.code = cc) (hdg : decode cc pc = .ok (.lcmp, 1)) (k : ip_Vr p l e R s m args below meth c D cl aC b sc nL n0 s0 Q r) : ip_V p l e R s m args below meth c D cl aC b sc nL n0 s0 Q w pc lo st := by
  simp only [ip_st] at h
  split at h
  · cases h
    exact ip_lcmp hx hb hdg k
  · cases h
theorem ip_s_idiv (h : ip_st Fd Ft Cn Nw nL ini (.idiv) pc lo st w = some r) (hx : p.tables.exec = Jvm.exec) (hb : c.code = cc) (hdg : decode cc pc = .ok (.idiv, 1)) (k : ip_Vr p l e R s m args below meth c D cl aC b sc nL n0 s0 Q r) : ip_V p l e R s m args below meth c D cl aC b sc nL n0 s0 Q w pc lo st := by
  simp only [ip_st] at h
  split at h
  · split at h
    · rename_i hn
      cases h
      exact ip_idiv hx hb hdg hn k
    · cases h
  · cases h
theorem ip_s_irem (h : ip_st Fd Ft Cn Nw nL ini (.irem) pc lo st w = some r) (hx : p.tables.exec = Jvm.exec) (hb : c.code = cc) (hdg : decode cc pc = .ok (.irem, 1)) (k : ip_Vr p l e R s m args below meth c D cl aC b sc nL n0 s0 Q r) : ip_V p l e R s m args below meth c D cl aC b sc nL n0 s0 Q w pc lo st := by
  simp only [ip_st] at h
  split at h
  · split at h
    · rename_i hn
      cases h
      exact ip_irem hx hb hdg hn k
    · cases h
  · cases h
theorem ip_s_ldiv (h : ip_st Fd Ft Cn Nw nL ini (.ldiv) pc lo st w = some r) (hx : p.tables.exec = Jvm.exec) (hb : c.code = cc) (hdg : decode cc pc = .ok (.ldiv, 1)) (k : ip_Vr p l e R s m args below meth c D cl aC b sc nL n0 s0 Q r) : ip_V p l e R s m args below meth c D cl aC b sc nL n0 s0 Q w pc lo st := by
  simp only [ip_st] at h
  split at h
  · split at h
    · rename_i hn
      cases h
      exact ip_ldiv hx hb hdg hn k
    · cases h
  · cases h
theorem ip_s_lrem (h : ip_st Fd Ft Cn Nw nL ini (.lrem) pc lo st w = some r) (hx : p.tables.exec = Jvm.exec) (hb : c.code = cc) (hdg : decode cc pc = .ok (.lrem, 1)) (k : ip_Vr p l e R s m args below meth c D cl aC b sc nL n0 s0 Q r) : ip_V p l e R s m args below meth c D cl aC b sc nL n0 s0 Q w pc lo st := by
  simp only [ip_st] at h
  split at h
  · split at h
    · rename_i hn
      cases h
      exact ip_lrem hx hb hdg hn k
    · cases h
  · cases h
theorem ip_s_dup (h : ip_st Fd Ft Cn Nw nL ini (.dup) pc lo st w = some r) (hx : p.tables.exec = Jvm.exec) (hb : c.code = cc) (hdg : decode cc pc = .ok (.dup, 1)) (k : ip_Vr p l e R s m args below meth c D cl aC b sc nL n0 s0 Q r) : ip_V p l e R s m args below meth c D cl aC b sc nL n0 s0 Q w pc lo st := by
  simp only [ip_st] at h
  split at h
  · split at h
    · rename_i hn
      cases h
      exact ip_dup hx hb hdg hn k
    · cases h
  · cases h
theorem ip_s_pop (h : ip_st Fd Ft Cn Nw nL ini (.pop) pc lo st w = some r) (hx : p.tables.exec = Jvm.exec) (hb : c.code = cc) (hdg : decode cc pc = .ok (.pop, 1)) (k : ip_Vr p l e R s m args below meth c D cl aC b sc nL n0 s0 Q r) : ip_V p l e R s m args below meth c D cl aC b sc nL n0 s0 Q w pc lo st := by
  simp only [ip_st] at h
  split at h
  · split at h
    · rename_i hn
      cases h
      exact ip_pop hx hb hdg hn k
    · cases h
  · cases h
theorem ip_s_dup2 (h : ip_st Fd Ft Cn Nw nL ini (.dup2) pc lo st w = some r) (hx : p.tables.exec = Jvm.exec) (hb : c.code = cc) (hdg : decode cc pc = .ok (.dup2, 1)) (k : ip_Vr p l e R s m args below meth c D cl aC b sc nL n0 s0 Q r) : ip_V p l e R s m args below meth c D cl aC b sc nL n0 s0 Q w pc lo st := by
  simp only [ip_st] at h
  split at h
  · split at h
    · rename_i hn
      cases h
      exact ip_dup2_2 hx hb hdg hn k
    · split at h
      · split at h
        · rename_i hn
          cases h
          exact ip_dup2_11 hx hb hdg hn.1 hn.2 k
        · cases h
      · cases h
  · cases h
theorem ip_s_ifCond {cd : ClassFile.Cond} {off : Int} (h : ip_st Fd Ft Cn Nw nL ini (.ifCond cd off) pc lo st w = some r) (hx : p.tables.exec = Jvm.exec) (hb : c.code = cc) (hdg : decode cc pc = .ok (.ifCond cd off, 3)) (k : ip_Vr p l e R s m args below meth c D cl aC b sc nL n0 s0 Q r) : ip_V p l e R s m args below meth c D cl aC b sc nL n0 s0 Q w pc lo st := by
  simp only [ip_st] at h
  split at h
  · split at h
    · rename_i ht
      cases h
      cases cd
      · exact ip_if_eq hx hb hdg (ip_tg_of ht) k
      · exact ip_if_ne hx hb hdg (ip_tg_of ht) k
      · exact ip_if_lt hx hb hdg (ip_tg_of ht) k
      · exact ip_if_ge hx hb hdg (ip_tg_of ht) k
      · exact ip_if_gt hx hb hdg (ip_tg_of ht) k
      · exact ip_if_le hx hb hdg (ip_tg_of ht) k
    · cases h
  · cases h
theorem ip_s_if_icmp {cd : ClassFile.Cond} {off : Int} (h : ip_st Fd Ft Cn Nw nL ini (.if_icmp cd off) pc lo st w = some r) (hx : p.tables.exec = Jvm.exec) (hb : c.code = cc) (hdg : decode cc pc = .ok (.if_icmp cd off, 3)) (k : ip_Vr p l e R s m args below meth c D cl aC b sc nL n0 s0 Q r) : ip_V p l e R s m args below meth c D cl aC b sc nL n0 s0 Q w pc lo st := by
  simp only [ip_st] at h
  split at h
  · split at h
    · rename_i ht
      cases h
      cases cd
      · exact ip_icmp_eq hx hb hdg (ip_tg_of ht) k
      · exact ip_icmp_ne hx hb hdg (ip_tg_of ht) k
      · exact ip_icmp_lt hx hb hdg (ip_tg_of ht) k
      · exact ip_icmp_ge hx hb hdg (ip_tg_of ht) k
      · exact ip_icmp_gt hx hb hdg (ip_tg_of ht) k
      · exact ip_icmp_le hx hb hdg (ip_tg_of ht) k
    · cases h
  · cases h
theorem ip_s_goto {off : Int} (h : ip_st Fd Ft Cn Nw nL ini (.goto off) pc lo st w = some r) (hx : p.tables.exec = Jvm.exec) (hb : c.code = cc) (hdg : decode cc pc = .ok (.goto off, 3)) (k : ip_Vr p l e R s m args below meth c D cl aC b sc nL n0 s0 Q r) : ip_V p l e R s m args below meth c D cl aC b sc nL n0 s0 Q w pc lo st := by
  simp only [ip_st] at h
  split at h
  · rename_i ht
    cases h
    exact ip_goto hx hb hdg (ip_tg_of ht) k
  · cases h
theorem ip_s_ifnull {off : Int} (h : ip_st Fd Ft Cn Nw nL ini (.ifnull off) pc lo st w = some r) (hx : p.tables.exec = Jvm.exec) (hb : c.code = cc) (hdg : decode cc pc = .ok (.ifnull off, 3)) (k : ip_Vr p l e R s m args below meth c D cl aC b sc nL n0 s0 Q r) : ip_V p l e R s m args below meth c D cl aC b sc nL n0 s0 Q w pc lo st := by
  simp only [ip_st] at h
  split at h
  · cases h
    exact ip_ifnull hx hb hdg k
  · split at h
    · rename_i ht
      cases h
      exact ip_ifnullN hx hb hdg (ip_tg_of ht) k
    · cases h
  · cases h
theorem ip_s_ifnonnull {off : Int} (h : ip_st Fd Ft Cn Nw nL ini (.ifnonnull off) pc lo st w = some r) (hx : p.tables.exec = Jvm.exec) (hb : c.code = cc) (hdg : decode cc pc = .ok (.ifnonnull off, 3)) (k : ip_Vr p l e R s m args below meth c D cl aC b sc nL n0 s0 Q r) : ip_V p l e R s m args below meth c D cl aC b sc nL n0 s0 Q w pc lo st := by
  simp only [ip_st] at h
  split at h
  · cases h
    exact ip_ifnonnullN hx hb hdg k
  · split at h
    · rename_i ht
      cases h
      exact ip_ifnonnull hx hb hdg (ip_tg_of ht) k
    · cases h
  · cases h
theorem ip_s_lookup {d : Int} {ps : Array (Int × Int)} {len : Nat} (h : ip_st Fd Ft Cn Nw nL ini (.lookupswitch d ps) pc lo st w = some r) (hx : p.tables.exec = Jvm.exec) (hb : c.code = cc) (hdg : decode cc pc = .ok (.lookupswitch d ps, len)) (k : ip_Vr p l e R s m args below meth c D cl aC b sc nL n0 s0 Q r) : ip_V p l e R s m args below meth c D cl aC b sc nL n0 s0 Q w pc lo st := by
  simp only [ip_st] at h
  split at h
  · split at h
    · rename_i hp
      split at h
      · rename_i ht
        cases h
        exact ip_lookup hx hb hdg hp rfl (ip_tg_of ht) k
      · cases h
    · cases h
  · cases h
theorem ip_s_table {d lw hi : Int} {offs : Array Int} {len : Nat} (h : ip_st Fd Ft Cn Nw nL ini (.tableswitch d lw hi offs) pc lo st w = some r) (hx : p.tables.exec = Jvm.exec) (hb : c.code = cc) (hdg : decode cc pc = .ok (.tableswitch d lw hi offs, len)) (k : ip_Vr p l e R s m args below meth c D cl aC b sc nL n0 s0 Q r) : ip_V p l e R s m args below meth c D cl aC b sc nL n0 s0 Q w pc lo st := by
  simp only [ip_st] at h
  split at h
  · split at h
    · rename_i hp
      split at h
      · rename_i ht
        cases h
        exact ip_tableOut hx hb hdg hp (ip_tg_of ht) k
      · cases h
    · rename_i hp
      split at h
      · rename_i ho
        split at h
        · rename_i ht
          cases h
          exact ip_tableIn hx hb hdg (fun q => hp (Or.inl q)) (fun q => hp (Or.inr q)) ho (ip_tg_of ht) k
        · cases h
      · cases h
  · cases h
theorem ip_s_arraylength (h : ip_st Fd Ft Cn Nw nL ini (.arraylength) pc lo st w = some r) (hx : p.tables.exec = Jvm.exec) (hb : c.code = cc) (hdg : decode cc pc = .ok (.arraylength, 1)) (hK : va_K D cl (ip_T aC) s) (k : ip_Vr p l e R s m args below meth c D cl aC b sc nL n0 s0 Q r) : ip_V p l e R s m args below meth c D cl aC b sc nL n0 s0 Q w pc lo st := by
  simp only [ip_st] at h
  split at h
  · split at h
    · rename_i he
      split at h
      · rename_i hkd
        cases h
        exact ip_alen hx hb hK hkd he hdg k
      · cases h
    · cases h
  · cases h
theorem ip_s_iaload (h : ip_st Fd Ft Cn Nw nL ini (.iaload) pc lo st w = some r) (hx : p.tables.exec = Jvm.exec) (hb : c.code = cc) (hdg : decode cc pc = .ok (.iaload, 1)) (hK : va_K D cl (ip_T aC) s) (k : ip_Vr p l e R s m args below meth c D cl aC b sc nL n0 s0 Q r) : ip_V p l e R s m args below meth c D cl aC b sc nL n0 s0 Q w pc lo st := by
  simp only [ip_st] at h
  split at h
  · split at h
    · rename_i he
      split at h
      · rename_i hn
        cases h
        exact ip_iald hx hb hK he (ip_in_of hn) hdg k
      · cases h
    · cases h
  · cases h
theorem ip_s_baload (h : ip_st Fd Ft Cn Nw nL ini (.baload) pc lo st w = some r) (hx : p.tables.exec = Jvm.exec) (hb : c.code = cc) (hdg : decode cc pc = .ok (.baload, 1)) (hK : va_K D cl (ip_T aC) s) (k : ip_Vr p l e R s m args below meth c D cl aC b sc nL n0 s0 Q r) : ip_V p l e R s m args below meth c D cl aC b sc nL n0 s0 Q w pc lo st := by
  simp only [ip_st] at h
  split at h
  · split at h
    · rename_i he
      split at h
      · rename_i hn
        cases h
        exact ip_bald hx hb hK he (ip_in_of hn) hdg k
      · cases h
    · rename_i he
      split at h
      · rename_i hn
        cases h
        exact ip_zald hx hb hK he (ip_in_of hn) hdg k
      · cases h
    · cases h
  · cases h
theorem ip_s_laload (h : ip_st Fd Ft Cn Nw nL ini (.laload) pc lo st w = some r) (hx : p.tables.exec = Jvm.exec) (hb : c.code = cc) (hdg : decode cc pc = .ok (.laload, 1)) (hK : va_K D cl (ip_T aC) s) (k : ip_Vr p l e R s m args below meth c D cl aC b sc nL n0 s0 Q r) : ip_V p l e R s m args below meth c D cl aC b sc nL n0 s0 Q w pc lo st := by
  simp only [ip_st] at h
  split at h
  · split at h
    · rename_i he
      split at h
      · rename_i hn
        cases h
        exact ip_lald hx hb hK he (ip_in_of hn) hdg k
      · cases h
    · cases h
  · cases h
theorem ip_s_aaload (h : ip_st Fd Ft Cn Nw nL ini (.aaload) pc lo st w = some r) (hx : p.tables.exec = Jvm.exec) (hb : c.code = cc) (hdg : decode cc pc = .ok (.aaload, 1)) (hK : va_K D cl (ip_T aC) s) (k : ip_Vr p l e R s m args below meth c D cl aC b sc nL n0 s0 Q r) : ip_V p l e R s m args below meth c D cl aC b sc nL n0 s0 Q w pc lo st := by
  simp only [ip_st] at h
  split at h
  · split at h
    · rename_i he
      split at h
      · rename_i hn
        cases h
        exact ip_aald hx hb hK he (ip_in_of hn) hdg k
      · cases h
    · cases h
  · cases h
theorem ip_s_iastore (h : ip_st Fd Ft Cn Nw nL ini (.iastore) pc lo st w = some r) (hx : p.tables.exec = Jvm.exec) (hb : c.code = cc) (hdg : decode cc pc = .ok (.iastore, 1)) (hK : va_K D cl (ip_T aC) s) (k : ip_Vr p l e R s m args below meth c D cl aC b sc nL n0 s0 Q r) : ip_V p l e R s m args below meth c D cl aC b sc nL n0 s0 Q w pc lo st := by
  simp only [ip_st] at h
  split at h
  · split at h
    · rename_i he
      split at h
      · rename_i hn
        cases h
        exact ip_iast hx hb hK he (ip_in_of hn) hdg k
      · cases h
    · cases h
  · cases h
theorem ip_s_bastore (h : ip_st Fd Ft Cn Nw nL ini (.bastore) pc lo st w = some r) (hx : p.tables.exec = Jvm.exec) (hb : c.code = cc) (hdg : decode cc pc = .ok (.bastore, 1)) (hK : va_K D cl (ip_T aC) s) (k : ip_Vr p l e R s m args below meth c D cl aC b sc nL n0 s0 Q r) : ip_V p l e R s m args below meth c D cl aC b sc nL n0 s0 Q w pc lo st := by
  simp only [ip_st] at h
  split at h
  · split at h
    · rename_i he
      split at h
      · rename_i hn
        cases h
        exact ip_bast hx hb hK he (ip_in_of hn) hdg k
      · cases h
    · rename_i he
      split at h
      · rename_i hn
        cases h
        exact ip_zast hx hb hK he (ip_in_of hn) hdg k
      · cases h
    · cases h
  · cases h
theorem ip_s_lastore (h : ip_st Fd Ft Cn Nw nL ini (.lastore) pc lo st w = some r) (hx : p.tables.exec = Jvm.exec) (hb : c.code = cc) (hdg : decode cc pc = .ok (.lastore, 1)) (hK : va_K D cl (ip_T aC) s) (k : ip_Vr p l e R s m args below meth c D cl aC b sc nL n0 s0 Q r) : ip_V p l e R s m args below meth c D cl aC b sc nL n0 s0 Q w pc lo st := by
  simp only [ip_st] at h
  split at h
  · split at h
    · rename_i he
      split at h
      · rename_i hn
        cases h
        exact ip_last hx hb hK he (ip_in_of hn) hdg k
      · cases h
    · cases h
  · cases h
theorem ip_s_aastore (h : ip_st Fd Ft Cn Nw nL ini (.aastore) pc lo st w = some r) (hx : p.tables.exec = Jvm.exec) (hb : c.code = cc) (hdg : decode cc pc = .ok (.aastore, 1)) (hK : va_K D cl (ip_T aC) s) {r11 : vw_C} (hS11 : cl[11]? = some r11 ∧ r11.1 = "VitalTwin$Symbol") (k : ip_Vr p l e R s m args below meth c D cl aC b sc nL n0 s0 Q r) : ip_V p l e R s m args below meth c D cl aC b sc nL n0 s0 Q w pc lo st := by
  simp only [ip_st] at h
  split at h
  · split at h
    · rename_i he hv
      split at h
      · rename_i hn
        cases h
        exact ip_aast hx hb hK he hv hS11.1 hS11.2 (ip_in_of hn) hdg k
      · cases h
    · cases h
  · cases h
/-- what the tables say of a class' fields -/
def ip_Fok (Ts : List Cond) (C : String) (T : u_T) (N : Nat) : Prop := (∀ w ∈ u_ws C T N, w ∈ Ts) ∧ (∀ a, a < N → ∀ b, b < N → a ≠ b → (T a).2.1 ≠ (T b).2.1) ∧ ∃ ty0 : Nat → FieldType, ∀ k, k < N → parseFieldDescriptor (T k).2.2.1 = some (ty0 k)
def ip_ty (tc : Nat) (ty : FieldType) : Prop := (tc = 0 ∧ ty = .int) ∨ (tc = 1 ∧ ty = .long) ∨ (tc = 2 ∧ ty = .boolean) ∨ (tc = 3 ∧ ((∃ n, ty = .object n) ∨ ∃ t, ty = .array t))
theorem ip_ty_ok {tc : Nat} {ty : FieldType} {v : Value} (ht : ip_ty tc ty) (hv : ip_fok tc v = true) : narrow ty (ip_v b sc v) = ip_v b sc v ∧ fits ty (ip_v b sc v) = true := by
  rcases ht with ⟨rfl, rfl⟩ | ⟨rfl, rfl⟩ | ⟨rfl, rfl⟩ | ⟨rfl, ⟨n, rfl⟩ | ⟨t, rfl⟩⟩
  · cases v <;> simp [ip_fok] at hv
    exact ⟨rfl, rfl⟩
  · cases v <;> simp [ip_fok] at hv
    exact ⟨rfl, rfl⟩
  · cases v <;> simp [ip_fok] at hv
    rcases hv with rfl | rfl <;> exact ⟨rfl, rfl⟩
  · cases v <;> simp [ip_fok] at hv <;> exact ⟨rfl, rfl⟩
  · cases v <;> simp [ip_fok] at hv <;> exact ⟨rfl, rfl⟩
theorem ip_s_getfield {kx : Nat} (h : ip_st Fd Ft Cn Nw nL ini (.getfield kx) pc lo st w = some r) (hx : p.tables.exec = Jvm.exec) (hb : c.code = cc) (hdg : decode cc pc = .ok (.getfield kx, 3)) (hK : va_K D cl (ip_T aC) s) (hts : ip_TK Ts s) (hown : s.vm.findClass own = some m.cls) (hFd : ∀ (k ci j : Nat), Fd k = some (ci, j) → ∃ (C : String) (T : u_T) (N : Nat), cl[ci]? = some (C, T, N) ∧ j < N ∧ Cond.fieldLink own k (T j).1 (T j).2.1 (T j).2.2.1 ∈ Ts) (hcl : ∀ (ci : Nat) (C : String) (T : u_T) (N : Nat), cl[ci]? = some (C, T, N) → ip_Fok Ts C T N) (k : ip_Vr p l e R s m args below meth c D cl aC b sc nL n0 s0 Q r) : ip_V p l e R s m args below meth c D cl aC b sc nL n0 s0 Q w pc lo st := by
  simp only [ip_st] at h
  split at h
  · split at h
    · rename_i hf he
      split at h
      · rename_i hci
        subst hci
        split at h
        · rename_i hv
          cases h
          obtain ⟨C, T, N, hc, hj, hlk⟩ := hFd _ _ _ hf
          exact ip_getf hx hb (fun w hw => hts w hw args) (hcl _ _ _ _ hc).1 hown hK he hc _ hj (hts _ hlk args) (fun _ h9 => h9) hv hdg k
        · cases h
      · cases h
    · cases h
  · cases h
theorem ip_s_putfield {kx : Nat} (h : ip_st Fd Ft Cn Nw nL ini (.putfield kx) pc lo st w = some r) (hx : p.tables.exec = Jvm.exec) (hb : c.code = cc) (hdg : decode cc pc = .ok (.putfield kx, 3)) (hK : va_K D cl (ip_T aC) s) (hts : ip_TK Ts s) (hown : s.vm.findClass own = some m.cls) (hFd : ∀ (k ci j : Nat), Fd k = some (ci, j) → ∃ (C : String) (T : u_T) (N : Nat), cl[ci]? = some (C, T, N) ∧ j < N ∧ Cond.fieldLink own k (T j).1 (T j).2.1 (T j).2.2.1 ∈ Ts) (hcl : ∀ (ci : Nat) (C : String) (T : u_T) (N : Nat), cl[ci]? = some (C, T, N) → ip_Fok Ts C T N) (hFt : ∀ (ci j tc : Nat) (fin : Bool) (C : String) (T : u_T) (N : Nat), Ft ci j = some (tc, fin) → cl[ci]? = some (C, T, N) → j < N → (T j).2.2.2 = fin ∧ ∃ ty, parseFieldDescriptor (T j).2.2.1 = some ty ∧ ip_ty tc ty) (hini : ∀ (ci : Nat) (C : String) (T : u_T) (N : Nat), ini = some ci → cl[ci]? = some (C, T, N) → meth.name = "<init>" ∧ ∀ j, j < N → (T j).1 = own) (k : ip_Vr p l e R s m args below meth c D cl aC b sc nL n0 s0 Q r) : ip_V p l e R s m args below meth c D cl aC b sc nL n0 s0 Q w pc lo st := by
  simp only [ip_st] at h
  split at h
  · split at h
    · rename_i hf he
      split at h
      · rename_i hft
        split at h
        · rename_i hcc
          obtain ⟨hci, hfo, hjl, hfin⟩ := hcc
          subst hci
          cases h
          obtain ⟨C, T, N, hc, hj, hlk⟩ := hFd _ _ _ hf
          obtain ⟨hin, hnm, ty0, hty⟩ := hcl _ _ _ _ hc
          obtain ⟨hf1, ty, hd, hty2⟩ := hFt _ _ _ _ _ _ _ hft hc hj
          obtain ⟨hn, hfit⟩ := ip_ty_ok (b := b) (sc := sc) hty2 hfo
          cases hfb : (T _).2.2.2 with
          | false => exact ip_putf hx hb (fun w hw => hts w hw args) hin ty0 hty hnm hown hK he hc _ hj (hts _ hlk args) (fun _ h9 => h9) hfb hd hn hfit hjl hdg k
          | true =>
            have h7 := hini _ _ _ _ (hfin (by rw [← hf1]; exact hfb)) hc
            exact ip_putfF hx hb (fun w hw => hts w hw args) hin ty0 hty hnm hown hK he hc _ hj (hts _ hlk args) (fun _ h9 => h9) hfb h7.1 (h7.2 _ hj) hd hn hfit hjl hdg k
        · cases h
      · cases h
    · cases h
  · cases h
theorem ip_s_new {kx : Nat} (h : ip_st Fd Ft Cn Nw nL ini (.new kx) pc lo st w = some r) (hx : p.tables.exec = Jvm.exec) (hb : c.code = cc) (hdg : decode cc pc = .ok (.new kx, 3)) (hK : va_K D cl (ip_T aC) s) (hts : ip_TK Ts s) (hown : s.vm.findClass own = some m.cls) (hFd : ∀ (k ci j : Nat), Fd k = some (ci, j) → ∃ (C : String) (T : u_T) (N : Nat), cl[ci]? = some (C, T, N) ∧ j < N ∧ Cond.fieldLink own k (T j).1 (T j).2.1 (T j).2.2.1 ∈ Ts) (hcl : ∀ (ci : Nat) (C : String) (T : u_T) (N : Nat), cl[ci]? = some (C, T, N) → ip_Fok Ts C T N) (hn0 : n0 ≤ w.1) (hs0 : s0 ≤ w.2.1) (hcells : r.2.2.2.1 ≤ n0 + R.cells) (hslots : r.2.2.2.2.1 ≤ s0 + R.slots) (hNw : ∀ (k ci : Nat) (fs : List Value), Nw k = some (ci, fs) → ∃ (C : String) (T : u_T) (N : Nat) (ty : Nat → FieldType), cl[ci]? = some (C, T, N) ∧ Cond.classLink own k C ∈ Ts ∧ Cond.instantiable C N ∈ Ts ∧ Cond.initialized C ∈ Ts ∧ N = fs.length ∧ (∀ k, k < N → parseFieldDescriptor (T k).2.2.1 = some (ty k)) ∧ ∀ j, j < N → defaultValue (ty j) = vp_V (fs.map (ip_v b sc)) j) (k : ip_Vr p l e R s m args below meth c D cl aC b sc nL n0 s0 Q r) : ip_V p l e R s m args below meth c D cl aC b sc nL n0 s0 Q w pc lo st := by
  simp only [ip_st] at h
  split at h
  · rename_i hnw
    cases h
    obtain ⟨C, T, N, ty, hc, hlk, hinst, hinit, hlen, hty, hfs⟩ := hNw _ _ _ hnw
    subst hlen
    exact ip_new hx hb (fun w hw => hts w hw args) (hcl _ _ _ _ hc).1 ty hty hown (hts _ hlk args) (hts _ hinst args) (hts _ hinit args) hK hc hfs hn0 hs0 hcells hslots hdg k
  · cases h
end IPS
end
section
/-! part 07: arrays made, constants; the whole simple step is sound -/
section IPT
variable {p : Program} {l : Launch} {e : Env} {R : Room} {s : State} {m : MethodId} {args : Array Value} {below : List Frame} {meth : Method} {c : Code} {Q : State → Prop}
variable {D : va_G} {cl : List vw_C} {aC : Nat → ClassId} {b : Nat} {sc : Nat → Nat} {nL n0 s0 : Nat} {cc : ByteArray} {w : ip_W} {pc : Nat} {lo : List (Nat × Value)} {st : List Value} {Ts : List Cond} {own : String}
variable {Fd : Nat → Option (Nat × Nat)} {Ft : Nat → Nat → Option (Nat × Bool)} {Cn : Nat → Option Value} {Nw : Nat → Option (Nat × List Value)} {ini : Option Nat} {r : ip_R}
set_option maxHeartbeats 400000 in
theorem ip_s_newarray {t : ArrayType} (h : ip_st Fd Ft Cn Nw nL ini (.newarray t) pc lo st w = some r) (hx : p.tables.exec = Jvm.exec) (hb : c.code = cc) (hdg : decode cc pc = .ok (.newarray t, 2)) (hK : va_K D cl (ip_T aC) s) (hts : ip_TK Ts s) (hA : Cond.arrayClass .int ∈ Ts ∧ Cond.arrayClass .byte ∈ Ts ∧ Cond.arrayClass .long ∈ Ts ∧ Cond.arrayClass .boolean ∈ Ts) (hn0 : n0 ≤ w.1) (hs0 : s0 ≤ w.2.1) (hcells : r.2.2.2.1 ≤ n0 + R.cells) (hslots : r.2.2.2.2.1 ≤ s0 + R.slots) (k : ip_Vr p l e R s m args below meth c D cl aC b sc nL n0 s0 Q r) : ip_V p l e R s m args below meth c D cl aC b sc nL n0 s0 Q w pc lo st := by
  simp only [ip_st] at h
  split at h
  · rename_i n rr
    cases t
    all_goals simp only [ip_atk] at h
    case boolean =>
      split at h
      · rename_i hn
        cases h
        have harr : (Cond.arrayClass (newarray.typeOf .boolean)).before args s = true := hts _ hA.2.2.2 args
        have hby : n.toNatClampNeg * componentBytes .boolean ≤ 536870912 := by
          have h3 : componentBytes .boolean ≤ 8 := by decide
          have h4 := Nat.mul_le_mul hn.2 h3
          omega
        have hcel : ∀ cA : ClassId, (match ip_e b sc (fun _ => cA) (.inl (3, n.toNatClampNeg, .inl (fun _ => 0))) with | .inl y => vp_cell y.1 y.2 | .inr _ => arrV 0 0 (fun _ => .null)) = arrV cA n.toNatClampNeg (fun _ => defaultValue .boolean) := fun _ => rfl
        exact ip_newa (atype := .boolean) (ty := .boolean) (n := n) (N' := n.toNatClampNeg) (kd := 3) (x0 := .inl (fun _ => 0)) hx hb harr rfl hK rfl hcel hn.1 rfl hby (fun _ h => h) hn0 hs0 hcells hslots hdg k
      · cases h
    case byte =>
      split at h
      · rename_i hn
        cases h
        have harr : (Cond.arrayClass (newarray.typeOf .byte)).before args s = true := hts _ hA.2.1 args
        have hby : n.toNatClampNeg * componentBytes .byte ≤ 536870912 := by
          have h3 : componentBytes .byte ≤ 8 := by decide
          have h4 := Nat.mul_le_mul hn.2 h3
          omega
        have hcel : ∀ cA : ClassId, (match ip_e b sc (fun _ => cA) (.inl (1, n.toNatClampNeg, .inl (fun _ => 0))) with | .inl y => vp_cell y.1 y.2 | .inr _ => arrV 0 0 (fun _ => .null)) = arrV cA n.toNatClampNeg (fun _ => defaultValue .byte) := fun _ => rfl
        exact ip_newa (atype := .byte) (ty := .byte) (n := n) (N' := n.toNatClampNeg) (kd := 1) (x0 := .inl (fun _ => 0)) hx hb harr rfl hK rfl hcel hn.1 rfl hby (fun _ h => h) hn0 hs0 hcells hslots hdg k
      · cases h
    case int =>
      split at h
      · rename_i hn
        cases h
        have harr : (Cond.arrayClass (newarray.typeOf .int)).before args s = true := hts _ hA.1 args
        have hby : n.toNatClampNeg * componentBytes .int ≤ 536870912 := by
          have h3 : componentBytes .int ≤ 8 := by decide
          have h4 := Nat.mul_le_mul hn.2 h3
          omega
        have hcel : ∀ cA : ClassId, (match ip_e b sc (fun _ => cA) (.inl (0, n.toNatClampNeg, .inl (fun _ => 0))) with | .inl y => vp_cell y.1 y.2 | .inr _ => arrV 0 0 (fun _ => .null)) = arrV cA n.toNatClampNeg (fun _ => defaultValue .int) := fun _ => rfl
        exact ip_newa (atype := .int) (ty := .int) (n := n) (N' := n.toNatClampNeg) (kd := 0) (x0 := .inl (fun _ => 0)) hx hb harr rfl hK rfl hcel hn.1 rfl hby (fun _ h => h) hn0 hs0 hcells hslots hdg k
      · cases h
    case long =>
      split at h
      · rename_i hn
        cases h
        have harr : (Cond.arrayClass (newarray.typeOf .long)).before args s = true := hts _ hA.2.2.1 args
        have hby : n.toNatClampNeg * componentBytes .long ≤ 536870912 := by
          have h3 : componentBytes .long ≤ 8 := by decide
          have h4 := Nat.mul_le_mul hn.2 h3
          omega
        have hcel : ∀ cA : ClassId, (match ip_e b sc (fun _ => cA) (.inl (2, n.toNatClampNeg, .inr (.inl (fun _ => 0)))) with | .inl y => vp_cell y.1 y.2 | .inr _ => arrV 0 0 (fun _ => .null)) = arrV cA n.toNatClampNeg (fun _ => defaultValue .long) := fun _ => rfl
        exact ip_newa (atype := .long) (ty := .long) (n := n) (N' := n.toNatClampNeg) (kd := 2) (x0 := .inr (.inl (fun _ => 0))) hx hb harr rfl hK rfl hcel hn.1 rfl hby (fun _ h => h) hn0 hs0 hcells hslots hdg k
      · cases h
    all_goals cases h
  · cases h
theorem ip_s_anewarray {kx : Nat} (h : ip_st Fd Ft Cn Nw nL ini (.anewarray kx) pc lo st w = some r) (hx : p.tables.exec = Jvm.exec) (hb : c.code = cc) (hdg : decode cc pc = .ok (.anewarray kx, 3)) (hK : va_K D cl (ip_T aC) s) (hts : ip_TK Ts s) (hown : s.vm.findClass own = some m.cls) (hlk : Cond.classLink own kx "VitalTwin$Symbol" ∈ Ts) (hov : Cond.arrayOver (.object "VitalTwin$Symbol") ∈ Ts) (hn0 : n0 ≤ w.1) (hs0 : s0 ≤ w.2.1) (hcells : r.2.2.2.1 ≤ n0 + R.cells) (hslots : r.2.2.2.2.1 ≤ s0 + R.slots) (k : ip_Vr p l e R s m args below meth c D cl aC b sc nL n0 s0 Q r) : ip_V p l e R s m args below meth c D cl aC b sc nL n0 s0 Q w pc lo st := by
  simp only [ip_st] at h
  split at h
  · split at h
    · rename_i hn
      cases h
      exact ip_anew hx hb hown (hts _ hlk args) (hts _ hov args) hK hn.1 rfl (by have := hn.2; omega) hn0 hs0 hcells hslots hdg k
    · cases h
  · cases h
/-- a constant that a method loads -/
def ip_Cok (Ts : List Cond) (own : String) (k : Nat) (v : Value) : Prop := (∃ x, v = .int x ∧ Cond.constant own k x ∈ Ts) ∨ (∃ x, v = .long x ∧ Cond.constantLong own k x ∈ Ts) ∨ ∃ j, v = .retAddr j
/-- the rule for String constants, to be paid where they are known -/
def ip_Sok (p : Program) (l : Launch) (e : Env) (R : Room) (s : State) (m : MethodId) (args : Array Value) (below : List Frame) (meth : Method) (c : Code) (D : va_G) (cl : List vw_C) (aC : Nat → ClassId) (b : Nat) (sc : Nat → Nat) (nL n0 s0 : Nat) (Q : State → Prop) (Cn : Nat → Option Value) : Prop :=
  ∀ (k j pc n : Nat) (i : Instr) (w : ip_W) (lo : List (Nat × Value)) (st : List Value), Cn k = some (.retAddr j) → decode c.code pc = .ok (i, n) → ((i = .ldc k ∧ n = 2) ∨ (i = .ldc_w k ∧ n = 3)) → ip_V p l e R s m args below meth c D cl aC b sc nL n0 s0 Q w (pc + n) lo (.retAddr j :: st) → ip_V p l e R s m args below meth c D cl aC b sc nL n0 s0 Q w pc lo st
theorem ip_s_ldc {kx : Nat} (h : ip_st Fd Ft Cn Nw nL ini (.ldc kx) pc lo st w = some r) (hx : p.tables.exec = Jvm.exec) (hb : c.code = cc) (hdg : decode cc pc = .ok (.ldc kx, 2)) (hts : ip_TK Ts s) (hown : s.vm.findClass own = some m.cls) (hCn : ∀ (k : Nat) (v : Value), Cn k = some v → ip_Cok Ts own k v) (hl2 : ∀ x : Int64, Cn kx ≠ some (.long x)) (hSk : ip_Sok p l e R s m args below meth c D cl aC b sc nL n0 s0 Q Cn) (k : ip_Vr p l e R s m args below meth c D cl aC b sc nL n0 s0 Q r) : ip_V p l e R s m args below meth c D cl aC b sc nL n0 s0 Q w pc lo st := by
  simp only [ip_st] at h
  split at h
  · rename_i v hc
    cases h
    rcases hCn _ _ hc with ⟨x, rfl, hk⟩ | ⟨x, rfl, hk⟩ | ⟨j, rfl⟩
    · exact fun H locs ls hG hS hl => lv_ldc hx hb hown (hts _ hk args) hdg (k H locs ls hG hS hl)
    · exact absurd hc (hl2 x)
    · exact hSk kx j pc 2 (.ldc kx) w lo st hc (by rw [hb]; exact hdg) (Or.inl ⟨rfl, rfl⟩) k
  · cases h
theorem ip_s_ldc_w {kx : Nat} (h : ip_st Fd Ft Cn Nw nL ini (.ldc_w kx) pc lo st w = some r) (hx : p.tables.exec = Jvm.exec) (hb : c.code = cc) (hdg : decode cc pc = .ok (.ldc_w kx, 3)) (hts : ip_TK Ts s) (hown : s.vm.findClass own = some m.cls) (hCn : ∀ (k : Nat) (v : Value), Cn k = some v → ip_Cok Ts own k v) (hl2 : ∀ x : Int64, Cn kx ≠ some (.long x)) (hSk : ip_Sok p l e R s m args below meth c D cl aC b sc nL n0 s0 Q Cn) (k : ip_Vr p l e R s m args below meth c D cl aC b sc nL n0 s0 Q r) : ip_V p l e R s m args below meth c D cl aC b sc nL n0 s0 Q w pc lo st := by
  simp only [ip_st] at h
  split at h
  · rename_i v hc
    cases h
    rcases hCn _ _ hc with ⟨x, rfl, hk⟩ | ⟨x, rfl, hk⟩ | ⟨j, rfl⟩
    · exact fun H locs ls hG hS hl => lv_ldcw hx hb hown (hts _ hk args) hdg (k H locs ls hG hS hl)
    · exact absurd hc (hl2 x)
    · exact hSk kx j pc 3 (.ldc_w kx) w lo st hc (by rw [hb]; exact hdg) (Or.inr ⟨rfl, rfl⟩) k
  · cases h
theorem ip_s_ldc2 {kx : Nat} (h : ip_st Fd Ft Cn Nw nL ini (.ldc2_w kx) pc lo st w = some r) (hx : p.tables.exec = Jvm.exec) (hb : c.code = cc) (hdg : decode cc pc = .ok (.ldc2_w kx, 3)) (hts : ip_TK Ts s) (hown : s.vm.findClass own = some m.cls) (hC2 : ∃ x, Cn kx = some (.long x) ∧ Cond.constantLong own kx x ∈ Ts) (k : ip_Vr p l e R s m args below meth c D cl aC b sc nL n0 s0 Q r) : ip_V p l e R s m args below meth c D cl aC b sc nL n0 s0 Q w pc lo st := by
  simp only [ip_st] at h
  obtain ⟨x, hc, hk⟩ := hC2
  rw [hc] at h
  cases h
  exact fun H locs ls hG hS hl => lv_ldc2 hx hb hown (hts _ hk args) hdg (k H locs ls hG hS hl)
end IPT
end
section
/-! part 08: the run of a method, by calls too; its tables and what must hold of them -/
/-- the tables: instructions; fields; their types; constants; classes made; calls (callee, arguments, kind, the receiver's class); locals; the class whose constructor it is; return types (0 none, 1 int, 2 boolean, 3 long, 4 a reference); what the library's own members give -/
abbrev ip_TB : Type := (Nat → Nat → Option (Instr × Nat)) × (Nat → Nat → Option (Nat × Nat)) × (Nat → Nat → Option (Nat × Bool)) × (Nat → Nat → Option Value) × (Nat → Nat → Option (Nat × List Value)) × (Nat → Nat → Option (Nat × Nat × Nat × Nat)) × (Nat → Nat) × (Nat → Option Nat) × (Nat → Nat) × (Nat → List Value → ip_W → Option (Option Value × ip_W))
def tI (tb : ip_TB) : Nat → Nat → Option (Instr × Nat) := tb.1
def tF (tb : ip_TB) : Nat → Nat → Option (Nat × Nat) := tb.2.1
def tFt (tb : ip_TB) : Nat → Nat → Option (Nat × Bool) := tb.2.2.1
def tC (tb : ip_TB) : Nat → Nat → Option Value := tb.2.2.2.1
def tN (tb : ip_TB) : Nat → Nat → Option (Nat × List Value) := tb.2.2.2.2.1
def tM (tb : ip_TB) : Nat → Nat → Option (Nat × Nat × Nat × Nat) := tb.2.2.2.2.2.1
def tL (tb : ip_TB) : Nat → Nat := tb.2.2.2.2.2.2.1
def tJ (tb : ip_TB) : Nat → Option Nat := tb.2.2.2.2.2.2.2.1
def tR (tb : ip_TB) : Nat → Nat := tb.2.2.2.2.2.2.2.2.1
def tP (tb : ip_TB) : Nat → List Value → ip_W → Option (Option Value × ip_W) := tb.2.2.2.2.2.2.2.2.2
/-- 0 a simple instruction, 1 a call, 2 an end -/
def ip_ck (i : Instr) : Nat := match i with
  | .invokevirtual _ => 1
  | .invokestatic _ => 1
  | .invokespecial _ => 1
  | .ireturn => 2
  | .lreturn => 2
  | .areturn => 2
  | .return_ => 2
  | .athrow => 2
  | _ => 0
def ip_ci (i : Instr) : Option (Nat × Nat) := match i with
  | .invokestatic k => some (0, k)
  | .invokevirtual k => some (1, k)
  | .invokespecial k => some (2, k)
  | _ => none
/-- n arguments off the stack, the first one first -/
def ip_take (n : Nat) (st : List Value) : Option (List Value × List Value) := if n ≤ st.length then some ((st.take n).reverse, st.drop n) else none
theorem ip_take_of {n : Nat} {st av rest : List Value} (h : ip_take n st = some (av, rest)) : st = av.reverse ++ rest ∧ av.length = n := by
  unfold ip_take at h
  split at h
  · rename_i hn
    cases h
    constructor
    · rw [List.reverse_reverse, List.take_append_drop]
    · rw [List.length_reverse, List.length_take]
      omega
  · cases h
def ip_end (rc : Nat) (i : Instr) (st : List Value) (w : ip_W) : Option (Outcome × ip_W) := match i with
  | .ireturn => (match st with
    | [.int v] => if rc = 1 ∨ (rc = 2 ∧ (v = 0 ∨ v = 1)) then some (.returned (some (.int v)), w) else none
    | _ => none)
  | .lreturn => (match st with
    | [.long v] => if rc = 3 then some (.returned (some (.long v)), w) else none
    | _ => none)
  | .areturn => (match st with
    | [.ref a] => if rc = 4 then some (.returned (some (.ref a)), w) else none
    | [.null] => if rc = 4 then some (.returned (some .null), w) else none
    | _ => none)
  | .return_ => (match st with
    | [] => if rc = 0 then some (.returned none, w) else none
    | _ => none)
  | .athrow => (match st with
    | .ref a :: _ => some (.threw a, w)
    | _ => none)
  | _ => none
/-- a call's arguments, with the receiver, and what stays on the stack -/
def ip_arg (kc n ci : Nat) (st : List Value) (w : ip_W) : Option (List Value × List Value) := match ip_take n st with
  | none => none
  | some (av, rest) => if kc = 0 then some (av, rest) else (match rest with
    | .ref a :: r => if kc = 2 then some (.ref a :: av, r) else (match w.2.2 a with
      | some (.inr (cj, _)) => if cj = ci then some (.ref a :: av, r) else none
      | _ => none)
    | _ => none)
def ip_ex (tb : ip_TB) : Nat → Nat → Nat → Nat → List (Nat × Value) → List Value → ip_W → Option (Outcome × ip_W)
  | 0, _, _, _, _, _, _ => none
  | f + 1, d, y, pc, lo, st, w => match tI tb y pc with
    | none => none
    | some (i, _) => if ip_ck i = 0 then (match ip_st (tF tb y) (tFt tb) (tC tb y) (tN tb y) (tL tb y) (tJ tb y) i pc lo st w with
        | some r => ip_ex tb f d y r.1 r.2.1 r.2.2.1 r.2.2.2
        | none => none)
      else if ip_ck i = 2 then ip_end (tR tb y) i st w
      else (match ip_ci i with
        | none => none
        | some (kc, k) => (match tM tb y k with
          | none => none
          | some (z, n, kc2, ci) => if kc2 = 3 then (match st with
              | .ref _ :: r => if kc = 2 ∧ 1 ≤ d ∧ (r.map fun v => v.category).sum ≤ 8 then ip_ex tb f d y (pc + 3) lo r w else none
              | _ => none)
            else if kc2 = kc then (match ip_arg kc n ci st w with
              | none => none
              | some (av, rest) => if 1 ≤ d ∧ (rest.map fun v => v.category).sum ≤ 8 ∧ (lg_sl av).length ≤ tL tb z then (match ip_ex tb f (d - 1) z 0 (lv_args 0 av) [] w with
                | some (.returned v, w2) => ip_ex tb f d y (pc + 3) lo (v.toList ++ rest) w2
                | some (.threw a, w2) => some (.threw a, w2)
                | none => none) else none)
            else if kc2 = kc + 4 then (match ip_arg kc n ci st w with
              | none => none
              | some (av, rest) => if 4 ≤ d ∧ (rest.map fun v => v.category).sum ≤ 8 then (match tP tb z av w with
                | some (v, w2) => if w.1 ≤ w2.1 ∧ w.2.1 ≤ w2.2.1 then ip_ex tb f d y (pc + 3) lo (v.toList ++ rest) w2 else none
                | none => none) else none)
            else none))
/-- worlds only grow -/
theorem ip_st_mono {Fd : Nat → Option (Nat × Nat)} {Ft : Nat → Nat → Option (Nat × Bool)} {Cn : Nat → Option Value} {Nw : Nat → Option (Nat × List Value)} {nL : Nat} {ini : Option Nat} {i : Instr} {pc : Nat} {lo : List (Nat × Value)} {st : List Value} {w : ip_W} {r : ip_R} (h : ip_st Fd Ft Cn Nw nL ini i pc lo st w = some r) : w.1 ≤ r.2.2.2.1 ∧ w.2.1 ≤ r.2.2.2.2.1 := by
  cases i
  all_goals simp only [ip_st] at h
  all_goals (repeat' split at h)
  all_goals first | (cases h; done) | (cases h; exact ⟨Nat.le_refl _, Nat.le_refl _⟩) | (cases h; exact ⟨Nat.le_add_right _ _, Nat.le_add_right _ _⟩)
theorem ip_end_mono {rc : Nat} {i : Instr} {st : List Value} {w : ip_W} {o : Outcome} {w2 : ip_W} (h : ip_end rc i st w = some (o, w2)) : w2 = w := by
  cases i
  all_goals simp only [ip_end] at h
  all_goals (repeat' split at h)
  all_goals first | (cases h; done) | (cases h; rfl)
theorem ip_ex_mono (tb : ip_TB) : ∀ (f d y pc : Nat) (lo : List (Nat × Value)) (st : List Value) (w : ip_W) (o : Outcome) (w2 : ip_W), ip_ex tb f d y pc lo st w = some (o, w2) → w.1 ≤ w2.1 ∧ w.2.1 ≤ w2.2.1 := by
  intro f
  induction f with
  | zero => intro d y pc lo st w o w2 h; simp [ip_ex] at h
  | succ f ih =>
    intro d y pc lo st w o w2 h
    unfold ip_ex at h
    split at h
    · cases h
    · split at h
      · split at h
        · rename_i hst
          have h1 := ip_st_mono hst
          have h2 := ih _ _ _ _ _ _ _ _ h
          omega
        · cases h
      · split at h
        · rw [ip_end_mono h]
          exact ⟨Nat.le_refl _, Nat.le_refl _⟩
        · split at h
          · cases h
          · split at h
            · cases h
            · split at h
              · split at h
                · split at h
                  · exact ih _ _ _ _ _ _ _ _ h
                  · cases h
                · cases h
              · split at h
                · split at h
                  · cases h
                  · split at h
                    · split at h
                      · rename_i hc
                        have h1 := ih _ _ _ _ _ _ _ _ hc
                        have h2 := ih _ _ _ _ _ _ _ _ h
                        omega
                      · rename_i hc
                        have h1 := ih _ _ _ _ _ _ _ _ hc
                        cases h
                        exact h1
                      · cases h
                    · cases h
                · split at h
                  · split at h
                    · cases h
                    · split at h
                      · split at h
                        · split at h
                          · rename_i hw
                            have h2 := ih _ _ _ _ _ _ _ _ h
                            omega
                          · cases h
                        · cases h
                      · cases h
                  · cases h
end
section
/-! part 09: the run is sound -/
def ip_sw (i : Instr) : Bool := match i with
  | .lookupswitch _ _ => true
  | .tableswitch _ _ _ _ => true
  | _ => false
def ip_rc (rc : Nat) (ret : Option FieldType) : Prop := (rc = 0 ∧ ret = none) ∨ (rc = 1 ∧ ret = some .int) ∨ (rc = 2 ∧ ret = some .boolean) ∨ (rc = 3 ∧ ret = some .long) ∨ (rc = 4 ∧ ∃ rt, ret = some rt ∧ ((∃ n, rt = .object n) ∨ ∃ t, rt = .array t))
/-- what the tables say of a method that is run -/
def ip_Zok (tb : ip_TB) (Ts : List Cond) (mN : Nat → MethodName) (mB : Nat → ByteArray) (mR : Nat → Option FieldType) (z n : Nat) : Prop :=
  Cond.code (mN z) (mB z) (tL tb z) (mR z) ∈ Ts ∧ tL tb z ≤ 29 ∧ plainFor (mN z) = true ∧ ((mN z).cls ≠ "java/lang/invoke/MethodHandle" ∧ (mN z).cls ≠ "java/lang/invoke/VarHandle") ∧ (parseMethodDescriptor (mN z).desc).map (fun d => d.parameters.length) = some n ∧ ip_rc (tR tb z) (mR z)
/-- of a call -/
def ip_Mok (tb : ip_TB) (Ts : List Cond) (cl : List vw_C) (mN : Nat → MethodName) (mB : Nat → ByteArray) (mR : Nat → Option FieldType) (y k z n kc ci : Nat) : Prop :=
  (kc = 0 → ip_Zok tb Ts mN mB mR z n ∧ Cond.methodLink (mN y).cls k (mN z) ∈ Ts ∧ Cond.static (mN z) ∈ Ts ∧ Cond.initialized (mN z).cls ∈ Ts) ∧
  (kc = 1 → ip_Zok tb Ts mN mB mR z n ∧ Cond.methodLink (mN y).cls k (mN z) ∈ Ts ∧ Cond.instanceMethod (mN z) ∈ Ts ∧ ∃ r : vw_C, cl[ci]? = some r ∧ Cond.selects r.1 (mN z) (mN z) ∈ Ts) ∧
  (kc = 2 → ip_Zok tb Ts mN mB mR z n ∧ (Cond.methodLink (mN y).cls k (mN z) ∈ Ts ∨ ∃ host, Cond.methodLinkNest (mN y).cls k (mN z) host ∈ Ts) ∧ Cond.instanceMethod (mN z) ∈ Ts ∧ (mN z).name = "<init>" ∧ mR z = none) ∧
  (kc = 3 → Cond.methodLink (mN y).cls k Lib.objectInit ∈ Ts ∧ Cond.instanceMethod Lib.objectInit ∈ Ts ∧ Cond.code Lib.objectInit ⟨#[0xb1]⟩ 1 none ∈ Ts)
/-- of all -/
def ip_OK (tb : ip_TB) (Ts : List Cond) (cl : List vw_C) (b : Nat) (sc : Nat → Nat) (mN : Nat → MethodName) (mB : Nat → ByteArray) (mR : Nat → Option FieldType) : Prop :=
  (∀ w ∈ Ts, goodWord w = true) ∧
  (∀ (y pc : Nat) (i : Instr) (n : Nat), tI tb y pc = some (i, n) → decode (mB y) pc = .ok (i, n) ∧ (n = ip_ln i ∨ ip_sw i = true)) ∧
  (∀ (y k ci j : Nat), tF tb y k = some (ci, j) → ∃ (C : String) (T : u_T) (N : Nat), cl[ci]? = some (C, T, N) ∧ j < N ∧ Cond.fieldLink (mN y).cls k (T j).1 (T j).2.1 (T j).2.2.1 ∈ Ts) ∧
  (∀ (ci : Nat) (C : String) (T : u_T) (N : Nat), cl[ci]? = some (C, T, N) → ip_Fok Ts C T N) ∧
  (∀ (ci j tc : Nat) (fin : Bool) (C : String) (T : u_T) (N : Nat), tFt tb ci j = some (tc, fin) → cl[ci]? = some (C, T, N) → j < N → (T j).2.2.2 = fin ∧ ∃ ty, parseFieldDescriptor (T j).2.2.1 = some ty ∧ ip_ty tc ty) ∧
  (∀ (y ci : Nat) (C : String) (T : u_T) (N : Nat), tJ tb y = some ci → cl[ci]? = some (C, T, N) → (mN y).name = "<init>" ∧ ∀ j, j < N → (T j).1 = (mN y).cls) ∧
  (∀ (y k : Nat) (v : Value), tC tb y k = some v → ip_Cok Ts (mN y).cls k v) ∧
  (∀ (y pc k n : Nat), (tI tb y pc = some (.ldc k, n) ∨ tI tb y pc = some (.ldc_w k, n)) → ∀ x : Int64, tC tb y k ≠ some (.long x)) ∧
  (∀ (y pc k n : Nat), tI tb y pc = some (.ldc2_w k, n) → ∃ x, tC tb y k = some (.long x) ∧ Cond.constantLong (mN y).cls k x ∈ Ts) ∧
  (∀ (y k ci : Nat) (fs : List Value), tN tb y k = some (ci, fs) → ∃ (C : String) (T : u_T) (N : Nat) (ty : Nat → FieldType), cl[ci]? = some (C, T, N) ∧ Cond.classLink (mN y).cls k C ∈ Ts ∧ Cond.instantiable C N ∈ Ts ∧ Cond.initialized C ∈ Ts ∧ N = fs.length ∧ (∀ k, k < N → parseFieldDescriptor (T k).2.2.1 = some (ty k)) ∧ ∀ j, j < N → defaultValue (ty j) = vp_V (fs.map (ip_v b sc)) j) ∧
  (Cond.arrayClass .int ∈ Ts ∧ Cond.arrayClass .byte ∈ Ts ∧ Cond.arrayClass .long ∈ Ts ∧ Cond.arrayClass .boolean ∈ Ts) ∧
  (∀ (y pc k n : Nat), tI tb y pc = some (.anewarray k, n) → Cond.classLink (mN y).cls k "VitalTwin$Symbol" ∈ Ts) ∧
  Cond.arrayOver (.object "VitalTwin$Symbol") ∈ Ts ∧
  (∃ r11 : vw_C, cl[11]? = some r11 ∧ r11.1 = "VitalTwin$Symbol") ∧
  (∀ (y k z n kc ci : Nat), tM tb y k = some (z, n, kc, ci) → ip_Mok tb Ts cl mN mB mR y k z n kc ci)
/-- where a method y stands -/
def ip_Cx (tb : ip_TB) (Ts : List Cond) (Ev : State → Prop) (D : va_G) (cl : List vw_C) (aC : Nat → ClassId) (b : Nat) (mN : Nat → MethodName) (mB : Nat → ByteArray) (y : Nat) (p : Program) (s : State) (m : MethodId) (meth : Method) (c : Code) : Prop :=
  p.tables.exec = Jvm.exec ∧ c.code = mB y ∧ c.maxLocals = tL tb y ∧ ip_rc (tR tb y) meth.sig.returnType ∧ meth.locks = false ∧ c.exceptionTable.isEmpty = true ∧ meth.name = (mN y).name ∧ s.vm.findClass (mN y).cls = some m.cls ∧ ip_TK Ts s ∧ Ev s ∧ va_K D cl (ip_T aC) s ∧ b ≤ s.heap.size
/-- the String constants' rule, wherever a method stands -/
def ip_Sall (l : Launch) (tb : ip_TB) (Ts : List Cond) (Ev : State → Prop) (D : va_G) (cl : List vw_C) (aC : Nat → ClassId) (b : Nat) (sc : Nat → Nat) (mN : Nat → MethodName) (mB : Nat → ByteArray) : Prop :=
  ∀ (y : Nat) (p : Program) (e : Env) (R : Room) (s : State) (m : MethodId) (args : Array Value) (below : List Frame) (meth : Method) (c : Code) (n0 s0 : Nat) (Q : State → Prop), ip_Cx tb Ts Ev D cl aC b mN mB y p s m meth c → ip_Sok p l e R s m args below meth c D cl aC b sc (tL tb y) n0 s0 Q (tC tb y)
/-- the library's own members' rule, wherever a method stands -/
def ip_Pall (l : Launch) (tb : ip_TB) (Ts : List Cond) (Ev : State → Prop) (D : va_G) (cl : List vw_C) (aC : Nat → ClassId) (b : Nat) (sc : Nat → Nat) (mN : Nat → MethodName) (mB : Nat → ByteArray) : Prop :=
  ∀ (y : Nat) (p : Program) (e : Env) (R : Room) (s : State) (m : MethodId) (args : Array Value) (below : List Frame) (meth : Method) (c : Code) (n0 s0 : Nat) (Q : State → Prop) (k z n kc ci pc : Nat) (i : Instr) (av rest st : List Value) (lo : List (Nat × Value)) (v : Option Value) (w w2 : ip_W), ip_Cx tb Ts Ev D cl aC b mN mB y p s m meth c →
    tM tb y k = some (z, n, kc + 4, ci) → ip_ci i = some (kc, k) → decode (mB y) pc = .ok (i, 3) → ip_arg kc n ci st w = some (av, rest) → (rest.map fun v => v.category).sum ≤ 8 → 4 ≤ R.frames → 192 ≤ R.locals → n0 ≤ w.1 → s0 ≤ w.2.1 → w2.1 ≤ n0 + R.cells → w2.2.1 ≤ s0 + R.slots → tP tb z av w = some (v, w2) →
    ip_V p l e R s m args below meth c D cl aC b sc (tL tb y) n0 s0 Q w2 (pc + 3) lo (v.toList ++ rest) → ip_V p l e R s m args below meth c D cl aC b sc (tL tb y) n0 s0 Q w pc lo st
section IPZ
variable {p : Program} {l : Launch} {e : Env} {R : Room} {s : State} {m : MethodId} {args : Array Value} {below : List Frame} {meth : Method} {c : Code} {Q : State → Prop}
variable {D : va_G} {cl : List vw_C} {aC : Nat → ClassId} {b : Nat} {sc : Nat → Nat} {nL n0 s0 : Nat} {cc : ByteArray} {w w2 : ip_W} {pc : Nat} {lo : List (Nat × Value)} {st : List Value} {Ts : List Cond} {Ev : State → Prop}
variable {tb : ip_TB} {mN : Nat → MethodName} {mB : Nat → ByteArray} {mR : Nat → Option FieldType}
theorem ip_objInit (hx : p.tables.exec = Jvm.exec) (hb : c.code = cc) (hml : c.maxLocals = nL) {own : String} {idx a0 : Nat} (hown : s.vm.findClass own = some m.cls) (hlink : (Cond.methodLink own idx Lib.objectInit).before args s = true) (hinst : (Cond.instanceMethod Lib.objectInit).before args s = true) (hcode : (Cond.code Lib.objectInit ⟨#[0xb1]⟩ 1 none).before args s = true) (hsum : (st.map fun v => v.category).sum ≤ 8) (hfr : 1 ≤ R.frames) (hlo : 20 ≤ R.locals) (hdg : decode cc pc = .ok (.invokespecial idx, 3)) (k : ip_V p l e R s m args below meth c D cl aC b sc nL n0 s0 Q w (pc + 3) lo st) : ip_V p l e R s m args below meth c D cl aC b sc nL n0 s0 Q w pc lo (.ref a0 :: st) := by
  intro H locs ls hG hS hl
  have hroom : 2 * (F0 m pc ls (st.map (ip_v b sc))).monitorRoom + ((st.map (ip_v b sc)).map fun v => v.category).sum ≤ 8 := lv_room (by rw [ip_sum]; exact hsum)
  exact W.objInit hx hb hown hlink hinst hcode (g := F0 m pc ls ((Value.ref a0 :: st).map (ip_v b sc))) rfl (by rw [hml]; exact hl.1) (a := b + a0) (rest := st.map (ip_v b sc)) rfl hdg hfr (by
    have h9 : 2 * (F0 m pc ls ((Value.ref a0 :: st).map (ip_v b sc))).monitorRoom = 2 * (F0 m pc ls (st.map (ip_v b sc))).monitorRoom := rfl
    rw [h9]
    omega) (k H locs ls hG hS hl)
set_option maxHeartbeats 1000000 in
theorem ip_simple (hOK : ip_OK tb Ts cl b sc mN mB mR) {y : Nat} (hC : ip_Cx tb Ts Ev D cl aC b mN mB y p s m meth c) (hSk : ip_Sok p l e R s m args below meth c D cl aC b sc (tL tb y) n0 s0 Q (tC tb y)) {i : Instr} {n : Nat} {r : ip_R} (hI : tI tb y pc = some (i, n)) (hst : ip_st (tF tb y) (tFt tb) (tC tb y) (tN tb y) (tL tb y) (tJ tb y) i pc lo st w = some r) (hn0 : n0 ≤ w.1) (hs0 : s0 ≤ w.2.1) (hcells : r.2.2.2.1 ≤ n0 + R.cells) (hslots : r.2.2.2.2.1 ≤ s0 + R.slots)
    (k : ip_Vr p l e R s m args below meth c D cl aC b sc (tL tb y) n0 s0 Q r) : ip_V p l e R s m args below meth c D cl aC b sc (tL tb y) n0 s0 Q w pc lo st := by
  obtain ⟨hgood, okI, okF, okcl, okFt, okJ, okC, okL, okL2, okN, okA, okA2, okA3, ⟨r11, ok11⟩, okM⟩ := hOK
  obtain ⟨hx, hb, hml, hrc, hlocks, hexc, hname, hown, hts, hE, hK, hb0⟩ := hC
  obtain ⟨hdg, hn⟩ := okI y pc i n hI
  have hd : ip_sw i = false → decode (mB y) pc = .ok (i, ip_ln i) := fun hs => by
    rcases hn with rfl | hn
    · exact hdg
    · rw [hs] at hn
      cases hn
  have hFd := okF y
  have hNw := okN y
  have hini : ∀ (ci : Nat) (C : String) (T : u_T) (N : Nat), tJ tb y = some ci → cl[ci]? = some (C, T, N) → meth.name = "<init>" ∧ ∀ j, j < N → (T j).1 = (mN y).cls := fun ci C T N h1 h2 => by
    rw [hname]
    exact okJ y ci C T N h1 h2
  cases i
  case iconst => exact ip_s_iconst hst hx hb (hd rfl) k
  case bipush => exact ip_s_bipush hst hx hb (hd rfl) k
  case sipush => exact ip_s_sipush hst hx hb (hd rfl) k
  case lconst => exact ip_s_lconst hst hx hb (hd rfl) k
  case iload_n => exact ip_s_iload_n hst hx hb (hd rfl) k
  case iload => exact ip_s_iload hst hx hb (hd rfl) k
  case lload_n => exact ip_s_lload_n hst hx hb (hd rfl) k
  case lload => exact ip_s_lload hst hx hb (hd rfl) k
  case aload_n => exact ip_s_aload_n hst hx hb (hd rfl) k
  case aload => exact ip_s_aload hst hx hb (hd rfl) k
  case istore_n => exact ip_s_istore_n hst hx hb (hd rfl) k
  case istore => exact ip_s_istore hst hx hb (hd rfl) k
  case lstore_n => exact ip_s_lstore_n hst hx hb (hd rfl) k
  case lstore => exact ip_s_lstore hst hx hb (hd rfl) k
  case astore_n => exact ip_s_astore_n hst hx hb (hd rfl) k
  case astore => exact ip_s_astore hst hx hb (hd rfl) k
  case iinc => exact ip_s_iinc hst hx hb (hd rfl) k
  case iadd => exact ip_s_iadd hst hx hb (hd rfl) k
  case isub => exact ip_s_isub hst hx hb (hd rfl) k
  case imul => exact ip_s_imul hst hx hb (hd rfl) k
  case iand => exact ip_s_iand hst hx hb (hd rfl) k
  case ladd => exact ip_s_ladd hst hx hb (hd rfl) k
  case lsub => exact ip_s_lsub hst hx hb (hd rfl) k
  case lmul => exact ip_s_lmul hst hx hb (hd rfl) k
  case land => exact ip_s_land hst hx hb (hd rfl) k
  case lor => exact ip_s_lor hst hx hb (hd rfl) k
  case lxor => exact ip_s_lxor hst hx hb (hd rfl) k
  case ineg => exact ip_s_ineg hst hx hb (hd rfl) k
  case lneg => exact ip_s_lneg hst hx hb (hd rfl) k
  case i2l => exact ip_s_i2l hst hx hb (hd rfl) k
  case l2i => exact ip_s_l2i hst hx hb (hd rfl) k
  case i2b => exact ip_s_i2b hst hx hb (hd rfl) k
  case i2c => exact ip_s_i2c hst hx hb (hd rfl) k
  case lshl => exact ip_s_lshl hst hx hb (hd rfl) k
  case lshr => exact ip_s_lshr hst hx hb (hd rfl) k
  case lushr => exact ip_s_lushr hst hx hb (hd rfl) k
  case lcmp => exact ip_s_lcmp hst hx hb (hd rfl) k
  case idiv => exact ip_s_idiv hst hx hb (hd rfl) k
  case irem => exact ip_s_irem hst hx hb (hd rfl) k
  case ldiv => exact ip_s_ldiv hst hx hb (hd rfl) k
  case lrem => exact ip_s_lrem hst hx hb (hd rfl) k
  case dup => exact ip_s_dup hst hx hb (hd rfl) k
  case pop => exact ip_s_pop hst hx hb (hd rfl) k
  case dup2 => exact ip_s_dup2 hst hx hb (hd rfl) k
  case ifCond => exact ip_s_ifCond hst hx hb (hd rfl) k
  case if_icmp => exact ip_s_if_icmp hst hx hb (hd rfl) k
  case goto => exact ip_s_goto hst hx hb (hd rfl) k
  case ifnull => exact ip_s_ifnull hst hx hb (hd rfl) k
  case ifnonnull => exact ip_s_ifnonnull hst hx hb (hd rfl) k
  case aconst_null => exact ip_s_null hst hx hb (hd rfl) k
  case lookupswitch => exact ip_s_lookup hst hx hb hdg k
  case tableswitch => exact ip_s_table hst hx hb hdg k
  case arraylength => exact ip_s_arraylength hst hx hb (hd rfl) hK k
  case iaload => exact ip_s_iaload hst hx hb (hd rfl) hK k
  case baload => exact ip_s_baload hst hx hb (hd rfl) hK k
  case laload => exact ip_s_laload hst hx hb (hd rfl) hK k
  case aaload => exact ip_s_aaload hst hx hb (hd rfl) hK k
  case iastore => exact ip_s_iastore hst hx hb (hd rfl) hK k
  case bastore => exact ip_s_bastore hst hx hb (hd rfl) hK k
  case lastore => exact ip_s_lastore hst hx hb (hd rfl) hK k
  case aastore => exact ip_s_aastore hst hx hb (hd rfl) hK ok11 k
  case getfield => exact ip_s_getfield hst hx hb (hd rfl) hK hts hown hFd okcl k
  case putfield => exact ip_s_putfield hst hx hb (hd rfl) hK hts hown hFd okcl okFt hini k
  case new => exact ip_s_new hst hx hb (hd rfl) hK hts hown hFd okcl hn0 hs0 hcells hslots hNw k
  case newarray => exact ip_s_newarray hst hx hb (hd rfl) hK hts okA hn0 hs0 hcells hslots k
  case anewarray => exact ip_s_anewarray hst hx hb (hd rfl) hK hts hown (okA2 y pc _ n hI) okA3 hn0 hs0 hcells hslots k
  case ldc => exact ip_s_ldc hst hx hb (hd rfl) hts hown (okC y) (okL y pc _ n (Or.inl hI)) hSk k
  case ldc_w => exact ip_s_ldc_w hst hx hb (hd rfl) hts hown (okC y) (okL y pc _ n (Or.inr hI)) hSk k
  case ldc2_w => exact ip_s_ldc2 hst hx hb (hd rfl) hts hown (okL2 y pc _ n hI) k
  all_goals (simp [ip_st] at hst)
end IPZ
end
section
/-! part 10: THE RUN IS SOUND: where the interpreter comes to an outcome, so does the machine -/
section IPW
variable {p : Program} {l : Launch} {e : Env} {R : Room} {s : State} {m : MethodId} {args : Array Value} {below : List Frame} {meth : Method} {c : Code} {Q : State → Prop}
variable {D : va_G} {cl : List vw_C} {aC : Nat → ClassId} {b : Nat} {sc : Nat → Nat} {nL n0 s0 : Nat} {cc : ByteArray} {w w2 : ip_W} {pc : Nat} {lo : List (Nat × Value)} {st : List Value} {Ts : List Cond} {Ev : State → Prop}
variable {tb : ip_TB} {mN : Nat → MethodName} {mB : Nat → ByteArray} {mR : Nat → Option FieldType}
theorem ip_args (b : Nat) (sc : Nat → Nat) : ∀ (av : List Value) (i : Nat), lv_args i (av.map (ip_v b sc)) = ip_l b sc (lv_args i av)
  | [], i => rfl
  | v :: vs, i => by
    show (i, ip_v b sc v) :: lv_args (if (ip_v b sc v).category = 2 then i + 2 else i + 1) (vs.map (ip_v b sc)) = (i, ip_v b sc v) :: ip_l b sc (lv_args (if v.category = 2 then i + 2 else i + 1) vs)
    rw [ip_v_cat, ip_args b sc vs]
theorem ip_sl (b : Nat) (sc : Nat → Nat) : ∀ av : List Value, (lg_sl (av.map (ip_v b sc))).length = (lg_sl av).length
  | [] => rfl
  | v :: vs => by
    have h := ip_sl b sc vs
    simp only [lg_sl, List.map_cons, List.flatMap_cons, List.length_append] at h ⊢
    rw [h, ip_v_cat]
    split <;> rfl
/-- the room that a run of depth d takes, from a world to another -/
def ip_rm (d : Nat) (w w2 : ip_W) : Room := { frames := d, cells := w2.1 - w.1, slots := w2.2.1 - w.2.1, locals := 48 * d }
/-- a method's meaning out of its body's run -/
theorem ip_enter {z n d : Nat} {av : List Value} {o : Outcome} (hz : ip_Zok tb Ts mN mB mR z n) (hav : (lg_sl av).length ≤ tL tb z) (hw : w.1 ≤ w2.1 ∧ w.2.1 ≤ w2.2.1)
    (h : ∀ (p : Program) (e : Env) (R : Room) (s : State) (m : MethodId) (args : Array Value) (below : List Frame) (meth : Method) (c : Code) (n0 s0 : Nat), ip_Cx tb Ts Ev D cl aC b mN mB z p s m meth c → d ≤ R.frames → 48 * d ≤ R.locals → n0 ≤ w.1 → s0 ≤ w.2.1 → w2.1 ≤ n0 + R.cells → w2.2.1 ≤ s0 + R.slots → ip_V p l e R s m args below meth c D cl aC b sc (tL tb z) n0 s0 (ip_Q D cl aC b sc w2 o below s n0 s0) w 0 (lv_args 0 av) []) :
    ip_M l Ev Ts D cl aC b sc (mN z) (ip_rm d w w2) w av o w2 := by
  intro p e s m args below meth c T hx X hn hts hE hK hargs hT hb0 hG
  subst hargs
  obtain ⟨meth', c', h1, h2, h3, h4, h5, h6, h7, h8⟩ := Cond.code_spec hn (hts _ hz.1 (av.map (ip_v b sc)).toArray)
  cases X.method.symm.trans h1
  cases X.code.symm.trans h2
  have hrc : ip_rc (tR tb z) meth.sig.returnType := by rw [h5]; exact hz.2.2.2.2.2
  have hCx : ip_Cx tb Ts Ev D cl aC b mN mB z p s m meth c := ⟨hx, h3, h4, hrc, h6, h7, (name_of_methodNamed hn h1).1, findClass_of_methodNamed hn, hts, hE, hK, hb0⟩
  have hV := h p e (ip_rm d w w2) s m (av.map (ip_v b sc)).toArray below meth c w.1 w.2.1 hCx (Nat.le_refl _) (Nat.le_refl _) (Nat.le_refl _) (Nat.le_refl _) (by show w2.1 ≤ w.1 + (w2.1 - w.1); omega) (by show w2.2.1 ≤ w.2.1 + (w2.2.1 - w.2.1); omega)
  have hl := lv_entry (av.map (ip_v b sc)) (n := c.maxLocals) (by rw [ip_sl, h4]; exact hav)
  rw [ip_args, h4] at hl
  rw [lg_entry_eq, h4]
  have X' : Stand p l e (ip_rm d w w2) s m (av.map (ip_v b sc)).toArray below meth c T [] (w.1 - w.1) (w.2.1 - w.2.1) := by
    rw [Nat.sub_self, Nat.sub_self]
    exact X
  exact hV s.heap [] _ hG va_S.rf hl T hT X'
theorem ip_exc (h : c.exceptionTable.isEmpty = true) (pc : Nat) : ∀ x ∈ c.exceptionTable.toList, covers x pc = false := by
  intro x hx
  have h1 : c.exceptionTable = #[] := Array.isEmpty_iff.mp h
  rw [h1] at hx
  cases hx
theorem ip_endok {y n : Nat} {i : Instr} {o : Outcome} (hC : ip_Cx tb Ts Ev D cl aC b mN mB y p s m meth c) (hdg : decode (mB y) pc = .ok (i, n)) (hn : n = ip_ln i ∨ ip_sw i = true) (h : ip_end (tR tb y) i st w = some (o, w2)) : ip_V p l e R s m args below meth c D cl aC b sc (tL tb y) n0 s0 (ip_Q D cl aC b sc w2 o below s n0 s0) w pc lo st := by
  obtain ⟨hx, hb, hml, hrc, hlocks, hexc, hname, hown, hts, hE, hK, hb0⟩ := hC
  have hd : ip_sw i = false → decode (mB y) pc = .ok (i, ip_ln i) := fun hs => by
    rcases hn with rfl | hn
    · exact hdg
    · rw [hs] at hn
      cases hn
  have hw := ip_end_mono h
  subst hw
  cases i
  case ireturn =>
    simp only [ip_end] at h
    split at h
    · split at h
      · rename_i v hv
        cases h
        rcases hv with hv | ⟨hv, hv2⟩
        · rcases hrc with ⟨h1, h2⟩ | ⟨h1, h2⟩ | ⟨h1, h2⟩ | ⟨h1, h2⟩ | ⟨h1, h2⟩
          · omega
          · exact ip_iret hx hb h2 rfl hlocks hb0 (hd rfl)
          · omega
          · omega
          · omega
        · rcases hrc with ⟨h1, h2⟩ | ⟨h1, h2⟩ | ⟨h1, h2⟩ | ⟨h1, h2⟩ | ⟨h1, h2⟩
          · omega
          · omega
          · exact ip_iret hx hb h2 (by rcases hv2 with rfl | rfl <;> rfl) hlocks hb0 (hd rfl)
          · omega
          · omega
      · cases h
    · cases h
  case lreturn =>
    simp only [ip_end] at h
    split at h
    · split at h
      · rename_i v hv
        cases h
        rcases hrc with ⟨h1, h2⟩ | ⟨h1, h2⟩ | ⟨h1, h2⟩ | ⟨h1, h2⟩ | ⟨h1, h2⟩
        · omega
        · omega
        · omega
        · exact ip_lret hx hb h2 hlocks hb0 (hd rfl)
        · omega
      · cases h
    · cases h
  case areturn =>
    simp only [ip_end] at h
    split at h
    · split at h
      · rename_i v hv
        cases h
        rcases hrc with ⟨h1, h2⟩ | ⟨h1, h2⟩ | ⟨h1, h2⟩ | ⟨h1, h2⟩ | ⟨h1, rt, h2, h3⟩
        · omega
        · omega
        · omega
        · omega
        · exact ip_aret hx hb h2 h3 (Or.inr ⟨_, rfl⟩) hlocks hb0 (hd rfl)
      · cases h
    · split at h
      · rename_i v hv
        cases h
        rcases hrc with ⟨h1, h2⟩ | ⟨h1, h2⟩ | ⟨h1, h2⟩ | ⟨h1, h2⟩ | ⟨h1, rt, h2, h3⟩
        · omega
        · omega
        · omega
        · omega
        · exact ip_aret hx hb h2 h3 (Or.inl rfl) hlocks hb0 (hd rfl)
      · cases h
    · cases h
  case return_ =>
    simp only [ip_end] at h
    split at h
    · split at h
      · rename_i v hv
        cases h
        rcases hrc with ⟨h1, h2⟩ | ⟨h1, h2⟩ | ⟨h1, h2⟩ | ⟨h1, h2⟩ | ⟨h1, h2⟩
        · exact ip_vret hx hb h2 hlocks hb0 (hd rfl)
        · omega
        · omega
        · omega
        · omega
      · cases h
    · cases h
  case athrow =>
    simp only [ip_end] at h
    split at h
    · cases h
      exact ip_athrow hx hb hlocks hb0 (ip_exc hexc pc) (hd rfl)
    · cases h
  all_goals (simp [ip_end] at h)
end IPW
end
section
/-! part 11: the theorem -/
section IPU
variable {l : Launch} {D : va_G} {cl : List vw_C} {aC : Nat → ClassId} {b : Nat} {sc : Nat → Nat} {Ts : List Cond} {Ev : State → Prop}
variable {tb : ip_TB} {mN : Nat → MethodName} {mB : Nat → ByteArray} {mR : Nat → Option FieldType}
theorem ip_ci_of {i : Instr} {kc k : Nat} (h : ip_ci i = some (kc, k)) : (i = .invokestatic k ∧ kc = 0) ∨ (i = .invokevirtual k ∧ kc = 1) ∨ (i = .invokespecial k ∧ kc = 2) := by
  cases i <;> simp [ip_ci] at h
  · obtain ⟨rfl, rfl⟩ := h
    exact Or.inr (Or.inr ⟨rfl, rfl⟩)
  · obtain ⟨rfl, rfl⟩ := h
    exact Or.inl ⟨rfl, rfl⟩
  · obtain ⟨rfl, rfl⟩ := h
    exact Or.inr (Or.inl ⟨rfl, rfl⟩)
theorem ip_arg0 {n ci : Nat} {st av rest : List Value} {w : ip_W} (h : ip_arg 0 n ci st w = some (av, rest)) : st = av.reverse ++ rest ∧ av.length = n := by
  unfold ip_arg at h
  split at h
  · cases h
  · rename_i hp
    simp at h
    obtain ⟨rfl, rfl⟩ := h
    exact ip_take_of hp
theorem ip_arg2 {n ci : Nat} {st av rest : List Value} {w : ip_W} (h : ip_arg 2 n ci st w = some (av, rest)) : ∃ (a : Nat) (av2 : List Value), av = .ref a :: av2 ∧ st = av2.reverse ++ .ref a :: rest ∧ av2.length = n := by
  unfold ip_arg at h
  split at h
  · cases h
  · rename_i hp
    simp at h
    split at h
    · simp at h
      obtain ⟨rfl, rfl⟩ := h
      exact ⟨_, _, rfl, ip_take_of hp⟩
    · cases h
theorem ip_arg1 {n ci : Nat} {st av rest : List Value} {w : ip_W} (h : ip_arg 1 n ci st w = some (av, rest)) : ∃ (a : Nat) (av2 fs : List Value), av = .ref a :: av2 ∧ st = av2.reverse ++ .ref a :: rest ∧ av2.length = n ∧ w.2.2 a = some (.inr (ci, fs)) := by
  unfold ip_arg at h
  split at h
  · cases h
  · rename_i hp
    simp at h
    split at h
    · split at h
      · rename_i he
        split at h
        · rename_i hci
          subst hci
          simp at h
          obtain ⟨rfl, rfl⟩ := h
          obtain ⟨h1, h2⟩ := ip_take_of hp
          exact ⟨_, _, _, rfl, h1, h2, he⟩
        · cases h
      · cases h
    · cases h
/-- a call to a method that is run -/
theorem ip_callok {p : Program} {e : Env} {R : Room} {s : State} {m : MethodId} {args : Array Value} {below : List Frame} {meth : Method} {c : Code} {n0 s0 : Nat} {Q : State → Prop} {w w2 : ip_W} {pc y k z n kc ci d : Nat} {lo : List (Nat × Value)} {st av rest : List Value} {i : Instr} {o : Outcome}
    (hOK : ip_OK tb Ts cl b sc mN mB mR) (hEk : ip_Ek b Ev) (hC : ip_Cx tb Ts Ev D cl aC b mN mB y p s m meth c) (hM : tM tb y k = some (z, n, kc, ci)) (hci : ip_ci i = some (kc, k)) (hdg : decode (mB y) pc = .ok (i, 3)) (ha : ip_arg kc n ci st w = some (av, rest)) (hsum : (rest.map fun v => v.category).sum ≤ 8) (hav : (lg_sl av).length ≤ tL tb z)
    (hd1 : 1 ≤ d) (hdR : d ≤ R.frames) (hdL : 48 * d ≤ R.locals) (hn0 : n0 ≤ w.1) (hs0 : s0 ≤ w.2.1) (hw1 : w.1 ≤ w2.1) (hw2 : w.2.1 ≤ w2.2.1) (hcells : w2.1 ≤ n0 + R.cells) (hslots : w2.2.1 ≤ s0 + R.slots)
    (hrun : ∀ (p : Program) (e : Env) (R : Room) (s : State) (m : MethodId) (args : Array Value) (below : List Frame) (meth : Method) (c : Code) (n0 s0 : Nat), ip_Cx tb Ts Ev D cl aC b mN mB z p s m meth c → d - 1 ≤ R.frames → 48 * (d - 1) ≤ R.locals → n0 ≤ w.1 → s0 ≤ w.2.1 → w2.1 ≤ n0 + R.cells → w2.2.1 ≤ s0 + R.slots → ip_V p l e R s m args below meth c D cl aC b sc (tL tb z) n0 s0 (ip_Q D cl aC b sc w2 o below s n0 s0) w 0 (lv_args 0 av) [])
    (hret : ∀ v, o = .returned v → ip_V p l e R s m args below meth c D cl aC b sc (tL tb y) n0 s0 Q w2 (pc + 3) lo (v.toList ++ rest)) (hthr : ∀ a, o = .threw a → ip_X p l e R s m args below meth c D cl aC b sc (tL tb y) n0 s0 Q w2 pc lo a) : ip_V p l e R s m args below meth c D cl aC b sc (tL tb y) n0 s0 Q w pc lo st := by
  have okM := hOK.2.2.2.2.2.2.2.2.2.2.2.2.2.2 y k z n kc ci hM
  obtain ⟨hx, hb, hml, hrc, hlocks, hexc, hname, hown, hts, hE, hK, hb0⟩ := hC
  have hc9 : w.1 + (ip_rm (d - 1) w w2).cells ≤ n0 + R.cells := by show w.1 + (w2.1 - w.1) ≤ _; omega
  have hs9 : w.2.1 + (ip_rm (d - 1) w w2).slots ≤ s0 + R.slots := by show w.2.1 + (w2.2.1 - w.2.1) ≤ _; omega
  rcases ip_ci_of hci with ⟨rfl, rfl⟩ | ⟨rfl, rfl⟩ | ⟨rfl, rfl⟩
  · obtain ⟨hz, h1, h2, h3⟩ := okM.1 rfl
    obtain ⟨rfl, hlen⟩ := ip_arg0 ha
    have hR : (ip_rm (d - 1) w w2).frames + 1 ≤ R.frames ∧ 8 + (tL tb z + 11) + (ip_rm (d - 1) w w2).locals ≤ R.locals := by
      have h29 := hz.2.1
      exact ⟨by show d - 1 + 1 ≤ _; omega, by show 8 + (tL tb z + 11) + 48 * (d - 1) ≤ _; omega⟩
    exact ip_callS hx hb hml hOK.1 hts hEk hE hK hb0 hown (hts _ h1 args) (hts _ h2 args) (hts _ h3 args) (Cond.code_named (hts _ hz.1 args)) (ip_C.of (hts _ hz.1 args)) hz.2.2.2.1 hz.2.2.1 hz.2.2.2.2.1 hlen hsum hR hc9 hs9 hn0 hs0 hw1 hw2 (ip_enter hz hav ⟨hw1, hw2⟩ hrun) hdg hret hthr
  · obtain ⟨hz, h1, h2, r, h3, h4⟩ := okM.2.1 rfl
    obtain ⟨a, av2, fs, rfl, rfl, hlen, he⟩ := ip_arg1 ha
    have hR : (ip_rm (d - 1) w w2).frames + 1 ≤ R.frames ∧ 8 + (tL tb z + 11) + (ip_rm (d - 1) w w2).locals ≤ R.locals := by
      have h29 := hz.2.1
      exact ⟨by show d - 1 + 1 ≤ _; omega, by show 8 + (tL tb z + 11) + 48 * (d - 1) ≤ _; omega⟩
    exact ip_callV hx hb hml hOK.1 hts hEk hE hK hb0 hown (hts _ h1 args) (hts _ h2 args) (hts _ h4 args) (ip_C.of (hts _ hz.1 args)) hz.2.2.2.1 hz.2.2.1 hz.2.2.2.2.1 hlen he h3 rfl hsum hR hc9 hs9 hn0 hs0 hw1 hw2 (ip_enter hz hav ⟨hw1, hw2⟩ hrun) hdg hret hthr
  · obtain ⟨hz, h1, h2, h3, h4⟩ := okM.2.2.1 rfl
    obtain ⟨a, av2, rfl, rfl, hlen⟩ := ip_arg2 ha
    have hR : (ip_rm (d - 1) w w2).frames + 1 ≤ R.frames ∧ 8 + (tL tb z + 11) + (ip_rm (d - 1) w w2).locals ≤ R.locals := by
      have h29 := hz.2.1
      exact ⟨by show d - 1 + 1 ≤ _; omega, by show 8 + (tL tb z + 11) + 48 * (d - 1) ≤ _; omega⟩
    have hlk : (Cond.methodLink (mN y).cls k (mN z)).before args s = true ∨ ∃ host, (Cond.methodLinkNest (mN y).cls k (mN z) host).before args s = true := by
      rcases h1 with h1 | ⟨host, h1⟩
      · exact Or.inl (hts _ h1 args)
      · exact Or.inr ⟨host, hts _ h1 args⟩
    have hcd := hts _ hz.1 args
    rw [h4] at hcd
    exact ip_callI hx hb hml hOK.1 hts hEk hE hK hb0 hown h3 hlk (hts _ h2 args) hcd hz.2.2.2.1 hz.2.2.1 hz.2.2.2.2.1 hlen hsum hR hc9 hs9 hn0 hs0 hw1 hw2 (ip_enter hz hav ⟨hw1, hw2⟩ hrun) hdg hret hthr
theorem ip_sound (hOK : ip_OK tb Ts cl b sc mN mB mR) (hEk : ip_Ek b Ev) (hS : ip_Sall l tb Ts Ev D cl aC b sc mN mB) (hP : ip_Pall l tb Ts Ev D cl aC b sc mN mB) : ∀ (f d y pc : Nat) (lo : List (Nat × Value)) (st : List Value) (w : ip_W) (o : Outcome) (w2 : ip_W), ip_ex tb f d y pc lo st w = some (o, w2) →
    ∀ (p : Program) (e : Env) (R : Room) (s : State) (m : MethodId) (args : Array Value) (below : List Frame) (meth : Method) (c : Code) (n0 s0 : Nat), ip_Cx tb Ts Ev D cl aC b mN mB y p s m meth c → d ≤ R.frames → 48 * d ≤ R.locals → n0 ≤ w.1 → s0 ≤ w.2.1 → w2.1 ≤ n0 + R.cells → w2.2.1 ≤ s0 + R.slots → ip_V p l e R s m args below meth c D cl aC b sc (tL tb y) n0 s0 (ip_Q D cl aC b sc w2 o below s n0 s0) w pc lo st := by
  intro f
  induction f with
  | zero => intro d y pc lo st w o w2 h; simp [ip_ex] at h
  | succ f ih =>
    intro d y pc lo st w o w2 h p e R s m args below meth c n0 s0 hC hdR hdL hn0 hs0 hcells hslots
    unfold ip_ex at h
    split at h
    · cases h
    · rename_i i n hI
      obtain ⟨hdg, hn⟩ := hOK.2.1 y pc i n hI
      split at h
      · split at h
        · rename_i r hst
          have hm := ip_ex_mono tb _ _ _ _ _ _ _ _ _ h
          have hm1 := ip_st_mono hst
          exact ip_simple hOK hC (hS y p e R s m args below meth c n0 s0 _ hC) hI hst hn0 hs0 (by omega) (by omega) (ih _ _ _ _ _ _ _ _ h p e R s m args below meth c n0 s0 hC hdR hdL (by omega) (by omega) hcells hslots)
        · cases h
      · split at h
        · exact ip_endok hC hdg hn h
        · split at h
          · cases h
          · rename_i kc k hci
            have h3 : decode (mB y) pc = .ok (i, 3) := by
              have e3 : ip_ln i = 3 ∧ ip_sw i = false := by
                rcases ip_ci_of hci with ⟨rfl, -⟩ | ⟨rfl, -⟩ | ⟨rfl, -⟩ <;> exact ⟨rfl, rfl⟩
              rcases hn with rfl | hn
              · rw [e3.1] at hdg
                exact hdg
              · rw [e3.2] at hn
                cases hn
            split at h
            · cases h
            · rename_i z na kc2 ci hM
              split at h
              · rename_i hk3
                subst hk3
                split at h
                · split at h
                  · rename_i hcc
                    obtain ⟨hk2, hd1, hsum⟩ := hcc
                    subst hk2
                    have okM := (hOK.2.2.2.2.2.2.2.2.2.2.2.2.2.2 y k z na 3 ci hM).2.2.2 rfl
                    have hC' := hC
                    obtain ⟨hx, hb, hml, hrc, hlocks, hexc, hname, hown, hts, hE, hK, hb0⟩ := hC'
                    rcases ip_ci_of hci with ⟨_, h9⟩ | ⟨_, h9⟩ | ⟨rfl, -⟩
                    · cases h9
                    · cases h9
                    · exact ip_objInit hx hb hml hown (hts _ okM.1 args) (hts _ okM.2.1 args) (hts _ okM.2.2 args) hsum (by omega) (by omega) h3 (ih _ _ _ _ _ _ _ _ h p e R s m args below meth c n0 s0 hC hdR hdL hn0 hs0 hcells hslots)
                  · cases h
                · cases h
              · split at h
                · rename_i hkk
                  subst hkk
                  split at h
                  · cases h
                  · rename_i av rest ha
                    split at h
                    · rename_i hcc
                      obtain ⟨hd1, hsum, hav⟩ := hcc
                      split at h
                      · rename_i v w1 hrun
                        have hm1 := ip_ex_mono tb _ _ _ _ _ _ _ _ _ hrun
                        have hm2 := ip_ex_mono tb _ _ _ _ _ _ _ _ _ h
                        exact ip_callok hOK hEk hC hM hci h3 ha hsum hav hd1 hdR hdL hn0 hs0 hm1.1 hm1.2 (by omega) (by omega) (ih _ _ _ _ _ _ _ _ hrun)
                          (fun v2 hv2 => by
                            cases hv2
                            exact ih _ _ _ _ _ _ _ _ h p e R s m args below meth c n0 s0 hC hdR hdL (by omega) (by omega) hcells hslots)
                          (fun a ha => by cases ha)
                      · rename_i a w1 hrun
                        have hm1 := ip_ex_mono tb _ _ _ _ _ _ _ _ _ hrun
                        cases h
                        have hC' := hC
                        obtain ⟨hx, hb, hml, hrc, hlocks, hexc, hname, hown, hts, hE, hK, hb0⟩ := hC'
                        exact ip_callok hOK hEk hC hM hci h3 ha hsum hav hd1 hdR hdL hn0 hs0 hm1.1 hm1.2 (by omega) (by omega) (ih _ _ _ _ _ _ _ _ hrun)
                          (fun v2 hv2 => by cases hv2)
                          (fun a2 ha2 => by
                            cases ha2
                            exact ip_Xout hlocks hb0 (ip_exc hexc pc))
                      · cases h
                    · cases h
                · split at h
                  · rename_i hkk
                    subst hkk
                    split at h
                    · cases h
                    · rename_i av rest ha
                      split at h
                      · rename_i hcc
                        obtain ⟨hd1, hsum⟩ := hcc
                        split at h
                        · rename_i v w1 hpr
                          split at h
                          · rename_i hm1
                            have hm2 := ip_ex_mono tb _ _ _ _ _ _ _ _ _ h
                            exact hP y p e R s m args below meth c n0 s0 _ k z na kc ci pc i av rest st lo v w w1 hC hM hci h3 ha hsum (by omega) (by omega) hn0 hs0 (by omega) (by omega) hpr (ih _ _ _ _ _ _ _ _ h p e R s m args below meth c n0 s0 hC hdR hdL (by omega) (by omega) hcells hslots)
                          · cases h
                        · cases h
                      · cases h
                  · cases h
/-- the meaning of a method that the interpreter runs to an outcome -/
theorem ip_means (hOK : ip_OK tb Ts cl b sc mN mB mR) (hEk : ip_Ek b Ev) (hS : ip_Sall l tb Ts Ev D cl aC b sc mN mB) (hP : ip_Pall l tb Ts Ev D cl aC b sc mN mB) {f d z n : Nat} {av : List Value} {w w2 : ip_W} {o : Outcome} (hz : ip_Zok tb Ts mN mB mR z n) (hav : (lg_sl av).length ≤ tL tb z) (h : ip_ex tb f d z 0 (lv_args 0 av) [] w = some (o, w2)) : ip_M l Ev Ts D cl aC b sc (mN z) (ip_rm d w w2) w av o w2 :=
  ip_enter hz hav (ip_ex_mono tb _ _ _ _ _ _ _ _ _ h) (ip_sound hOK hEk hS hP _ _ _ _ _ _ _ _ _ h)
end IPU
end
section
-- ===== PART A: goes FIRST, ahead of the names: the tables' words, and 'selects' of the private methods out of them =====
/-- a private method of a class that the tables say can be made, by its rows of tables_1 -/
def lw_okq (q : MethodName × Nat) : Prop := (q.1.cls ≠ "java/lang/invoke/MethodHandle" ∧ q.1.cls ≠ "java/lang/invoke/VarHandle") ∧ Cond.instantiable q.1.cls q.2 ∈ tables_1 ∧ Cond.privateMethod q.1 ∈ tables_1 ∧ Cond.instanceMethod q.1 ∈ tables_1
theorem lw_p0 : lw_okq (⟨"VitalTwin$Reader", "makeRoom", "(I)V"⟩, 12) := ⟨⟨by decide +kernel, by decide +kernel⟩, List.mem_of_getElem? (i := 43) (by decide +kernel), List.mem_of_getElem? (i := 513) (by decide +kernel), List.mem_of_getElem? (i := 514) (by decide +kernel)⟩
theorem lw_p1 : lw_okq (⟨"VitalTwin$Reader", "append", "(J)V"⟩, 12) := ⟨⟨by decide +kernel, by decide +kernel⟩, List.mem_of_getElem? (i := 43) (by decide +kernel), List.mem_of_getElem? (i := 532) (by decide +kernel), List.mem_of_getElem? (i := 533) (by decide +kernel)⟩
theorem lw_p2 : lw_okq (⟨"VitalTwin$Code", "beginUnit", "()V"⟩, 17) := ⟨⟨by decide +kernel, by decide +kernel⟩, List.mem_of_getElem? (i := 115) (by decide +kernel), List.mem_of_getElem? (i := 553) (by decide +kernel), List.mem_of_getElem? (i := 554) (by decide +kernel)⟩
theorem lw_p3 : lw_okq (⟨"VitalTwin$Reader", "behindToken", "(I)I"⟩, 12) := ⟨⟨by decide +kernel, by decide +kernel⟩, List.mem_of_getElem? (i := 43) (by decide +kernel), List.mem_of_getElem? (i := 569) (by decide +kernel), List.mem_of_getElem? (i := 570) (by decide +kernel)⟩
theorem lw_p4 : lw_okq (⟨"VitalTwin$Reader", "signAt", "(I)I"⟩, 12) := ⟨⟨by decide +kernel, by decide +kernel⟩, List.mem_of_getElem? (i := 43) (by decide +kernel), List.mem_of_getElem? (i := 573) (by decide +kernel), List.mem_of_getElem? (i := 574) (by decide +kernel)⟩
theorem lw_p5 : lw_okq (⟨"VitalTwin$Reader", "isComment", "(I)Z"⟩, 12) := ⟨⟨by decide +kernel, by decide +kernel⟩, List.mem_of_getElem? (i := 43) (by decide +kernel), List.mem_of_getElem? (i := 583) (by decide +kernel), List.mem_of_getElem? (i := 584) (by decide +kernel)⟩
theorem lw_p6 : lw_okq (⟨"VitalTwin$Reader", "kindOf", "(II)I"⟩, 12) := ⟨⟨by decide +kernel, by decide +kernel⟩, List.mem_of_getElem? (i := 43) (by decide +kernel), List.mem_of_getElem? (i := 590) (by decide +kernel), List.mem_of_getElem? (i := 591) (by decide +kernel)⟩
theorem lw_p7 : lw_okq (⟨"VitalTwin$Reader", "wordOrName", "(II)I"⟩, 12) := ⟨⟨by decide +kernel, by decide +kernel⟩, List.mem_of_getElem? (i := 43) (by decide +kernel), List.mem_of_getElem? (i := 594) (by decide +kernel), List.mem_of_getElem? (i := 595) (by decide +kernel)⟩
theorem lw_p8 : lw_okq (⟨"VitalTwin$Reader", "numberAt", "(II)J"⟩, 12) := ⟨⟨by decide +kernel, by decide +kernel⟩, List.mem_of_getElem? (i := 43) (by decide +kernel), List.mem_of_getElem? (i := 647) (by decide +kernel), List.mem_of_getElem? (i := 648) (by decide +kernel)⟩
theorem lw_p9 : lw_okq (⟨"VitalTwin$Reader", "addToken", "(III)V"⟩, 12) := ⟨⟨by decide +kernel, by decide +kernel⟩, List.mem_of_getElem? (i := 43) (by decide +kernel), List.mem_of_getElem? (i := 710) (by decide +kernel), List.mem_of_getElem? (i := 711) (by decide +kernel)⟩
theorem lw_p10 : lw_okq (⟨"VitalTwin$Declarations", "constant", "()V"⟩, 5) := ⟨⟨by decide +kernel, by decide +kernel⟩, List.mem_of_getElem? (i := 103) (by decide +kernel), List.mem_of_getElem? (i := 720) (by decide +kernel), List.mem_of_getElem? (i := 721) (by decide +kernel)⟩
theorem lw_p11 : lw_okq (⟨"java/lang/Throwable", "fillInStackTrace", "(I)Ljava/lang/Throwable;"⟩, 6) := ⟨⟨by decide +kernel, by decide +kernel⟩, List.mem_of_getElem? (i := 771) (by decide +kernel), List.mem_of_getElem? (i := 769) (by decide +kernel), List.mem_of_getElem? (i := 770) (by decide +kernel)⟩
theorem lw_p12 : lw_okq (⟨"VitalTwin$Declarations", "type", "()V"⟩, 5) := ⟨⟨by decide +kernel, by decide +kernel⟩, List.mem_of_getElem? (i := 103) (by decide +kernel), List.mem_of_getElem? (i := 941) (by decide +kernel), List.mem_of_getElem? (i := 942) (by decide +kernel)⟩
theorem lw_p13 : lw_okq (⟨"VitalTwin$Declarations", "port", "(I)V"⟩, 5) := ⟨⟨by decide +kernel, by decide +kernel⟩, List.mem_of_getElem? (i := 103) (by decide +kernel), List.mem_of_getElem? (i := 945) (by decide +kernel), List.mem_of_getElem? (i := 946) (by decide +kernel)⟩
theorem lw_p14 : lw_okq (⟨"VitalTwin$Declarations", "function", "()V"⟩, 5) := ⟨⟨by decide +kernel, by decide +kernel⟩, List.mem_of_getElem? (i := 103) (by decide +kernel), List.mem_of_getElem? (i := 976) (by decide +kernel), List.mem_of_getElem? (i := 977) (by decide +kernel)⟩
theorem lw_p15 : lw_okq (⟨"VitalTwin$Declarations", "parameter", "(LVitalTwin$Symbol;)V"⟩, 5) := ⟨⟨by decide +kernel, by decide +kernel⟩, List.mem_of_getElem? (i := 103) (by decide +kernel), List.mem_of_getElem? (i := 981) (by decide +kernel), List.mem_of_getElem? (i := 982) (by decide +kernel)⟩
def lw_privs_1 : List (MethodName × Nat) := [(⟨"VitalTwin$Reader", "makeRoom", "(I)V"⟩, 12), (⟨"VitalTwin$Reader", "append", "(J)V"⟩, 12), (⟨"VitalTwin$Code", "beginUnit", "()V"⟩, 17), (⟨"VitalTwin$Reader", "behindToken", "(I)I"⟩, 12), (⟨"VitalTwin$Reader", "signAt", "(I)I"⟩, 12), (⟨"VitalTwin$Reader", "isComment", "(I)Z"⟩, 12), (⟨"VitalTwin$Reader", "kindOf", "(II)I"⟩, 12), (⟨"VitalTwin$Reader", "wordOrName", "(II)I"⟩, 12), (⟨"VitalTwin$Reader", "numberAt", "(II)J"⟩, 12), (⟨"VitalTwin$Reader", "addToken", "(III)V"⟩, 12), (⟨"VitalTwin$Declarations", "constant", "()V"⟩, 5), (⟨"java/lang/Throwable", "fillInStackTrace", "(I)Ljava/lang/Throwable;"⟩, 6), (⟨"VitalTwin$Declarations", "type", "()V"⟩, 5), (⟨"VitalTwin$Declarations", "port", "(I)V"⟩, 5), (⟨"VitalTwin$Declarations", "function", "()V"⟩, 5), (⟨"VitalTwin$Declarations", "parameter", "(LVitalTwin$Symbol;)V"⟩, 5)]
theorem lw_r1 : ∀ q ∈ lw_privs_1, lw_okq q := List.forall_mem_cons.mpr ⟨lw_p0, List.forall_mem_cons.mpr ⟨lw_p1, List.forall_mem_cons.mpr ⟨lw_p2, List.forall_mem_cons.mpr ⟨lw_p3, List.forall_mem_cons.mpr ⟨lw_p4, List.forall_mem_cons.mpr ⟨lw_p5, List.forall_mem_cons.mpr ⟨lw_p6, List.forall_mem_cons.mpr ⟨lw_p7, List.forall_mem_cons.mpr ⟨lw_p8, List.forall_mem_cons.mpr ⟨lw_p9, List.forall_mem_cons.mpr ⟨lw_p10, List.forall_mem_cons.mpr ⟨lw_p11, List.forall_mem_cons.mpr ⟨lw_p12, List.forall_mem_cons.mpr ⟨lw_p13, List.forall_mem_cons.mpr ⟨lw_p14, List.forall_mem_cons.mpr ⟨lw_p15, fun _ h => absurd h List.not_mem_nil⟩⟩⟩⟩⟩⟩⟩⟩⟩⟩⟩⟩⟩⟩⟩⟩
theorem lw_p16 : lw_okq (⟨"VitalTwin$Statements", "statement", "()V"⟩, 6) := ⟨⟨by decide +kernel, by decide +kernel⟩, List.mem_of_getElem? (i := 267) (by decide +kernel), List.mem_of_getElem? (i := 996) (by decide +kernel), List.mem_of_getElem? (i := 997) (by decide +kernel)⟩
theorem lw_p17 : lw_okq (⟨"VitalTwin$Statements", "variable", "()V"⟩, 6) := ⟨⟨by decide +kernel, by decide +kernel⟩, List.mem_of_getElem? (i := 267) (by decide +kernel), List.mem_of_getElem? (i := 1000) (by decide +kernel), List.mem_of_getElem? (i := 1001) (by decide +kernel)⟩
theorem lw_p18 : lw_okq (⟨"VitalTwin$Code", "put", "(IIIIII)V"⟩, 17) := ⟨⟨by decide +kernel, by decide +kernel⟩, List.mem_of_getElem? (i := 115) (by decide +kernel), List.mem_of_getElem? (i := 1019) (by decide +kernel), List.mem_of_getElem? (i := 1020) (by decide +kernel)⟩
theorem lw_p19 : lw_okq (⟨"VitalTwin$Code", "grow", "()V"⟩, 17) := ⟨⟨by decide +kernel, by decide +kernel⟩, List.mem_of_getElem? (i := 115) (by decide +kernel), List.mem_of_getElem? (i := 1023) (by decide +kernel), List.mem_of_getElem? (i := 1024) (by decide +kernel)⟩
theorem lw_p20 : lw_okq (⟨"VitalTwin$Expressions", "readFronts", "()V"⟩, 16) := ⟨⟨by decide +kernel, by decide +kernel⟩, List.mem_of_getElem? (i := 273) (by decide +kernel), List.mem_of_getElem? (i := 1043) (by decide +kernel), List.mem_of_getElem? (i := 1044) (by decide +kernel)⟩
theorem lw_p21 : lw_okq (⟨"VitalTwin$Expressions", "push", "(II)V"⟩, 16) := ⟨⟨by decide +kernel, by decide +kernel⟩, List.mem_of_getElem? (i := 273) (by decide +kernel), List.mem_of_getElem? (i := 1047) (by decide +kernel), List.mem_of_getElem? (i := 1048) (by decide +kernel)⟩
theorem lw_p22 : lw_okq (⟨"VitalTwin$Expressions", "named", "()V"⟩, 16) := ⟨⟨by decide +kernel, by decide +kernel⟩, List.mem_of_getElem? (i := 273) (by decide +kernel), List.mem_of_getElem? (i := 1053) (by decide +kernel), List.mem_of_getElem? (i := 1054) (by decide +kernel)⟩
theorem lw_p23 : lw_okq (⟨"VitalTwin$Code", "homeOfTemps", "()I"⟩, 17) := ⟨⟨by decide +kernel, by decide +kernel⟩, List.mem_of_getElem? (i := 115) (by decide +kernel), List.mem_of_getElem? (i := 1080) (by decide +kernel), List.mem_of_getElem? (i := 1081) (by decide +kernel)⟩
theorem lw_p24 : lw_okq (⟨"VitalTwin$Expressions", "set", "(III)V"⟩, 16) := ⟨⟨by decide +kernel, by decide +kernel⟩, List.mem_of_getElem? (i := 273) (by decide +kernel), List.mem_of_getElem? (i := 1104) (by decide +kernel), List.mem_of_getElem? (i := 1105) (by decide +kernel)⟩
theorem lw_p25 : lw_okq (⟨"VitalTwin$Expressions", "operand", "()V"⟩, 16) := ⟨⟨by decide +kernel, by decide +kernel⟩, List.mem_of_getElem? (i := 273) (by decide +kernel), List.mem_of_getElem? (i := 1122) (by decide +kernel), List.mem_of_getElem? (i := 1123) (by decide +kernel)⟩
theorem lw_p26 : lw_okq (⟨"VitalTwin$Expressions", "extreme", "(Z)V"⟩, 16) := ⟨⟨by decide +kernel, by decide +kernel⟩, List.mem_of_getElem? (i := 273) (by decide +kernel), List.mem_of_getElem? (i := 1127) (by decide +kernel), List.mem_of_getElem? (i := 1128) (by decide +kernel)⟩
theorem lw_p27 : lw_okq (⟨"VitalTwin$Expressions", "askInts", "(II)V"⟩, 16) := ⟨⟨by decide +kernel, by decide +kernel⟩, List.mem_of_getElem? (i := 273) (by decide +kernel), List.mem_of_getElem? (i := 1132) (by decide +kernel), List.mem_of_getElem? (i := 1133) (by decide +kernel)⟩
theorem lw_p28 : lw_okq (⟨"VitalTwin$Expressions", "absolute", "()V"⟩, 16) := ⟨⟨by decide +kernel, by decide +kernel⟩, List.mem_of_getElem? (i := 273) (by decide +kernel), List.mem_of_getElem? (i := 1142) (by decide +kernel), List.mem_of_getElem? (i := 1143) (by decide +kernel)⟩
theorem lw_p29 : lw_okq (⟨"VitalTwin$Expressions", "clamp", "()V"⟩, 16) := ⟨⟨by decide +kernel, by decide +kernel⟩, List.mem_of_getElem? (i := 273) (by decide +kernel), List.mem_of_getElem? (i := 1149) (by decide +kernel), List.mem_of_getElem? (i := 1150) (by decide +kernel)⟩
theorem lw_p30 : lw_okq (⟨"VitalTwin$Expressions", "levelOfNext", "(I)I"⟩, 16) := ⟨⟨by decide +kernel, by decide +kernel⟩, List.mem_of_getElem? (i := 273) (by decide +kernel), List.mem_of_getElem? (i := 1155) (by decide +kernel), List.mem_of_getElem? (i := 1156) (by decide +kernel)⟩
theorem lw_p31 : lw_okq (⟨"VitalTwin$Expressions", "finish", "()V"⟩, 16) := ⟨⟨by decide +kernel, by decide +kernel⟩, List.mem_of_getElem? (i := 273) (by decide +kernel), List.mem_of_getElem? (i := 1162) (by decide +kernel), List.mem_of_getElem? (i := 1163) (by decide +kernel)⟩
def lw_privs_2 : List (MethodName × Nat) := [(⟨"VitalTwin$Statements", "statement", "()V"⟩, 6), (⟨"VitalTwin$Statements", "variable", "()V"⟩, 6), (⟨"VitalTwin$Code", "put", "(IIIIII)V"⟩, 17), (⟨"VitalTwin$Code", "grow", "()V"⟩, 17), (⟨"VitalTwin$Expressions", "readFronts", "()V"⟩, 16), (⟨"VitalTwin$Expressions", "push", "(II)V"⟩, 16), (⟨"VitalTwin$Expressions", "named", "()V"⟩, 16), (⟨"VitalTwin$Code", "homeOfTemps", "()I"⟩, 17), (⟨"VitalTwin$Expressions", "set", "(III)V"⟩, 16), (⟨"VitalTwin$Expressions", "operand", "()V"⟩, 16), (⟨"VitalTwin$Expressions", "extreme", "(Z)V"⟩, 16), (⟨"VitalTwin$Expressions", "askInts", "(II)V"⟩, 16), (⟨"VitalTwin$Expressions", "absolute", "()V"⟩, 16), (⟨"VitalTwin$Expressions", "clamp", "()V"⟩, 16), (⟨"VitalTwin$Expressions", "levelOfNext", "(I)I"⟩, 16), (⟨"VitalTwin$Expressions", "finish", "()V"⟩, 16)]
theorem lw_r2 : ∀ q ∈ lw_privs_2, lw_okq q := List.forall_mem_cons.mpr ⟨lw_p16, List.forall_mem_cons.mpr ⟨lw_p17, List.forall_mem_cons.mpr ⟨lw_p18, List.forall_mem_cons.mpr ⟨lw_p19, List.forall_mem_cons.mpr ⟨lw_p20, List.forall_mem_cons.mpr ⟨lw_p21, List.forall_mem_cons.mpr ⟨lw_p22, List.forall_mem_cons.mpr ⟨lw_p23, List.forall_mem_cons.mpr ⟨lw_p24, List.forall_mem_cons.mpr ⟨lw_p25, List.forall_mem_cons.mpr ⟨lw_p26, List.forall_mem_cons.mpr ⟨lw_p27, List.forall_mem_cons.mpr ⟨lw_p28, List.forall_mem_cons.mpr ⟨lw_p29, List.forall_mem_cons.mpr ⟨lw_p30, List.forall_mem_cons.mpr ⟨lw_p31, fun _ h => absurd h List.not_mem_nil⟩⟩⟩⟩⟩⟩⟩⟩⟩⟩⟩⟩⟩⟩⟩⟩
theorem lw_p32 : lw_okq (⟨"VitalTwin$Expressions", "askType", "(Z)V"⟩, 16) := ⟨⟨by decide +kernel, by decide +kernel⟩, List.mem_of_getElem? (i := 273) (by decide +kernel), List.mem_of_getElem? (i := 1166) (by decide +kernel), List.mem_of_getElem? (i := 1167) (by decide +kernel)⟩
theorem lw_p33 : lw_okq (⟨"VitalTwin$Expressions", "finishSum", "(IJJ)V"⟩, 16) := ⟨⟨by decide +kernel, by decide +kernel⟩, List.mem_of_getElem? (i := 273) (by decide +kernel), List.mem_of_getElem? (i := 1170) (by decide +kernel), List.mem_of_getElem? (i := 1171) (by decide +kernel)⟩
theorem lw_p34 : lw_okq (⟨"VitalTwin$Expressions", "begin", "(I)V"⟩, 16) := ⟨⟨by decide +kernel, by decide +kernel⟩, List.mem_of_getElem? (i := 273) (by decide +kernel), List.mem_of_getElem? (i := 1197) (by decide +kernel), List.mem_of_getElem? (i := 1198) (by decide +kernel)⟩
theorem lw_p35 : lw_okq (⟨"VitalTwin$Expressions", "choice", "()V"⟩, 16) := ⟨⟨by decide +kernel, by decide +kernel⟩, List.mem_of_getElem? (i := 273) (by decide +kernel), List.mem_of_getElem? (i := 1205) (by decide +kernel), List.mem_of_getElem? (i := 1206) (by decide +kernel)⟩
theorem lw_p36 : lw_okq (⟨"VitalTwin$Statements", "condition", "()V"⟩, 6) := ⟨⟨by decide +kernel, by decide +kernel⟩, List.mem_of_getElem? (i := 267) (by decide +kernel), List.mem_of_getElem? (i := 1214) (by decide +kernel), List.mem_of_getElem? (i := 1215) (by decide +kernel)⟩
theorem lw_p37 : lw_okq (⟨"VitalTwin$Statements", "cases", "()V"⟩, 6) := ⟨⟨by decide +kernel, by decide +kernel⟩, List.mem_of_getElem? (i := 267) (by decide +kernel), List.mem_of_getElem? (i := 1219) (by decide +kernel), List.mem_of_getElem? (i := 1220) (by decide +kernel)⟩
theorem lw_p38 : lw_okq (⟨"VitalTwin$Statements", "arm", "(II)I"⟩, 6) := ⟨⟨by decide +kernel, by decide +kernel⟩, List.mem_of_getElem? (i := 267) (by decide +kernel), List.mem_of_getElem? (i := 1226) (by decide +kernel), List.mem_of_getElem? (i := 1227) (by decide +kernel)⟩
theorem lw_p39 : lw_okq (⟨"VitalTwin$Statements", "test", "(IIII)I"⟩, 6) := ⟨⟨by decide +kernel, by decide +kernel⟩, List.mem_of_getElem? (i := 267) (by decide +kernel), List.mem_of_getElem? (i := 1231) (by decide +kernel), List.mem_of_getElem? (i := 1232) (by decide +kernel)⟩
theorem lw_p40 : lw_okq (⟨"VitalTwin$Statements", "ifs", "()V"⟩, 6) := ⟨⟨by decide +kernel, by decide +kernel⟩, List.mem_of_getElem? (i := 267) (by decide +kernel), List.mem_of_getElem? (i := 1247) (by decide +kernel), List.mem_of_getElem? (i := 1248) (by decide +kernel)⟩
theorem lw_p41 : lw_okq (⟨"VitalTwin$Statements", "rounds", "()V"⟩, 6) := ⟨⟨by decide +kernel, by decide +kernel⟩, List.mem_of_getElem? (i := 267) (by decide +kernel), List.mem_of_getElem? (i := 1252) (by decide +kernel), List.mem_of_getElem? (i := 1253) (by decide +kernel)⟩
theorem lw_p42 : lw_okq (⟨"VitalTwin$Statements", "beginning", "()LVitalTwin$Symbol;"⟩, 6) := ⟨⟨by decide +kernel, by decide +kernel⟩, List.mem_of_getElem? (i := 267) (by decide +kernel), List.mem_of_getElem? (i := 1259) (by decide +kernel), List.mem_of_getElem? (i := 1260) (by decide +kernel)⟩
theorem lw_p43 : lw_okq (⟨"VitalTwin$Statements", "assign", "(LVitalTwin$Symbol;)V"⟩, 6) := ⟨⟨by decide +kernel, by decide +kernel⟩, List.mem_of_getElem? (i := 267) (by decide +kernel), List.mem_of_getElem? (i := 1269) (by decide +kernel), List.mem_of_getElem? (i := 1270) (by decide +kernel)⟩
theorem lw_p44 : lw_okq (⟨"VitalTwin$Declarations", "readCycle", "()V"⟩, 5) := ⟨⟨by decide +kernel, by decide +kernel⟩, List.mem_of_getElem? (i := 103) (by decide +kernel), List.mem_of_getElem? (i := 1290) (by decide +kernel), List.mem_of_getElem? (i := 1291) (by decide +kernel)⟩
theorem lw_p45 : lw_okq (⟨"VitalTwin$Copy", "write", "(IJ)V"⟩, 7) := ⟨⟨by decide +kernel, by decide +kernel⟩, List.mem_of_getElem? (i := 381) (by decide +kernel), List.mem_of_getElem? (i := 1332) (by decide +kernel), List.mem_of_getElem? (i := 1333) (by decide +kernel)⟩
theorem lw_p46 : lw_okq (⟨"VitalTwin", "spell", "(IIIJ)V"⟩, 6) := ⟨⟨by decide +kernel, by decide +kernel⟩, List.mem_of_getElem? (i := 29) (by decide +kernel), List.mem_of_getElem? (i := 1363) (by decide +kernel), List.mem_of_getElem? (i := 1364) (by decide +kernel)⟩
theorem lw_p47 : lw_okq (⟨"VitalTwin", "spellSign", "(C)V"⟩, 6) := ⟨⟨by decide +kernel, by decide +kernel⟩, List.mem_of_getElem? (i := 29) (by decide +kernel), List.mem_of_getElem? (i := 1370) (by decide +kernel), List.mem_of_getElem? (i := 1371) (by decide +kernel)⟩
def lw_privs_3 : List (MethodName × Nat) := [(⟨"VitalTwin$Expressions", "askType", "(Z)V"⟩, 16), (⟨"VitalTwin$Expressions", "finishSum", "(IJJ)V"⟩, 16), (⟨"VitalTwin$Expressions", "begin", "(I)V"⟩, 16), (⟨"VitalTwin$Expressions", "choice", "()V"⟩, 16), (⟨"VitalTwin$Statements", "condition", "()V"⟩, 6), (⟨"VitalTwin$Statements", "cases", "()V"⟩, 6), (⟨"VitalTwin$Statements", "arm", "(II)I"⟩, 6), (⟨"VitalTwin$Statements", "test", "(IIII)I"⟩, 6), (⟨"VitalTwin$Statements", "ifs", "()V"⟩, 6), (⟨"VitalTwin$Statements", "rounds", "()V"⟩, 6), (⟨"VitalTwin$Statements", "beginning", "()LVitalTwin$Symbol;"⟩, 6), (⟨"VitalTwin$Statements", "assign", "(LVitalTwin$Symbol;)V"⟩, 6), (⟨"VitalTwin$Declarations", "readCycle", "()V"⟩, 5), (⟨"VitalTwin$Copy", "write", "(IJ)V"⟩, 7), (⟨"VitalTwin", "spell", "(IIIJ)V"⟩, 6), (⟨"VitalTwin", "spellSign", "(C)V"⟩, 6)]
theorem lw_r3 : ∀ q ∈ lw_privs_3, lw_okq q := List.forall_mem_cons.mpr ⟨lw_p32, List.forall_mem_cons.mpr ⟨lw_p33, List.forall_mem_cons.mpr ⟨lw_p34, List.forall_mem_cons.mpr ⟨lw_p35, List.forall_mem_cons.mpr ⟨lw_p36, List.forall_mem_cons.mpr ⟨lw_p37, List.forall_mem_cons.mpr ⟨lw_p38, List.forall_mem_cons.mpr ⟨lw_p39, List.forall_mem_cons.mpr ⟨lw_p40, List.forall_mem_cons.mpr ⟨lw_p41, List.forall_mem_cons.mpr ⟨lw_p42, List.forall_mem_cons.mpr ⟨lw_p43, List.forall_mem_cons.mpr ⟨lw_p44, List.forall_mem_cons.mpr ⟨lw_p45, List.forall_mem_cons.mpr ⟨lw_p46, List.forall_mem_cons.mpr ⟨lw_p47, fun _ h => absurd h List.not_mem_nil⟩⟩⟩⟩⟩⟩⟩⟩⟩⟩⟩⟩⟩⟩⟩⟩
theorem lw_p48 : lw_okq (⟨"VitalTwin", "spellOperand", "(J)V"⟩, 6) := ⟨⟨by decide +kernel, by decide +kernel⟩, List.mem_of_getElem? (i := 29) (by decide +kernel), List.mem_of_getElem? (i := 1374) (by decide +kernel), List.mem_of_getElem? (i := 1375) (by decide +kernel)⟩
theorem lw_p49 : lw_okq (⟨"VitalTwin$Machine", "begin", "(LVitalTwin$Run;)V"⟩, 13) := ⟨⟨by decide +kernel, by decide +kernel⟩, List.mem_of_getElem? (i := 369) (by decide +kernel), List.mem_of_getElem? (i := 1425) (by decide +kernel), List.mem_of_getElem? (i := 1426) (by decide +kernel)⟩
theorem lw_p50 : lw_okq (⟨"VitalTwin$Copy", "loadElement", "(II)I"⟩, 7) := ⟨⟨by decide +kernel, by decide +kernel⟩, List.mem_of_getElem? (i := 381) (by decide +kernel), List.mem_of_getElem? (i := 1455) (by decide +kernel), List.mem_of_getElem? (i := 1456) (by decide +kernel)⟩
theorem lw_p51 : lw_okq (⟨"VitalTwin$Copy", "indexOf", "(JI)I"⟩, 7) := ⟨⟨by decide +kernel, by decide +kernel⟩, List.mem_of_getElem? (i := 381) (by decide +kernel), List.mem_of_getElem? (i := 1459) (by decide +kernel), List.mem_of_getElem? (i := 1460) (by decide +kernel)⟩
theorem lw_p52 : lw_okq (⟨"VitalTwin$Copy", "storeElement", "(II)I"⟩, 7) := ⟨⟨by decide +kernel, by decide +kernel⟩, List.mem_of_getElem? (i := 381) (by decide +kernel), List.mem_of_getElem? (i := 1463) (by decide +kernel), List.mem_of_getElem? (i := 1464) (by decide +kernel)⟩
theorem lw_p53 : lw_okq (⟨"VitalTwin$Copy", "go", "(II)I"⟩, 7) := ⟨⟨by decide +kernel, by decide +kernel⟩, List.mem_of_getElem? (i := 381) (by decide +kernel), List.mem_of_getElem? (i := 1469) (by decide +kernel), List.mem_of_getElem? (i := 1470) (by decide +kernel)⟩
theorem lw_p54 : lw_okq (⟨"VitalTwin$Copy", "callTo", "(I)I"⟩, 7) := ⟨⟨by decide +kernel, by decide +kernel⟩, List.mem_of_getElem? (i := 381) (by decide +kernel), List.mem_of_getElem? (i := 1473) (by decide +kernel), List.mem_of_getElem? (i := 1474) (by decide +kernel)⟩
theorem lw_p55 : lw_okq (⟨"VitalTwin$Copy", "comeBack", "()I"⟩, 7) := ⟨⟨by decide +kernel, by decide +kernel⟩, List.mem_of_getElem? (i := 381) (by decide +kernel), List.mem_of_getElem? (i := 1477) (by decide +kernel), List.mem_of_getElem? (i := 1478) (by decide +kernel)⟩
theorem lw_p56 : lw_okq (⟨"VitalTwin$Copy", "work", "(I)I"⟩, 7) := ⟨⟨by decide +kernel, by decide +kernel⟩, List.mem_of_getElem? (i := 381) (by decide +kernel), List.mem_of_getElem? (i := 1481) (by decide +kernel), List.mem_of_getElem? (i := 1482) (by decide +kernel)⟩
theorem lw_p57 : lw_okq (⟨"VitalTwin$Copy", "multiply", "()I"⟩, 7) := ⟨⟨by decide +kernel, by decide +kernel⟩, List.mem_of_getElem? (i := 381) (by decide +kernel), List.mem_of_getElem? (i := 1485) (by decide +kernel), List.mem_of_getElem? (i := 1486) (by decide +kernel)⟩
theorem lw_p58 : lw_okq (⟨"VitalTwin$Copy", "divide", "(Z)I"⟩, 7) := ⟨⟨by decide +kernel, by decide +kernel⟩, List.mem_of_getElem? (i := 381) (by decide +kernel), List.mem_of_getElem? (i := 1489) (by decide +kernel), List.mem_of_getElem? (i := 1490) (by decide +kernel)⟩
theorem lw_p59 : lw_okq (⟨"VitalTwin$Copy", "isTrue", "(I)Z"⟩, 7) := ⟨⟨by decide +kernel, by decide +kernel⟩, List.mem_of_getElem? (i := 381) (by decide +kernel), List.mem_of_getElem? (i := 1493) (by decide +kernel), List.mem_of_getElem? (i := 1494) (by decide +kernel)⟩
theorem lw_p60 : lw_okq (⟨"VitalTwin$Run", "end", "(I)V"⟩, 6) := ⟨⟨by decide +kernel, by decide +kernel⟩, List.mem_of_getElem? (i := 375) (by decide +kernel), List.mem_of_getElem? (i := 1497) (by decide +kernel), List.mem_of_getElem? (i := 1498) (by decide +kernel)⟩
theorem lw_p61 : lw_okq (⟨"VitalTwin$Run", "agrees", "(LVitalTwin$Program;)Z"⟩, 6) := ⟨⟨by decide +kernel, by decide +kernel⟩, List.mem_of_getElem? (i := 375) (by decide +kernel), List.mem_of_getElem? (i := 1501) (by decide +kernel), List.mem_of_getElem? (i := 1502) (by decide +kernel)⟩
theorem lw_p62 : lw_okq (⟨"VitalTwin$Run", "agreesAbout", "(LVitalTwin$Symbol;)Z"⟩, 6) := ⟨⟨by decide +kernel, by decide +kernel⟩, List.mem_of_getElem? (i := 375) (by decide +kernel), List.mem_of_getElem? (i := 1506) (by decide +kernel), List.mem_of_getElem? (i := 1507) (by decide +kernel)⟩
theorem lw_p63 : lw_okq (⟨"VitalTwin$Machine", "copyOuts", "(LVitalTwin$Run;[II)V"⟩, 13) := ⟨⟨by decide +kernel, by decide +kernel⟩, List.mem_of_getElem? (i := 369) (by decide +kernel), List.mem_of_getElem? (i := 1517) (by decide +kernel), List.mem_of_getElem? (i := 1518) (by decide +kernel)⟩
def lw_privs_4 : List (MethodName × Nat) := [(⟨"VitalTwin", "spellOperand", "(J)V"⟩, 6), (⟨"VitalTwin$Machine", "begin", "(LVitalTwin$Run;)V"⟩, 13), (⟨"VitalTwin$Copy", "loadElement", "(II)I"⟩, 7), (⟨"VitalTwin$Copy", "indexOf", "(JI)I"⟩, 7), (⟨"VitalTwin$Copy", "storeElement", "(II)I"⟩, 7), (⟨"VitalTwin$Copy", "go", "(II)I"⟩, 7), (⟨"VitalTwin$Copy", "callTo", "(I)I"⟩, 7), (⟨"VitalTwin$Copy", "comeBack", "()I"⟩, 7), (⟨"VitalTwin$Copy", "work", "(I)I"⟩, 7), (⟨"VitalTwin$Copy", "multiply", "()I"⟩, 7), (⟨"VitalTwin$Copy", "divide", "(Z)I"⟩, 7), (⟨"VitalTwin$Copy", "isTrue", "(I)Z"⟩, 7), (⟨"VitalTwin$Run", "end", "(I)V"⟩, 6), (⟨"VitalTwin$Run", "agrees", "(LVitalTwin$Program;)Z"⟩, 6), (⟨"VitalTwin$Run", "agreesAbout", "(LVitalTwin$Symbol;)Z"⟩, 6), (⟨"VitalTwin$Machine", "copyOuts", "(LVitalTwin$Run;[II)V"⟩, 13)]
theorem lw_r4 : ∀ q ∈ lw_privs_4, lw_okq q := List.forall_mem_cons.mpr ⟨lw_p48, List.forall_mem_cons.mpr ⟨lw_p49, List.forall_mem_cons.mpr ⟨lw_p50, List.forall_mem_cons.mpr ⟨lw_p51, List.forall_mem_cons.mpr ⟨lw_p52, List.forall_mem_cons.mpr ⟨lw_p53, List.forall_mem_cons.mpr ⟨lw_p54, List.forall_mem_cons.mpr ⟨lw_p55, List.forall_mem_cons.mpr ⟨lw_p56, List.forall_mem_cons.mpr ⟨lw_p57, List.forall_mem_cons.mpr ⟨lw_p58, List.forall_mem_cons.mpr ⟨lw_p59, List.forall_mem_cons.mpr ⟨lw_p60, List.forall_mem_cons.mpr ⟨lw_p61, List.forall_mem_cons.mpr ⟨lw_p62, List.forall_mem_cons.mpr ⟨lw_p63, fun _ h => absurd h List.not_mem_nil⟩⟩⟩⟩⟩⟩⟩⟩⟩⟩⟩⟩⟩⟩⟩⟩
theorem lw_p64 : lw_okq (⟨"VitalTwin$Machine", "outcomeOfTrial", "()I"⟩, 13) := ⟨⟨by decide +kernel, by decide +kernel⟩, List.mem_of_getElem? (i := 369) (by decide +kernel), List.mem_of_getElem? (i := 1527) (by decide +kernel), List.mem_of_getElem? (i := 1528) (by decide +kernel)⟩
theorem lw_p65 : lw_okq (⟨"VitalTwin$Machine", "turnPlanned", "()V"⟩, 13) := ⟨⟨by decide +kernel, by decide +kernel⟩, List.mem_of_getElem? (i := 369) (by decide +kernel), List.mem_of_getElem? (i := 1615) (by decide +kernel), List.mem_of_getElem? (i := 1616) (by decide +kernel)⟩
theorem lw_p66 : lw_okq (⟨"VitalTwin$Machine", "endCycle", "()V"⟩, 13) := ⟨⟨by decide +kernel, by decide +kernel⟩, List.mem_of_getElem? (i := 369) (by decide +kernel), List.mem_of_getElem? (i := 1619) (by decide +kernel), List.mem_of_getElem? (i := 1620) (by decide +kernel)⟩
theorem lw_p67 : lw_okq (⟨"VitalTwinModel", "keep", "()V"⟩, 97) := ⟨⟨by decide +kernel, by decide +kernel⟩, List.mem_of_getElem? (i := 1694) (by decide +kernel), List.mem_of_getElem? (i := 2000) (by decide +kernel), List.mem_of_getElem? (i := 2001) (by decide +kernel)⟩
theorem lw_p68 : lw_okq (⟨"VitalTwinModel", "next", "()V"⟩, 97) := ⟨⟨by decide +kernel, by decide +kernel⟩, List.mem_of_getElem? (i := 1694) (by decide +kernel), List.mem_of_getElem? (i := 2004) (by decide +kernel), List.mem_of_getElem? (i := 2005) (by decide +kernel)⟩
theorem lw_p69 : lw_okq (⟨"VitalTwinModel", "at", "(I)I"⟩, 97) := ⟨⟨by decide +kernel, by decide +kernel⟩, List.mem_of_getElem? (i := 1694) (by decide +kernel), List.mem_of_getElem? (i := 2008) (by decide +kernel), List.mem_of_getElem? (i := 2009) (by decide +kernel)⟩
theorem lw_p70 : lw_okq (⟨"VitalTwinModel", "word", "()I"⟩, 97) := ⟨⟨by decide +kernel, by decide +kernel⟩, List.mem_of_getElem? (i := 1694) (by decide +kernel), List.mem_of_getElem? (i := 2018) (by decide +kernel), List.mem_of_getElem? (i := 2019) (by decide +kernel)⟩
theorem lw_p71 : lw_okq (⟨"VitalTwinModel", "sign", "(II)V"⟩, 97) := ⟨⟨by decide +kernel, by decide +kernel⟩, List.mem_of_getElem? (i := 1694) (by decide +kernel), List.mem_of_getElem? (i := 2025) (by decide +kernel), List.mem_of_getElem? (i := 2026) (by decide +kernel)⟩
theorem lw_p72 : lw_okq (⟨"VitalTwinModel", "declaration", "()V"⟩, 97) := ⟨⟨by decide +kernel, by decide +kernel⟩, List.mem_of_getElem? (i := 1694) (by decide +kernel), List.mem_of_getElem? (i := 2029) (by decide +kernel), List.mem_of_getElem? (i := 2030) (by decide +kernel)⟩
theorem lw_p73 : lw_okq (⟨"VitalTwinModel", "tell", "(II)I"⟩, 97) := ⟨⟨by decide +kernel, by decide +kernel⟩, List.mem_of_getElem? (i := 1694) (by decide +kernel), List.mem_of_getElem? (i := 2033) (by decide +kernel), List.mem_of_getElem? (i := 2034) (by decide +kernel)⟩
theorem lw_p74 : lw_okq (⟨"VitalTwinModel", "bad", "(II)V"⟩, 97) := ⟨⟨by decide +kernel, by decide +kernel⟩, List.mem_of_getElem? (i := 1694) (by decide +kernel), List.mem_of_getElem? (i := 2037) (by decide +kernel), List.mem_of_getElem? (i := 2038) (by decide +kernel)⟩
theorem lw_p75 : lw_okq (⟨"VitalTwinModel", "find", "()I"⟩, 97) := ⟨⟨by decide +kernel, by decide +kernel⟩, List.mem_of_getElem? (i := 1694) (by decide +kernel), List.mem_of_getElem? (i := 2041) (by decide +kernel), List.mem_of_getElem? (i := 2042) (by decide +kernel)⟩
theorem lw_p76 : lw_okq (⟨"VitalTwinModel", "isNamed", "(I)Z"⟩, 97) := ⟨⟨by decide +kernel, by decide +kernel⟩, List.mem_of_getElem? (i := 1694) (by decide +kernel), List.mem_of_getElem? (i := 2045) (by decide +kernel), List.mem_of_getElem? (i := 2046) (by decide +kernel)⟩
theorem lw_p77 : lw_okq (⟨"VitalTwinModel", "take", "(I)V"⟩, 97) := ⟨⟨by decide +kernel, by decide +kernel⟩, List.mem_of_getElem? (i := 1694) (by decide +kernel), List.mem_of_getElem? (i := 2049) (by decide +kernel), List.mem_of_getElem? (i := 2050) (by decide +kernel)⟩
theorem lw_p78 : lw_okq (⟨"VitalTwinModel", "constant", "()V"⟩, 97) := ⟨⟨by decide +kernel, by decide +kernel⟩, List.mem_of_getElem? (i := 1694) (by decide +kernel), List.mem_of_getElem? (i := 2053) (by decide +kernel), List.mem_of_getElem? (i := 2054) (by decide +kernel)⟩
theorem lw_p79 : lw_okq (⟨"VitalTwinModel", "members", "()V"⟩, 97) := ⟨⟨by decide +kernel, by decide +kernel⟩, List.mem_of_getElem? (i := 1694) (by decide +kernel), List.mem_of_getElem? (i := 2057) (by decide +kernel), List.mem_of_getElem? (i := 2058) (by decide +kernel)⟩
def lw_privs_5 : List (MethodName × Nat) := [(⟨"VitalTwin$Machine", "outcomeOfTrial", "()I"⟩, 13), (⟨"VitalTwin$Machine", "turnPlanned", "()V"⟩, 13), (⟨"VitalTwin$Machine", "endCycle", "()V"⟩, 13), (⟨"VitalTwinModel", "keep", "()V"⟩, 97), (⟨"VitalTwinModel", "next", "()V"⟩, 97), (⟨"VitalTwinModel", "at", "(I)I"⟩, 97), (⟨"VitalTwinModel", "word", "()I"⟩, 97), (⟨"VitalTwinModel", "sign", "(II)V"⟩, 97), (⟨"VitalTwinModel", "declaration", "()V"⟩, 97), (⟨"VitalTwinModel", "tell", "(II)I"⟩, 97), (⟨"VitalTwinModel", "bad", "(II)V"⟩, 97), (⟨"VitalTwinModel", "find", "()I"⟩, 97), (⟨"VitalTwinModel", "isNamed", "(I)Z"⟩, 97), (⟨"VitalTwinModel", "take", "(I)V"⟩, 97), (⟨"VitalTwinModel", "constant", "()V"⟩, 97), (⟨"VitalTwinModel", "members", "()V"⟩, 97)]
theorem lw_r5 : ∀ q ∈ lw_privs_5, lw_okq q := List.forall_mem_cons.mpr ⟨lw_p64, List.forall_mem_cons.mpr ⟨lw_p65, List.forall_mem_cons.mpr ⟨lw_p66, List.forall_mem_cons.mpr ⟨lw_p67, List.forall_mem_cons.mpr ⟨lw_p68, List.forall_mem_cons.mpr ⟨lw_p69, List.forall_mem_cons.mpr ⟨lw_p70, List.forall_mem_cons.mpr ⟨lw_p71, List.forall_mem_cons.mpr ⟨lw_p72, List.forall_mem_cons.mpr ⟨lw_p73, List.forall_mem_cons.mpr ⟨lw_p74, List.forall_mem_cons.mpr ⟨lw_p75, List.forall_mem_cons.mpr ⟨lw_p76, List.forall_mem_cons.mpr ⟨lw_p77, List.forall_mem_cons.mpr ⟨lw_p78, List.forall_mem_cons.mpr ⟨lw_p79, fun _ h => absurd h List.not_mem_nil⟩⟩⟩⟩⟩⟩⟩⟩⟩⟩⟩⟩⟩⟩⟩⟩
theorem lw_p80 : lw_okq (⟨"VitalTwinModel", "tooMany", "(I)V"⟩, 97) := ⟨⟨by decide +kernel, by decide +kernel⟩, List.mem_of_getElem? (i := 1694) (by decide +kernel), List.mem_of_getElem? (i := 2061) (by decide +kernel), List.mem_of_getElem? (i := 2062) (by decide +kernel)⟩
theorem lw_p81 : lw_okq (⟨"VitalTwinModel", "function", "()V"⟩, 97) := ⟨⟨by decide +kernel, by decide +kernel⟩, List.mem_of_getElem? (i := 1694) (by decide +kernel), List.mem_of_getElem? (i := 2065) (by decide +kernel), List.mem_of_getElem? (i := 2066) (by decide +kernel)⟩
theorem lw_p82 : lw_okq (⟨"VitalTwinModel", "enter", "(I)V"⟩, 97) := ⟨⟨by decide +kernel, by decide +kernel⟩, List.mem_of_getElem? (i := 1694) (by decide +kernel), List.mem_of_getElem? (i := 2069) (by decide +kernel), List.mem_of_getElem? (i := 2070) (by decide +kernel)⟩
theorem lw_p83 : lw_okq (⟨"VitalTwinModel", "type", "()V"⟩, 97) := ⟨⟨by decide +kernel, by decide +kernel⟩, List.mem_of_getElem? (i := 1694) (by decide +kernel), List.mem_of_getElem? (i := 2073) (by decide +kernel), List.mem_of_getElem? (i := 2074) (by decide +kernel)⟩
theorem lw_p84 : lw_okq (⟨"VitalTwinModel", "constantOf", "(I)V"⟩, 97) := ⟨⟨by decide +kernel, by decide +kernel⟩, List.mem_of_getElem? (i := 1694) (by decide +kernel), List.mem_of_getElem? (i := 2077) (by decide +kernel), List.mem_of_getElem? (i := 2078) (by decide +kernel)⟩
theorem lw_p85 : lw_okq (⟨"VitalTwinModel", "setType", "(I)V"⟩, 97) := ⟨⟨by decide +kernel, by decide +kernel⟩, List.mem_of_getElem? (i := 1694) (by decide +kernel), List.mem_of_getElem? (i := 2081) (by decide +kernel), List.mem_of_getElem? (i := 2082) (by decide +kernel)⟩
theorem lw_p86 : lw_okq (⟨"VitalTwinModel", "leave", "(I)V"⟩, 97) := ⟨⟨by decide +kernel, by decide +kernel⟩, List.mem_of_getElem? (i := 1694) (by decide +kernel), List.mem_of_getElem? (i := 2085) (by decide +kernel), List.mem_of_getElem? (i := 2086) (by decide +kernel)⟩
theorem lw_p87 : lw_okq (⟨"VitalTwinModel", "list", "()I"⟩, 97) := ⟨⟨by decide +kernel, by decide +kernel⟩, List.mem_of_getElem? (i := 1694) (by decide +kernel), List.mem_of_getElem? (i := 2089) (by decide +kernel), List.mem_of_getElem? (i := 2090) (by decide +kernel)⟩
theorem lw_p88 : lw_okq (⟨"VitalTwinModel", "statement", "()I"⟩, 97) := ⟨⟨by decide +kernel, by decide +kernel⟩, List.mem_of_getElem? (i := 1694) (by decide +kernel), List.mem_of_getElem? (i := 2093) (by decide +kernel), List.mem_of_getElem? (i := 2094) (by decide +kernel)⟩
theorem lw_p89 : lw_okq (⟨"VitalTwinModel", "variable", "()I"⟩, 97) := ⟨⟨by decide +kernel, by decide +kernel⟩, List.mem_of_getElem? (i := 1694) (by decide +kernel), List.mem_of_getElem? (i := 2097) (by decide +kernel), List.mem_of_getElem? (i := 2098) (by decide +kernel)⟩
theorem lw_p90 : lw_okq (⟨"VitalTwinModel", "length", "(I)V"⟩, 97) := ⟨⟨by decide +kernel, by decide +kernel⟩, List.mem_of_getElem? (i := 1694) (by decide +kernel), List.mem_of_getElem? (i := 2101) (by decide +kernel), List.mem_of_getElem? (i := 2102) (by decide +kernel)⟩
theorem lw_p91 : lw_okq (⟨"VitalTwinModel", "fits", "(I)V"⟩, 97) := ⟨⟨by decide +kernel, by decide +kernel⟩, List.mem_of_getElem? (i := 1694) (by decide +kernel), List.mem_of_getElem? (i := 2105) (by decide +kernel), List.mem_of_getElem? (i := 2106) (by decide +kernel)⟩
theorem lw_p92 : lw_okq (⟨"VitalTwinModel", "node", "(IIJJIII)I"⟩, 97) := ⟨⟨by decide +kernel, by decide +kernel⟩, List.mem_of_getElem? (i := 1694) (by decide +kernel), List.mem_of_getElem? (i := 2109) (by decide +kernel), List.mem_of_getElem? (i := 2110) (by decide +kernel)⟩
theorem lw_p93 : lw_okq (⟨"VitalTwinModel", "termFor", "(IJJ)I"⟩, 97) := ⟨⟨by decide +kernel, by decide +kernel⟩, List.mem_of_getElem? (i := 1694) (by decide +kernel), List.mem_of_getElem? (i := 2113) (by decide +kernel), List.mem_of_getElem? (i := 2114) (by decide +kernel)⟩
theorem lw_p94 : lw_okq (⟨"VitalTwinModel", "term", "()I"⟩, 97) := ⟨⟨by decide +kernel, by decide +kernel⟩, List.mem_of_getElem? (i := 1694) (by decide +kernel), List.mem_of_getElem? (i := 2117) (by decide +kernel), List.mem_of_getElem? (i := 2118) (by decide +kernel)⟩
theorem lw_p95 : lw_okq (⟨"VitalTwinModel", "either", "()I"⟩, 97) := ⟨⟨by decide +kernel, by decide +kernel⟩, List.mem_of_getElem? (i := 1694) (by decide +kernel), List.mem_of_getElem? (i := 2121) (by decide +kernel), List.mem_of_getElem? (i := 2122) (by decide +kernel)⟩
def lw_privs_6 : List (MethodName × Nat) := [(⟨"VitalTwinModel", "tooMany", "(I)V"⟩, 97), (⟨"VitalTwinModel", "function", "()V"⟩, 97), (⟨"VitalTwinModel", "enter", "(I)V"⟩, 97), (⟨"VitalTwinModel", "type", "()V"⟩, 97), (⟨"VitalTwinModel", "constantOf", "(I)V"⟩, 97), (⟨"VitalTwinModel", "setType", "(I)V"⟩, 97), (⟨"VitalTwinModel", "leave", "(I)V"⟩, 97), (⟨"VitalTwinModel", "list", "()I"⟩, 97), (⟨"VitalTwinModel", "statement", "()I"⟩, 97), (⟨"VitalTwinModel", "variable", "()I"⟩, 97), (⟨"VitalTwinModel", "length", "(I)V"⟩, 97), (⟨"VitalTwinModel", "fits", "(I)V"⟩, 97), (⟨"VitalTwinModel", "node", "(IIJJIII)I"⟩, 97), (⟨"VitalTwinModel", "termFor", "(IJJ)I"⟩, 97), (⟨"VitalTwinModel", "term", "()I"⟩, 97), (⟨"VitalTwinModel", "either", "()I"⟩, 97)]
theorem lw_r6 : ∀ q ∈ lw_privs_6, lw_okq q := List.forall_mem_cons.mpr ⟨lw_p80, List.forall_mem_cons.mpr ⟨lw_p81, List.forall_mem_cons.mpr ⟨lw_p82, List.forall_mem_cons.mpr ⟨lw_p83, List.forall_mem_cons.mpr ⟨lw_p84, List.forall_mem_cons.mpr ⟨lw_p85, List.forall_mem_cons.mpr ⟨lw_p86, List.forall_mem_cons.mpr ⟨lw_p87, List.forall_mem_cons.mpr ⟨lw_p88, List.forall_mem_cons.mpr ⟨lw_p89, List.forall_mem_cons.mpr ⟨lw_p90, List.forall_mem_cons.mpr ⟨lw_p91, List.forall_mem_cons.mpr ⟨lw_p92, List.forall_mem_cons.mpr ⟨lw_p93, List.forall_mem_cons.mpr ⟨lw_p94, List.forall_mem_cons.mpr ⟨lw_p95, fun _ h => absurd h List.not_mem_nil⟩⟩⟩⟩⟩⟩⟩⟩⟩⟩⟩⟩⟩⟩⟩⟩
theorem lw_p96 : lw_okq (⟨"VitalTwinModel", "both", "()I"⟩, 97) := ⟨⟨by decide +kernel, by decide +kernel⟩, List.mem_of_getElem? (i := 1694) (by decide +kernel), List.mem_of_getElem? (i := 2125) (by decide +kernel), List.mem_of_getElem? (i := 2126) (by decide +kernel)⟩
theorem lw_p97 : lw_okq (⟨"VitalTwinModel", "is", "()I"⟩, 97) := ⟨⟨by decide +kernel, by decide +kernel⟩, List.mem_of_getElem? (i := 1694) (by decide +kernel), List.mem_of_getElem? (i := 2129) (by decide +kernel), List.mem_of_getElem? (i := 2130) (by decide +kernel)⟩
theorem lw_p98 : lw_okq (⟨"VitalTwinModel", "sum", "()I"⟩, 97) := ⟨⟨by decide +kernel, by decide +kernel⟩, List.mem_of_getElem? (i := 1694) (by decide +kernel), List.mem_of_getElem? (i := 2133) (by decide +kernel), List.mem_of_getElem? (i := 2134) (by decide +kernel)⟩
theorem lw_p99 : lw_okq (⟨"VitalTwinModel", "product", "()I"⟩, 97) := ⟨⟨by decide +kernel, by decide +kernel⟩, List.mem_of_getElem? (i := 1694) (by decide +kernel), List.mem_of_getElem? (i := 2137) (by decide +kernel), List.mem_of_getElem? (i := 2138) (by decide +kernel)⟩
theorem lw_p100 : lw_okq (⟨"VitalTwinModel", "front", "()I"⟩, 97) := ⟨⟨by decide +kernel, by decide +kernel⟩, List.mem_of_getElem? (i := 1694) (by decide +kernel), List.mem_of_getElem? (i := 2141) (by decide +kernel), List.mem_of_getElem? (i := 2142) (by decide +kernel)⟩
theorem lw_p101 : lw_okq (⟨"VitalTwinModel", "first", "()I"⟩, 97) := ⟨⟨by decide +kernel, by decide +kernel⟩, List.mem_of_getElem? (i := 1694) (by decide +kernel), List.mem_of_getElem? (i := 2145) (by decide +kernel), List.mem_of_getElem? (i := 2146) (by decide +kernel)⟩
theorem lw_p102 : lw_okq (⟨"VitalTwinModel", "leastOf", "()I"⟩, 97) := ⟨⟨by decide +kernel, by decide +kernel⟩, List.mem_of_getElem? (i := 1694) (by decide +kernel), List.mem_of_getElem? (i := 2149) (by decide +kernel), List.mem_of_getElem? (i := 2150) (by decide +kernel)⟩
theorem lw_p103 : lw_okq (⟨"VitalTwinModel", "absolute", "()I"⟩, 97) := ⟨⟨by decide +kernel, by decide +kernel⟩, List.mem_of_getElem? (i := 1694) (by decide +kernel), List.mem_of_getElem? (i := 2153) (by decide +kernel), List.mem_of_getElem? (i := 2154) (by decide +kernel)⟩
theorem lw_p104 : lw_okq (⟨"VitalTwinModel", "clamped", "()I"⟩, 97) := ⟨⟨by decide +kernel, by decide +kernel⟩, List.mem_of_getElem? (i := 1694) (by decide +kernel), List.mem_of_getElem? (i := 2159) (by decide +kernel), List.mem_of_getElem? (i := 2160) (by decide +kernel)⟩
theorem lw_p105 : lw_okq (⟨"VitalTwinModel", "named", "()I"⟩, 97) := ⟨⟨by decide +kernel, by decide +kernel⟩, List.mem_of_getElem? (i := 1694) (by decide +kernel), List.mem_of_getElem? (i := 2163) (by decide +kernel), List.mem_of_getElem? (i := 2164) (by decide +kernel)⟩
theorem lw_p106 : lw_okq (⟨"VitalTwinModel", "behind", "()I"⟩, 97) := ⟨⟨by decide +kernel, by decide +kernel⟩, List.mem_of_getElem? (i := 1694) (by decide +kernel), List.mem_of_getElem? (i := 2167) (by decide +kernel), List.mem_of_getElem? (i := 2168) (by decide +kernel)⟩
theorem lw_p107 : lw_okq (⟨"VitalTwinModel", "call", "(I)I"⟩, 97) := ⟨⟨by decide +kernel, by decide +kernel⟩, List.mem_of_getElem? (i := 1694) (by decide +kernel), List.mem_of_getElem? (i := 2171) (by decide +kernel), List.mem_of_getElem? (i := 2172) (by decide +kernel)⟩
theorem lw_p108 : lw_okq (⟨"VitalTwinModel", "index", "(I)I"⟩, 97) := ⟨⟨by decide +kernel, by decide +kernel⟩, List.mem_of_getElem? (i := 1694) (by decide +kernel), List.mem_of_getElem? (i := 2175) (by decide +kernel), List.mem_of_getElem? (i := 2176) (by decide +kernel)⟩
theorem lw_p109 : lw_okq (⟨"VitalTwinModel", "reckoned", "(IIII)I"⟩, 97) := ⟨⟨by decide +kernel, by decide +kernel⟩, List.mem_of_getElem? (i := 1694) (by decide +kernel), List.mem_of_getElem? (i := 2179) (by decide +kernel), List.mem_of_getElem? (i := 2180) (by decide +kernel)⟩
theorem lw_p110 : lw_okq (⟨"VitalTwinModel", "ends", "(JJJJ)V"⟩, 97) := ⟨⟨by decide +kernel, by decide +kernel⟩, List.mem_of_getElem? (i := 1694) (by decide +kernel), List.mem_of_getElem? (i := 2183) (by decide +kernel), List.mem_of_getElem? (i := 2184) (by decide +kernel)⟩
theorem lw_p111 : lw_okq (⟨"VitalTwinModel", "logic", "(IIII)I"⟩, 97) := ⟨⟨by decide +kernel, by decide +kernel⟩, List.mem_of_getElem? (i := 1694) (by decide +kernel), List.mem_of_getElem? (i := 2189) (by decide +kernel), List.mem_of_getElem? (i := 2190) (by decide +kernel)⟩
def lw_privs_7 : List (MethodName × Nat) := [(⟨"VitalTwinModel", "both", "()I"⟩, 97), (⟨"VitalTwinModel", "is", "()I"⟩, 97), (⟨"VitalTwinModel", "sum", "()I"⟩, 97), (⟨"VitalTwinModel", "product", "()I"⟩, 97), (⟨"VitalTwinModel", "front", "()I"⟩, 97), (⟨"VitalTwinModel", "first", "()I"⟩, 97), (⟨"VitalTwinModel", "leastOf", "()I"⟩, 97), (⟨"VitalTwinModel", "absolute", "()I"⟩, 97), (⟨"VitalTwinModel", "clamped", "()I"⟩, 97), (⟨"VitalTwinModel", "named", "()I"⟩, 97), (⟨"VitalTwinModel", "behind", "()I"⟩, 97), (⟨"VitalTwinModel", "call", "(I)I"⟩, 97), (⟨"VitalTwinModel", "index", "(I)I"⟩, 97), (⟨"VitalTwinModel", "reckoned", "(IIII)I"⟩, 97), (⟨"VitalTwinModel", "ends", "(JJJJ)V"⟩, 97), (⟨"VitalTwinModel", "logic", "(IIII)I"⟩, 97)]
theorem lw_r7 : ∀ q ∈ lw_privs_7, lw_okq q := List.forall_mem_cons.mpr ⟨lw_p96, List.forall_mem_cons.mpr ⟨lw_p97, List.forall_mem_cons.mpr ⟨lw_p98, List.forall_mem_cons.mpr ⟨lw_p99, List.forall_mem_cons.mpr ⟨lw_p100, List.forall_mem_cons.mpr ⟨lw_p101, List.forall_mem_cons.mpr ⟨lw_p102, List.forall_mem_cons.mpr ⟨lw_p103, List.forall_mem_cons.mpr ⟨lw_p104, List.forall_mem_cons.mpr ⟨lw_p105, List.forall_mem_cons.mpr ⟨lw_p106, List.forall_mem_cons.mpr ⟨lw_p107, List.forall_mem_cons.mpr ⟨lw_p108, List.forall_mem_cons.mpr ⟨lw_p109, List.forall_mem_cons.mpr ⟨lw_p110, List.forall_mem_cons.mpr ⟨lw_p111, fun _ h => absurd h List.not_mem_nil⟩⟩⟩⟩⟩⟩⟩⟩⟩⟩⟩⟩⟩⟩⟩⟩
theorem lw_p112 : lw_okq (⟨"VitalTwinModel", "truth", "()I"⟩, 97) := ⟨⟨by decide +kernel, by decide +kernel⟩, List.mem_of_getElem? (i := 1694) (by decide +kernel), List.mem_of_getElem? (i := 2193) (by decide +kernel), List.mem_of_getElem? (i := 2194) (by decide +kernel)⟩
theorem lw_p113 : lw_okq (⟨"VitalTwinModel", "choices", "()I"⟩, 97) := ⟨⟨by decide +kernel, by decide +kernel⟩, List.mem_of_getElem? (i := 1694) (by decide +kernel), List.mem_of_getElem? (i := 2197) (by decide +kernel), List.mem_of_getElem? (i := 2198) (by decide +kernel)⟩
theorem lw_p114 : lw_okq (⟨"VitalTwinModel", "block", "()I"⟩, 97) := ⟨⟨by decide +kernel, by decide +kernel⟩, List.mem_of_getElem? (i := 1694) (by decide +kernel), List.mem_of_getElem? (i := 2201) (by decide +kernel), List.mem_of_getElem? (i := 2202) (by decide +kernel)⟩
theorem lw_p115 : lw_okq (⟨"VitalTwinModel", "hide", "(I)V"⟩, 97) := ⟨⟨by decide +kernel, by decide +kernel⟩, List.mem_of_getElem? (i := 1694) (by decide +kernel), List.mem_of_getElem? (i := 2205) (by decide +kernel), List.mem_of_getElem? (i := 2206) (by decide +kernel)⟩
theorem lw_p116 : lw_okq (⟨"VitalTwinModel", "choice", "()I"⟩, 97) := ⟨⟨by decide +kernel, by decide +kernel⟩, List.mem_of_getElem? (i := 1694) (by decide +kernel), List.mem_of_getElem? (i := 2209) (by decide +kernel), List.mem_of_getElem? (i := 2210) (by decide +kernel)⟩
theorem lw_p117 : lw_okq (⟨"VitalTwinModel", "loop", "()I"⟩, 97) := ⟨⟨by decide +kernel, by decide +kernel⟩, List.mem_of_getElem? (i := 1694) (by decide +kernel), List.mem_of_getElem? (i := 2213) (by decide +kernel), List.mem_of_getElem? (i := 2214) (by decide +kernel)⟩
theorem lw_p118 : lw_okq (⟨"VitalTwinModel", "plain", "()I"⟩, 97) := ⟨⟨by decide +kernel, by decide +kernel⟩, List.mem_of_getElem? (i := 1694) (by decide +kernel), List.mem_of_getElem? (i := 2217) (by decide +kernel), List.mem_of_getElem? (i := 2218) (by decide +kernel)⟩
theorem lw_p119 : lw_okq (⟨"VitalTwinModel", "make", "()V"⟩, 97) := ⟨⟨by decide +kernel, by decide +kernel⟩, List.mem_of_getElem? (i := 1694) (by decide +kernel), List.mem_of_getElem? (i := 2221) (by decide +kernel), List.mem_of_getElem? (i := 2222) (by decide +kernel)⟩
theorem lw_p120 : lw_okq (⟨"VitalTwinModel", "placeAll", "(I)V"⟩, 97) := ⟨⟨by decide +kernel, by decide +kernel⟩, List.mem_of_getElem? (i := 1694) (by decide +kernel), List.mem_of_getElem? (i := 2225) (by decide +kernel), List.mem_of_getElem? (i := 2226) (by decide +kernel)⟩
theorem lw_p121 : lw_okq (⟨"VitalTwinModel", "genList", "(II)J"⟩, 97) := ⟨⟨by decide +kernel, by decide +kernel⟩, List.mem_of_getElem? (i := 1694) (by decide +kernel), List.mem_of_getElem? (i := 2229) (by decide +kernel), List.mem_of_getElem? (i := 2230) (by decide +kernel)⟩
theorem lw_p122 : lw_okq (⟨"VitalTwinModel", "genStatement", "(II)J"⟩, 97) := ⟨⟨by decide +kernel, by decide +kernel⟩, List.mem_of_getElem? (i := 1694) (by decide +kernel), List.mem_of_getElem? (i := 2233) (by decide +kernel), List.mem_of_getElem? (i := 2234) (by decide +kernel)⟩
theorem lw_p123 : lw_okq (⟨"VitalTwinModel", "gen", "(II)J"⟩, 97) := ⟨⟨by decide +kernel, by decide +kernel⟩, List.mem_of_getElem? (i := 1694) (by decide +kernel), List.mem_of_getElem? (i := 2237) (by decide +kernel), List.mem_of_getElem? (i := 2238) (by decide +kernel)⟩
theorem lw_p124 : lw_okq (⟨"VitalTwinModel", "atom", "(II)J"⟩, 97) := ⟨⟨by decide +kernel, by decide +kernel⟩, List.mem_of_getElem? (i := 1694) (by decide +kernel), List.mem_of_getElem? (i := 2241) (by decide +kernel), List.mem_of_getElem? (i := 2242) (by decide +kernel)⟩
theorem lw_p125 : lw_okq (⟨"VitalTwinModel", "emit", "(IIIJJ)I"⟩, 97) := ⟨⟨by decide +kernel, by decide +kernel⟩, List.mem_of_getElem? (i := 1694) (by decide +kernel), List.mem_of_getElem? (i := 2245) (by decide +kernel), List.mem_of_getElem? (i := 2246) (by decide +kernel)⟩
theorem lw_p126 : lw_okq (⟨"VitalTwinModel", "plainly", "(III)I"⟩, 97) := ⟨⟨by decide +kernel, by decide +kernel⟩, List.mem_of_getElem? (i := 1694) (by decide +kernel), List.mem_of_getElem? (i := 2249) (by decide +kernel), List.mem_of_getElem? (i := 2250) (by decide +kernel)⟩
theorem lw_p127 : lw_okq (⟨"VitalTwinModel", "land", "(I)V"⟩, 97) := ⟨⟨by decide +kernel, by decide +kernel⟩, List.mem_of_getElem? (i := 1694) (by decide +kernel), List.mem_of_getElem? (i := 2253) (by decide +kernel), List.mem_of_getElem? (i := 2254) (by decide +kernel)⟩
def lw_privs_8 : List (MethodName × Nat) := [(⟨"VitalTwinModel", "truth", "()I"⟩, 97), (⟨"VitalTwinModel", "choices", "()I"⟩, 97), (⟨"VitalTwinModel", "block", "()I"⟩, 97), (⟨"VitalTwinModel", "hide", "(I)V"⟩, 97), (⟨"VitalTwinModel", "choice", "()I"⟩, 97), (⟨"VitalTwinModel", "loop", "()I"⟩, 97), (⟨"VitalTwinModel", "plain", "()I"⟩, 97), (⟨"VitalTwinModel", "make", "()V"⟩, 97), (⟨"VitalTwinModel", "placeAll", "(I)V"⟩, 97), (⟨"VitalTwinModel", "genList", "(II)J"⟩, 97), (⟨"VitalTwinModel", "genStatement", "(II)J"⟩, 97), (⟨"VitalTwinModel", "gen", "(II)J"⟩, 97), (⟨"VitalTwinModel", "atom", "(II)J"⟩, 97), (⟨"VitalTwinModel", "emit", "(IIIJJ)I"⟩, 97), (⟨"VitalTwinModel", "plainly", "(III)I"⟩, 97), (⟨"VitalTwinModel", "land", "(I)V"⟩, 97)]
theorem lw_r8 : ∀ q ∈ lw_privs_8, lw_okq q := List.forall_mem_cons.mpr ⟨lw_p112, List.forall_mem_cons.mpr ⟨lw_p113, List.forall_mem_cons.mpr ⟨lw_p114, List.forall_mem_cons.mpr ⟨lw_p115, List.forall_mem_cons.mpr ⟨lw_p116, List.forall_mem_cons.mpr ⟨lw_p117, List.forall_mem_cons.mpr ⟨lw_p118, List.forall_mem_cons.mpr ⟨lw_p119, List.forall_mem_cons.mpr ⟨lw_p120, List.forall_mem_cons.mpr ⟨lw_p121, List.forall_mem_cons.mpr ⟨lw_p122, List.forall_mem_cons.mpr ⟨lw_p123, List.forall_mem_cons.mpr ⟨lw_p124, List.forall_mem_cons.mpr ⟨lw_p125, List.forall_mem_cons.mpr ⟨lw_p126, List.forall_mem_cons.mpr ⟨lw_p127, fun _ h => absurd h List.not_mem_nil⟩⟩⟩⟩⟩⟩⟩⟩⟩⟩⟩⟩⟩⟩⟩⟩
theorem lw_p128 : lw_okq (⟨"VitalTwinModel", "genCall", "(II)J"⟩, 97) := ⟨⟨by decide +kernel, by decide +kernel⟩, List.mem_of_getElem? (i := 1694) (by decide +kernel), List.mem_of_getElem? (i := 2262) (by decide +kernel), List.mem_of_getElem? (i := 2263) (by decide +kernel)⟩
theorem lw_p129 : lw_okq (⟨"VitalTwinModel", "temp", "(I)I"⟩, 97) := ⟨⟨by decide +kernel, by decide +kernel⟩, List.mem_of_getElem? (i := 1694) (by decide +kernel), List.mem_of_getElem? (i := 2267) (by decide +kernel), List.mem_of_getElem? (i := 2268) (by decide +kernel)⟩
theorem lw_p130 : lw_okq (⟨"VitalTwinModel", "load", "(II)V"⟩, 97) := ⟨⟨by decide +kernel, by decide +kernel⟩, List.mem_of_getElem? (i := 1694) (by decide +kernel), List.mem_of_getElem? (i := 2271) (by decide +kernel), List.mem_of_getElem? (i := 2272) (by decide +kernel)⟩
theorem lw_p131 : lw_okq (⟨"VitalTwinModel", "genCase", "(II)J"⟩, 97) := ⟨⟨by decide +kernel, by decide +kernel⟩, List.mem_of_getElem? (i := 1694) (by decide +kernel), List.mem_of_getElem? (i := 2277) (by decide +kernel), List.mem_of_getElem? (i := 2278) (by decide +kernel)⟩
theorem lw_p132 : lw_okq (⟨"VitalTwinModel", "test", "(IIIII)J"⟩, 97) := ⟨⟨by decide +kernel, by decide +kernel⟩, List.mem_of_getElem? (i := 1694) (by decide +kernel), List.mem_of_getElem? (i := 2281) (by decide +kernel), List.mem_of_getElem? (i := 2282) (by decide +kernel)⟩
theorem lw_p133 : lw_okq (⟨"VitalTwinModel", "landAll", "(I)V"⟩, 97) := ⟨⟨by decide +kernel, by decide +kernel⟩, List.mem_of_getElem? (i := 1694) (by decide +kernel), List.mem_of_getElem? (i := 2286) (by decide +kernel), List.mem_of_getElem? (i := 2287) (by decide +kernel)⟩
theorem lw_p134 : lw_okq (⟨"VitalTwinModel", "genIf", "(II)J"⟩, 97) := ⟨⟨by decide +kernel, by decide +kernel⟩, List.mem_of_getElem? (i := 1694) (by decide +kernel), List.mem_of_getElem? (i := 2290) (by decide +kernel), List.mem_of_getElem? (i := 2291) (by decide +kernel)⟩
theorem lw_p135 : lw_okq (⟨"VitalTwinModel", "genFor", "(II)J"⟩, 97) := ⟨⟨by decide +kernel, by decide +kernel⟩, List.mem_of_getElem? (i := 1694) (by decide +kernel), List.mem_of_getElem? (i := 2294) (by decide +kernel), List.mem_of_getElem? (i := 2295) (by decide +kernel)⟩
theorem lw_p136 : lw_okq (⟨"VitalTwinModel", "bringBack", "()V"⟩, 97) := ⟨⟨by decide +kernel, by decide +kernel⟩, List.mem_of_getElem? (i := 1694) (by decide +kernel), List.mem_of_getElem? (i := 2303) (by decide +kernel), List.mem_of_getElem? (i := 2304) (by decide +kernel)⟩
theorem lw_p137 : lw_okq (⟨"VitalTwinModel", "firstGiven", "()V"⟩, 97) := ⟨⟨by decide +kernel, by decide +kernel⟩, List.mem_of_getElem? (i := 1694) (by decide +kernel), List.mem_of_getElem? (i := 2307) (by decide +kernel), List.mem_of_getElem? (i := 2308) (by decide +kernel)⟩
theorem lw_p138 : lw_okq (⟨"VitalTwinModel", "anew", "()V"⟩, 97) := ⟨⟨by decide +kernel, by decide +kernel⟩, List.mem_of_getElem? (i := 1694) (by decide +kernel), List.mem_of_getElem? (i := 2311) (by decide +kernel), List.mem_of_getElem? (i := 2312) (by decide +kernel)⟩
theorem lw_p139 : lw_okq (⟨"VitalTwinModel", "cycleBegins", "()V"⟩, 97) := ⟨⟨by decide +kernel, by decide +kernel⟩, List.mem_of_getElem? (i := 1694) (by decide +kernel), List.mem_of_getElem? (i := 2321) (by decide +kernel), List.mem_of_getElem? (i := 2322) (by decide +kernel)⟩
theorem lw_p140 : lw_okq (⟨"VitalTwinModel", "copyBegins", "(I)V"⟩, 97) := ⟨⟨by decide +kernel, by decide +kernel⟩, List.mem_of_getElem? (i := 1694) (by decide +kernel), List.mem_of_getElem? (i := 2325) (by decide +kernel), List.mem_of_getElem? (i := 2326) (by decide +kernel)⟩
theorem lw_p141 : lw_okq (⟨"VitalTwinModel", "step", "()V"⟩, 97) := ⟨⟨by decide +kernel, by decide +kernel⟩, List.mem_of_getElem? (i := 1694) (by decide +kernel), List.mem_of_getElem? (i := 2329) (by decide +kernel), List.mem_of_getElem? (i := 2330) (by decide +kernel)⟩
theorem lw_p142 : lw_okq (⟨"VitalTwinModel", "flipAll", "()V"⟩, 97) := ⟨⟨by decide +kernel, by decide +kernel⟩, List.mem_of_getElem? (i := 1694) (by decide +kernel), List.mem_of_getElem? (i := 2333) (by decide +kernel), List.mem_of_getElem? (i := 2334) (by decide +kernel)⟩
theorem lw_p143 : lw_okq (⟨"VitalTwinModel", "does", "(IIII)Z"⟩, 97) := ⟨⟨by decide +kernel, by decide +kernel⟩, List.mem_of_getElem? (i := 1694) (by decide +kernel), List.mem_of_getElem? (i := 2337) (by decide +kernel), List.mem_of_getElem? (i := 2338) (by decide +kernel)⟩
def lw_privs_9 : List (MethodName × Nat) := [(⟨"VitalTwinModel", "genCall", "(II)J"⟩, 97), (⟨"VitalTwinModel", "temp", "(I)I"⟩, 97), (⟨"VitalTwinModel", "load", "(II)V"⟩, 97), (⟨"VitalTwinModel", "genCase", "(II)J"⟩, 97), (⟨"VitalTwinModel", "test", "(IIIII)J"⟩, 97), (⟨"VitalTwinModel", "landAll", "(I)V"⟩, 97), (⟨"VitalTwinModel", "genIf", "(II)J"⟩, 97), (⟨"VitalTwinModel", "genFor", "(II)J"⟩, 97), (⟨"VitalTwinModel", "bringBack", "()V"⟩, 97), (⟨"VitalTwinModel", "firstGiven", "()V"⟩, 97), (⟨"VitalTwinModel", "anew", "()V"⟩, 97), (⟨"VitalTwinModel", "cycleBegins", "()V"⟩, 97), (⟨"VitalTwinModel", "copyBegins", "(I)V"⟩, 97), (⟨"VitalTwinModel", "step", "()V"⟩, 97), (⟨"VitalTwinModel", "flipAll", "()V"⟩, 97), (⟨"VitalTwinModel", "does", "(IIII)Z"⟩, 97)]
theorem lw_r9 : ∀ q ∈ lw_privs_9, lw_okq q := List.forall_mem_cons.mpr ⟨lw_p128, List.forall_mem_cons.mpr ⟨lw_p129, List.forall_mem_cons.mpr ⟨lw_p130, List.forall_mem_cons.mpr ⟨lw_p131, List.forall_mem_cons.mpr ⟨lw_p132, List.forall_mem_cons.mpr ⟨lw_p133, List.forall_mem_cons.mpr ⟨lw_p134, List.forall_mem_cons.mpr ⟨lw_p135, List.forall_mem_cons.mpr ⟨lw_p136, List.forall_mem_cons.mpr ⟨lw_p137, List.forall_mem_cons.mpr ⟨lw_p138, List.forall_mem_cons.mpr ⟨lw_p139, List.forall_mem_cons.mpr ⟨lw_p140, List.forall_mem_cons.mpr ⟨lw_p141, List.forall_mem_cons.mpr ⟨lw_p142, List.forall_mem_cons.mpr ⟨lw_p143, fun _ h => absurd h List.not_mem_nil⟩⟩⟩⟩⟩⟩⟩⟩⟩⟩⟩⟩⟩⟩⟩⟩
theorem lw_p144 : lw_okq (⟨"VitalTwinModel", "indexOf", "(IJI)I"⟩, 97) := ⟨⟨by decide +kernel, by decide +kernel⟩, List.mem_of_getElem? (i := 1694) (by decide +kernel), List.mem_of_getElem? (i := 2341) (by decide +kernel), List.mem_of_getElem? (i := 2342) (by decide +kernel)⟩
theorem lw_p145 : lw_okq (⟨"VitalTwinModel", "truth", "(IZ)J"⟩, 97) := ⟨⟨by decide +kernel, by decide +kernel⟩, List.mem_of_getElem? (i := 1694) (by decide +kernel), List.mem_of_getElem? (i := 2345) (by decide +kernel), List.mem_of_getElem? (i := 2346) (by decide +kernel)⟩
theorem lw_p146 : lw_okq (⟨"VitalTwinModel", "latch", "(I)V"⟩, 97) := ⟨⟨by decide +kernel, by decide +kernel⟩, List.mem_of_getElem? (i := 1694) (by decide +kernel), List.mem_of_getElem? (i := 2349) (by decide +kernel), List.mem_of_getElem? (i := 2350) (by decide +kernel)⟩
theorem lw_p147 : lw_okq (⟨"VitalTwinModel", "through", "()V"⟩, 97) := ⟨⟨by decide +kernel, by decide +kernel⟩, List.mem_of_getElem? (i := 1694) (by decide +kernel), List.mem_of_getElem? (i := 2353) (by decide +kernel), List.mem_of_getElem? (i := 2354) (by decide +kernel)⟩
theorem lw_p148 : lw_okq (⟨"VitalTwinModel", "gate", "()V"⟩, 97) := ⟨⟨by decide +kernel, by decide +kernel⟩, List.mem_of_getElem? (i := 1694) (by decide +kernel), List.mem_of_getElem? (i := 2357) (by decide +kernel), List.mem_of_getElem? (i := 2358) (by decide +kernel)⟩
theorem lw_p149 : lw_okq (⟨"VitalTwinModel", "agree", "()Z"⟩, 97) := ⟨⟨by decide +kernel, by decide +kernel⟩, List.mem_of_getElem? (i := 1694) (by decide +kernel), List.mem_of_getElem? (i := 2361) (by decide +kernel), List.mem_of_getElem? (i := 2362) (by decide +kernel)⟩
theorem lw_p150 : lw_okq (⟨"VitalTwinModel", "whole", "()V"⟩, 97) := ⟨⟨by decide +kernel, by decide +kernel⟩, List.mem_of_getElem? (i := 1694) (by decide +kernel), List.mem_of_getElem? (i := 2369) (by decide +kernel), List.mem_of_getElem? (i := 2370) (by decide +kernel)⟩
theorem lw_p151 : lw_okq (⟨"VitalTwinModel", "symbolAt", "(II)I"⟩, 97) := ⟨⟨by decide +kernel, by decide +kernel⟩, List.mem_of_getElem? (i := 1694) (by decide +kernel), List.mem_of_getElem? (i := 2377) (by decide +kernel), List.mem_of_getElem? (i := 2378) (by decide +kernel)⟩
theorem lw_p152 : lw_okq (⟨"VitalTwinModel", "isPlace", "(II)Z"⟩, 97) := ⟨⟨by decide +kernel, by decide +kernel⟩, List.mem_of_getElem? (i := 1694) (by decide +kernel), List.mem_of_getElem? (i := 2402) (by decide +kernel), List.mem_of_getElem? (i := 2403) (by decide +kernel)⟩
theorem lw_p153 : lw_okq (⟨"VitalTwinModel", "keepAll", "()V"⟩, 97) := ⟨⟨by decide +kernel, by decide +kernel⟩, List.mem_of_getElem? (i := 1694) (by decide +kernel), List.mem_of_getElem? (i := 2414) (by decide +kernel), List.mem_of_getElem? (i := 2415) (by decide +kernel)⟩
theorem lw_p154 : lw_okq (⟨"VitalTwinModel", "bringAll", "(II)V"⟩, 97) := ⟨⟨by decide +kernel, by decide +kernel⟩, List.mem_of_getElem? (i := 1694) (by decide +kernel), List.mem_of_getElem? (i := 2418) (by decide +kernel), List.mem_of_getElem? (i := 2419) (by decide +kernel)⟩
theorem lw_p155 : lw_okq (⟨"VitalTwinModel", "put", "(I)V"⟩, 97) := ⟨⟨by decide +kernel, by decide +kernel⟩, List.mem_of_getElem? (i := 1694) (by decide +kernel), List.mem_of_getElem? (i := 2443) (by decide +kernel), List.mem_of_getElem? (i := 2444) (by decide +kernel)⟩
theorem lw_p156 : lw_okq (⟨"VitalTwinModel", "putNumber", "(J)V"⟩, 97) := ⟨⟨by decide +kernel, by decide +kernel⟩, List.mem_of_getElem? (i := 1694) (by decide +kernel), List.mem_of_getElem? (i := 2447) (by decide +kernel), List.mem_of_getElem? (i := 2448) (by decide +kernel)⟩
def lw_privs_10 : List (MethodName × Nat) := [(⟨"VitalTwinModel", "indexOf", "(IJI)I"⟩, 97), (⟨"VitalTwinModel", "truth", "(IZ)J"⟩, 97), (⟨"VitalTwinModel", "latch", "(I)V"⟩, 97), (⟨"VitalTwinModel", "through", "()V"⟩, 97), (⟨"VitalTwinModel", "gate", "()V"⟩, 97), (⟨"VitalTwinModel", "agree", "()Z"⟩, 97), (⟨"VitalTwinModel", "whole", "()V"⟩, 97), (⟨"VitalTwinModel", "symbolAt", "(II)I"⟩, 97), (⟨"VitalTwinModel", "isPlace", "(II)Z"⟩, 97), (⟨"VitalTwinModel", "keepAll", "()V"⟩, 97), (⟨"VitalTwinModel", "bringAll", "(II)V"⟩, 97), (⟨"VitalTwinModel", "put", "(I)V"⟩, 97), (⟨"VitalTwinModel", "putNumber", "(J)V"⟩, 97)]
theorem lw_r10 : ∀ q ∈ lw_privs_10, lw_okq q := List.forall_mem_cons.mpr ⟨lw_p144, List.forall_mem_cons.mpr ⟨lw_p145, List.forall_mem_cons.mpr ⟨lw_p146, List.forall_mem_cons.mpr ⟨lw_p147, List.forall_mem_cons.mpr ⟨lw_p148, List.forall_mem_cons.mpr ⟨lw_p149, List.forall_mem_cons.mpr ⟨lw_p150, List.forall_mem_cons.mpr ⟨lw_p151, List.forall_mem_cons.mpr ⟨lw_p152, List.forall_mem_cons.mpr ⟨lw_p153, List.forall_mem_cons.mpr ⟨lw_p154, List.forall_mem_cons.mpr ⟨lw_p155, List.forall_mem_cons.mpr ⟨lw_p156, fun _ h => absurd h List.not_mem_nil⟩⟩⟩⟩⟩⟩⟩⟩⟩⟩⟩⟩⟩
def lw_privs : List (MethodName × Nat) := lw_privs_1 ++ (lw_privs_2 ++ (lw_privs_3 ++ (lw_privs_4 ++ (lw_privs_5 ++ (lw_privs_6 ++ (lw_privs_7 ++ (lw_privs_8 ++ (lw_privs_9 ++ (lw_privs_10)))))))))
def lw_tbl : List Cond := k2_sels lw_privs ++ tables_1
theorem lw_privs_ok : ∀ q ∈ lw_privs, lw_okq q := by
  show ∀ q ∈ lw_privs_1 ++ (lw_privs_2 ++ (lw_privs_3 ++ (lw_privs_4 ++ (lw_privs_5 ++ (lw_privs_6 ++ (lw_privs_7 ++ (lw_privs_8 ++ (lw_privs_9 ++ (lw_privs_10))))))))), lw_okq q
  exact List.forall_mem_append.mpr ⟨lw_r1, List.forall_mem_append.mpr ⟨lw_r2, List.forall_mem_append.mpr ⟨lw_r3, List.forall_mem_append.mpr ⟨lw_r4, List.forall_mem_append.mpr ⟨lw_r5, List.forall_mem_append.mpr ⟨lw_r6, List.forall_mem_append.mpr ⟨lw_r7, List.forall_mem_append.mpr ⟨lw_r8, List.forall_mem_append.mpr ⟨lw_r9, lw_r10⟩⟩⟩⟩⟩⟩⟩⟩⟩
end
section
/-! instructions of the methods 0 to 39, printed by wip/whole/tools/gen14.py out of the claim: each list is what decode gives -/
/-- a method's instructions are what its bytes decode to -/
def vt_chk (q : ByteArray × List (Nat × Instr × Nat)) : Bool := q.2.all (fun r => match decode q.1 r.1 with
  | .ok x => decide (x = (r.2.1, r.2.2)) && (r.2.2 == ip_ln r.2.1 || ip_sw r.2.1)
  | .error _ => false)
-- 0: VitalTwin.<init> (I)V
def vt_i0 : List (Nat × Instr × Nat) := [(0, .aload_n 0, 1), (1, .invokespecial 1, 3), (4, .bipush 16, 2), (6, .sipush 4096, 3), (9, .iload_n 1, 1), (10, .invokestatic 7, 3), (13, .invokestatic 13, 3), (16, .istore_n 2, 1), (17, .new 16, 3), (20, .dup, 1), (21, .invokespecial 18, 3), (24, .astore_n 3, 1), (25, .new 19, 3), (28, .dup, 1), (29, .aload_n 3, 1), (30, .iload_n 2, 1), (31, .invokespecial 21, 3), (34, .astore 4, 2), (36, .aload_n 0, 1), (37, .aload_n 3, 1), (38, .putfield 24, 3), (41, .aload_n 0, 1), (42, .aload 4, 2), (44, .putfield 30, 3), (47, .aload_n 0, 1), (48, .new 19, 3), (51, .dup, 1), (52, .aload_n 3, 1), (53, .iload_n 2, 1), (54, .invokespecial 21, 3), (57, .putfield 34, 3), (60, .aload_n 0, 1), (61, .new 37, 3), (64, .dup, 1), (65, .iload_n 2, 1), (66, .aload 4, 2), (68, .getfield 39, 3), (71, .invokespecial 43, 3), (74, .putfield 46, 3), (77, .aload_n 0, 1), (78, .bipush 64, 2), (80, .newarray .byte, 2), (82, .putfield 50, 3), (85, .return_, 1)]
theorem vt_o0 : vt_chk (prog_1_method_1_code, vt_i0) = true := by decide +kernel
-- 1: VitalTwin$Reader.<init> ()V
def vt_i1 : List (Nat × Instr × Nat) := [(0, .aload_n 0, 1), (1, .invokespecial 3, 3), (4, .aload_n 0, 1), (5, .bipush 20, 2), (7, .newarray .byte, 2), (9, .putfield 9, 3), (12, .aload_n 0, 1), (13, .sipush 1024, 3), (16, .newarray .byte, 2), (18, .putfield 15, 3), (21, .aload_n 0, 1), (22, .iconst 0, 1), (23, .newarray .byte, 2), (25, .putfield 18, 3), (28, .aload_n 0, 1), (29, .iconst 0, 1), (30, .newarray .int, 2), (32, .putfield 21, 3), (35, .return_, 1)]
theorem vt_o1 : vt_chk (prog_9_method_1_code, vt_i1) = true := by decide +kernel
-- 2: VitalTwin$Declarations.<init> (LVitalTwin$Reader;I)V
def vt_i2 : List (Nat × Instr × Nat) := [(0, .aload_n 0, 1), (1, .invokespecial 3, 3), (4, .new 9, 3), (7, .dup, 1), (8, .invokespecial 11, 3), (11, .astore_n 3, 1), (12, .new 12, 3), (15, .dup, 1), (16, .aload_n 1, 1), (17, .aload_n 3, 1), (18, .invokespecial 14, 3), (21, .astore 4, 2), (23, .aload_n 0, 1), (24, .aload_n 1, 1), (25, .putfield 17, 3), (28, .aload_n 0, 1), (29, .iload_n 2, 1), (30, .putfield 23, 3), (33, .aload_n 0, 1), (34, .aload_n 3, 1), (35, .putfield 27, 3), (38, .aload_n 0, 1), (39, .aload 4, 2), (41, .putfield 31, 3), (44, .aload_n 0, 1), (45, .new 35, 3), (48, .dup, 1), (49, .aload_n 1, 1), (50, .aload_n 3, 1), (51, .aload 4, 2), (53, .invokespecial 37, 3), (56, .putfield 40, 3), (59, .return_, 1)]
theorem vt_o2 : vt_chk (prog_5_method_1_code, vt_i2) = true := by decide +kernel
-- 3: VitalTwin$Program.<init> ()V
def vt_i3 : List (Nat × Instr × Nat) := [(0, .aload_n 0, 1), (1, .invokespecial 3, 3), (4, .aload_n 0, 1), (5, .new 9, 3), (8, .dup, 1), (9, .invokespecial 11, 3), (12, .putfield 12, 3), (15, .aload_n 0, 1), (16, .sipush 400, 3), (19, .anewarray 18, 3), (22, .putfield 20, 3), (25, .aload_n 0, 1), (26, .sipush 8000, 3), (29, .newarray .byte, 2), (31, .putfield 24, 3), (34, .return_, 1)]
theorem vt_o3 : vt_chk (prog_8_method_1_code, vt_i3) = true := by decide +kernel
-- 4: VitalTwin$Code.<init> ()V
def vt_i4 : List (Nat × Instr × Nat) := [(0, .aload_n 0, 1), (1, .invokespecial 3, 3), (4, .aload_n 0, 1), (5, .iconst 0, 1), (6, .newarray .int, 2), (8, .putfield 9, 3), (11, .aload_n 0, 1), (12, .iconst 0, 1), (13, .newarray .int, 2), (15, .putfield 15, 3), (18, .aload_n 0, 1), (19, .iconst 0, 1), (20, .newarray .int, 2), (22, .putfield 18, 3), (25, .aload_n 0, 1), (26, .iconst 0, 1), (27, .newarray .int, 2), (29, .putfield 21, 3), (32, .aload_n 0, 1), (33, .iconst 0, 1), (34, .newarray .int, 2), (36, .putfield 24, 3), (39, .aload_n 0, 1), (40, .iconst 0, 1), (41, .newarray .int, 2), (43, .putfield 27, 3), (46, .aload_n 0, 1), (47, .sipush 401, 3), (50, .newarray .int, 2), (52, .putfield 30, 3), (55, .aload_n 0, 1), (56, .sipush 401, 3), (59, .newarray .int, 2), (61, .putfield 33, 3), (64, .aload_n 0, 1), (65, .sipush 1024, 3), (68, .newarray .int, 2), (70, .putfield 36, 3), (73, .aload_n 0, 1), (74, .sipush 1024, 3), (77, .newarray .int, 2), (79, .putfield 39, 3), (82, .return_, 1)]
theorem vt_o4 : vt_chk (prog_2_method_1_code, vt_i4) = true := by decide +kernel
-- 5: VitalTwin$Constants.<init> (LVitalTwin$Reader;LVitalTwin$Program;)V
def vt_i5 : List (Nat × Instr × Nat) := [(0, .aload_n 0, 1), (1, .invokespecial 3, 3), (4, .aload_n 0, 1), (5, .aload_n 1, 1), (6, .putfield 9, 3), (9, .aload_n 0, 1), (10, .aload_n 2, 1), (11, .putfield 15, 3), (14, .return_, 1)]
theorem vt_o5 : vt_chk (prog_3_method_1_code, vt_i5) = true := by decide +kernel
-- 6: VitalTwin$Statements.<init> (LVitalTwin$Reader;LVitalTwin$Program;LVitalTwin$Constants;)V
def vt_i6 : List (Nat × Instr × Nat) := [(0, .aload_n 0, 1), (1, .invokespecial 3, 3), (4, .aload_n 0, 1), (5, .aload_n 1, 1), (6, .putfield 9, 3), (9, .aload_n 0, 1), (10, .aload_n 2, 1), (11, .putfield 15, 3), (14, .aload_n 0, 1), (15, .aload_n 2, 1), (16, .getfield 19, 3), (19, .putfield 25, 3), (22, .aload_n 0, 1), (23, .aload_n 3, 1), (24, .putfield 26, 3), (27, .aload_n 0, 1), (28, .new 30, 3), (31, .dup, 1), (32, .aload_n 1, 1), (33, .aload_n 2, 1), (34, .aload_n 3, 1), (35, .invokespecial 32, 3), (38, .putfield 35, 3), (41, .return_, 1)]
theorem vt_o6 : vt_chk (prog_11_method_1_code, vt_i6) = true := by decide +kernel
-- 7: VitalTwin$Expressions.<init> (LVitalTwin$Reader;LVitalTwin$Program;LVitalTwin$Constants;)V
def vt_i7 : List (Nat × Instr × Nat) := [(0, .aload_n 0, 1), (1, .invokespecial 3, 3), (4, .aload_n 0, 1), (5, .sipush 512, 3), (8, .newarray .int, 2), (10, .putfield 11, 3), (13, .aload_n 0, 1), (14, .sipush 512, 3), (17, .newarray .int, 2), (19, .putfield 15, 3), (22, .aload_n 0, 1), (23, .sipush 512, 3), (26, .newarray .int, 2), (28, .putfield 18, 3), (31, .aload_n 0, 1), (32, .sipush 512, 3), (35, .newarray .int, 2), (37, .putfield 21, 3), (40, .aload_n 0, 1), (41, .sipush 512, 3), (44, .newarray .int, 2), (46, .putfield 24, 3), (49, .aload_n 0, 1), (50, .sipush 512, 3), (53, .newarray .int, 2), (55, .putfield 27, 3), (58, .aload_n 0, 1), (59, .sipush 512, 3), (62, .newarray .int, 2), (64, .putfield 30, 3), (67, .aload_n 0, 1), (68, .aload_n 1, 1), (69, .putfield 33, 3), (72, .aload_n 0, 1), (73, .aload_n 2, 1), (74, .putfield 37, 3), (77, .aload_n 0, 1), (78, .aload_n 2, 1), (79, .getfield 41, 3), (82, .putfield 47, 3), (85, .aload_n 0, 1), (86, .aload_n 3, 1), (87, .putfield 48, 3), (90, .return_, 1)]
theorem vt_o7 : vt_chk (prog_6_method_1_code, vt_i7) = true := by decide +kernel
-- 8: VitalTwin$Machine.<init> (ILVitalTwin$Program;)V
def vt_i8 : List (Nat × Instr × Nat) := [(0, .aload_n 0, 1), (1, .invokespecial 3, 3), (4, .aload_n 0, 1), (5, .iconst 0, 1), (6, .newarray .int, 2), (8, .putfield 9, 3), (11, .aload_n 0, 1), (12, .bipush 32, 2), (14, .newarray .int, 2), (16, .putfield 15, 3), (19, .aload_n 0, 1), (20, .new 18, 3), (23, .dup, 1), (24, .iload_n 1, 1), (25, .invokespecial 20, 3), (28, .putfield 23, 3), (31, .aload_n 0, 1), (32, .new 18, 3), (35, .dup, 1), (36, .iload_n 1, 1), (37, .invokespecial 20, 3), (40, .putfield 27, 3), (43, .aload_n 0, 1), (44, .new 18, 3), (47, .dup, 1), (48, .iload_n 1, 1), (49, .invokespecial 20, 3), (52, .putfield 30, 3), (55, .aload_n 0, 1), (56, .iload_n 1, 1), (57, .newarray .int, 2), (59, .putfield 33, 3), (62, .aload_n 0, 1), (63, .iload_n 1, 1), (64, .newarray .int, 2), (66, .putfield 36, 3), (69, .aload_n 0, 1), (70, .aload_n 2, 1), (71, .putfield 39, 3), (74, .return_, 1)]
theorem vt_o8 : vt_chk (prog_7_method_1_code, vt_i8) = true := by decide +kernel
-- 9: VitalTwin$Run.<init> (I)V
def vt_i9 : List (Nat × Instr × Nat) := [(0, .aload_n 0, 1), (1, .invokespecial 3, 3), (4, .aload_n 0, 1), (5, .new 9, 3), (8, .dup, 1), (9, .iload_n 1, 1), (10, .lconst 1, 1), (11, .invokespecial 11, 3), (14, .putfield 14, 3), (17, .aload_n 0, 1), (18, .new 9, 3), (21, .dup, 1), (22, .iload_n 1, 1), (23, .ldc2_w 20, 3), (26, .invokespecial 11, 3), (29, .putfield 22, 3), (32, .return_, 1)]
theorem vt_o9 : vt_chk (prog_10_method_1_code, vt_i9) = true := by decide +kernel
-- 10: VitalTwin$Copy.<init> (IJ)V
def vt_i10 : List (Nat × Instr × Nat) := [(0, .aload_n 0, 1), (1, .invokespecial 3, 3), (4, .aload_n 0, 1), (5, .bipush 16, 2), (7, .newarray .int, 2), (9, .putfield 9, 3), (12, .aload_n 0, 1), (13, .iload_n 1, 1), (14, .newarray .long, 2), (16, .putfield 15, 3), (19, .aload_n 0, 1), (20, .lload_n 2, 1), (21, .putfield 19, 3), (24, .return_, 1)]
theorem vt_o10 : vt_chk (prog_4_method_1_code, vt_i10) = true := by decide +kernel
-- 11: VitalTwin.feed (JJ)I
def vt_i11 : List (Nat × Instr × Nat) := [(0, .aload_n 0, 1), (1, .getfield 24, 3), (4, .lload_n 1, 1), (5, .lload_n 3, 1), (6, .invokevirtual 54, 3), (9, .ireturn, 1)]
theorem vt_o11 : vt_chk (prog_1_method_2_code, vt_i11) = true := by decide +kernel
-- 12: VitalTwin$Reader.add (JJ)I
def vt_i12 : List (Nat × Instr × Nat) := [(0, .lload_n 1, 1), (1, .invokestatic 25, 3), (4, .istore 5, 2), (6, .lload_n 3, 1), (7, .invokestatic 25, 3), (10, .istore 6, 2), (12, .iload 5, 2), (14, .ifCond .lt 23, 3), (17, .iload 6, 2), (19, .ifCond .lt 18, 3), (22, .aload_n 0, 1), (23, .getfield 29, 3), (26, .iload 5, 2), (28, .iadd, 1), (29, .iload 6, 2), (31, .iadd, 1), (32, .ldc 33, 2), (34, .if_icmp .le 5, 3), (37, .iconst (-1), 1), (38, .ireturn, 1), (39, .aload_n 0, 1), (40, .aload_n 0, 1), (41, .getfield 29, 3), (44, .iload 5, 2), (46, .iadd, 1), (47, .iload 6, 2), (49, .iadd, 1), (50, .invokevirtual 34, 3), (53, .aload_n 0, 1), (54, .lload_n 1, 1), (55, .invokevirtual 38, 3), (58, .aload_n 0, 1), (59, .lload_n 3, 1), (60, .invokevirtual 38, 3), (63, .aload_n 0, 1), (64, .getfield 29, 3), (67, .ireturn, 1)]
theorem vt_o12 : vt_chk (prog_9_method_2_code, vt_i12) = true := by decide +kernel
-- 13: VitalTwin$Reader.signsOf (J)I
def vt_i13 : List (Nat × Instr × Nat) := [(0, .iconst 0, 1), (1, .istore_n 2, 1), (2, .bipush 56, 2), (4, .istore_n 3, 1), (5, .iload_n 3, 1), (6, .ifCond .lt 50, 3), (9, .lload_n 0, 1), (10, .iload_n 3, 1), (11, .lushr, 1), (12, .l2i, 1), (13, .sipush 255, 3), (16, .iand, 1), (17, .istore 4, 2), (19, .iload 4, 2), (21, .ifCond .eq 29, 3), (24, .iload 4, 2), (26, .bipush 10, 2), (28, .if_icmp .eq 19, 3), (31, .iload 4, 2), (33, .bipush 32, 2), (35, .if_icmp .lt 10, 3), (38, .iload 4, 2), (40, .bipush 126, 2), (42, .if_icmp .le 5, 3), (45, .iconst (-1), 1), (46, .ireturn, 1), (47, .iinc 2 1, 3), (50, .iinc 3 (-8), 3), (53, .goto (-48), 3), (56, .iload_n 2, 1), (57, .ireturn, 1)]
theorem vt_o13 : vt_chk (prog_9_method_3_code, vt_i13) = true := by decide +kernel
-- 14: VitalTwin$Reader.makeRoom (I)V
def vt_i14 : List (Nat × Instr × Nat) := [(0, .iload_n 1, 1), (1, .aload_n 0, 1), (2, .getfield 15, 3), (5, .arraylength, 1), (6, .if_icmp .le 25, 3), (9, .aload_n 0, 1), (10, .aload_n 0, 1), (11, .getfield 15, 3), (14, .iload_n 1, 1), (15, .iconst 2, 1), (16, .aload_n 0, 1), (17, .getfield 15, 3), (20, .arraylength, 1), (21, .imul, 1), (22, .invokestatic 42, 3), (25, .invokestatic 48, 3), (28, .putfield 15, 3), (31, .return_, 1)]
theorem vt_o14 : vt_chk (prog_9_method_4_code, vt_i14) = true := by decide +kernel
-- 15: VitalTwin$Reader.append (J)V
def vt_i15 : List (Nat × Instr × Nat) := [(0, .bipush 56, 2), (2, .istore_n 3, 1), (3, .iload_n 3, 1), (4, .ifCond .lt 58, 3), (7, .lload_n 1, 1), (8, .iload_n 3, 1), (9, .lushr, 1), (10, .l2i, 1), (11, .sipush 255, 3), (14, .iand, 1), (15, .istore 4, 2), (17, .iload 4, 2), (19, .ifCond .eq 37, 3), (22, .aload_n 0, 1), (23, .getfield 29, 3), (26, .aload_n 0, 1), (27, .getfield 15, 3), (30, .arraylength, 1), (31, .if_icmp .ge 25, 3), (34, .aload_n 0, 1), (35, .getfield 15, 3), (38, .aload_n 0, 1), (39, .getfield 29, 3), (42, .iload 4, 2), (44, .i2b, 1), (45, .bastore, 1), (46, .aload_n 0, 1), (47, .dup, 1), (48, .getfield 29, 3), (51, .iconst 1, 1), (52, .iadd, 1), (53, .putfield 29, 3), (56, .iinc 3 (-8), 3), (59, .goto (-56), 3), (62, .return_, 1)]
theorem vt_o15 : vt_chk (prog_9_method_5_code, vt_i15) = true := by decide +kernel
-- 16: VitalTwin$Declarations.readProgram ()V
def vt_i16 : List (Nat × Instr × Nat) := [(0, .aload_n 0, 1), (1, .getfield 27, 3), (4, .invokevirtual 44, 3), (7, .aload_n 0, 1), (8, .getfield 40, 3), (11, .invokevirtual 47, 3), (14, .aload_n 0, 1), (15, .getfield 17, 3), (18, .invokevirtual 48, 3), (21, .iconst 0, 1), (22, .istore_n 1, 1), (23, .iload_n 1, 1), (24, .ldc 53, 2), (26, .if_icmp .ge 132, 3), (29, .aload_n 0, 1), (30, .getfield 17, 3), (33, .getfield 54, 3), (36, .sipush 214, 3), (39, .if_icmp .eq 119, 3), (42, .aload_n 0, 1), (43, .getfield 17, 3), (46, .getfield 54, 3), (49, .tableswitch 88 200 206 #[43, 50, 57, 65, 73, 88, 81], 43), (92, .aload_n 0, 1), (93, .invokevirtual 57, 3), (96, .goto 56, 3), (99, .aload_n 0, 1), (100, .invokevirtual 60, 3), (103, .goto 49, 3), (106, .aload_n 0, 1), (107, .iconst 1, 1), (108, .invokevirtual 63, 3), (111, .goto 41, 3), (114, .aload_n 0, 1), (115, .iconst 2, 1), (116, .invokevirtual 63, 3), (119, .goto 33, 3), (122, .aload_n 0, 1), (123, .iconst 3, 1), (124, .invokevirtual 63, 3), (127, .goto 25, 3), (130, .aload_n 0, 1), (131, .invokevirtual 67, 3), (134, .goto 18, 3), (137, .aload_n 0, 1), (138, .getfield 17, 3), (141, .iconst 1, 1), (142, .aload_n 0, 1), (143, .getfield 17, 3), (146, .getfield 70, 3), (149, .invokevirtual 73, 3), (152, .iinc 1 1, 3), (155, .goto (-132), 3), (158, .aload_n 0, 1), (159, .invokevirtual 77, 3), (162, .return_, 1)]
theorem vt_o16 : vt_chk (prog_5_method_2_code, vt_i16) = true := by decide +kernel
-- 17: VitalTwin$Program.clear ()V
def vt_i17 : List (Nat × Instr × Nat) := [(0, .aload_n 0, 1), (1, .getfield 12, 3), (4, .invokevirtual 28, 3), (7, .aload_n 0, 1), (8, .iconst 0, 1), (9, .putfield 31, 3), (12, .aload_n 0, 1), (13, .iconst 0, 1), (14, .putfield 35, 3), (17, .aload_n 0, 1), (18, .iconst (-1), 1), (19, .putfield 38, 3), (22, .aload_n 0, 1), (23, .iconst 0, 1), (24, .putfield 41, 3), (27, .aload_n 0, 1), (28, .iconst 0, 1), (29, .putfield 44, 3), (32, .aload_n 0, 1), (33, .iconst 0, 1), (34, .putfield 47, 3), (37, .return_, 1)]
theorem vt_o17 : vt_chk (prog_8_method_2_code, vt_i17) = true := by decide +kernel
-- 18: VitalTwin$Code.clear ()V
def vt_i18 : List (Nat × Instr × Nat) := [(0, .aload_n 0, 1), (1, .iconst 0, 1), (2, .putfield 42, 3), (5, .aload_n 0, 1), (6, .iconst 0, 1), (7, .putfield 46, 3), (10, .aload_n 0, 1), (11, .invokevirtual 49, 3), (14, .return_, 1)]
theorem vt_o18 : vt_chk (prog_2_method_2_code, vt_i18) = true := by decide +kernel
-- 19: VitalTwin$Code.beginUnit ()V
def vt_i19 : List (Nat × Instr × Nat) := [(0, .aload_n 0, 1), (1, .iconst 0, 1), (2, .putfield 52, 3), (5, .aload_n 0, 1), (6, .iconst 0, 1), (7, .putfield 55, 3), (10, .aload_n 0, 1), (11, .iconst 0, 1), (12, .putfield 58, 3), (15, .aload_n 0, 1), (16, .iconst 0, 1), (17, .putfield 61, 3), (20, .aload_n 0, 1), (21, .iconst 0, 1), (22, .putfield 64, 3), (25, .return_, 1)]
theorem vt_o19 : vt_chk (prog_2_method_3_code, vt_i19) = true := by decide +kernel
-- 20: VitalTwin$Statements.clear ()V
def vt_i20 : List (Nat × Instr × Nat) := [(0, .aload_n 0, 1), (1, .iconst (-1), 1), (2, .putfield 39, 3), (5, .aload_n 0, 1), (6, .getfield 35, 3), (9, .invokevirtual 43, 3), (12, .return_, 1)]
theorem vt_o20 : vt_chk (prog_11_method_2_code, vt_i20) = true := by decide +kernel
-- 21: VitalTwin$Expressions.clear ()V
def vt_i21 : List (Nat × Instr × Nat) := [(0, .aload_n 0, 1), (1, .iconst 0, 1), (2, .putfield 52, 3), (5, .return_, 1)]
theorem vt_o21 : vt_chk (prog_6_method_2_code, vt_i21) = true := by decide +kernel
-- 22: VitalTwin$Reader.begin ()V
def vt_i22_0 : List (Nat × Instr × Nat) := [(0, .aload_n 0, 1), (1, .getfield 18, 3), (4, .arraylength, 1), (5, .aload_n 0, 1), (6, .getfield 29, 3), (9, .if_icmp .gt 29, 3), (12, .aload_n 0, 1), (13, .aload_n 0, 1), (14, .getfield 15, 3), (17, .arraylength, 1), (18, .iconst 1, 1), (19, .iadd, 1), (20, .newarray .byte, 2), (22, .putfield 18, 3), (25, .aload_n 0, 1), (26, .aload_n 0, 1), (27, .getfield 15, 3), (30, .arraylength, 1), (31, .iconst 1, 1), (32, .iadd, 1), (33, .newarray .int, 2), (35, .putfield 21, 3), (38, .aload_n 0, 1), (39, .iconst 0, 1), (40, .putfield 54, 3), (43, .iconst 0, 1), (44, .istore_n 1, 1), (45, .iconst 0, 1), (46, .istore_n 2, 1), (47, .iload_n 2, 1), (48, .ldc 33, 2), (50, .if_icmp .ge 39, 3), (53, .iload_n 1, 1), (54, .aload_n 0, 1), (55, .getfield 29, 3), (58, .if_icmp .ge 31, 3), (61, .aload_n 0, 1), (62, .iload_n 1, 1), (63, .invokevirtual 57, 3), (66, .istore_n 3, 1), (67, .aload_n 0, 1), (68, .aload_n 0, 1), (69, .iload_n 1, 1), (70, .iload_n 3, 1), (71, .invokevirtual 61, 3), (74, .iload_n 1, 1), (75, .iload_n 3, 1), (76, .iload_n 1, 1), (77, .isub, 1), (78, .invokevirtual 64, 3), (81, .iload_n 3, 1), (82, .istore_n 1, 1), (83, .iinc 2 1, 3), (86, .goto (-39), 3), (89, .aload_n 0, 1), (90, .iconst 0, 1), (91, .aload_n 0, 1), (92, .getfield 29, 3), (95, .iconst 0, 1), (96, .invokevirtual 64, 3)]
def vt_i22_1 : List (Nat × Instr × Nat) := [(99, .aload_n 0, 1), (100, .iconst 0, 1), (101, .putfield 68, 3), (104, .aload_n 0, 1), (105, .iconst 0, 1), (106, .putfield 71, 3), (109, .aload_n 0, 1), (110, .iconst (-1), 1), (111, .putfield 74, 3), (114, .aload_n 0, 1), (115, .invokevirtual 77, 3), (118, .return_, 1)]
def vt_i22 : List (Nat × Instr × Nat) := vt_i22_0 ++ (vt_i22_1)
theorem vt_o22 : vt_chk (prog_9_method_7_code, vt_i22) = true := by decide +kernel
-- 23: VitalTwin$Reader.behindToken (I)I
def vt_i23_0 : List (Nat × Instr × Nat) := [(0, .iload_n 1, 1), (1, .iconst 1, 1), (2, .iadd, 1), (3, .istore_n 2, 1), (4, .aload_n 0, 1), (5, .iload_n 1, 1), (6, .invokevirtual 83, 3), (9, .invokestatic 86, 3), (12, .ifCond .eq 39, 3), (15, .iload_n 2, 1), (16, .aload_n 0, 1), (17, .getfield 29, 3), (20, .if_icmp .ge 119, 3), (23, .aload_n 0, 1), (24, .iload_n 2, 1), (25, .invokevirtual 83, 3), (28, .invokestatic 86, 3), (31, .ifCond .ne 14, 3), (34, .aload_n 0, 1), (35, .iload_n 2, 1), (36, .invokevirtual 83, 3), (39, .invokestatic 90, 3), (42, .ifCond .eq 97, 3), (45, .iinc 2 1, 3), (48, .goto (-33), 3), (51, .aload_n 0, 1), (52, .iload_n 1, 1), (53, .invokevirtual 83, 3), (56, .invokestatic 90, 3), (59, .ifCond .eq 28, 3), (62, .iload_n 2, 1), (63, .aload_n 0, 1), (64, .getfield 29, 3), (67, .if_icmp .ge 72, 3), (70, .aload_n 0, 1), (71, .iload_n 2, 1), (72, .invokevirtual 83, 3), (75, .invokestatic 90, 3), (78, .ifCond .eq 61, 3), (81, .iinc 2 1, 3), (84, .goto (-22), 3), (87, .aload_n 0, 1), (88, .iload_n 1, 1), (89, .invokevirtual 93, 3), (92, .ifCond .eq 27, 3), (95, .iload_n 2, 1), (96, .aload_n 0, 1), (97, .getfield 29, 3), (100, .if_icmp .ge 39, 3), (103, .aload_n 0, 1), (104, .iload_n 2, 1), (105, .invokevirtual 83, 3), (108, .bipush 10, 2), (110, .if_icmp .eq 29, 3), (113, .iinc 2 1, 3), (116, .goto (-21), 3), (119, .aload_n 0, 1), (120, .iload_n 1, 1), (121, .invokevirtual 83, 3), (124, .aload_n 0, 1)]
def vt_i23_1 : List (Nat × Instr × Nat) := [(125, .iload_n 2, 1), (126, .invokevirtual 83, 3), (129, .invokestatic 96, 3), (132, .iconst 1, 1), (133, .if_icmp .eq 6, 3), (136, .iinc 2 1, 3), (139, .iload_n 2, 1), (140, .ireturn, 1)]
def vt_i23 : List (Nat × Instr × Nat) := vt_i23_0 ++ (vt_i23_1)
theorem vt_o23 : vt_chk (prog_9_method_13_code, vt_i23) = true := by decide +kernel
-- 24: VitalTwin$Reader.signAt (I)I
def vt_i24 : List (Nat × Instr × Nat) := [(0, .iload_n 1, 1), (1, .ifCond .lt 20, 3), (4, .iload_n 1, 1), (5, .aload_n 0, 1), (6, .getfield 29, 3), (9, .if_icmp .ge 12, 3), (12, .aload_n 0, 1), (13, .getfield 15, 3), (16, .iload_n 1, 1), (17, .baload, 1), (18, .goto 4, 3), (21, .iconst 0, 1), (22, .ireturn, 1)]
theorem vt_o24 : vt_chk (prog_9_method_9_code, vt_i24) = true := by decide +kernel
-- 25: VitalTwin$Reader.isLetter (I)Z
def vt_i25 : List (Nat × Instr × Nat) := [(0, .iload_n 0, 1), (1, .bipush 97, 2), (3, .if_icmp .lt 9, 3), (6, .iload_n 0, 1), (7, .bipush 122, 2), (9, .if_icmp .le 21, 3), (12, .iload_n 0, 1), (13, .bipush 65, 2), (15, .if_icmp .lt 9, 3), (18, .iload_n 0, 1), (19, .bipush 90, 2), (21, .if_icmp .le 9, 3), (24, .iload_n 0, 1), (25, .bipush 95, 2), (27, .if_icmp .ne 7, 3), (30, .iconst 1, 1), (31, .goto 4, 3), (34, .iconst 0, 1), (35, .ireturn, 1)]
theorem vt_o25 : vt_chk (prog_9_method_10_code, vt_i25) = true := by decide +kernel
-- 26: VitalTwin$Reader.isDigit (I)Z
def vt_i26 : List (Nat × Instr × Nat) := [(0, .iload_n 0, 1), (1, .bipush 48, 2), (3, .if_icmp .lt 13, 3), (6, .iload_n 0, 1), (7, .bipush 57, 2), (9, .if_icmp .gt 7, 3), (12, .iconst 1, 1), (13, .goto 4, 3), (16, .iconst 0, 1), (17, .ireturn, 1)]
theorem vt_o26 : vt_chk (prog_9_method_11_code, vt_i26) = true := by decide +kernel
-- 27: VitalTwin$Reader.isComment (I)Z
def vt_i27 : List (Nat × Instr × Nat) := [(0, .aload_n 0, 1), (1, .iload_n 1, 1), (2, .invokevirtual 83, 3), (5, .bipush 47, 2), (7, .if_icmp .ne 19, 3), (10, .aload_n 0, 1), (11, .iload_n 1, 1), (12, .iconst 1, 1), (13, .iadd, 1), (14, .invokevirtual 83, 3), (17, .bipush 47, 2), (19, .if_icmp .ne 7, 3), (22, .iconst 1, 1), (23, .goto 4, 3), (26, .iconst 0, 1), (27, .ireturn, 1)]
theorem vt_o27 : vt_chk (prog_9_method_12_code, vt_i27) = true := by decide +kernel
-- 28: VitalTwin$Reader.markOfTwo (II)I
def vt_i28 : List (Nat × Instr × Nat) := [(0, .iload_n 1, 1), (1, .bipush 61, 2), (3, .if_icmp .ne 63, 3), (6, .iload_n 0, 1), (7, .lookupswitch 57 #[(33, 53), (60, 41), (61, 49), (62, 45)], 41), (48, .sipush 129, 3), (51, .ireturn, 1), (52, .sipush 130, 3), (55, .ireturn, 1), (56, .sipush 131, 3), (59, .ireturn, 1), (60, .sipush 132, 3), (63, .ireturn, 1), (64, .iconst 1, 1), (65, .ireturn, 1), (66, .iload_n 0, 1), (67, .iload_n 1, 1), (68, .if_icmp .eq 5, 3), (71, .iconst 1, 1), (72, .ireturn, 1), (73, .iload_n 0, 1), (74, .bipush 46, 2), (76, .if_icmp .ne 9, 3), (79, .sipush 128, 3), (82, .goto 28, 3), (85, .iload_n 0, 1), (86, .bipush 38, 2), (88, .if_icmp .ne 9, 3), (91, .sipush 133, 3), (94, .goto 16, 3), (97, .iload_n 0, 1), (98, .bipush 124, 2), (100, .if_icmp .ne 9, 3), (103, .sipush 134, 3), (106, .goto 4, 3), (109, .iconst 1, 1), (110, .ireturn, 1)]
theorem vt_o28 : vt_chk (prog_9_method_16_code, vt_i28) = true := by decide +kernel
-- 29: VitalTwin$Reader.kindOf (II)I
def vt_i29_0 : List (Nat × Instr × Nat) := [(0, .aload_n 0, 1), (1, .iload_n 1, 1), (2, .invokevirtual 83, 3), (5, .istore_n 3, 1), (6, .iload_n 3, 1), (7, .bipush 32, 2), (9, .if_icmp .eq 17, 3), (12, .iload_n 3, 1), (13, .bipush 10, 2), (15, .if_icmp .eq 11, 3), (18, .aload_n 0, 1), (19, .iload_n 1, 1), (20, .invokevirtual 93, 3), (23, .ifCond .eq 5, 3), (26, .iconst 4, 1), (27, .ireturn, 1), (28, .iload_n 3, 1), (29, .invokestatic 86, 3), (32, .ifCond .eq 24, 3), (35, .iload_n 2, 1), (36, .iload_n 1, 1), (37, .isub, 1), (38, .bipush 20, 2), (40, .if_icmp .le 7, 3), (43, .iconst 1, 1), (44, .goto 11, 3), (47, .aload_n 0, 1), (48, .iload_n 1, 1), (49, .iload_n 2, 1), (50, .iload_n 1, 1), (51, .isub, 1), (52, .invokevirtual 99, 3), (55, .ireturn, 1), (56, .iload_n 3, 1), (57, .invokestatic 90, 3), (60, .ifCond .eq 32, 3), (63, .iload_n 2, 1), (64, .iload_n 1, 1), (65, .isub, 1), (66, .bipush 10, 2), (68, .if_icmp .gt 18, 3), (71, .aload_n 0, 1), (72, .iload_n 1, 1), (73, .iload_n 2, 1), (74, .iload_n 1, 1), (75, .isub, 1), (76, .invokevirtual 102, 3), (79, .ldc2_w 106, 3), (82, .lcmp, 1), (83, .ifCond .le 7, 3), (86, .iconst 1, 1), (87, .goto 4, 3), (90, .iconst 3, 1), (91, .ireturn, 1), (92, .iload_n 2, 1), (93, .iload_n 1, 1), (94, .isub, 1), (95, .iconst 2, 1), (96, .if_icmp .ne 15, 3), (99, .iload_n 3, 1)]
def vt_i29_1 : List (Nat × Instr × Nat) := [(100, .aload_n 0, 1), (101, .iload_n 1, 1), (102, .iconst 1, 1), (103, .iadd, 1), (104, .invokevirtual 83, 3), (107, .invokestatic 96, 3), (110, .ireturn, 1), (111, .ldc 108, 2), (113, .iload_n 3, 1), (114, .i2c, 1), (115, .invokevirtual 110, 3), (118, .ifCond .lt 7, 3), (121, .iload_n 3, 1), (122, .goto 4, 3), (125, .iconst 1, 1), (126, .ireturn, 1)]
def vt_i29 : List (Nat × Instr × Nat) := vt_i29_0 ++ (vt_i29_1)
theorem vt_o29 : vt_chk (prog_9_method_14_code, vt_i29) = true := by decide +kernel
-- 30: VitalTwin$Reader.wordOrName (II)I
def vt_i30 : List (Nat × Instr × Nat) := [(0, .sipush 200, 3), (3, .istore_n 3, 1), (4, .iconst 0, 1), (5, .istore 4, 2), (7, .iconst 1, 1), (8, .istore 5, 2), (10, .iconst 0, 1), (11, .istore 6, 2), (13, .iload 6, 2), (15, .ldc 115, 2), (17, .invokevirtual 117, 3), (20, .if_icmp .ge 78, 3), (23, .ldc 115, 2), (25, .iload 6, 2), (27, .invokevirtual 120, 3), (30, .istore 7, 2), (32, .iload 7, 2), (34, .bipush 32, 2), (36, .if_icmp .ne 28, 3), (39, .iload 5, 2), (41, .ifCond .eq 11, 3), (44, .iload 4, 2), (46, .iload_n 2, 1), (47, .if_icmp .ne 5, 3), (50, .iload_n 3, 1), (51, .ireturn, 1), (52, .iinc 3 1, 3), (55, .iconst 0, 1), (56, .istore 4, 2), (58, .iconst 1, 1), (59, .istore 5, 2), (61, .goto 31, 3), (64, .iload 5, 2), (66, .ifCond .eq 20, 3), (69, .aload_n 0, 1), (70, .iload_n 1, 1), (71, .iload 4, 2), (73, .iadd, 1), (74, .invokevirtual 83, 3), (77, .iload 7, 2), (79, .if_icmp .ne 7, 3), (82, .iconst 1, 1), (83, .goto 4, 3), (86, .iconst 0, 1), (87, .istore 5, 2), (89, .iinc 4 1, 3), (92, .iinc 6 1, 3), (95, .goto (-82), 3), (98, .iconst 2, 1), (99, .ireturn, 1)]
theorem vt_o30 : vt_chk (prog_9_method_15_code, vt_i30) = true := by decide +kernel
-- 31: VitalTwin$Reader.numberAt (II)J
def vt_i31 : List (Nat × Instr × Nat) := [(0, .lconst 0, 1), (1, .lstore_n 3, 1), (2, .iconst 0, 1), (3, .istore 5, 2), (5, .iload 5, 2), (7, .iload_n 2, 1), (8, .if_icmp .ge 29, 3), (11, .ldc2_w 124, 3), (14, .lload_n 3, 1), (15, .lmul, 1), (16, .aload_n 0, 1), (17, .iload_n 1, 1), (18, .iload 5, 2), (20, .iadd, 1), (21, .invokevirtual 83, 3), (24, .i2l, 1), (25, .ladd, 1), (26, .ldc2_w 126, 3), (29, .lsub, 1), (30, .lstore_n 3, 1), (31, .iinc 5 1, 3), (34, .goto (-29), 3), (37, .lload_n 3, 1), (38, .lreturn, 1)]
theorem vt_o31 : vt_chk (prog_9_method_17_code, vt_i31) = true := by decide +kernel
-- 32: VitalTwin$Reader.addToken (III)V
def vt_i32 : List (Nat × Instr × Nat) := [(0, .iload_n 1, 1), (1, .iconst 4, 1), (2, .if_icmp .eq 56, 3), (5, .aload_n 0, 1), (6, .getfield 54, 3), (9, .aload_n 0, 1), (10, .getfield 18, 3), (13, .arraylength, 1), (14, .if_icmp .ge 44, 3), (17, .aload_n 0, 1), (18, .getfield 18, 3), (21, .aload_n 0, 1), (22, .getfield 54, 3), (25, .iload_n 1, 1), (26, .i2b, 1), (27, .bastore, 1), (28, .aload_n 0, 1), (29, .getfield 21, 3), (32, .aload_n 0, 1), (33, .getfield 54, 3), (36, .bipush 32, 2), (38, .iload_n 2, 1), (39, .imul, 1), (40, .bipush 31, 2), (42, .iload_n 3, 1), (43, .invokestatic 80, 3), (46, .iadd, 1), (47, .iastore, 1), (48, .aload_n 0, 1), (49, .dup, 1), (50, .getfield 54, 3), (53, .iconst 1, 1), (54, .iadd, 1), (55, .putfield 54, 3), (58, .return_, 1)]
theorem vt_o32 : vt_chk (prog_9_method_8_code, vt_i32) = true := by decide +kernel
-- 33: VitalTwin$Reader.next ()V
def vt_i33_0 : List (Nat × Instr × Nat) := [(0, .aload_n 0, 1), (1, .getfield 74, 3), (4, .iconst 1, 1), (5, .iadd, 1), (6, .aload_n 0, 1), (7, .getfield 54, 3), (10, .if_icmp .ge 62, 3), (13, .aload_n 0, 1), (14, .dup, 1), (15, .getfield 74, 3), (18, .iconst 1, 1), (19, .iadd, 1), (20, .putfield 74, 3), (23, .aload_n 0, 1), (24, .aload_n 0, 1), (25, .getfield 18, 3), (28, .aload_n 0, 1), (29, .getfield 74, 3), (32, .baload, 1), (33, .sipush 255, 3), (36, .iand, 1), (37, .putfield 131, 3), (40, .aload_n 0, 1), (41, .aload_n 0, 1), (42, .getfield 21, 3), (45, .aload_n 0, 1), (46, .getfield 74, 3), (49, .iaload, 1), (50, .bipush 32, 2), (52, .idiv, 1), (53, .putfield 134, 3), (56, .aload_n 0, 1), (57, .aload_n 0, 1), (58, .getfield 21, 3), (61, .aload_n 0, 1), (62, .getfield 74, 3), (65, .iaload, 1), (66, .bipush 32, 2), (68, .irem, 1), (69, .putfield 128, 3), (72, .aload_n 0, 1), (73, .getfield 131, 3), (76, .iconst 2, 1), (77, .if_icmp .eq 11, 3), (80, .aload_n 0, 1), (81, .getfield 131, 3), (84, .iconst 3, 1), (85, .if_icmp .ne 59, 3), (88, .iconst 0, 1), (89, .istore_n 1, 1), (90, .iload_n 1, 1), (91, .aload_n 0, 1), (92, .getfield 128, 3), (95, .if_icmp .ge 49, 3), (98, .iload_n 1, 1), (99, .aload_n 0, 1), (100, .getfield 9, 3), (103, .arraylength, 1), (104, .if_icmp .ge 40, 3), (107, .aload_n 0, 1)]
def vt_i33_1 : List (Nat × Instr × Nat) := [(108, .getfield 134, 3), (111, .iload_n 1, 1), (112, .iadd, 1), (113, .aload_n 0, 1), (114, .getfield 15, 3), (117, .arraylength, 1), (118, .if_icmp .ge 26, 3), (121, .aload_n 0, 1), (122, .getfield 9, 3), (125, .iload_n 1, 1), (126, .aload_n 0, 1), (127, .getfield 15, 3), (130, .aload_n 0, 1), (131, .getfield 134, 3), (134, .iload_n 1, 1), (135, .iadd, 1), (136, .baload, 1), (137, .bastore, 1), (138, .iinc 1 1, 3), (141, .goto (-51), 3), (144, .return_, 1)]
def vt_i33 : List (Nat × Instr × Nat) := vt_i33_0 ++ (vt_i33_1)
theorem vt_o33 : vt_chk (prog_9_method_19_code, vt_i33) = true := by decide +kernel
-- 34: VitalTwin$Declarations.constant ()V
def vt_i34 : List (Nat × Instr × Nat) := [(0, .aload_n 0, 1), (1, .getfield 17, 3), (4, .invokevirtual 120, 3), (7, .aload_n 0, 1), (8, .getfield 27, 3), (11, .iconst 0, 1), (12, .iconst 0, 1), (13, .aload_n 0, 1), (14, .getfield 17, 3), (17, .invokevirtual 123, 3), (20, .astore_n 1, 1), (21, .aload_n 0, 1), (22, .getfield 17, 3), (25, .bipush 61, 2), (27, .invokevirtual 80, 3), (30, .aload_n 1, 1), (31, .aload_n 0, 1), (32, .getfield 31, 3), (35, .iconst (-1), 1), (36, .invokevirtual 127, 3), (39, .putfield 131, 3), (42, .aload_n 1, 1), (43, .aload_n 0, 1), (44, .getfield 31, 3), (47, .getfield 136, 3), (50, .aload_n 1, 1), (51, .getfield 131, 3), (54, .aload_n 1, 1), (55, .getfield 131, 3), (58, .invokevirtual 138, 3), (61, .aload_n 0, 1), (62, .getfield 17, 3), (65, .bipush 59, 2), (67, .invokevirtual 80, 3), (70, .aload_n 1, 1), (71, .iconst 1, 1), (72, .putfield 142, 3), (75, .return_, 1)]
theorem vt_o34 : vt_chk (prog_5_method_4_code, vt_i34) = true := by decide +kernel
-- 35: VitalTwin$Program.tell (IZLVitalTwin$Reader;)LVitalTwin$Symbol;
def vt_i35_0 : List (Nat × Instr × Nat) := [(0, .aload_n 3, 1), (1, .getfield 75, 3), (4, .iconst 2, 1), (5, .if_icmp .eq 12, 3), (8, .aload_n 3, 1), (9, .iconst 1, 1), (10, .aload_n 3, 1), (11, .getfield 78, 3), (14, .invokevirtual 81, 3), (17, .aload_n 0, 1), (18, .aload_n 3, 1), (19, .invokevirtual 85, 3), (22, .ifnull 12, 3), (25, .aload_n 3, 1), (26, .iconst 2, 1), (27, .aload_n 3, 1), (28, .getfield 78, 3), (31, .invokevirtual 81, 3), (34, .iload_n 2, 1), (35, .ifCond .ne 13, 3), (38, .aload_n 0, 1), (39, .getfield 31, 3), (42, .sipush 400, 3), (45, .if_icmp .lt 13, 3), (48, .aload_n 3, 1), (49, .bipush 10, 2), (51, .aload_n 3, 1), (52, .getfield 78, 3), (55, .invokevirtual 81, 3), (58, .aload_n 0, 1), (59, .getfield 20, 3), (62, .aload_n 0, 1), (63, .getfield 31, 3), (66, .aaload, 1), (67, .astore 4, 2), (69, .aload 4, 2), (71, .ifnonnull 27, 3), (74, .new 18, 3), (77, .dup, 1), (78, .aload_n 0, 1), (79, .getfield 31, 3), (82, .invokespecial 89, 3), (85, .astore 4, 2), (87, .aload_n 0, 1), (88, .getfield 20, 3), (91, .aload_n 0, 1), (92, .getfield 31, 3), (95, .aload 4, 2), (97, .aastore, 1), (98, .aload 4, 2), (100, .iload_n 1, 1), (101, .invokevirtual 92, 3), (104, .aload 4, 2), (106, .bipush 20, 2), (108, .aload_n 3, 1), (109, .getfield 64, 3), (112, .invokestatic 95, 3), (115, .putfield 54, 3), (118, .iconst 0, 1), (119, .istore 5, 2)]
def vt_i35_1 : List (Nat × Instr × Nat) := [(121, .iload 5, 2), (123, .aload 4, 2), (125, .getfield 54, 3), (128, .if_icmp .ge 32, 3), (131, .aload_n 0, 1), (132, .getfield 24, 3), (135, .aload 4, 2), (137, .getfield 57, 3), (140, .bipush 20, 2), (142, .imul, 1), (143, .iload 5, 2), (145, .iadd, 1), (146, .aload_n 3, 1), (147, .getfield 69, 3), (150, .iload 5, 2), (152, .baload, 1), (153, .bastore, 1), (154, .iinc 5 1, 3), (157, .goto (-36), 3), (160, .aload_n 0, 1), (161, .dup, 1), (162, .getfield 31, 3), (165, .iconst 1, 1), (166, .iadd, 1), (167, .putfield 31, 3), (170, .aload_n 3, 1), (171, .invokevirtual 101, 3), (174, .aload 4, 2), (176, .areturn, 1)]
def vt_i35 : List (Nat × Instr × Nat) := vt_i35_0 ++ (vt_i35_1)
theorem vt_o35 : vt_chk (prog_8_method_7_code, vt_i35) = true := by decide +kernel
-- 36: VitalTwin$Reader.fail (II)V
def vt_i36 : List (Nat × Instr × Nat) := [(0, .aload_n 0, 1), (1, .iload_n 1, 1), (2, .bipush 16, 2), (4, .iload_n 2, 1), (5, .imul, 1), (6, .iadd, 1), (7, .putfield 71, 3), (10, .new 137, 3), (13, .dup, 1), (14, .ldc 139, 2), (16, .invokespecial 141, 3), (19, .athrow, 1)]
theorem vt_o36 : vt_chk (prog_9_method_20_code, vt_i36) = true := by decide +kernel
-- 37: VitalTwin$Program.find (LVitalTwin$Reader;)LVitalTwin$Symbol;
def vt_i37 : List (Nat × Instr × Nat) := [(0, .iconst 0, 1), (1, .istore_n 2, 1), (2, .iload_n 2, 1), (3, .aload_n 0, 1), (4, .getfield 31, 3), (7, .if_icmp .ge 98, 3), (10, .iload_n 2, 1), (11, .aload_n 0, 1), (12, .getfield 20, 3), (15, .arraylength, 1), (16, .if_icmp .ge 89, 3), (19, .aload_n 0, 1), (20, .getfield 20, 3), (23, .iload_n 2, 1), (24, .aaload, 1), (25, .astore_n 3, 1), (26, .aload_n 3, 1), (27, .ifnull 72, 3), (30, .aload_n 3, 1), (31, .getfield 60, 3), (34, .ifCond .eq 65, 3), (37, .aload_n 3, 1), (38, .getfield 54, 3), (41, .aload_n 1, 1), (42, .getfield 64, 3), (45, .if_icmp .ne 54, 3), (48, .iconst 0, 1), (49, .istore 4, 2), (51, .iload 4, 2), (53, .aload_n 3, 1), (54, .getfield 54, 3), (57, .if_icmp .ge 31, 3), (60, .aload_n 0, 1), (61, .getfield 24, 3), (64, .iload_n 2, 1), (65, .bipush 20, 2), (67, .imul, 1), (68, .iload 4, 2), (70, .iadd, 1), (71, .baload, 1), (72, .aload_n 1, 1), (73, .getfield 69, 3), (76, .iload 4, 2), (78, .baload, 1), (79, .if_icmp .ne 9, 3), (82, .iinc 4 1, 3), (85, .goto (-34), 3), (88, .iload 4, 2), (90, .aload_n 3, 1), (91, .getfield 54, 3), (94, .if_icmp .ne 5, 3), (97, .aload_n 3, 1), (98, .areturn, 1), (99, .iinc 2 1, 3), (102, .goto (-100), 3), (105, .aconst_null, 1), (106, .areturn, 1)]
theorem vt_o37 : vt_chk (prog_8_method_5_code, vt_i37) = true := by decide +kernel
-- 38: VitalTwin$Symbol.<init> (I)V
def vt_i38 : List (Nat × Instr × Nat) := [(0, .aload_n 0, 1), (1, .invokespecial 3, 3), (4, .aload_n 0, 1), (5, .iload_n 1, 1), (6, .putfield 9, 3), (9, .return_, 1)]
theorem vt_o38 : vt_chk (prog_12_method_1_code, vt_i38) = true := by decide +kernel
-- 39: VitalTwin$Symbol.begin (I)V
def vt_i39 : List (Nat × Instr × Nat) := [(0, .aload_n 0, 1), (1, .iload_n 1, 1), (2, .putfield 15, 3), (5, .aload_n 0, 1), (6, .iconst 2, 1), (7, .putfield 18, 3), (10, .aload_n 0, 1), (11, .iconst 0, 1), (12, .putfield 21, 3), (15, .aload_n 0, 1), (16, .iconst 0, 1), (17, .putfield 24, 3), (20, .aload_n 0, 1), (21, .iconst (-1), 1), (22, .putfield 27, 3), (25, .aload_n 0, 1), (26, .iconst 1, 1), (27, .putfield 30, 3), (30, .aload_n 0, 1), (31, .iconst (-1), 1), (32, .putfield 33, 3), (35, .aload_n 0, 1), (36, .iconst 0, 1), (37, .putfield 36, 3), (40, .aload_n 0, 1), (41, .iconst 0, 1), (42, .putfield 39, 3), (45, .aload_n 0, 1), (46, .iconst 0, 1), (47, .putfield 42, 3), (50, .aload_n 0, 1), (51, .iconst (-1), 1), (52, .putfield 45, 3), (55, .aload_n 0, 1), (56, .iconst 0, 1), (57, .putfield 48, 3), (60, .aload_n 0, 1), (61, .iconst 0, 1), (62, .putfield 52, 3), (65, .return_, 1)]
theorem vt_o39 : vt_chk (prog_12_method_2_code, vt_i39) = true := by decide +kernel
end
