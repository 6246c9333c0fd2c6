/-! part 01: a pure picture of values, cells, worlds; the judgement ip_V (the kit's W over any heap that holds the picture) and its rules, one a kind of instruction -/
abbrev ip_A : Type := (Nat → Int32) ⊕ (Nat → Int64) ⊕ (Nat → Option Nat)
/-- a cell: an array (kind, length, contents) or an object (class, fields); addresses count from the law's own first cell on -/
abbrev ip_E : Type := (Nat × Nat × ip_A) ⊕ (Nat × List Value)
/-- a world: the next address, the slots made so far, the cells -/
abbrev ip_W : Type := Nat × Nat × (Nat → Option ip_E)
/-- a value of the picture as the machine's: references count from b on, .retAddr k stands for String constant k -/
def ip_v (b : Nat) (sc : Nat → Nat) (v : Value) : Value := match v with
  | .ref k => .ref (b + k)
  | .retAddr k => .ref (sc k)
  | v => v
def ip_e (b : Nat) (sc : Nat → Nat) (aC : Nat → ClassId) (x : ip_E) : va_E := match x with
  | .inl (k, n, .inl f) => .inl (aC k, n, .inl f)
  | .inl (k, n, .inr (.inl f)) => .inl (aC k, n, .inr (.inl f))
  | .inl (k, n, .inr (.inr f)) => .inl (aC k, n, .inr (.inr (.inr (.inr (fun j => (f j).map (fun a => b + a))))))
  | .inr (ci, fs) => .inr (ci, fs.map (ip_v b sc))
def ip_G (D : va_G) (cl : List vw_C) (aC : Nat → ClassId) (b : Nat) (sc : Nat → Nat) (w : ip_W) (H : Heap) : Prop :=
  H.size = b + w.1 ∧ ∀ (k : Nat) (x : ip_E), w.2.2 k = some x → va_at D cl (b + k, ip_e b sc aC x) H
/-- locals of the picture as the machine's -/
def ip_l (b : Nat) (sc : Nat → Nat) (lo : List (Nat × Value)) : List (Nat × Value) := lo.map (fun q => (q.1, ip_v b sc q.2))
theorem ip_v_cat (b : Nat) (sc : Nat → Nat) (v : Value) : (ip_v b sc v).category = v.category := by cases v <;> rfl
def ip_get (lo : List (Nat × Value)) (i : Nat) : Option Value := match lo with
  | [] => none
  | q :: r => if q.1 = i then some q.2 else ip_get r i
def ip_set1 (lo : List (Nat × Value)) (i : Nat) (v : Value) : List (Nat × Value) := (i, v) :: lo.filter (fun q => !(q.1 == i) && !(q.1 + 1 == i && q.2.category == 2))
def ip_set2 (lo : List (Nat × Value)) (i : Nat) (v : Value) : List (Nat × Value) := (i, v) :: lo.filter (fun q => !(q.1 == i) && (!(q.1 == i + 1) && !(q.1 + 1 == i && q.2.category == 2)))
theorem ip_get_mem : ∀ (lo : List (Nat × Value)) (i : Nat) (v : Value), ip_get lo i = some v → (i, v) ∈ lo
  | [], i, v, h => by simp [ip_get] at h
  | q :: r, i, v, h => by
    unfold ip_get at h
    split at h
    · rename_i hq
      cases h
      subst hq
      exact List.mem_cons_self
    · exact List.mem_cons_of_mem _ (ip_get_mem r i v h)
theorem ip_get_at {b : Nat} {sc : Nat → Nat} {ls : Array Slot} {nL : Nat} {lo : List (Nat × Value)} (h : lv_has ls nL (ip_l b sc lo)) {i : Nat} {v : Value} (hg : ip_get lo i = some v) : ls[i]? = some (.val (ip_v b sc v)) :=
  h.2.2 (i, ip_v b sc v) (List.mem_map.mpr ⟨(i, v), ip_get_mem lo i v hg, rfl⟩)
theorem ip_get_pos {b : Nat} {sc : Nat → Nat} {lo : List (Nat × Value)} {i : Nat} {v : Value} (hg : ip_get lo i = some v) : ∃ k : Nat, (ip_l b sc lo)[k]? = some (i, ip_v b sc v) := by
  have h : (i, ip_v b sc v) ∈ ip_l b sc lo := List.mem_map.mpr ⟨(i, v), ip_get_mem lo i v hg, rfl⟩
  obtain ⟨k, hk⟩ := List.mem_iff_getElem?.mp h
  exact ⟨k, hk⟩
theorem ip_l_set1 (b : Nat) (sc : Nat → Nat) (lo : List (Nat × Value)) (i : Nat) (v : Value) : (i, ip_v b sc v) :: (ip_l b sc lo).filter (fun q => !(q.1 == i) && !(q.1 + 1 == i && q.2.category == 2)) = ip_l b sc (ip_set1 lo i v) := by
  simp only [ip_l, ip_set1, List.map_cons, List.filter_map, Function.comp_def, ip_v_cat]
theorem ip_l_set2 (b : Nat) (sc : Nat → Nat) (lo : List (Nat × Value)) (i : Nat) (v : Value) : (i, ip_v b sc v) :: (ip_l b sc lo).filter (fun q => !(q.1 == i) && (!(q.1 == i + 1) && !(q.1 + 1 == i && q.2.category == 2))) = ip_l b sc (ip_set2 lo i v) := by
  simp only [ip_l, ip_set2, List.map_cons, List.filter_map, Function.comp_def, ip_v_cat]
section IPV
variable {p : Program} {l : Launch} {e : Env} {R : Room} {s : State} {m : MethodId} {args : Array Value} {below : List Frame} {meth : Method} {c : Code} {Q : State → Prop}
variable {D : va_G} {cl : List vw_C} {aC : Nat → ClassId} {b : Nat} {sc : Nat → Nat} {nL n0 s0 : Nat} {cc : ByteArray} {w : ip_W} {pc : Nat} {lo : List (Nat × Value)} {st : List Value}
/-- from every heap that holds the world w: the method, at pc with these locals and this stack, comes to a state with Q; n0, s0: the world's counts at the method's entry -/
def ip_V (p : Program) (l : Launch) (e : Env) (R : Room) (s : State) (m : MethodId) (args : Array Value) (below : List Frame) (meth : Method) (c : Code) (D : va_G) (cl : List vw_C) (aC : Nat → ClassId) (b : Nat) (sc : Nat → Nat) (nL n0 s0 : Nat) (Q : State → Prop) (w : ip_W) (pc : Nat) (lo : List (Nat × Value)) (st : List Value) : Prop :=
  ∀ (H : Heap) (locs : List Loc) (ls : Array Slot), ip_G D cl aC b sc w H → va_S (fun q => b ≤ q) s.heap H locs → lv_has ls nL (ip_l b sc lo) → W p l e R s m args below meth c H locs (w.1 - n0) (w.2.1 - s0) Q (F0 m pc ls (st.map (ip_v b sc)))

theorem ip_iconst (hx : p.tables.exec = Jvm.exec) (hb : c.code = cc) {n : Int} (hdg : decode cc pc = .ok (.iconst n, 1)) (k : ip_V p l e R s m args below meth c D cl aC b sc nL n0 s0 Q w (pc + 1) lo (.int (Int32.ofInt n) :: st)) : ip_V p l e R s m args below meth c D cl aC b sc nL n0 s0 Q w pc lo (st) :=
  fun H locs ls hG hS hl => lv_iconst hx hb hdg rfl (k H locs ls hG hS hl)
theorem ip_bipush (hx : p.tables.exec = Jvm.exec) (hb : c.code = cc) {n : Int} (hdg : decode cc pc = .ok (.bipush n, 2)) (k : ip_V p l e R s m args below meth c D cl aC b sc nL n0 s0 Q w (pc + 2) lo (.int (Int8.ofInt n).toInt32 :: st)) : ip_V p l e R s m args below meth c D cl aC b sc nL n0 s0 Q w pc lo (st) :=
  fun H locs ls hG hS hl => lv_bipush hx hb hdg rfl (k H locs ls hG hS hl)
theorem ip_sipush (hx : p.tables.exec = Jvm.exec) (hb : c.code = cc) {n : Int} (hdg : decode cc pc = .ok (.sipush n, 3)) (k : ip_V p l e R s m args below meth c D cl aC b sc nL n0 s0 Q w (pc + 3) lo (.int (Int16.ofInt n).toInt32 :: st)) : ip_V p l e R s m args below meth c D cl aC b sc nL n0 s0 Q w pc lo (st) :=
  fun H locs ls hG hS hl => lv_sipush hx hb hdg rfl (k H locs ls hG hS hl)
theorem ip_lconst (hx : p.tables.exec = Jvm.exec) (hb : c.code = cc) {n : Fin 2} (hdg : decode cc pc = .ok (.lconst n, 1)) (k : ip_V p l e R s m args below meth c D cl aC b sc nL n0 s0 Q w (pc + 1) lo (.long (Int64.ofNat (n : Nat)) :: st)) : ip_V p l e R s m args below meth c D cl aC b sc nL n0 s0 Q w pc lo (st) :=
  fun H locs ls hG hS hl => lv_lconst hx hb hdg rfl (k H locs ls hG hS hl)
theorem ip_null (hx : p.tables.exec = Jvm.exec) (hb : c.code = cc) (hdg : decode cc pc = .ok (.aconst_null, 1)) (k : ip_V p l e R s m args below meth c D cl aC b sc nL n0 s0 Q w (pc + 1) lo (.null :: st)) : ip_V p l e R s m args below meth c D cl aC b sc nL n0 s0 Q w pc lo (st) :=
  fun H locs ls hG hS hl => lv_null hx hb hdg (k H locs ls hG hS hl)
theorem ip_iload_n (hx : p.tables.exec = Jvm.exec) (hb : c.code = cc) {i : Fin 4} {x : Int32} (hdg : decode cc pc = .ok (.iload_n i, 1)) (hg : ip_get lo i = some (.int x)) (k : ip_V p l e R s m args below meth c D cl aC b sc nL n0 s0 Q w (pc + 1) lo (.int x :: st)) : ip_V p l e R s m args below meth c D cl aC b sc nL n0 s0 Q w pc lo (st) :=
  fun H locs ls hG hS hl => lv_iload_n hx hb hdg rfl (ip_get_at hl hg) (k H locs ls hG hS hl)
theorem ip_iload (hx : p.tables.exec = Jvm.exec) (hb : c.code = cc) {i : Nat} {x : Int32} (hdg : decode cc pc = .ok (.iload i, 2)) (hg : ip_get lo i = some (.int x)) (k : ip_V p l e R s m args below meth c D cl aC b sc nL n0 s0 Q w (pc + 2) lo (.int x :: st)) : ip_V p l e R s m args below meth c D cl aC b sc nL n0 s0 Q w pc lo (st) :=
  fun H locs ls hG hS hl => lv_iload hx hb hdg (ip_get_at hl hg) (k H locs ls hG hS hl)
theorem ip_lload_n (hx : p.tables.exec = Jvm.exec) (hb : c.code = cc) {i : Fin 4} {x : Int64} (hdg : decode cc pc = .ok (.lload_n i, 1)) (hg : ip_get lo i = some (.long x)) (k : ip_V p l e R s m args below meth c D cl aC b sc nL n0 s0 Q w (pc + 1) lo (.long x :: st)) : ip_V p l e R s m args below meth c D cl aC b sc nL n0 s0 Q w pc lo (st) :=
  fun H locs ls hG hS hl => lv_lload_n hx hb hdg rfl (ip_get_at hl hg) (k H locs ls hG hS hl)
theorem ip_lload (hx : p.tables.exec = Jvm.exec) (hb : c.code = cc) {i : Nat} {x : Int64} (hdg : decode cc pc = .ok (.lload i, 2)) (hg : ip_get lo i = some (.long x)) (k : ip_V p l e R s m args below meth c D cl aC b sc nL n0 s0 Q w (pc + 2) lo (.long x :: st)) : ip_V p l e R s m args below meth c D cl aC b sc nL n0 s0 Q w pc lo (st) :=
  fun H locs ls hG hS hl => lv_lload hx hb hdg (ip_get_at hl hg) (k H locs ls hG hS hl)
theorem ip_aload_n (hx : p.tables.exec = Jvm.exec) (hb : c.code = cc) {i : Fin 4} {x : Value} (hdg : decode cc pc = .ok (.aload_n i, 1)) (hg : ip_get lo i = some x) (hr : (∃ a, x = .ref a) ∨ (∃ a, x = .retAddr a) ∨ x = .null) (k : ip_V p l e R s m args below meth c D cl aC b sc nL n0 s0 Q w (pc + 1) lo (x :: st)) : ip_V p l e R s m args below meth c D cl aC b sc nL n0 s0 Q w pc lo st := by
  intro H locs ls hG hS hl
  have ha := ip_get_at hl hg
  have kk := k H locs ls hG hS hl
  rcases hr with ⟨a, rfl⟩ | ⟨a, rfl⟩ | rfl
  · exact lv_aload_n hx hb hdg rfl ha kk
  · exact lv_aload_n hx hb hdg rfl ha kk
  · exact lv_aload_nN hx hb hdg rfl ha kk
theorem ip_aload (hx : p.tables.exec = Jvm.exec) (hb : c.code = cc) {i : Nat} {x : Value} (hdg : decode cc pc = .ok (.aload i, 2)) (hg : ip_get lo i = some x) (hr : (∃ a, x = .ref a) ∨ (∃ a, x = .retAddr a) ∨ x = .null) (k : ip_V p l e R s m args below meth c D cl aC b sc nL n0 s0 Q w (pc + 2) lo (x :: st)) : ip_V p l e R s m args below meth c D cl aC b sc nL n0 s0 Q w pc lo st := by
  intro H locs ls hG hS hl
  have ha := ip_get_at hl hg
  have kk := k H locs ls hG hS hl
  rcases hr with ⟨a, rfl⟩ | ⟨a, rfl⟩ | rfl
  · exact lv_aload hx hb hdg ha kk
  · exact lv_aload hx hb hdg ha kk
  · exact lv_aloadN hx hb hdg ha kk
theorem ip_istore_n (hx : p.tables.exec = Jvm.exec) (hb : c.code = cc) {i : Fin 4} {x : Int32} (hdg : decode cc pc = .ok (.istore_n i, 1)) (hn : (i : Nat) < nL) (k : ip_V p l e R s m args below meth c D cl aC b sc nL n0 s0 Q w (pc + 1) (ip_set1 lo i (.int x)) st) : ip_V p l e R s m args below meth c D cl aC b sc nL n0 s0 Q w pc lo (.int x :: st) :=
  fun H locs ls hG hS hl => lv_istore_n hx hb hdg rfl hl hn (ip_l_set1 b sc lo i (.int x)) (fun ls' hl' => k H locs ls' hG hS hl')
theorem ip_istore (hx : p.tables.exec = Jvm.exec) (hb : c.code = cc) {i : Nat} {x : Int32} (hdg : decode cc pc = .ok (.istore i, 2)) (hn : (i : Nat) < nL) (k : ip_V p l e R s m args below meth c D cl aC b sc nL n0 s0 Q w (pc + 2) (ip_set1 lo i (.int x)) st) : ip_V p l e R s m args below meth c D cl aC b sc nL n0 s0 Q w pc lo (.int x :: st) :=
  fun H locs ls hG hS hl => lv_istore hx hb hdg hl hn (ip_l_set1 b sc lo i (.int x)) (fun ls' hl' => k H locs ls' hG hS hl')
theorem ip_lstore_n (hx : p.tables.exec = Jvm.exec) (hb : c.code = cc) {i : Fin 4} {x : Int64} (hdg : decode cc pc = .ok (.lstore_n i, 1)) (hn : (i : Nat) + 1 < nL) (k : ip_V p l e R s m args below meth c D cl aC b sc nL n0 s0 Q w (pc + 1) (ip_set2 lo i (.long x)) st) : ip_V p l e R s m args below meth c D cl aC b sc nL n0 s0 Q w pc lo (.long x :: st) :=
  fun H locs ls hG hS hl => lv_lstore_n hx hb hdg rfl hl hn (ip_l_set2 b sc lo i (.long x)) (fun ls' hl' => k H locs ls' hG hS hl')
theorem ip_lstore (hx : p.tables.exec = Jvm.exec) (hb : c.code = cc) {i : Nat} {x : Int64} (hdg : decode cc pc = .ok (.lstore i, 2)) (hn : (i : Nat) + 1 < nL) (k : ip_V p l e R s m args below meth c D cl aC b sc nL n0 s0 Q w (pc + 2) (ip_set2 lo i (.long x)) st) : ip_V p l e R s m args below meth c D cl aC b sc nL n0 s0 Q w pc lo (.long x :: st) :=
  fun H locs ls hG hS hl => lv_lstore hx hb hdg hl hn (ip_l_set2 b sc lo i (.long x)) (fun ls' hl' => k H locs ls' hG hS hl')
theorem ip_astore_n (hx : p.tables.exec = Jvm.exec) (hb : c.code = cc) {i : Fin 4} {x : Value} (hdg : decode cc pc = .ok (.astore_n i, 1)) (hn : (i : Nat) < nL) (hr : (∃ a, x = .ref a) ∨ (∃ a, x = .retAddr a) ∨ x = .null) (k : ip_V p l e R s m args below meth c D cl aC b sc nL n0 s0 Q w (pc + 1) (ip_set1 lo i x) st) : ip_V p l e R s m args below meth c D cl aC b sc nL n0 s0 Q w pc lo (x :: st) := by
  intro H locs ls hG hS hl
  have hq := ip_l_set1 b sc lo i x
  rcases hr with ⟨a, rfl⟩ | ⟨a, rfl⟩ | rfl
  · exact lv_astore_n hx hb hdg rfl hl hn hq (fun ls' hl' => k H locs ls' hG hS hl')
  · exact lv_astore_n hx hb hdg rfl hl hn hq (fun ls' hl' => k H locs ls' hG hS hl')
  · exact lv_astore_nN hx hb hdg rfl hl hn hq (fun ls' hl' => k H locs ls' hG hS hl')
theorem ip_astore (hx : p.tables.exec = Jvm.exec) (hb : c.code = cc) {i : Nat} {x : Value} (hdg : decode cc pc = .ok (.astore i, 2)) (hn : (i : Nat) < nL) (hr : (∃ a, x = .ref a) ∨ (∃ a, x = .retAddr a) ∨ x = .null) (k : ip_V p l e R s m args below meth c D cl aC b sc nL n0 s0 Q w (pc + 2) (ip_set1 lo i x) st) : ip_V p l e R s m args below meth c D cl aC b sc nL n0 s0 Q w pc lo (x :: st) := by
  intro H locs ls hG hS hl
  have hq := ip_l_set1 b sc lo i x
  rcases hr with ⟨a, rfl⟩ | ⟨a, rfl⟩ | rfl
  · exact lv_astore hx hb hdg hl hn hq (fun ls' hl' => k H locs ls' hG hS hl')
  · exact lv_astore hx hb hdg hl hn hq (fun ls' hl' => k H locs ls' hG hS hl')
  · exact lv_astoreN hx hb hdg hl hn hq (fun ls' hl' => k H locs ls' hG hS hl')
theorem ip_iinc (hx : p.tables.exec = Jvm.exec) (hb : c.code = cc) {i : Nat} {n : Int} {x : Int32} (hdg : decode cc pc = .ok (.iinc i n, 3)) (hn : i < nL) (hg : ip_get lo i = some (.int x)) (k : ip_V p l e R s m args below meth c D cl aC b sc nL n0 s0 Q w (pc + 3) (ip_set1 lo i (.int (x + Int32.ofInt n))) st) : ip_V p l e R s m args below meth c D cl aC b sc nL n0 s0 Q w pc lo st := by
  intro H locs ls hG hS hl
  obtain ⟨j, hj⟩ := ip_get_pos (b := b) (sc := sc) hg
  exact lv_iinc hx hb hdg hl hj rfl hn (ip_l_set1 b sc lo i (.int (x + Int32.ofInt n))) (fun ls' hl' => k H locs ls' hG hS hl')
theorem ip_iadd (hx : p.tables.exec = Jvm.exec) (hb : c.code = cc) {x y : Int32} (hdg : decode cc pc = .ok (.iadd, 1)) (k : ip_V p l e R s m args below meth c D cl aC b sc nL n0 s0 Q w (pc + 1) lo (.int (x + y) :: st)) : ip_V p l e R s m args below meth c D cl aC b sc nL n0 s0 Q w pc lo (.int y :: .int x :: st) :=
  fun H locs ls hG hS hl => lv_iadd hx hb hdg (k H locs ls hG hS hl)
theorem ip_isub (hx : p.tables.exec = Jvm.exec) (hb : c.code = cc) {x y : Int32} (hdg : decode cc pc = .ok (.isub, 1)) (k : ip_V p l e R s m args below meth c D cl aC b sc nL n0 s0 Q w (pc + 1) lo (.int (x - y) :: st)) : ip_V p l e R s m args below meth c D cl aC b sc nL n0 s0 Q w pc lo (.int y :: .int x :: st) :=
  fun H locs ls hG hS hl => lv_isub hx hb hdg (k H locs ls hG hS hl)
theorem ip_imul (hx : p.tables.exec = Jvm.exec) (hb : c.code = cc) {x y : Int32} (hdg : decode cc pc = .ok (.imul, 1)) (k : ip_V p l e R s m args below meth c D cl aC b sc nL n0 s0 Q w (pc + 1) lo (.int (x * y) :: st)) : ip_V p l e R s m args below meth c D cl aC b sc nL n0 s0 Q w pc lo (.int y :: .int x :: st) :=
  fun H locs ls hG hS hl => lv_imul hx hb hdg (k H locs ls hG hS hl)
theorem ip_iand (hx : p.tables.exec = Jvm.exec) (hb : c.code = cc) {x y : Int32} (hdg : decode cc pc = .ok (.iand, 1)) (k : ip_V p l e R s m args below meth c D cl aC b sc nL n0 s0 Q w (pc + 1) lo (.int (x &&& y) :: st)) : ip_V p l e R s m args below meth c D cl aC b sc nL n0 s0 Q w pc lo (.int y :: .int x :: st) :=
  fun H locs ls hG hS hl => lv_iand hx hb hdg (k H locs ls hG hS hl)
theorem ip_ixor (hx : p.tables.exec = Jvm.exec) (hb : c.code = cc) {x y : Int32} (hdg : decode cc pc = .ok (.ixor, 1)) (k : ip_V p l e R s m args below meth c D cl aC b sc nL n0 s0 Q w (pc + 1) lo (.int (x ^^^ y) :: st)) : ip_V p l e R s m args below meth c D cl aC b sc nL n0 s0 Q w pc lo (.int y :: .int x :: st) :=
  fun H locs ls hG hS hl => lv_ixor hx hb hdg (k H locs ls hG hS hl)
theorem ip_ladd (hx : p.tables.exec = Jvm.exec) (hb : c.code = cc) {x y : Int64} (hdg : decode cc pc = .ok (.ladd, 1)) (k : ip_V p l e R s m args below meth c D cl aC b sc nL n0 s0 Q w (pc + 1) lo (.long (x + y) :: st)) : ip_V p l e R s m args below meth c D cl aC b sc nL n0 s0 Q w pc lo (.long y :: .long x :: st) :=
  fun H locs ls hG hS hl => lv_ladd hx hb hdg (k H locs ls hG hS hl)
theorem ip_lsub (hx : p.tables.exec = Jvm.exec) (hb : c.code = cc) {x y : Int64} (hdg : decode cc pc = .ok (.lsub, 1)) (k : ip_V p l e R s m args below meth c D cl aC b sc nL n0 s0 Q w (pc + 1) lo (.long (x - y) :: st)) : ip_V p l e R s m args below meth c D cl aC b sc nL n0 s0 Q w pc lo (.long y :: .long x :: st) :=
  fun H locs ls hG hS hl => lv_lsub hx hb hdg (k H locs ls hG hS hl)
theorem ip_lmul (hx : p.tables.exec = Jvm.exec) (hb : c.code = cc) {x y : Int64} (hdg : decode cc pc = .ok (.lmul, 1)) (k : ip_V p l e R s m args below meth c D cl aC b sc nL n0 s0 Q w (pc + 1) lo (.long (x * y) :: st)) : ip_V p l e R s m args below meth c D cl aC b sc nL n0 s0 Q w pc lo (.long y :: .long x :: st) :=
  fun H locs ls hG hS hl => lv_lmul hx hb hdg (k H locs ls hG hS hl)
theorem ip_land (hx : p.tables.exec = Jvm.exec) (hb : c.code = cc) {x y : Int64} (hdg : decode cc pc = .ok (.land, 1)) (k : ip_V p l e R s m args below meth c D cl aC b sc nL n0 s0 Q w (pc + 1) lo (.long (x &&& y) :: st)) : ip_V p l e R s m args below meth c D cl aC b sc nL n0 s0 Q w pc lo (.long y :: .long x :: st) :=
  fun H locs ls hG hS hl => lv_land hx hb hdg (k H locs ls hG hS hl)
theorem ip_lor (hx : p.tables.exec = Jvm.exec) (hb : c.code = cc) {x y : Int64} (hdg : decode cc pc = .ok (.lor, 1)) (k : ip_V p l e R s m args below meth c D cl aC b sc nL n0 s0 Q w (pc + 1) lo (.long (x ||| y) :: st)) : ip_V p l e R s m args below meth c D cl aC b sc nL n0 s0 Q w pc lo (.long y :: .long x :: st) :=
  fun H locs ls hG hS hl => lv_lor hx hb hdg (k H locs ls hG hS hl)
theorem ip_lxor (hx : p.tables.exec = Jvm.exec) (hb : c.code = cc) {x y : Int64} (hdg : decode cc pc = .ok (.lxor, 1)) (k : ip_V p l e R s m args below meth c D cl aC b sc nL n0 s0 Q w (pc + 1) lo (.long (x ^^^ y) :: st)) : ip_V p l e R s m args below meth c D cl aC b sc nL n0 s0 Q w pc lo (.long y :: .long x :: st) :=
  fun H locs ls hG hS hl => lv_lxor hx hb hdg (k H locs ls hG hS hl)
theorem ip_idiv (hx : p.tables.exec = Jvm.exec) (hb : c.code = cc) {x y : Int32} (hdg : decode cc pc = .ok (.idiv, 1)) (hne : ¬ y = 0) (k : ip_V p l e R s m args below meth c D cl aC b sc nL n0 s0 Q w (pc + 1) lo (.int (x / y) :: st)) : ip_V p l e R s m args below meth c D cl aC b sc nL n0 s0 Q w pc lo (.int y :: .int x :: st) :=
  fun H locs ls hG hS hl => lv_idiv hx hb hdg hne (k H locs ls hG hS hl)
theorem ip_irem (hx : p.tables.exec = Jvm.exec) (hb : c.code = cc) {x y : Int32} (hdg : decode cc pc = .ok (.irem, 1)) (hne : ¬ y = 0) (k : ip_V p l e R s m args below meth c D cl aC b sc nL n0 s0 Q w (pc + 1) lo (.int (x - x / y * y) :: st)) : ip_V p l e R s m args below meth c D cl aC b sc nL n0 s0 Q w pc lo (.int y :: .int x :: st) :=
  fun H locs ls hG hS hl => lv_irem hx hb hdg hne (k H locs ls hG hS hl)
theorem ip_ldiv (hx : p.tables.exec = Jvm.exec) (hb : c.code = cc) {x y : Int64} (hdg : decode cc pc = .ok (.ldiv, 1)) (hne : ¬ y = 0) (k : ip_V p l e R s m args below meth c D cl aC b sc nL n0 s0 Q w (pc + 1) lo (.long (x / y) :: st)) : ip_V p l e R s m args below meth c D cl aC b sc nL n0 s0 Q w pc lo (.long y :: .long x :: st) :=
  fun H locs ls hG hS hl => lv_ldiv hx hb hdg hne (k H locs ls hG hS hl)
theorem ip_lrem (hx : p.tables.exec = Jvm.exec) (hb : c.code = cc) {x y : Int64} (hdg : decode cc pc = .ok (.lrem, 1)) (hne : ¬ y = 0) (k : ip_V p l e R s m args below meth c D cl aC b sc nL n0 s0 Q w (pc + 1) lo (.long (x - x / y * y) :: st)) : ip_V p l e R s m args below meth c D cl aC b sc nL n0 s0 Q w pc lo (.long y :: .long x :: st) :=
  fun H locs ls hG hS hl => lv_lrem hx hb hdg hne (k H locs ls hG hS hl)
theorem ip_ineg (hx : p.tables.exec = Jvm.exec) (hb : c.code = cc) {x : Int32} (hdg : decode cc pc = .ok (.ineg, 1)) (k : ip_V p l e R s m args below meth c D cl aC b sc nL n0 s0 Q w (pc + 1) lo (.int (-x) :: st)) : ip_V p l e R s m args below meth c D cl aC b sc nL n0 s0 Q w pc lo (.int x :: st) :=
  fun H locs ls hG hS hl => lv_ineg hx hb hdg (k H locs ls hG hS hl)
theorem ip_lneg (hx : p.tables.exec = Jvm.exec) (hb : c.code = cc) {x : Int64} (hdg : decode cc pc = .ok (.lneg, 1)) (k : ip_V p l e R s m args below meth c D cl aC b sc nL n0 s0 Q w (pc + 1) lo (.long (-x) :: st)) : ip_V p l e R s m args below meth c D cl aC b sc nL n0 s0 Q w pc lo (.long x :: st) :=
  fun H locs ls hG hS hl => lv_lneg hx hb hdg (k H locs ls hG hS hl)
theorem ip_i2l (hx : p.tables.exec = Jvm.exec) (hb : c.code = cc) {x : Int32} (hdg : decode cc pc = .ok (.i2l, 1)) (k : ip_V p l e R s m args below meth c D cl aC b sc nL n0 s0 Q w (pc + 1) lo (.long x.toInt64 :: st)) : ip_V p l e R s m args below meth c D cl aC b sc nL n0 s0 Q w pc lo (.int x :: st) :=
  fun H locs ls hG hS hl => lv_i2l hx hb hdg rfl (k H locs ls hG hS hl)
theorem ip_l2i (hx : p.tables.exec = Jvm.exec) (hb : c.code = cc) {x : Int64} (hdg : decode cc pc = .ok (.l2i, 1)) (k : ip_V p l e R s m args below meth c D cl aC b sc nL n0 s0 Q w (pc + 1) lo (.int x.toInt32 :: st)) : ip_V p l e R s m args below meth c D cl aC b sc nL n0 s0 Q w pc lo (.long x :: st) :=
  fun H locs ls hG hS hl => lv_l2i hx hb hdg rfl (k H locs ls hG hS hl)
theorem ip_i2b (hx : p.tables.exec = Jvm.exec) (hb : c.code = cc) {x : Int32} (hdg : decode cc pc = .ok (.i2b, 1)) (k : ip_V p l e R s m args below meth c D cl aC b sc nL n0 s0 Q w (pc + 1) lo (.int x.toInt8.toInt32 :: st)) : ip_V p l e R s m args below meth c D cl aC b sc nL n0 s0 Q w pc lo (.int x :: st) :=
  fun H locs ls hG hS hl => lv_i2b hx hb hdg rfl (k H locs ls hG hS hl)
theorem ip_i2c (hx : p.tables.exec = Jvm.exec) (hb : c.code = cc) {x : Int32} (hdg : decode cc pc = .ok (.i2c, 1)) (k : ip_V p l e R s m args below meth c D cl aC b sc nL n0 s0 Q w (pc + 1) lo (.int (x.toUInt32 % 65536).toInt32 :: st)) : ip_V p l e R s m args below meth c D cl aC b sc nL n0 s0 Q w pc lo (.int x :: st) :=
  fun H locs ls hG hS hl => lv_i2c hx hb hdg rfl (k H locs ls hG hS hl)
theorem ip_lshl (hx : p.tables.exec = Jvm.exec) (hb : c.code = cc) {x : Int64} {y : Int32} (hdg : decode cc pc = .ok (.lshl, 1)) (k : ip_V p l e R s m args below meth c D cl aC b sc nL n0 s0 Q w (pc + 1) lo (.long (x <<< (y.toInt64 &&& 63)) :: st)) : ip_V p l e R s m args below meth c D cl aC b sc nL n0 s0 Q w pc lo (.int y :: .long x :: st) :=
  fun H locs ls hG hS hl => lv_lshl hx hb hdg rfl (k H locs ls hG hS hl)
theorem ip_lshr (hx : p.tables.exec = Jvm.exec) (hb : c.code = cc) {x : Int64} {y : Int32} (hdg : decode cc pc = .ok (.lshr, 1)) (k : ip_V p l e R s m args below meth c D cl aC b sc nL n0 s0 Q w (pc + 1) lo (.long (x >>> (y.toInt64 &&& 63)) :: st)) : ip_V p l e R s m args below meth c D cl aC b sc nL n0 s0 Q w pc lo (.int y :: .long x :: st) :=
  fun H locs ls hG hS hl => lv_lshr hx hb hdg rfl (k H locs ls hG hS hl)
theorem ip_lushr (hx : p.tables.exec = Jvm.exec) (hb : c.code = cc) {x : Int64} {y : Int32} (hdg : decode cc pc = .ok (.lushr, 1)) (k : ip_V p l e R s m args below meth c D cl aC b sc nL n0 s0 Q w (pc + 1) lo (.long (x.toUInt64 >>> (y.toInt64.toUInt64 &&& Int64.toUInt64 63)).toInt64 :: st)) : ip_V p l e R s m args below meth c D cl aC b sc nL n0 s0 Q w pc lo (.int y :: .long x :: st) :=
  fun H locs ls hG hS hl => lv_lushr hx hb hdg rfl (k H locs ls hG hS hl)
theorem ip_lcmp (hx : p.tables.exec = Jvm.exec) (hb : c.code = cc) {x y : Int64} (hdg : decode cc pc = .ok (.lcmp, 1)) (k : ip_V p l e R s m args below meth c D cl aC b sc nL n0 s0 Q w (pc + 1) lo (.int (lg_cmp x y) :: st)) : ip_V p l e R s m args below meth c D cl aC b sc nL n0 s0 Q w pc lo (.long y :: .long x :: st) :=
  fun H locs ls hG hS hl => W.lcmp hx hb hdg (k H locs ls hG hS hl)
theorem ip_dup (hx : p.tables.exec = Jvm.exec) (hb : c.code = cc) {v : Value} (hdg : decode cc pc = .ok (.dup, 1)) (hc : v.category = 1) (k : ip_V p l e R s m args below meth c D cl aC b sc nL n0 s0 Q w (pc + 1) lo (v :: v :: st)) : ip_V p l e R s m args below meth c D cl aC b sc nL n0 s0 Q w pc lo (v :: st) :=
  fun H locs ls hG hS hl => lv_dup hx hb hdg ((ip_v_cat b sc v).trans hc) (k H locs ls hG hS hl)
theorem ip_pop (hx : p.tables.exec = Jvm.exec) (hb : c.code = cc) {v : Value} (hdg : decode cc pc = .ok (.pop, 1)) (hc : v.category = 1) (k : ip_V p l e R s m args below meth c D cl aC b sc nL n0 s0 Q w (pc + 1) lo (st)) : ip_V p l e R s m args below meth c D cl aC b sc nL n0 s0 Q w pc lo (v :: st) :=
  fun H locs ls hG hS hl => lv_pop hx hb hdg ((ip_v_cat b sc v).trans hc) (k H locs ls hG hS hl)
theorem ip_dup2_11 (hx : p.tables.exec = Jvm.exec) (hb : c.code = cc) {v u : Value} (hdg : decode cc pc = .ok (.dup2, 1)) (hc : v.category = 1) (hd : u.category = 1) (k : ip_V p l e R s m args below meth c D cl aC b sc nL n0 s0 Q w (pc + 1) lo (v :: u :: v :: u :: st)) : ip_V p l e R s m args below meth c D cl aC b sc nL n0 s0 Q w pc lo (v :: u :: st) :=
  fun H locs ls hG hS hl => lv_dup2_11 hx hb hdg ((ip_v_cat b sc v).trans hc) ((ip_v_cat b sc u).trans hd) (k H locs ls hG hS hl)
theorem ip_dup2_2 (hx : p.tables.exec = Jvm.exec) (hb : c.code = cc) {v : Value} (hdg : decode cc pc = .ok (.dup2, 1)) (hc : v.category = 2) (k : ip_V p l e R s m args below meth c D cl aC b sc nL n0 s0 Q w (pc + 1) lo (v :: v :: st)) : ip_V p l e R s m args below meth c D cl aC b sc nL n0 s0 Q w pc lo (v :: st) :=
  fun H locs ls hG hS hl => lv_dup2_2 hx hb hdg ((ip_v_cat b sc v).trans hc) (k H locs ls hG hS hl)
theorem ip_if_eq (hx : p.tables.exec = Jvm.exec) (hb : c.code = cc) {x : Int32} {off : Int} {tgt : Nat} (hdg : decode cc pc = .ok (.ifCond .eq off, 3)) (ht : (pc : Int) + off = (tgt : Int)) (k : ip_V p l e R s m args below meth c D cl aC b sc nL n0 s0 Q w (if x = 0 then tgt else pc + 3) lo st) : ip_V p l e R s m args below meth c D cl aC b sc nL n0 s0 Q w pc lo (.int x :: st) := by
  intro H locs ls hG hS hl
  refine lv_if_eq hx hb hdg ht (fun hP => ?_) (fun hP => ?_)
  · have kk := k H locs ls hG hS hl
    rw [if_pos hP] at kk
    exact kk
  · have kk := k H locs ls hG hS hl
    rw [if_neg hP] at kk
    exact kk
theorem ip_if_ne (hx : p.tables.exec = Jvm.exec) (hb : c.code = cc) {x : Int32} {off : Int} {tgt : Nat} (hdg : decode cc pc = .ok (.ifCond .ne off, 3)) (ht : (pc : Int) + off = (tgt : Int)) (k : ip_V p l e R s m args below meth c D cl aC b sc nL n0 s0 Q w (if x ≠ 0 then tgt else pc + 3) lo st) : ip_V p l e R s m args below meth c D cl aC b sc nL n0 s0 Q w pc lo (.int x :: st) := by
  intro H locs ls hG hS hl
  refine lv_if_ne hx hb hdg ht (fun hP => ?_) (fun hP => ?_)
  · have kk := k H locs ls hG hS hl
    rw [if_pos hP] at kk
    exact kk
  · have kk := k H locs ls hG hS hl
    rw [if_neg (fun q => q hP)] at kk
    exact kk
theorem ip_if_lt (hx : p.tables.exec = Jvm.exec) (hb : c.code = cc) {x : Int32} {off : Int} {tgt : Nat} (hdg : decode cc pc = .ok (.ifCond .lt off, 3)) (ht : (pc : Int) + off = (tgt : Int)) (k : ip_V p l e R s m args below meth c D cl aC b sc nL n0 s0 Q w (if x < 0 then tgt else pc + 3) lo st) : ip_V p l e R s m args below meth c D cl aC b sc nL n0 s0 Q w pc lo (.int x :: st) := by
  intro H locs ls hG hS hl
  refine lv_if_lt hx hb hdg ht (fun hP => ?_) (fun hP => ?_)
  · have kk := k H locs ls hG hS hl
    rw [if_pos hP] at kk
    exact kk
  · have kk := k H locs ls hG hS hl
    rw [if_neg hP] at kk
    exact kk
theorem ip_if_ge (hx : p.tables.exec = Jvm.exec) (hb : c.code = cc) {x : Int32} {off : Int} {tgt : Nat} (hdg : decode cc pc = .ok (.ifCond .ge off, 3)) (ht : (pc : Int) + off = (tgt : Int)) (k : ip_V p l e R s m args below meth c D cl aC b sc nL n0 s0 Q w (if 0 ≤ x then tgt else pc + 3) lo st) : ip_V p l e R s m args below meth c D cl aC b sc nL n0 s0 Q w pc lo (.int x :: st) := by
  intro H locs ls hG hS hl
  refine lv_if_ge hx hb hdg ht (fun hP => ?_) (fun hP => ?_)
  · have kk := k H locs ls hG hS hl
    rw [if_pos hP] at kk
    exact kk
  · have kk := k H locs ls hG hS hl
    rw [if_neg hP] at kk
    exact kk
theorem ip_if_gt (hx : p.tables.exec = Jvm.exec) (hb : c.code = cc) {x : Int32} {off : Int} {tgt : Nat} (hdg : decode cc pc = .ok (.ifCond .gt off, 3)) (ht : (pc : Int) + off = (tgt : Int)) (k : ip_V p l e R s m args below meth c D cl aC b sc nL n0 s0 Q w (if 0 < x then tgt else pc + 3) lo st) : ip_V p l e R s m args below meth c D cl aC b sc nL n0 s0 Q w pc lo (.int x :: st) := by
  intro H locs ls hG hS hl
  refine lv_if_gt hx hb hdg ht (fun hP => ?_) (fun hP => ?_)
  · have kk := k H locs ls hG hS hl
    rw [if_pos hP] at kk
    exact kk
  · have kk := k H locs ls hG hS hl
    rw [if_neg hP] at kk
    exact kk
theorem ip_if_le (hx : p.tables.exec = Jvm.exec) (hb : c.code = cc) {x : Int32} {off : Int} {tgt : Nat} (hdg : decode cc pc = .ok (.ifCond .le off, 3)) (ht : (pc : Int) + off = (tgt : Int)) (k : ip_V p l e R s m args below meth c D cl aC b sc nL n0 s0 Q w (if x ≤ 0 then tgt else pc + 3) lo st) : ip_V p l e R s m args below meth c D cl aC b sc nL n0 s0 Q w pc lo (.int x :: st) := by
  intro H locs ls hG hS hl
  refine lv_if_le hx hb hdg ht (fun hP => ?_) (fun hP => ?_)
  · have kk := k H locs ls hG hS hl
    rw [if_pos hP] at kk
    exact kk
  · have kk := k H locs ls hG hS hl
    rw [if_neg hP] at kk
    exact kk
theorem ip_icmp_eq (hx : p.tables.exec = Jvm.exec) (hb : c.code = cc) {x y : Int32} {off : Int} {tgt : Nat} (hdg : decode cc pc = .ok (.if_icmp .eq off, 3)) (ht : (pc : Int) + off = (tgt : Int)) (k : ip_V p l e R s m args below meth c D cl aC b sc nL n0 s0 Q w (if x = y then tgt else pc + 3) lo st) : ip_V p l e R s m args below meth c D cl aC b sc nL n0 s0 Q w pc lo (.int y :: .int x :: st) := by
  intro H locs ls hG hS hl
  refine lv_icmp_eq hx hb hdg ht (fun hP => ?_) (fun hP => ?_)
  · have kk := k H locs ls hG hS hl
    rw [if_pos hP] at kk
    exact kk
  · have kk := k H locs ls hG hS hl
    rw [if_neg hP] at kk
    exact kk
theorem ip_icmp_ne (hx : p.tables.exec = Jvm.exec) (hb : c.code = cc) {x y : Int32} {off : Int} {tgt : Nat} (hdg : decode cc pc = .ok (.if_icmp .ne off, 3)) (ht : (pc : Int) + off = (tgt : Int)) (k : ip_V p l e R s m args below meth c D cl aC b sc nL n0 s0 Q w (if x ≠ y then tgt else pc + 3) lo st) : ip_V p l e R s m args below meth c D cl aC b sc nL n0 s0 Q w pc lo (.int y :: .int x :: st) := by
  intro H locs ls hG hS hl
  refine lv_icmp_ne hx hb hdg ht (fun hP => ?_) (fun hP => ?_)
  · have kk := k H locs ls hG hS hl
    rw [if_pos hP] at kk
    exact kk
  · have kk := k H locs ls hG hS hl
    rw [if_neg (fun q => q hP)] at kk
    exact kk
theorem ip_icmp_lt (hx : p.tables.exec = Jvm.exec) (hb : c.code = cc) {x y : Int32} {off : Int} {tgt : Nat} (hdg : decode cc pc = .ok (.if_icmp .lt off, 3)) (ht : (pc : Int) + off = (tgt : Int)) (k : ip_V p l e R s m args below meth c D cl aC b sc nL n0 s0 Q w (if x < y then tgt else pc + 3) lo st) : ip_V p l e R s m args below meth c D cl aC b sc nL n0 s0 Q w pc lo (.int y :: .int x :: st) := by
  intro H locs ls hG hS hl
  refine lv_icmp_lt hx hb hdg ht (fun hP => ?_) (fun hP => ?_)
  · have kk := k H locs ls hG hS hl
    rw [if_pos hP] at kk
    exact kk
  · have kk := k H locs ls hG hS hl
    rw [if_neg hP] at kk
    exact kk
theorem ip_icmp_ge (hx : p.tables.exec = Jvm.exec) (hb : c.code = cc) {x y : Int32} {off : Int} {tgt : Nat} (hdg : decode cc pc = .ok (.if_icmp .ge off, 3)) (ht : (pc : Int) + off = (tgt : Int)) (k : ip_V p l e R s m args below meth c D cl aC b sc nL n0 s0 Q w (if y ≤ x then tgt else pc + 3) lo st) : ip_V p l e R s m args below meth c D cl aC b sc nL n0 s0 Q w pc lo (.int y :: .int x :: st) := by
  intro H locs ls hG hS hl
  refine lv_icmp_ge hx hb hdg ht (fun hP => ?_) (fun hP => ?_)
  · have kk := k H locs ls hG hS hl
    rw [if_pos hP] at kk
    exact kk
  · have kk := k H locs ls hG hS hl
    rw [if_neg hP] at kk
    exact kk
theorem ip_icmp_gt (hx : p.tables.exec = Jvm.exec) (hb : c.code = cc) {x y : Int32} {off : Int} {tgt : Nat} (hdg : decode cc pc = .ok (.if_icmp .gt off, 3)) (ht : (pc : Int) + off = (tgt : Int)) (k : ip_V p l e R s m args below meth c D cl aC b sc nL n0 s0 Q w (if y < x then tgt else pc + 3) lo st) : ip_V p l e R s m args below meth c D cl aC b sc nL n0 s0 Q w pc lo (.int y :: .int x :: st) := by
  intro H locs ls hG hS hl
  refine lv_icmp_gt hx hb hdg ht (fun hP => ?_) (fun hP => ?_)
  · have kk := k H locs ls hG hS hl
    rw [if_pos hP] at kk
    exact kk
  · have kk := k H locs ls hG hS hl
    rw [if_neg hP] at kk
    exact kk
theorem ip_icmp_le (hx : p.tables.exec = Jvm.exec) (hb : c.code = cc) {x y : Int32} {off : Int} {tgt : Nat} (hdg : decode cc pc = .ok (.if_icmp .le off, 3)) (ht : (pc : Int) + off = (tgt : Int)) (k : ip_V p l e R s m args below meth c D cl aC b sc nL n0 s0 Q w (if x ≤ y then tgt else pc + 3) lo st) : ip_V p l e R s m args below meth c D cl aC b sc nL n0 s0 Q w pc lo (.int y :: .int x :: st) := by
  intro H locs ls hG hS hl
  refine lv_icmp_le hx hb hdg ht (fun hP => ?_) (fun hP => ?_)
  · have kk := k H locs ls hG hS hl
    rw [if_pos hP] at kk
    exact kk
  · have kk := k H locs ls hG hS hl
    rw [if_neg hP] at kk
    exact kk
theorem ip_goto (hx : p.tables.exec = Jvm.exec) (hb : c.code = cc) {off : Int} {tgt : Nat} (hdg : decode cc pc = .ok (.goto off, 3)) (ht : (pc : Int) + off = (tgt : Int)) (k : ip_V p l e R s m args below meth c D cl aC b sc nL n0 s0 Q w tgt lo st) : ip_V p l e R s m args below meth c D cl aC b sc nL n0 s0 Q w pc lo st :=
  fun H locs ls hG hS hl => lv_goto hx hb hdg ht (k H locs ls hG hS hl)
theorem ip_ifnonnull (hx : p.tables.exec = Jvm.exec) (hb : c.code = cc) {off : Int} {tgt : Nat} {x : Nat} (hdg : decode cc pc = .ok (.ifnonnull off, 3)) (ht : (pc : Int) + off = (tgt : Int)) (k : ip_V p l e R s m args below meth c D cl aC b sc nL n0 s0 Q w tgt lo st) : ip_V p l e R s m args below meth c D cl aC b sc nL n0 s0 Q w pc lo (.ref x :: st) :=
  fun H locs ls hG hS hl => lv_ifnonnull hx hb hdg ht (k H locs ls hG hS hl)
theorem ip_ifnonnullN (hx : p.tables.exec = Jvm.exec) (hb : c.code = cc) {off : Int} (hdg : decode cc pc = .ok (.ifnonnull off, 3)) (k : ip_V p l e R s m args below meth c D cl aC b sc nL n0 s0 Q w (pc + 3) lo st) : ip_V p l e R s m args below meth c D cl aC b sc nL n0 s0 Q w pc lo (.null :: st) :=
  fun H locs ls hG hS hl => lv_ifnonnullN hx hb hdg (k H locs ls hG hS hl)
theorem ip_ifnull (hx : p.tables.exec = Jvm.exec) (hb : c.code = cc) {off : Int} {x : Nat} (hdg : decode cc pc = .ok (.ifnull off, 3)) (k : ip_V p l e R s m args below meth c D cl aC b sc nL n0 s0 Q w (pc + 3) lo st) : ip_V p l e R s m args below meth c D cl aC b sc nL n0 s0 Q w pc lo (.ref x :: st) :=
  fun H locs ls hG hS hl => lv_ifnull hx hb hdg (k H locs ls hG hS hl)
theorem ip_ifnullN (hx : p.tables.exec = Jvm.exec) (hb : c.code = cc) {off : Int} {tgt : Nat} (hdg : decode cc pc = .ok (.ifnull off, 3)) (ht : (pc : Int) + off = (tgt : Int)) (k : ip_V p l e R s m args below meth c D cl aC b sc nL n0 s0 Q w tgt lo st) : ip_V p l e R s m args below meth c D cl aC b sc nL n0 s0 Q w pc lo (.null :: st) :=
  fun H locs ls hG hS hl => lv_ifnullN hx hb hdg ht (k H locs ls hG hS hl)
theorem ip_lookup (hx : p.tables.exec = Jvm.exec) (hb : c.code = cc) {dflt : Int} {ps : Array (Int × Int)} {len : Nat} {x : Int32} {off : Int} {tgt : Nat} (hdg : decode cc pc = .ok (.lookupswitch dflt ps, len)) (hp : (ps.toList.zip (ps.toList.drop 1)).all (fun (a, next) => a.1 < next.1) = true) (ho : Op.lookupswitch.offset ps.toList dflt x.toInt = off) (ht : (pc : Int) + off = (tgt : Int)) (k : ip_V p l e R s m args below meth c D cl aC b sc nL n0 s0 Q w tgt lo st) : ip_V p l e R s m args below meth c D cl aC b sc nL n0 s0 Q w pc lo (.int x :: st) :=
  fun H locs ls hG hS hl => lv_lookup hx hb hdg hp ho ht (k H locs ls hG hS hl)
theorem ip_tableOut (hx : p.tables.exec = Jvm.exec) (hb : c.code = cc) {dflt lw hi : Int} {offs : Array Int} {len : Nat} {x : Int32} {tgt : Nat} (hdg : decode cc pc = .ok (.tableswitch dflt lw hi offs, len)) (h : x.toInt < lw ∨ hi < x.toInt) (ht : (pc : Int) + dflt = (tgt : Int)) (k : ip_V p l e R s m args below meth c D cl aC b sc nL n0 s0 Q w tgt lo st) : ip_V p l e R s m args below meth c D cl aC b sc nL n0 s0 Q w pc lo (.int x :: st) :=
  fun H locs ls hG hS hl => lv_tableOut hx hb hdg h ht (k H locs ls hG hS hl)
theorem ip_tableIn (hx : p.tables.exec = Jvm.exec) (hb : c.code = cc) {dflt lw hi : Int} {offs : Array Int} {len : Nat} {x : Int32} {off : Int} {tgt : Nat} (hdg : decode cc pc = .ok (.tableswitch dflt lw hi offs, len)) (h1 : ¬ x.toInt < lw) (h2 : ¬ hi < x.toInt) (ho : offs[(x.toInt - lw).toNat]? = some off) (ht : (pc : Int) + off = (tgt : Int)) (k : ip_V p l e R s m args below meth c D cl aC b sc nL n0 s0 Q w tgt lo st) : ip_V p l e R s m args below meth c D cl aC b sc nL n0 s0 Q w pc lo (.int x :: st) :=
  fun H locs ls hG hS hl => lv_tableIn hx hb hdg h1 h2 ho ht (k H locs ls hG hS hl)
end IPV
