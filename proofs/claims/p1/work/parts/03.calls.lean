/-! part 03: how a method ends, and calls: a callee that returns, a callee that throws (out of the caller, or to a handler of its) -/
def ip_o (b : Nat) (sc : Nat → Nat) (o : Outcome) : Outcome := match o with
  | .returned v => .returned (v.map (ip_v b sc))
  | .threw a => .threw (b + a)
/-- the end of a method that stood over 'below', from the state s, whose world counted n0 cells and s0 slots: the outcome o, the world w -/
def ip_Q (D : va_G) (cl : List vw_C) (aC : Nat → ClassId) (b : Nat) (sc : Nat → Nat) (w : ip_W) (o : Outcome) (below : List Frame) (s : State) (n0 s0 : Nat) : State → Prop := fun t =>
  t.status = .running ∧ Ended t below (ip_o b sc o) ∧ s.WarmedH t.vm ∧ (∃ L : List Loc, s.sameButNew ({ t with vm := s.vm } : State) L (w.1 - n0) (w.2.1 - s0) ∧ ∀ q ∈ L, b ≤ q.base) ∧ ip_G D cl aC b sc w t.heap ∧ ∀ q : Nat, q < b → t.heap[q]? = s.heap[q]?
theorem ip_low {b : Nat} {H0 H : Heap} {locs : List Loc} (hb0 : b ≤ H0.size) (hS : va_S (fun q => b ≤ q) H0 H locs) : ∀ q : Nat, q < b → H[q]? = H0[q]? := fun q hq => hS.2.1 q (by omega) (by show ¬ b ≤ q; omega)
section IPR
variable {p : Program} {l : Launch} {e : Env} {R : Room} {s : State} {m : MethodId} {args : Array Value} {below : List Frame} {meth : Method} {c : Code}
variable {D : va_G} {cl : List vw_C} {aC : Nat → ClassId} {b : Nat} {sc : Nat → Nat} {nL n0 s0 : Nat} {cc : ByteArray} {w : ip_W} {pc : Nat} {lo : List (Nat × Value)}
theorem ip_iret (hx : p.tables.exec = Jvm.exec) (hb : c.code = cc) {v : Int32} {ty : FieldType} (hr : meth.sig.returnType = some ty) (hnr : narrow ty (.int v) = .int v) (hlocks : meth.locks = false) (hb0 : b ≤ s.heap.size) (hdg : decode cc pc = .ok (.ireturn, 1)) : ip_V p l e R s m args below meth c D cl aC b sc nL n0 s0 (ip_Q D cl aC b sc w (.returned (some (.int v))) below s n0 s0) w pc lo [.int v] := by
  intro H locs ls hG hS hl T hT X
  obtain ⟨fs, hret, hrun, hended, hW, hframe⟩ := X.leave (v := some (.int v)) (fun h => by rw [hr] at h; cases h) hlocks
  have hmeth' : T.vm.method? m = some meth := X.method'
  refine ⟨T.setFrames fs, ?_, hrun, hended, hW, ⟨locs, hframe, hS.2.2⟩, by show ip_G D cl aC b sc w T.heap; rw [hT]; exact hG, by show ∀ q : Nat, q < b → T.heap[q]? = s.heap[q]?; rw [hT]; exact ip_low hb0 hS⟩
  simp only [List.map, ip_v]
  jvm_step X.here [X.here.top, hx, hb, hdg, hmeth', hr, hnr]
  (try refine ⟨rfl, ?_⟩); (try refine ⟨rfl, ?_⟩)
  first | (intro acts; rw [hret _ acts rfl rfl rfl]) | rw [hret _ _ rfl rfl rfl]
  exact Steps.refl _
theorem ip_lret (hx : p.tables.exec = Jvm.exec) (hb : c.code = cc) {v : Int64} (hr : meth.sig.returnType = some .long) (hlocks : meth.locks = false) (hb0 : b ≤ s.heap.size) (hdg : decode cc pc = .ok (.lreturn, 1)) : ip_V p l e R s m args below meth c D cl aC b sc nL n0 s0 (ip_Q D cl aC b sc w (.returned (some (.long v))) below s n0 s0) w pc lo [.long v] := by
  intro H locs ls hG hS hl T hT X
  obtain ⟨fs, hret, hrun, hended, hW, hframe⟩ := X.leave (v := some (.long v)) (fun h => by rw [hr] at h; cases h) hlocks
  have hmeth' : T.vm.method? m = some meth := X.method'
  refine ⟨T.setFrames fs, ?_, hrun, hended, hW, ⟨locs, hframe, hS.2.2⟩, by show ip_G D cl aC b sc w T.heap; rw [hT]; exact hG, by show ∀ q : Nat, q < b → T.heap[q]? = s.heap[q]?; rw [hT]; exact ip_low hb0 hS⟩
  simp only [List.map, ip_v]
  jvm_step X.here [X.here.top, hx, hb, hdg, hmeth', hr, narrow]
  (try refine ⟨rfl, ?_⟩); (try refine ⟨rfl, ?_⟩)
  first | (intro acts; rw [hret _ acts rfl rfl rfl]) | rw [hret _ _ rfl rfl rfl]
  exact Steps.refl _
theorem ip_vret (hx : p.tables.exec = Jvm.exec) (hb : c.code = cc)  (hr : meth.sig.returnType = none) (hlocks : meth.locks = false) (hb0 : b ≤ s.heap.size) (hdg : decode cc pc = .ok (.return_, 1)) : ip_V p l e R s m args below meth c D cl aC b sc nL n0 s0 (ip_Q D cl aC b sc w (.returned (none)) below s n0 s0) w pc lo [] := by
  intro H locs ls hG hS hl T hT X
  obtain ⟨fs, hret, hrun, hended, hW, hframe⟩ := X.leave (v := none) (fun _ => rfl) hlocks
  have hmeth' : T.vm.method? m = some meth := X.method'
  refine ⟨T.setFrames fs, ?_, hrun, hended, hW, ⟨locs, hframe, hS.2.2⟩, by show ip_G D cl aC b sc w T.heap; rw [hT]; exact hG, by show ∀ q : Nat, q < b → T.heap[q]? = s.heap[q]?; rw [hT]; exact ip_low hb0 hS⟩
  simp only [List.map, ip_v]
  jvm_step X.here [X.here.top, hx, hb, hdg, hmeth', hr]
  (try refine ⟨rfl, ?_⟩); (try refine ⟨rfl, ?_⟩)
  first | (intro acts; rw [hret _ acts rfl rfl rfl]) | rw [hret _ _ rfl rfl rfl]
  exact Steps.refl _
theorem ip_aret (hx : p.tables.exec = Jvm.exec) (hb : c.code = cc) {v : Value} {rt : FieldType} (hr : meth.sig.returnType = some rt) (hrt : (∃ n, rt = .object n) ∨ ∃ t, rt = .array t) (hv : v = .null ∨ ∃ a, v = .ref a) (hlocks : meth.locks = false) (hb0 : b ≤ s.heap.size) (hdg : decode cc pc = .ok (.areturn, 1)) : ip_V p l e R s m args below meth c D cl aC b sc nL n0 s0 (ip_Q D cl aC b sc w (.returned (some v)) below s n0 s0) w pc lo [v] := by
  intro H locs ls hG hS hl T hT X
  obtain ⟨fs, hret, hrun, hended, hW, hframe⟩ := X.leave (v := some (ip_v b sc v)) (fun h => by rw [hr] at h; cases h) hlocks
  have hmeth' : T.vm.method? m = some meth := X.method'
  refine ⟨T.setFrames fs, ?_, hrun, hended, hW, ⟨locs, hframe, hS.2.2⟩, by show ip_G D cl aC b sc w T.heap; rw [hT]; exact hG, by show ∀ q : Nat, q < b → T.heap[q]? = s.heap[q]?; rw [hT]; exact ip_low hb0 hS⟩
  rcases hrt with ⟨n, rfl⟩ | ⟨t, rfl⟩ <;> rcases hv with rfl | ⟨a, rfl⟩ <;>
    (simp only [List.map, ip_v] at hret ⊢
     jvm_step X.here [X.here.top, hx, hb, hdg, hmeth', hr]
     (try refine ⟨rfl, ?_⟩); (try refine ⟨rfl, ?_⟩)
     first | (intro acts; rw [hret _ acts rfl rfl rfl]) | rw [hret _ _ rfl rfl rfl]
     exact Steps.refl _)
theorem ip_athrow (hx : p.tables.exec = Jvm.exec) (hb : c.code = cc) {a : Nat} {st : List Value} (hlocks : meth.locks = false) (hb0 : b ≤ s.heap.size) (hout : ∀ x ∈ c.exceptionTable.toList, covers x pc = false) (hdg : decode cc pc = .ok (.athrow, 1)) : ip_V p l e R s m args below meth c D cl aC b sc nL n0 s0 (ip_Q D cl aC b sc w (.threw a) below s n0 s0) w pc lo (.ref a :: st) := by
  intro H locs ls hG hS hl T hT X
  obtain ⟨h1, h2, h3, h4, h5⟩ := X.athrowLeaves hx (g := F0 m pc ls ((Value.ref a :: st).map (ip_v b sc))) rfl rfl rfl hout (a := b + a) (rest := st.map (ip_v b sc)) rfl (by rw [hb]; exact hdg) hlocks
  exact ⟨_, h1, h2, h3, h4, ⟨locs, h5, hS.2.2⟩, by show ip_G D cl aC b sc w T.heap; rw [hT]; exact hG, by show ∀ q : Nat, q < b → T.heap[q]? = s.heap[q]?; rw [hT]; exact ip_low hb0 hS⟩
end IPR
/-- words that hold on, when the tables grow warmer -/
def ip_gw (w : Cond) : Bool := match w with
  | .methodLinkNest _ _ _ _ => true
  | .arrayOver (.object _) => true
  | .castable _ _ => true
  | .declares _ => true
  | w => goodWord w
theorem ip_gw_moved {w : Cond} (h : ip_gw w = true) {s U : State} (hW : s.WarmedH U.vm) (hs : ∀ a : Array Value, w.before a s = true) : ∀ a : Array Value, w.before a U = true := by
  intro a
  unfold ip_gw at h
  split at h
  · exact va_Nw.use rfl (va_Nw.warmM hW (hs #[]))
  · exact va_AO.use (va_AO.moved hW.alike (hs #[]))
  · exact va_Nw.use rfl (va_Nw.warmC hW (hs #[]))
  · exact va_Nw.use rfl (va_Nw.warmD hW (hs #[]))
  · exact word_at hW (good_of_word h) (hs #[])
/-- the words of the tables, at a state -/
def ip_TK (Ts : List Cond) (s : State) : Prop := ∀ w ∈ Ts, ∀ a : Array Value, w.before a s = true
theorem ip_TK.moved {Ts : List Cond} {s U : State} (h : ip_TK Ts s) (hg : ∀ w ∈ Ts, ip_gw w = true) (hW : s.WarmedH U.vm) : ip_TK Ts U := fun w hw a => ip_gw_moved (hg w hw) hW (h w hw) a
/-- A METHOD's MEANING: y, from the world w with the arguments av, comes to the outcome o and the world w2, with the room R -/
def ip_M (l : Launch) (Ev : State → Prop) (Ts : List Cond) (D : va_G) (cl : List vw_C) (aC : Nat → ClassId) (b : Nat) (sc : Nat → Nat) (y : MethodName) (R : Room) (w : ip_W) (av : List Value) (o : Outcome) (w2 : ip_W) : Prop :=
  ∀ (p : Program) (e : Env) (s : State) (m : MethodId) (args : Array Value) (below : List Frame) (meth : Method) (c : Code) (T : State), p.tables.exec = Jvm.exec → Stand p l e R s m args below meth c T [] 0 0 → s.methodNamed? y = some m → ip_TK Ts s → Ev s → va_K D cl (ip_T aC) s → args = (av.map (ip_v b sc)).toArray → T.heap = s.heap → b ≤ s.heap.size → ip_G D cl aC b sc w s.heap →
    ∃ t, Steps p.tables e below (T.setTop (entryFrame m args c.maxLocals)) t ∧ ip_Q D cl aC b sc w2 o below s w.1 w.2.1 t
/-- where the caller stands when its callee has ended so -/
def ip_af (b : Nat) (sc : Nat → Nat) (g : JFrame) (len : Nat) (T2 : State) (o : Outcome) : State := match o with
  | .returned v => T2.setTop { g with pc := g.pc + len, stack := (v.map (ip_v b sc)).toList ++ g.stack }
  | .threw a => (T2.setTop g).pushFrame (.throwing (b + a))
section IPC
variable {p : Program} {l : Launch} {e : Env} {R : Room} {s : State} {m : MethodId} {args : Array Value} {below : List Frame} {meth : Method} {c : Code} {T : State} {locs : List Loc} {Q : State → Prop}
variable {D : va_G} {cl : List vw_C} {aC : Nat → ClassId} {b : Nat} {sc : Nat → Nat} {nL n0 s0 : Nat} {cc : ByteArray} {w w2 : ip_W} {pc : Nat} {lo : List (Nat × Value)} {Ts : List Cond} {Ev : State → Prop} {y : MethodName} {R2 : Room} {av : List Value} {o : Outcome}
/-- what a callee's start needs of the state's other parts comes along -/
def ip_Ek (b : Nat) (Ev : State → Prop) : Prop := ∀ s U : State, Ev s → s.WarmedH U.vm → (∀ q : Nat, q < b → U.heap[q]? = s.heap[q]?) → Ev U
/-- the callee runs: from its invocation to its end, seen from the caller -/
theorem ip_run (hx : p.tables.exec = Jvm.exec) (X : Stand p l e R s m args below meth c T locs (w.1 - n0) (w.2.1 - s0)) (hgood : ∀ w ∈ Ts, ip_gw w = true) (hts : ip_TK Ts s) (hEk : ip_Ek b Ev) (hE : Ev s) (hK : va_K D cl (ip_T aC) s) (hG : ip_G D cl aC b sc w T.heap) (hS : va_S (fun q => b ≤ q) s.heap T.heap locs) (hb0 : b ≤ s.heap.size) {g : JFrame} (hg : g.method = m) (hsize : g.locals.size = c.maxLocals) {ig : Instr} {len : Nat} (hdg : decode c.code g.pc = .ok (ig, len))
    {mk : MethodId} (hnamed : s.methodNamed? y = some mk) (hpl : plainFor y = true) {methk : Method} {ck : Code} (hmk : s.vm.method? mk = some methk) (hck : methk.code = some ck) (hlk : methk.locks = false)
    (hframes : R2.frames + 1 ≤ R.frames) (hlocals : 2 * g.monitorRoom + (g.stack.map fun v => v.category).sum + (ck.maxLocals + 11) + R2.locals ≤ R.locals) (hcells : w.1 - n0 + R2.cells ≤ R.cells) (hslots : w.2.1 - s0 + R2.slots ≤ R.slots)
    (hn0 : n0 ≤ w.1) (hs0 : s0 ≤ w.2.1) (hn1 : w.1 ≤ w2.1) (hs1 : w.2.1 ≤ w2.2.1) (hM : ip_M l Ev Ts D cl aC b sc y R2 w av o w2) :
    ∃ (T2 : State) (locs2 : List Loc), Stand p l e R s m args below meth c T2 locs2 (w2.1 - n0) (w2.2.1 - s0) ∧ ip_G D cl aC b sc w2 T2.heap ∧ va_S (fun q => b ≤ q) s.heap T2.heap locs2 ∧
      ∀ acts, Steps p.tables e below (doInvoke e (T.setTop g) acts mk (av.map (ip_v b sc)).toArray).1 (ip_af b sc g len T2 o) := by
  have hmkT : T.vm.method? mk = some methk := by rw [X.warmed.alike.method?]; exact hmk
  have hnT : T.methodNamed? y = some mk := X.named hnamed
  have hpk : T.plainMethod mk := State.plainMethod.of_named hpl hnT hmkT
  obtain ⟨Y, hin⟩ := X.into hg hsize hdg (av.map (ip_v b sc)).toArray (R' := R2) hmkT hck hlk hpk hframes hlocals hcells hslots
  have hWc : s.WarmedH (T.calling g mk (av.map (ip_v b sc)).toArray).vm := X.warmed
  have hnC : (T.calling g mk (av.map (ip_v b sc)).toArray).methodNamed? y = some mk := hnT
  obtain ⟨t, hst, hrun, hend, hW, ⟨L, hsame, hL⟩, hG2, hlow⟩ := hM p e (T.calling g mk (av.map (ip_v b sc)).toArray) mk (av.map (ip_v b sc)).toArray (.java g :: below) methk ck _ hx Y hnC (hts.moved hgood hWc) (hEk s _ hE hWc (fun q hq => by show T.heap[q]? = s.heap[q]?; exact ip_low hb0 hS q hq)) (va_K.moved hWc.alike hK) rfl rfl
    (by show b ≤ T.heap.size; rw [hG.1]; omega) (by show ip_G D cl aC b sc w T.heap; exact hG)
  have hlow2 : ∀ q : Nat, q < b → t.heap[q]? = T.heap[q]? := hlow
  have hsz : T.heap.size ≤ t.heap.size := by rw [hG.1, hG2.1]; omega
  have hS2 : va_S (fun q => b ≤ q) s.heap t.heap (locs ++ L) := ⟨Nat.le_trans hS.1 hsz, fun q h1 h2 => by
    have hq : q < b := Nat.not_le.mp h2
    rw [hlow2 q hq]
    exact hS.2.1 q h1 h2, fun q hq => by
    rcases List.mem_append.mp hq with h | h
    · exact hS.2.2 q h
    · exact hL q h⟩
  cases o with
  | returned v =>
    obtain ⟨T2, X2, hW2, -, ht⟩ := X.outOf hg hdg hend hW hsame
    have hh : t.heap = T2.heap := by rw [ht]; rfl
    rw [show w.1 - n0 + (w2.1 - w.1) = w2.1 - n0 by omega, show w.2.1 - s0 + (w2.2.1 - w.2.1) = w2.2.1 - s0 by omega] at X2
    refine ⟨T2, locs ++ L, X2, hh ▸ hG2, hh ▸ hS2, fun acts => ?_⟩
    rw [hin acts]
    show Steps p.tables e below _ (T2.setTop { g with pc := g.pc + len, stack := (v.map (ip_v b sc)).toList ++ g.stack })
    rw [← ht]
    exact Steps.weaken (mid := [.java g]) hst
  | threw a =>
    obtain ⟨T2, X2, hW2, -, ht⟩ := X.outOfThrown hg hend hW hsame
    have hh : t.heap = T2.heap := by rw [ht]; exact Stand.throwing_heap _ _ _
    rw [show w.1 - n0 + (w2.1 - w.1) = w2.1 - n0 by omega, show w.2.1 - s0 + (w2.2.1 - w.2.1) = w2.2.1 - s0 by omega] at X2
    refine ⟨T2, locs ++ L, X2, hh ▸ hG2, hh ▸ hS2, fun acts => ?_⟩
    rw [hin acts]
    show Steps p.tables e below _ ((T2.setTop g).pushFrame (.throwing (b + a)))
    rw [← ht]
    exact Steps.weaken (mid := [.java g]) hst
end IPC
