/-! part 04: calls, as rules of ip_V -/
/-- as ip_V, but an exception, at a, has come to the method at pc -/
def ip_X (p : Program) (l : Launch) (e : Env) (R : Room) (s : State) (m : MethodId) (args : Array Value) (below : List Frame) (meth : Method) (c : Code) (D : va_G) (cl : List vw_C) (aC : Nat → ClassId) (b : Nat) (sc : Nat → Nat) (nL n0 s0 : Nat) (Q : State → Prop) (w : ip_W) (pc : Nat) (lo : List (Nat × Value)) (a : Nat) : Prop :=
  ∀ (T : State) (locs : List Loc) (ls : Array Slot) (stk : List Value), Stand p l e R s m args below meth c T locs (w.1 - n0) (w.2.1 - s0) → ip_G D cl aC b sc w T.heap → va_S (fun q => b ≤ q) s.heap T.heap locs → lv_has ls nL (ip_l b sc lo) → ∃ t, Steps p.tables e below ((T.setTop (F0 m pc ls stk)).pushFrame (.throwing (b + a))) t ∧ Q t
section IPX
variable {p : Program} {l : Launch} {e : Env} {R : Room} {s : State} {m : MethodId} {args : Array Value} {below : List Frame} {meth : Method} {c : Code} {Q : State → Prop}
variable {D : va_G} {cl : List vw_C} {aC : Nat → ClassId} {b : Nat} {sc : Nat → Nat} {nL n0 s0 : Nat} {cc : ByteArray} {w w2 : ip_W} {pc : Nat} {lo : List (Nat × Value)} {st rest : List Value} {Ts : List Cond} {Ev : State → Prop} {y : MethodName} {R2 : Room} {av : List Value} {o : Outcome}
/-- no handler: the method throws it on -/
theorem ip_Xout {a : Nat} (hlocks : meth.locks = false) (hb0 : b ≤ s.heap.size) (hout : ∀ x ∈ c.exceptionTable.toList, covers x pc = false) : ip_X p l e R s m args below meth c D cl aC b sc nL n0 s0 (ip_Q D cl aC b sc w (.threw a) below s n0 s0) w pc lo a := by
  intro T locs ls stk X hG hS hl
  obtain ⟨h1, h2, h3, h4, h5⟩ := X.leaveThrown (b + a) (g := F0 m pc ls stk) rfl rfl rfl hout hlocks
  exact ⟨_, h1, h2, h3, h4, ⟨locs, h5, hS.2.2⟩, hG, ip_low hb0 hS⟩
/-- a handler: the method goes on there -/
theorem ip_Xcatch {a hpc : Nat} (hfind : ∀ (T : State) (ls : Array Slot) (stk : List Value), s.WarmedH T.vm → ip_G D cl aC b sc w T.heap → Finds e ((T.setTop (F0 m pc ls stk)).pushFrame (.throwing (b + a))) (F0 m pc ls stk) (b + a) (.found hpc)) (k : ip_V p l e R s m args below meth c D cl aC b sc nL n0 s0 Q w hpc lo [.ref a]) : ip_X p l e R s m args below meth c D cl aC b sc nL n0 s0 Q w pc lo a := by
  intro T locs ls stk X hG hS hl
  obtain ⟨t, h1, h2⟩ := k T.heap locs ls hG hS hl T rfl X
  exact ⟨t, X.catchAt (b + a) rfl (hfind T ls stk X.warmed hG) h1, h2⟩
theorem ip_sum (l2 : List Value) : ((l2.map (ip_v b sc)).map fun v => v.category).sum = (l2.map fun v => v.category).sum := by
  rw [List.map_map]
  congr 1
  apply List.map_congr_left
  intro v _
  exact ip_v_cat b sc v
/-- what a call's end gives: the rest of the caller's walk -/
theorem ip_back {T T1 : State} {ls : Array Slot} {mk : MethodId} (hl : lv_has ls nL (ip_l b sc lo)) (hret : ∀ v, o = .returned v → ip_V p l e R s m args below meth c D cl aC b sc nL n0 s0 Q w2 (pc + 3) lo (v.toList ++ rest)) (hthr : ∀ a, o = .threw a → ip_X p l e R s m args below meth c D cl aC b sc nL n0 s0 Q w2 pc lo a)
    (hrun : ∃ (T2 : State) (locs2 : List Loc), Stand p l e R s m args below meth c T2 locs2 (w2.1 - n0) (w2.2.1 - s0) ∧ ip_G D cl aC b sc w2 T2.heap ∧ va_S (fun q => b ≤ q) s.heap T2.heap locs2 ∧
      ∀ acts, Steps p.tables e below (doInvoke e (T1.setTop (F0 m pc ls (rest.map (ip_v b sc)))) acts mk (av.map (ip_v b sc)).toArray).1 (ip_af b sc (F0 m pc ls (rest.map (ip_v b sc))) 3 T2 o))
    {g : JFrame} (hstep : ∀ target, (∀ acts, Steps p.tables e below (doInvoke e (T1.setTop (F0 m pc ls (rest.map (ip_v b sc)))) acts mk (av.map (ip_v b sc)).toArray).1 target) → Steps p.tables e below (T.setTop g) target) : ∃ t, Steps p.tables e below (T.setTop g) t ∧ Q t := by
  obtain ⟨T2, locs2, X2, hG2, hS2, hsteps⟩ := hrun
  cases o with
  | returned v =>
    obtain ⟨t, h1, h2⟩ := hret v rfl T2.heap locs2 ls hG2 hS2 hl T2 rfl X2
    refine ⟨t, hstep t fun acts => (hsteps acts).trans ?_, h2⟩
    have e1 : (v.map (ip_v b sc)).toList ++ rest.map (ip_v b sc) = (v.toList ++ rest).map (ip_v b sc) := by cases v <;> rfl
    show Steps p.tables e below (T2.setTop (F0 m (pc + 3) ls ((v.map (ip_v b sc)).toList ++ rest.map (ip_v b sc)))) t
    rw [e1]
    exact h1
  | threw a =>
    obtain ⟨t, h1, h2⟩ := hthr a rfl T2 locs2 ls _ X2 hG2 hS2 hl
    exact ⟨t, hstep t fun acts => (hsteps acts).trans h1, h2⟩
/-- what the tables say of a callee -/
def ip_C (s : State) (y : MethodName) (maxL : Nat) : Prop := ∀ mk, s.methodNamed? y = some mk → ∃ methM cM, s.vm.method? mk = some methM ∧ methM.code = some cM ∧ cM.maxLocals = maxL ∧ methM.locks = false ∧ parseMethodDescriptor y.desc = some methM.sig
theorem ip_C.of {bytes : ByteArray} {maxL : Nat} {ret : Option FieldType} (h : (Cond.code y bytes maxL ret).before args s = true) : ip_C s y maxL := by
  intro mk hn
  obtain ⟨m1, c1, h1, h2, h3, h4, h5, h6, -, h8⟩ := Cond.code_spec hn h
  exact ⟨m1, c1, h1, h2, h4, h6, h8⟩
theorem ip_C.ofWith {bytes : ByteArray} {maxL : Nat} {ret : Option FieldType} {hh : List (Nat × Nat × Nat × Nat)} (h : (Cond.codeWith y bytes maxL ret hh).before args s = true) : ip_C s y maxL := by
  intro mk hn
  obtain ⟨m0, m1, c1, h0, h1, h2, h3, h4, h5, h6, h7, h8⟩ := Cond.codeWith_spec h
  cases hn.symm.trans h0
  exact ⟨m1, c1, h1, h2, h4, h7, h8⟩
set_option maxHeartbeats 200000 in
theorem ip_callV (hx : p.tables.exec = Jvm.exec) (hb : c.code = cc) (hml : c.maxLocals = nL) {own C : String} {index maxL n a0 ci : Nat} {fs : List Value} {r : vw_C} (hgood : ∀ w ∈ Ts, ip_gw w = true) (hts : ip_TK Ts s) (hEk : ip_Ek b Ev) (hE : Ev s) (hK : va_K D cl (ip_T aC) s) (hb0 : b ≤ s.heap.size) (hown : s.vm.findClass own = some m.cls) (hlink : (Cond.methodLink own index y).before args s = true) (hinst : (Cond.instanceMethod y).before args s = true) (hsel : (Cond.selects C y y).before args s = true) (hC : ip_C s y maxL) (hy : y.cls ≠ "java/lang/invoke/MethodHandle" ∧ y.cls ≠ "java/lang/invoke/VarHandle") (hpl : plainFor y = true) (hlen : (parseMethodDescriptor y.desc).map (fun d => d.parameters.length) = some n) (hn : av.length = n)
    (he : w.2.2 a0 = some (.inr (ci, fs))) (hc : cl[ci]? = some r) (hr1 : r.1 = C) (hsum : (rest.map fun v => v.category).sum ≤ 8) (hR : R2.frames + 1 ≤ R.frames ∧ 8 + (maxL + 11) + R2.locals ≤ R.locals) (hcells : w.1 + R2.cells ≤ n0 + R.cells) (hslots : w.2.1 + R2.slots ≤ s0 + R.slots) (hn0 : n0 ≤ w.1) (hs0 : s0 ≤ w.2.1) (hn1 : w.1 ≤ w2.1) (hs1 : w.2.1 ≤ w2.2.1)
    (hM : ip_M l Ev Ts D cl aC b sc y R2 w (.ref a0 :: av) o w2) (hdg : decode cc pc = .ok (.invokevirtual index, 3)) (hret : ∀ v, o = .returned v → ip_V p l e R s m args below meth c D cl aC b sc nL n0 s0 Q w2 (pc + 3) lo (v.toList ++ rest)) (hthr : ∀ a, o = .threw a → ip_X p l e R s m args below meth c D cl aC b sc nL n0 s0 Q w2 pc lo a) : ip_V p l e R s m args below meth c D cl aC b sc nL n0 s0 Q w pc lo (av.reverse ++ .ref a0 :: rest) := by
  intro H locs ls hG hS hl T hT X
  subst hT
  subst hb
  obtain ⟨mk, methM, hnamed, hmethM, hstM, habM⟩ := Cond.instanceMethod_spec hinst
  obtain ⟨methM', cM, hmethM', hcM, hmL, hlk, hsigM⟩ := hC mk hnamed
  cases hmethM.symm.trans hmethM'
  obtain ⟨r', hr', cellB, g1, g2, g3, -⟩ := hG.2 a0 _ he
  have hcls : s.vm.findClass C = some cellB.cls := by rw [g2, ← hr1]; exact (hK.1 ci r hc).2.1
  obtain ⟨c2, r2, m2, q1, q2, q3, q4, kP, hkP, hkPi⟩ := Cond.selects_spec hsel
  cases hcls.symm.trans q1
  cases (State.methodFound?_of_named hnamed hy).symm.trans q2
  cases hnamed.symm.trans q3
  have hselP : selectMethod e.platform s.vm cellB.cls mk = .method mk := by rw [Launch.admits_selectMethod X.admits]; exact q4
  have hlen2 : (av.map (ip_v b sc)).length = methM.sig.parameters.length := by
    rw [hsigM] at hlen
    rw [List.length_map, hn]
    exact (Option.some.inj hlen).symm
  obtain ⟨vm1, X1, hstep1⟩ := X.invokevirtual hx hown hlink hnamed hmethM hstM hkP hkPi hy (a := b + a0) (cell := cellB) g1 (fun z h => by rw [g3] at h; cases h) hselP hmethM habM hkP hkPi (g := F0 m pc ls ((av.reverse ++ Value.ref a0 :: rest).map (ip_v b sc))) rfl (argsL := av.map (ip_v b sc)) (rest := rest.map (ip_v b sc)) hlen2 (by simp [ip_v]) hdg
  have hroom : 2 * (F0 m pc ls (rest.map (ip_v b sc))).monitorRoom + ((rest.map (ip_v b sc)).map fun v => v.category).sum ≤ 8 := lv_room (by rw [ip_sum]; exact hsum)
  have h9 := hR.2
  have h8 : 2 * (F0 m pc ls (rest.map (ip_v b sc))).monitorRoom + ((rest.map (ip_v b sc)).map fun v => v.category).sum + (cM.maxLocals + 11) + R2.locals ≤ R.locals := by rw [hmL]; omega
  have hrun := ip_run (g := F0 m pc ls (rest.map (ip_v b sc))) (av := (Value.ref a0 :: av)) (o := o) (w2 := w2) hx X1 hgood hts hEk hE hK hG hS hb0 rfl (by rw [hml]; exact hl.1) hdg hnamed hpl hmethM hcM hlk hR.1 h8 (by omega) (by omega) hn0 hs0 hn1 hs1 hM
  exact ip_back (av := (Value.ref a0 :: av)) hl hret hthr hrun hstep1
set_option maxHeartbeats 200000 in
theorem ip_callS (hx : p.tables.exec = Jvm.exec) (hb : c.code = cc) (hml : c.maxLocals = nL) {own : String} {index maxL n : Nat} (hgood : ∀ w ∈ Ts, ip_gw w = true) (hts : ip_TK Ts s) (hEk : ip_Ek b Ev) (hE : Ev s) (hK : va_K D cl (ip_T aC) s) (hb0 : b ≤ s.heap.size) (hown : s.vm.findClass own = some m.cls) (hlink : (Cond.methodLink own index y).before args s = true) (hstat : (Cond.static y).before args s = true) (hinit : (Cond.initialized y.cls).before args s = true) (hnm : ∃ mk, s.methodNamed? y = some mk) (hC : ip_C s y maxL) (hy : y.cls ≠ "java/lang/invoke/MethodHandle" ∧ y.cls ≠ "java/lang/invoke/VarHandle") (hpl : plainFor y = true) (hlen : (parseMethodDescriptor y.desc).map (fun d => d.parameters.length) = some n) (hn : av.length = n)
    (hsum : (rest.map fun v => v.category).sum ≤ 8) (hR : R2.frames + 1 ≤ R.frames ∧ 8 + (maxL + 11) + R2.locals ≤ R.locals) (hcells : w.1 + R2.cells ≤ n0 + R.cells) (hslots : w.2.1 + R2.slots ≤ s0 + R.slots) (hn0 : n0 ≤ w.1) (hs0 : s0 ≤ w.2.1) (hn1 : w.1 ≤ w2.1) (hs1 : w.2.1 ≤ w2.2.1)
    (hM : ip_M l Ev Ts D cl aC b sc y R2 w av o w2) (hdg : decode cc pc = .ok (.invokestatic index, 3)) (hret : ∀ v, o = .returned v → ip_V p l e R s m args below meth c D cl aC b sc nL n0 s0 Q w2 (pc + 3) lo (v.toList ++ rest)) (hthr : ∀ a, o = .threw a → ip_X p l e R s m args below meth c D cl aC b sc nL n0 s0 Q w2 pc lo a) : ip_V p l e R s m args below meth c D cl aC b sc nL n0 s0 Q w pc lo (av.reverse ++ rest) := by
  intro H locs ls hG hS hl T hT X
  subst hT
  subst hb
  obtain ⟨mk, hnamed⟩ := hnm
  obtain ⟨methM, cM, hmethM, hcM, hmL, hlk, hsigM⟩ := hC mk hnamed
  have hstatic : methM.isStatic = true := Cond.static_spec hnamed hmethM hstat
  obtain ⟨kP, hkP, -⟩ := className_of_methodNamed hnamed
  have hinitP : kP.init = .initialized := Cond.initialized_spec (findClass_of_methodNamed hnamed) hkP hinit
  have hlen2 : (av.map (ip_v b sc)).length = methM.sig.parameters.length := by
    rw [hsigM] at hlen
    rw [List.length_map, hn]
    exact (Option.some.inj hlen).symm
  obtain ⟨vm1, X1, hstep1⟩ := X.invokestatic hx hown hlink hnamed hmethM hstatic hkP hinitP hy (g := F0 m pc ls ((av.reverse ++ rest).map (ip_v b sc))) rfl (argsL := av.map (ip_v b sc)) (rest := rest.map (ip_v b sc)) hlen2 (by simp) hdg
  have hroom : 2 * (F0 m pc ls (rest.map (ip_v b sc))).monitorRoom + ((rest.map (ip_v b sc)).map fun v => v.category).sum ≤ 8 := lv_room (by rw [ip_sum]; exact hsum)
  have h9 := hR.2
  have h8 : 2 * (F0 m pc ls (rest.map (ip_v b sc))).monitorRoom + ((rest.map (ip_v b sc)).map fun v => v.category).sum + (cM.maxLocals + 11) + R2.locals ≤ R.locals := by rw [hmL]; omega
  have hrun := ip_run (g := F0 m pc ls (rest.map (ip_v b sc))) (av := av) (o := o) (w2 := w2) hx X1 hgood hts hEk hE hK hG hS hb0 rfl (by rw [hml]; exact hl.1) hdg hnamed hpl hmethM hcM hlk hR.1 h8 (by omega) (by omega) hn0 hs0 hn1 hs1 hM
  exact ip_back (av := av) hl hret hthr hrun hstep1
set_option maxHeartbeats 200000 in
theorem ip_callI (hx : p.tables.exec = Jvm.exec) (hb : c.code = cc) (hml : c.maxLocals = nL) {own : String} {index maxL n a0 : Nat} {bytes : ByteArray} (hgood : ∀ w ∈ Ts, ip_gw w = true) (hts : ip_TK Ts s) (hEk : ip_Ek b Ev) (hE : Ev s) (hK : va_K D cl (ip_T aC) s) (hb0 : b ≤ s.heap.size) (hown : s.vm.findClass own = some m.cls) (hy1 : y.name = "<init>") (hlink : (Cond.methodLink own index y).before args s = true ∨ ∃ host, (Cond.methodLinkNest own index y host).before args s = true) (hinst : (Cond.instanceMethod y).before args s = true) (hcode : (Cond.code y bytes maxL none).before args s = true) (hy : y.cls ≠ "java/lang/invoke/MethodHandle" ∧ y.cls ≠ "java/lang/invoke/VarHandle") (hpl : plainFor y = true) (hlen : (parseMethodDescriptor y.desc).map (fun d => d.parameters.length) = some n) (hn : av.length = n)
    (hsum : (rest.map fun v => v.category).sum ≤ 8) (hR : R2.frames + 1 ≤ R.frames ∧ 8 + (maxL + 11) + R2.locals ≤ R.locals) (hcells : w.1 + R2.cells ≤ n0 + R.cells) (hslots : w.2.1 + R2.slots ≤ s0 + R.slots) (hn0 : n0 ≤ w.1) (hs0 : s0 ≤ w.2.1) (hn1 : w.1 ≤ w2.1) (hs1 : w.2.1 ≤ w2.2.1)
    (hM : ip_M l Ev Ts D cl aC b sc y R2 w (.ref a0 :: av) o w2) (hdg : decode cc pc = .ok (.invokespecial index, 3)) (hret : ∀ v, o = .returned v → ip_V p l e R s m args below meth c D cl aC b sc nL n0 s0 Q w2 (pc + 3) lo (v.toList ++ rest)) (hthr : ∀ a, o = .threw a → ip_X p l e R s m args below meth c D cl aC b sc nL n0 s0 Q w2 pc lo a) : ip_V p l e R s m args below meth c D cl aC b sc nL n0 s0 Q w pc lo (av.reverse ++ .ref a0 :: rest) := by
  intro H locs ls hG hS hl T hT X
  subst hT
  subst hb
  have hplat : e.platform.magicAccessors = ({} : Platform).magicAccessors := by rw [X.admits.platform]
  have hlen2 : ∀ sig, parseMethodDescriptor y.desc = some sig → (av.map (ip_v b sc)).length = sig.parameters.length := by
    intro sig h
    rw [h] at hlen
    rw [List.length_map, hn]
    exact (Option.some.inj hlen).symm
  have hmid : ∃ (mk : MethodId) (vm1 : Vm), s.methodNamed? y = some mk ∧ s.WarmedH vm1 ∧ ∀ target, (∀ acts, Steps p.tables e below (doInvoke e ((T.setVm vm1).setTop (F0 m pc ls (rest.map (ip_v b sc)))) acts mk ((Value.ref a0 :: av).map (ip_v b sc)).toArray).1 target) → Steps p.tables e below (T.setTop (F0 m pc ls ((av.reverse ++ Value.ref a0 :: rest).map (ip_v b sc)))) target := by
    rcases hlink with hlink | ⟨host, hlink⟩
    · obtain ⟨mk, methM, cM, kP, vm1, hnamed, -, -, -, -, -, -, -, hW1, hstep1⟩ := Steps.initColdArgs (e := e) X.here hx X.warmed hplat hown hy1 hy hlink hinst hcode (f := F0 m pc ls ((av.reverse ++ Value.ref a0 :: rest).map (ip_v b sc))) rfl (a := b + a0) (argsL := av.map (ip_v b sc)) (rest := rest.map (ip_v b sc)) hlen2 (by simp [ip_v]) hdg
      exact ⟨mk, vm1, hnamed, hW1, hstep1⟩
    · obtain ⟨mk, methM, cM, kP, vm1, hnamed, -, -, -, -, -, -, -, hW1, hstep1⟩ := Steps.initColdArgsNest (e := e) X.here hx X.warmed hplat hown hy1 hy hlink hinst hcode (f := F0 m pc ls ((av.reverse ++ Value.ref a0 :: rest).map (ip_v b sc))) rfl (a := b + a0) (argsL := av.map (ip_v b sc)) (rest := rest.map (ip_v b sc)) hlen2 (by simp [ip_v]) hdg
      exact ⟨mk, vm1, hnamed, hW1, hstep1⟩
  obtain ⟨mk, vm1, hnamed, hW1, hstep1⟩ := hmid
  have X1 := X.noted hW1
  obtain ⟨methM, cM, hmethM, hcM, hmL, hlk, hsigM⟩ := ip_C.of hcode mk hnamed
  have hroom : 2 * (F0 m pc ls (rest.map (ip_v b sc))).monitorRoom + ((rest.map (ip_v b sc)).map fun v => v.category).sum ≤ 8 := lv_room (by rw [ip_sum]; exact hsum)
  have h9 := hR.2
  have h8 : 2 * (F0 m pc ls (rest.map (ip_v b sc))).monitorRoom + ((rest.map (ip_v b sc)).map fun v => v.category).sum + (cM.maxLocals + 11) + R2.locals ≤ R.locals := by rw [hmL]; omega
  have hrun := ip_run (g := F0 m pc ls (rest.map (ip_v b sc))) (av := (Value.ref a0 :: av)) (o := o) (w2 := w2) hx X1 hgood hts hEk hE hK hG hS hb0 rfl (by rw [hml]; exact hl.1) hdg hnamed hpl hmethM hcM hlk hR.1 h8 (by omega) (by omega) hn0 hs0 hn1 hs1 hM
  exact ip_back (av := (Value.ref a0 :: av)) hl hret hthr hrun hstep1
end IPX
