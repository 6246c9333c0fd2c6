/-! part 20: a thrown one is caught; the catch clause's class may be named there for the first time -/
/-- the search over a table's rows ends so, and leaves these tables -/
def vt_Fs (e : Env) (f : JFrame) (a : Addr) (t : List ExceptionTableEntry) (s : State) (h : Handler) (vm' : Vm) : Prop :=
  ∀ (Q : Handler → Jvm.Pre) (E : CtlPost) (d : Bool) (acts : List Action), wp (findHandler.go f a t) Q E e d acts s ↔ Q h d acts (s.setVm vm')
section VTF
variable {e : Env} {f : JFrame} {a : Addr} {s : State} {x : ExceptionTableEntry} {t : List ExceptionTableEntry} {c : ClassId} {cell : Cell} {h : Handler} {vm' : Vm}
theorem vt_Fs_hit (hx : covers x f.pc = true) (h0 : x.catchType ≠ 0) (hl : s.vm.ClassLinks e.platform f.method.cls x.catchType c) (hcell : s.heap[a]? = some cell) (hobj : ∀ k, cell.vm ≠ .statics k) (hk : ∃ k, s.vm.classes[cell.cls]? = some k) (hc : ∃ k, s.vm.classes[c]? = some k) (hfit : s.vm.assignable cell.cls c = true) :
    vt_Fs e f a (x :: t) s (.found x.handlerPc) (s.vm.noted f.method.cls x.catchType (.cls c)) := by
  intro Q E d acts
  simp only [covers] at hx
  obtain ⟨ha, ht⟩ := (resolveClass_links e.toSetting hl).op (op := VmOp.resolveClass f.method.cls x.catchType) rfl
  have hal : s.vm.Alike (s.vm.noted f.method.cls x.catchType (.cls c)) := (Vm.Alike.refl s.vm).noted _ _ _
  obtain ⟨k1, hk1⟩ := hk
  obtain ⟨k2, hk2⟩ := hc
  obtain ⟨k1', hk1', -⟩ := hal.2.2 _ _ hk1
  obtain ⟨k2', hk2', -⟩ := hal.2.2 _ _ hk2
  have hfit' : (s.vm.noted f.method.cls x.catchType (.cls c)).assignable cell.cls c = true := by rw [hal.assignable]; exact hfit
  simp [findHandler.go, hx, h0, ha, ht, hcell, hobj, hk1', hk2', hfit', VmOp.dirties, VmOp.acts]
theorem vt_Fs_pass (hx : covers x f.pc = true) (h0 : x.catchType ≠ 0) (hl : s.vm.ClassLinks e.platform f.method.cls x.catchType c) (hcell : s.heap[a]? = some cell) (hobj : ∀ k, cell.vm ≠ .statics k) (hk : ∃ k, s.vm.classes[cell.cls]? = some k) (hc : ∃ k, s.vm.classes[c]? = some k) (hfit : s.vm.assignable cell.cls c = false)
    (hr : vt_Fs e f a t (s.setVm (s.vm.noted f.method.cls x.catchType (.cls c))) h vm') : vt_Fs e f a (x :: t) s h vm' := by
  intro Q E d acts
  simp only [covers] at hx
  obtain ⟨ha, ht⟩ := (resolveClass_links e.toSetting hl).op (op := VmOp.resolveClass f.method.cls x.catchType) rfl
  have hal : s.vm.Alike (s.vm.noted f.method.cls x.catchType (.cls c)) := (Vm.Alike.refl s.vm).noted _ _ _
  obtain ⟨k1, hk1⟩ := hk
  obtain ⟨k2, hk2⟩ := hc
  obtain ⟨k1', hk1', -⟩ := hal.2.2 _ _ hk1
  obtain ⟨k2', hk2', -⟩ := hal.2.2 _ _ hk2
  have hfit' : (s.vm.noted f.method.cls x.catchType (.cls c)).assignable cell.cls c = false := by rw [hal.assignable]; exact hfit
  have h9 := hr Q E d acts
  rw [State.setVm_twice] at h9
  rw [← h9]
  simp [findHandler.go, hx, h0, ha, ht, hcell, hobj, hk1', hk2', hfit', VmOp.dirties, VmOp.acts]
end VTF
theorem vt_stepT {e : Env} {s : State} {a : Addr} {f : JFrame} {r : List Frame} {pc : Nat} {vm' : Vm} (hfind : ∀ (Q : Handler → Jvm.Pre) (E : CtlPost) (d : Bool) (acts : List Action), wp (findHandler f a) Q E e d acts s ↔ Q (.found pc) d acts (s.setVm vm')) :
    (stepThrowing e s a (.java f :: r)).Is ((s.setVm vm').setFrames (.java { f with pc := pc, stack := [.ref a] } :: r)) [] := by
  simp only [stepThrowing, searchFrame, vmDo]
  generalize hr : Sem.go _ e false [] s = res
  obtain ⟨as, rfl, ha⟩ := Sem.eq_ok_of hr (a := Handler.found pc) (s' := s.setVm vm') (acts' := []) (by simp [hfind _ _ _ _])
  exact ⟨rfl, ha⟩
section VTG
variable {p : Program} {l : Launch} {e : Env} {R : Room} {s : State} {m : MethodId} {args : Array Value} {below : List Frame} {meth : Method} {c : Code} {T : State} {locs : List Loc} {cells slots : Nat}
/-- caught, by a search that leaves warmer tables -/
theorem vt_caught (X : Stand p l e R s m args below meth c T locs cells slots) {a : Addr} {g : JFrame} (hg : g.method = m) {pc : Nat} {vm' : Vm} (hfind : vt_Fs e g a c.exceptionTable.toList ((T.setTop g).pushFrame (.throwing a)) (.found pc) vm') {target : State}
    (hrest : Steps p.tables e below ((T.setVm vm').setTop { g with pc := pc, stack := [.ref a] }) target) : Steps p.tables e below ((T.setTop g).pushFrame (.throwing a)) target := by
  subst hg
  have h : At T g.method c below := X.here
  obtain ⟨hgo, hw⟩ := h.throwing a
  refine Steps.head hgo hw ?_
  have hf2 : ∀ (Q : Handler → Jvm.Pre) (E : CtlPost) (d : Bool) (acts : List Action), wp (findHandler g a) Q E e d acts ((T.setTop g).pushFrame (.throwing a)) ↔ Q (.found pc) d acts (((T.setTop g).pushFrame (.throwing a)).setVm vm') := fun Q E d acts => by
    rw [W.findHandler_eq (s := (T.setTop g).pushFrame (.throwing a)) (meth := meth) (code := c) X.method' X.code]
    exact hfind Q E d acts
  rw [stepThread_throwing (frames_entered h.top _), (vt_stepT (s := (T.setTop g).pushFrame (.throwing a)) hf2).1]
  obtain ⟨g₀, hg⟩ := Option.isSome_iff_exists.mp h.top
  obtain ⟨r, hr⟩ := State.topJava?_eq_some.mp hg
  have hr' : (T.setVm vm').frames = .java g₀ :: r := hr
  rw [State.setTop_of_frames _ hr'] at hrest
  have e1 : ∀ (u : State) (F G : List Frame), ((u.setFrames F).setVm vm').setFrames G = (u.setVm vm').setFrames G := fun u F G => by
    have h1 : (u.setFrames F).setVm vm' = (u.setVm vm').setFrames F := rfl
    rw [h1, State.setFrames_setFrames]
  rw [hr, List.tail_cons, State.pushFrame, e1, State.setTop_of_frames _ hr, e1]
  exact hrest
end VTG
section VTH
variable {P : Nat → List Value → ip_W → Option (Option Value × ip_W)} {Ro : Nat → Option (Nat × Nat × (Nat → Int32))} {l : Launch} {b : Nat} {sc adV : Nat → Nat} {L : Nat} {xs : Nat → Int32} {D : va_G} {aC : Nat → ClassId}
variable {p : Program} {e : Env} {R : Room} {s : State} {m : MethodId} {args : Array Value} {below : List Frame} {meth : Method} {c : Code} {n0 s0 nL y pc a ci : Nat} {Q : State → Prop} {lo : List (Nat × Value)} {w : ip_W} {fs : List Value}
/-- what the tables say of a catch clause's class -/
theorem vt_cl1 {T : State} (hown : s.vm.findClass (vt_N y).cls = some m.cls) (hK : va_K D vt_cl (ip_T aC) s) (hW : s.WarmedH T.vm) (hpl : e.platform.magicAccessors = ({} : Platform).magicAccessors) {k cj : Nat} (hj : cj < 19) (hlink : (Cond.classLink (vt_N y).cls k (vt_ct cj).1).before args s = true) :
    T.vm.ClassLinks e.platform m.cls k (D.1 cj) ∧ (∃ kt, T.vm.classes[D.1 cj]? = some kt) ∧ s.WarmedH (T.vm.noted m.cls k (.cls (D.1 cj))) := by
  obtain ⟨c', hc', hcl⟩ := Cond.classLink_spec hown hlink e.platform hpl
  have hKn := (hK.1 cj _ (vt_ctc hj)).2.1
  cases hKn.symm.trans hc'
  obtain ⟨dk, _, _, kt, hd, _, _, _, _, hkt, _, hopen⟩ := hcl.here
  obtain ⟨kt', hkt', -⟩ := hW.alike.2.2 _ _ hkt
  exact ⟨hW.classLinks hcl, ⟨kt', hkt'⟩, hW.noted hd hopen (State.rightAt_cls hcl)⟩
theorem vt_cell1 {T : State} (hG : ip_G D vt_cl aC b sc w T.heap) (hci : ci < 19) (he : w.2.2 a = some (.inr (ci, fs))) : ∃ cell : Cell, T.heap[b + a]? = some cell ∧ cell.cls = D.1 ci ∧ ∀ k, cell.vm ≠ .statics k := by
  obtain ⟨r, -, cell, h1, h2, h3, -⟩ := hG.2 a _ he
  exact ⟨cell, h1, h2, fun k hk => by rw [h3] at hk; cases hk⟩
/-- the first row of the table catches it -/
theorem vt_catchA (hC : ip_Cx (vt_tb P Ro) vt_W (vt_Ev b sc adV L xs) D vt_cl aC b vt_N vt_B y p s m meth c) {x : ExceptionTableEntry} {t : List ExceptionTableEntry} (hsp : c.exceptionTable.toList = x :: t) (hx : covers x pc = true) (h0 : x.catchType ≠ 0) (hci : ci < 19) (hcast : (Cond.castable (vt_ct ci).1 (vt_ct ci).1).before args s = true) (hlink : Cond.classLink (vt_N y).cls x.catchType (vt_ct ci).1 ∈ vt_W) (he : w.2.2 a = some (.inr (ci, fs)))
    (k : ip_V p l e R s m args below meth c D vt_cl aC b sc nL n0 s0 Q w x.handlerPc lo [.ref a]) : ip_X p l e R s m args below meth c D vt_cl aC b sc nL n0 s0 Q w pc lo a := by
  obtain ⟨hxx, hb, hml, hrc, hlocks, hexc, hname, hown, hts, hE, hK, hb0⟩ := hC
  intro T locs ls stk X hG hS hl
  have hpl : e.platform.magicAccessors = ({} : Platform).magicAccessors := by rw [X.admits.platform]
  obtain ⟨hcl, hkt, hWn⟩ := vt_cl1 hown hK X.warmed hpl hci (hts _ hlink args)
  obtain ⟨cell, hc1, hc2, hc3⟩ := vt_cell1 hG hci he
  have hasg : T.vm.assignable cell.cls (D.1 ci) = true := by
    obtain ⟨c3, c4, q3, q4, hasg⟩ := Cond.castable_spec hcast
    have hKn := (hK.1 ci _ (vt_ctc hci)).2.1
    cases hKn.symm.trans q3
    cases hKn.symm.trans q4
    rw [X.warmed.alike.assignable, hc2]
    exact hasg
  have hfs := vt_Fs_hit (e := e) (f := F0 m pc ls stk) (a := b + a) (s := (T.setTop (F0 m pc ls stk)).pushFrame (.throwing (b + a))) (x := x) (t := t) (c := D.1 ci) (cell := cell) hx h0 hcl hc1 hc3 (by rw [hc2]; exact hkt) hkt hasg
  rw [← hsp] at hfs
  have X2 := X.noted hWn
  obtain ⟨t2, k1, k2⟩ := k T.heap locs ls hG hS hl (T.setVm (T.vm.noted m.cls x.catchType (.cls (D.1 ci)))) rfl X2
  exact ⟨t2, vt_caught X rfl hfs k1, k2⟩
/-- the second row of the table catches it -/
theorem vt_catchB (hC : ip_Cx (vt_tb P Ro) vt_W (vt_Ev b sc adV L xs) D vt_cl aC b vt_N vt_B y p s m meth c) {x x1 : ExceptionTableEntry} {t : List ExceptionTableEntry} (hsp : c.exceptionTable.toList = x1 :: x :: t) (hx1 : covers x1 pc = true) (hx : covers x pc = true) (h01 : x1.catchType ≠ 0) (h0 : x.catchType ≠ 0) {cj : Nat} (hci : ci < 19) (hcj : cj < 19) (hcast : (Cond.castable (vt_ct ci).1 (vt_ct ci).1).before args s = true) (hno : s.vm.assignable (D.1 ci) (D.1 cj) = false) (hlink1 : Cond.classLink (vt_N y).cls x1.catchType (vt_ct cj).1 ∈ vt_W) (hlink : Cond.classLink (vt_N y).cls x.catchType (vt_ct ci).1 ∈ vt_W) (he : w.2.2 a = some (.inr (ci, fs)))
    (k : ip_V p l e R s m args below meth c D vt_cl aC b sc nL n0 s0 Q w x.handlerPc lo [.ref a]) : ip_X p l e R s m args below meth c D vt_cl aC b sc nL n0 s0 Q w pc lo a := by
  obtain ⟨hxx, hb, hml, hrc, hlocks, hexc, hname, hown, hts, hE, hK, hb0⟩ := hC
  intro T locs ls stk X hG hS hl
  have hpl : e.platform.magicAccessors = ({} : Platform).magicAccessors := by rw [X.admits.platform]
  obtain ⟨hcl1, hkt1, hWn1⟩ := vt_cl1 hown hK X.warmed hpl hcj (hts _ hlink1 args)
  have X1 := X.noted hWn1
  obtain ⟨hcl, hkt, hWn⟩ := vt_cl1 (T := T.setVm (T.vm.noted m.cls x1.catchType (.cls (D.1 cj)))) hown hK X1.warmed hpl hci (hts _ hlink args)
  obtain ⟨cell, hc1, hc2, hc3⟩ := vt_cell1 hG hci he
  have hkc : ∃ kt, T.vm.classes[D.1 ci]? = some kt := by
    obtain ⟨-, h, -⟩ := vt_cl1 hown hK X.warmed hpl hci (hts _ hlink args)
    exact h
  have hasg : (T.setVm (T.vm.noted m.cls x1.catchType (.cls (D.1 cj)))).vm.assignable cell.cls (D.1 ci) = true := by
    obtain ⟨c3, c4, q3, q4, hasg⟩ := Cond.castable_spec hcast
    have hKn := (hK.1 ci _ (vt_ctc hci)).2.1
    cases hKn.symm.trans q3
    cases hKn.symm.trans q4
    rw [X1.warmed.alike.assignable, hc2]
    exact hasg
  have hno1 : T.vm.assignable cell.cls (D.1 cj) = false := by
    rw [X.warmed.alike.assignable, hc2]
    exact hno
  have hfs2 := vt_Fs_hit (e := e) (f := F0 m pc ls stk) (a := b + a) (s := ((T.setTop (F0 m pc ls stk)).pushFrame (.throwing (b + a))).setVm (T.vm.noted m.cls x1.catchType (.cls (D.1 cj)))) (x := x) (t := t) (c := D.1 ci) (cell := cell) hx h0 hcl hc1 hc3 (by rw [hc2]; exact hkt) hkt hasg
  have hfs := vt_Fs_pass (e := e) (f := F0 m pc ls stk) (a := b + a) (s := (T.setTop (F0 m pc ls stk)).pushFrame (.throwing (b + a))) (x := x1) (t := x :: t) (c := D.1 cj) (cell := cell) hx1 h01 hcl1 hc1 hc3 (by rw [hc2]; exact hkc) hkt1 hno1 hfs2
  rw [← hsp] at hfs
  have X2 := X1.noted hWn
  rw [State.setVm_twice] at X2
  obtain ⟨t2, k1, k2⟩ := k T.heap locs ls hG hS hl (T.setVm ((T.vm.noted m.cls x1.catchType (.cls (D.1 cj))).noted m.cls x.catchType (.cls (D.1 ci)))) rfl X2
  exact ⟨t2, vt_caught X rfl hfs k1, k2⟩
theorem vt_row {α β : Type} {f : α → β} {l : List α} {r : β} {rs : List β} (h : l.map f = r :: rs) : ∃ (x : α) (t : List α), l = x :: t ∧ f x = r ∧ t.map f = rs := by
  cases l with
  | nil => cases h
  | cons x t =>
    simp only [List.map_cons, List.cons.injEq] at h
    exact ⟨x, t, rfl, h.1, h.2⟩
theorem vt_HA (hC : ip_Cx (vt_tb P Ro) vt_W (vt_Ev b sc adV L xs) D vt_cl aC b vt_N vt_B y p s m meth c) {r : Nat × Nat × Nat × Nat} {rs : List (Nat × Nat × Nat × Nat)} (hH : tH (vt_tb P Ro) y = r :: rs) (hr : r.1 ≤ pc ∧ pc < r.2.1) (h0 : r.2.2.2 ≠ 0) (hci : ci < 19) (hcast : Cond.castable (vt_ct ci).1 (vt_ct ci).1 ∈ vt_W) (hlink : Cond.classLink (vt_N y).cls r.2.2.2 (vt_ct ci).1 ∈ vt_W) (he : w.2.2 a = some (.inr (ci, fs)))
    (k : ip_V p l e R s m args below meth c D vt_cl aC b sc nL n0 s0 Q w r.2.2.1 lo [.ref a]) : ip_X p l e R s m args below meth c D vt_cl aC b sc nL n0 s0 Q w pc lo a := by
  have hexc := hC.2.2.2.2.2.1
  rw [hH] at hexc
  obtain ⟨x, t, hsp, hx, -⟩ := vt_row hexc
  subst hx
  exact vt_catchA hC hsp (by simp only [covers, Bool.and_eq_true, decide_eq_true_eq]; exact hr) h0 hci (hC.2.2.2.2.2.2.2.2.1 _ hcast args) hlink he k
theorem vt_HB (hC : ip_Cx (vt_tb P Ro) vt_W (vt_Ev b sc adV L xs) D vt_cl aC b vt_N vt_B y p s m meth c) {r1 r : Nat × Nat × Nat × Nat} {rs : List (Nat × Nat × Nat × Nat)} (hH : tH (vt_tb P Ro) y = r1 :: r :: rs) (hr1 : r1.1 ≤ pc ∧ pc < r1.2.1) (hr : r.1 ≤ pc ∧ pc < r.2.1) (h01 : r1.2.2.2 ≠ 0) (h0 : r.2.2.2 ≠ 0) {cj : Nat} (hci : ci < 19) (hcj : cj < 19) (hcast : Cond.castable (vt_ct ci).1 (vt_ct ci).1 ∈ vt_W) (hno : s.vm.assignable (D.1 ci) (D.1 cj) = false) (hlink1 : Cond.classLink (vt_N y).cls r1.2.2.2 (vt_ct cj).1 ∈ vt_W) (hlink : Cond.classLink (vt_N y).cls r.2.2.2 (vt_ct ci).1 ∈ vt_W) (he : w.2.2 a = some (.inr (ci, fs)))
    (k : ip_V p l e R s m args below meth c D vt_cl aC b sc nL n0 s0 Q w r.2.2.1 lo [.ref a]) : ip_X p l e R s m args below meth c D vt_cl aC b sc nL n0 s0 Q w pc lo a := by
  have hexc := hC.2.2.2.2.2.1
  rw [hH] at hexc
  obtain ⟨x1, t1, hsp1, hx1, hexc2⟩ := vt_row hexc
  obtain ⟨x, t, hsp, hx, -⟩ := vt_row hexc2
  subst hx
  subst hx1
  rw [hsp] at hsp1
  exact vt_catchB hC hsp1 (by simp only [covers, Bool.and_eq_true, decide_eq_true_eq]; exact hr1) (by simp only [covers, Bool.and_eq_true, decide_eq_true_eq]; exact hr) h01 h0 hci hcj (hC.2.2.2.2.2.2.2.2.1 _ hcast args) hno hlink1 hlink he k
theorem vt_Hall : ip_Hall l (vt_tb P Ro) vt_W (vt_Ev b sc adV L xs) D vt_cl aC b sc vt_N vt_B := by
  intro y p e R s m args below meth c n0 s0 Q pc a h lo w hC hhd k
  unfold ip_hd at hhd
  split at hhd
  · rename_i ci fs he
    have hX : vt_hX y pc ci = some h := hhd
    unfold vt_hX at hX
    obtain ⟨q, hq, rfl⟩ := Option.map_eq_some_iff.mp hX
    have hm := List.mem_of_find?_eq_some hq
    have hp := List.find?_some hq
    simp only [Bool.and_eq_true, decide_eq_true_eq, beq_iff_eq] at hp
    obtain ⟨⟨⟨h1, h2⟩, h3⟩, h4⟩ := hp
    simp only [vt_hx, List.mem_cons, List.not_mem_nil, or_false] at hm
    rcases hm with rfl | rfl | rfl | rfl | rfl | rfl | rfl | rfl | rfl
    · subst h1
      subst h4
      exact vt_HA hC rfl ⟨h2, h3⟩ (by decide) (by decide) (vt_iX (List.mem_append_left _ (by decide +kernel))) (vt_iX (List.mem_append_right _ (List.mem_append_right _ (List.mem_append_right _ (by decide +kernel))))) he k
    · subst h1
      subst h4
      exact vt_HA hC rfl ⟨h2, h3⟩ (by decide) (by decide) (vt_iX (List.mem_append_left _ (by decide +kernel))) (vt_iX (List.mem_append_right _ (List.mem_append_right _ (List.mem_append_right _ (by decide +kernel))))) he k
    · subst h1
      subst h4
      exact vt_HA hC rfl ⟨h2, h3⟩ (by decide) (by decide) (vt_iX (List.mem_append_left _ (by decide +kernel))) (vt_iX (List.mem_append_right _ (List.mem_append_right _ (List.mem_append_right _ (by decide +kernel))))) he k
    · subst h1
      subst h4
      exact vt_HB hC rfl ⟨h2, h3⟩ ⟨h2, h3⟩ (by decide) (by decide) (cj := 17) (by decide) (by decide) (vt_iX (List.mem_append_left _ (by decide +kernel))) (hC.2.2.2.2.2.2.2.2.2.1.2.2.2.2.2.1 _ _ (hC.2.2.2.2.2.2.2.2.2.2.1.1 16 _ (vt_ctc (by decide))).2.1 (hC.2.2.2.2.2.2.2.2.2.2.1.1 17 _ (vt_ctc (by decide))).2.1) (vt_iX (List.mem_append_right _ (List.mem_append_right _ (List.mem_append_right _ (by decide +kernel))))) (vt_iX (List.mem_append_right _ (List.mem_append_right _ (List.mem_append_right _ (by decide +kernel))))) he k
    · subst h1
      subst h4
      exact vt_HA hC rfl ⟨h2, h3⟩ (by decide) (by decide) (vt_iX (List.mem_append_left _ (by decide +kernel))) (vt_iX (List.mem_append_right _ (List.mem_append_right _ (List.mem_append_right _ (by decide +kernel))))) he k
    · subst h1
      subst h4
      exact vt_HA hC rfl ⟨h2, h3⟩ (by decide) (by decide) (vt_iX (List.mem_append_left _ (by decide +kernel))) (vt_iX (List.mem_append_right _ (List.mem_append_right _ (List.mem_append_right _ (by decide +kernel))))) he k
    · subst h1
      subst h4
      exact vt_HA hC rfl ⟨h2, h3⟩ (by decide) (by decide) (vt_iX (List.mem_append_left _ (by decide +kernel))) (vt_iX (List.mem_append_right _ (List.mem_append_right _ (List.mem_append_right _ (by decide +kernel))))) he k
    · subst h1
      subst h4
      exact vt_HA hC rfl ⟨h2, h3⟩ (by decide) (by decide) (vt_iX (List.mem_append_left _ (by decide +kernel))) (vt_iX (List.mem_append_right _ (List.mem_append_right _ (List.mem_append_right _ (by decide +kernel))))) he k
    · subst h1
      subst h4
      exact vt_HA hC rfl ⟨h2, h3⟩ (by decide) (by decide) (vt_iX (List.mem_append_left _ (by decide +kernel))) (vt_iX (List.mem_append_right _ (List.mem_append_right _ (List.mem_append_right _ (by decide +kernel))))) he k
  · cases hhd
end VTH
