/-! part 19: an exception is made and thrown at once -/
section VTX
variable {p : Program} {l : Launch} {e : Env} {R : Room} {s : State} {m : MethodId} {args : Array Value} {below : List Frame} {meth : Method} {c : Code} {T : State} {locs : List Loc} {cells slots : Nat}
theorem vt_isRef {C n d : String} {A : Nat → Prop} (h : va_Zq C n d A s s.heap) : (Cond.isRef (.static C n d)).before args s = true := by
  have key : ∀ v, va_Z C n d v A s s.heap → (Term.static C n d).eval args s none [] s = some v := by
    intro v hv
    obtain ⟨cf, kf, fi, f, a, cell, h1, h2, h3, h4, h5, h6, h7, h8⟩ := hv
    simp [Term.eval, State.fieldNamed?, h1, h2, h4, h5, h6, h7]
  rcases h with h | ⟨t, h⟩
  · simp [Cond.before, Cond.holds, Cond.value, key _ h]
  · simp [Cond.before, Cond.holds, Cond.value, key _ h]
set_option maxHeartbeats 1000000 in
theorem vt_init (X : Stand p l e R s m args below meth c T locs cells slots) (hexec : p.tables.exec = Jvm.exec) (htr : e.platform.stackTraces = false) {own cls : String} {ic b : Nat} (hown : s.vm.findClass own = some m.cls) (hcls : Bundle.fit cls = true)
    (h : ∀ a ∈ Bundle.ownAtoms own ic cls vt_up, a.before args s = true) (hZ : va_Zq Bundle.tN "UNASSIGNED_STACK" Bundle.steD (fun q => b ≤ q) s s.heap) (hlow : ∀ q : Nat, q < b → T.heap[q]? = s.heap[q]?)
    {a : Nat} {cX : ClassId} {kX : Class} (hfX : s.vm.findClass cls = some cX) (hkX : s.vm.classes[cX]? = some kX) (hcell : T.heap[a]? = some (freshCell cX kX)) (hba : b ≤ a)
    {msg : Value} (hmsg : msg.isRef = true) {pc : Nat} {ls : Array Slot} (hsize : ls.size = c.maxLocals) {rest : List Value} (hdg : decode c.code pc = .ok (.invokespecial ic, 3)) (hfr : 6 ≤ R.frames) (hlo : (rest.map fun v => v.category).sum + 100 ≤ R.locals) :
    ∃ (vm' : Vm) (ce : Cell) (L2 : List Loc), Stand p l e R s m args below meth c ((T.setVm vm').setCell a ce) (locs ++ L2) cells slots ∧ (∀ q ∈ L2, q.base = a) ∧ ce.cls = cX ∧ ce.vm = .none ∧
      ∀ target, Steps p.tables e below (((T.setVm vm').setCell a ce).setTop (F0 m (pc + 3) ls (.ref a :: rest))) target → Steps p.tables e below (T.setTop (F0 m pc ls (msg :: .ref a :: .ref a :: rest))) target := by
  have howns : e.platform.frameOwnsMonitors = true := by rw [X.admits.platform]
  have hfin : e.platform.finalization = false := by rw [X.admits.platform]
  have hpl : e.platform.magicAccessors = ({} : Platform).magicAccessors := by rw [X.admits.platform]
  have a' : ∀ x, x ∈ Bundle.ownAtoms own ic cls vt_up → x.holds args s none s [] = true := fun x hx => h x hx
  obtain ⟨Th, Z0, Lk, -, Y⟩ := ThrowableC.of_atoms (args := args) howns hfin hpl (fun x hx => h x (by simp [Bundle.ownAtoms, hx]))
  obtain ⟨Z, M, LZ, LM, hnZ⟩ := Init0T.ofS_atoms (args := args) hpl Lk Y (fun x hx => h x (by simp [Bundle.ownAtoms, hx]))
  obtain ⟨P1, Ps, hlen, L1, hL, hP1m, hlink1, hlink⟩ := Bundle.chainS (args := args) hpl hnZ vt_up cls hcls (by decide +kernel) (fun x hx => h x (by simp [Bundle.ownAtoms, hx]))
  have hfound : s.vm.findClass cls = some P1.m.cls := findClass_of_methodNamed hP1m
  cases Option.some.inj (hfX.symm.trans hfound)
  obtain ⟨c1, kX', hc1, hk, hord, -, -, hn6⟩ := Cond.instantiable_spec (a' (.instantiable cls 6) (by simp [Bundle.ownAtoms]))
  cases Option.some.inj (hc1.symm.trans hfound)
  cases Option.some.inj (hkX.symm.trans hk)
  have hsel0 : selectMethod e.platform s.vm P1.m.cls Th.fill0 = .method Th.fill0 := by
    obtain ⟨c2, r2, m2, q1, q2, q3, q4, -⟩ := Cond.selects_spec (a' (.selects cls Bundle.tFill0 Bundle.tFill0) (by simp [Bundle.ownAtoms]))
    cases Option.some.inj (q1.symm.trans hfound)
    cases Option.some.inj (q2.symm.trans (State.methodFound?_of_named Y.fill0 (by decide)))
    cases Option.some.inj (q3.symm.trans Y.fill0)
    rw [Launch.admits_selectMethod X.admits]; exact q4
  have hselF : selectMethod e.platform s.vm P1.m.cls Th.fill = .method Th.fill := by
    obtain ⟨c2, r2, m2, q1, q2, q3, q4, -⟩ := Cond.selects_spec (a' (.selects cls Bundle.tFill Bundle.tFill) (by simp [Bundle.ownAtoms]))
    cases Option.some.inj (q1.symm.trans hfound)
    cases Option.some.inj (q2.symm.trans (State.methodFound?_of_named Y.fill (by decide)))
    cases Option.some.inj (q3.symm.trans Y.fill)
    rw [Launch.admits_selectMethod X.admits]; exact q4
  obtain ⟨cellS, hcS0, hiss⟩ := Y.statics
  obtain ⟨u0, hu0⟩ := Cond.staticRefV Y.unassigned Lk.unassignedStatic Lk.statics hcS0 hiss (a' (.isRef (.static Bundle.tN "UNASSIGNED_STACK" Bundle.steD)) (by simp [Bundle.ownAtoms]))
  obtain ⟨sen, hsen⟩ := Cond.staticRefV Y.sentinel Lk.sentinelStatic Lk.statics hcS0 hiss (a' (.isRef (.static Bundle.tN "SUPPRESSED_SENTINEL" Bundle.listD)) (by simp [Bundle.ownAtoms]))
  obtain ⟨ci198, i198, fB, hk198, hg198, ha198, hsB, -, hnB, htB, hffB⟩ := Cond.ownField (t := .object "java/lang/Object") Y.found Lk.cls (by decide +kernel) (a' (.fieldLink Bundle.tN 198 Bundle.tN "backtrace" "Ljava/lang/Object;") (by simp [Bundle.ownAtoms])) (a' (.lays Bundle.tN Bundle.tN "backtrace" "Ljava/lang/Object;") (by simp [Bundle.ownAtoms])) e.platform hpl
  have haS : Th.aS < b := vt_low hZ Y.unassigned Lk.statics
  have hcellS : T.heap[Th.aS]? = some cellS := by rw [hlow _ haS]; exact hcS0
  have hknownS : cellS.vm ≠ .unknown := by
    intro hu
    rw [hu] at hiss
    cases hiss
  have hneS : Th.aS ≠ a := Nat.ne_of_lt (Nat.lt_of_lt_of_le haS hba)
  obtain ⟨iM, hffM⟩ := Y.msg
  obtain ⟨tyC, dC, hdC, hdnC⟩ := Cond.laysAt hfound hk Y.cause (a' (.lays cls Bundle.tN "cause" "Ljava/lang/Throwable;") (by simp [Bundle.ownAtoms]))
  obtain ⟨tyS, dS, hdS, hdnS⟩ := Cond.laysAt hfound hk Y.stack (a' (.lays cls Bundle.tN "stackTrace" Bundle.steD) (by simp [Bundle.ownAtoms]))
  obtain ⟨tyP, dP, hdP, hdnP⟩ := Cond.laysAt hfound hk Y.supp (a' (.lays cls Bundle.tN "suppressedExceptions" Bundle.listD) (by simp [Bundle.ownAtoms]))
  obtain ⟨tyM, dM, hdM, hdnM⟩ := Cond.laysAt hfound hk hffM (a' (.lays cls Bundle.tN "detailMessage" "Ljava/lang/String;") (by simp [Bundle.ownAtoms]))
  obtain ⟨tyB, dB, hdB, hdnB⟩ := Cond.laysAt hfound hk hffB (a' (.lays cls Bundle.tN "backtrace" "Ljava/lang/Object;") (by simp [Bundle.ownAtoms]))
  have bC := Cond.laysApart hdB hdC hdnB hdnC (by rw [hnB, Y.causeName]; decide)
  have bS := Cond.laysApart hdB hdS hdnB hdnS (by rw [hnB, Y.stackName]; decide)
  have bP := Cond.laysApart hdB hdP hdnB hdnP (by rw [hnB, Y.suppName]; decide)
  have hskip : SkipFacts Th e.platform s (fun u => u) u0 ((preparedCellV Th.toThrowableT (freshCell P1.m.cls kX) a u0 sen).withEntry T.cur) :=
    ⟨{ ci198 := ci198, i198 := i198, fBack := fB }, ⟨hk198, hg198, ha198, hsB⟩, by
      have := fresh_default (c := P1.m.cls) tyB
      rw [htB] at this
      simpa [preparedCellV, Cell.setSlot, Cell.withEntry, Array.getElem?_setIfInBounds, bC, bS, bP, bC.symm, bS.symm, bP.symm, defaultValue] using this, fun _ _ => rfl⟩
  obtain ⟨tm, methC, cdC, kC, vm₁, hnC, -, -, -, -, -, -, -, hW₁, st1⟩ := Steps.initColdS (tb := p.tables) (e := e) (below := below) (s := s) (U := T) X.here hexec X.warmed hpl hown (t := Bundle.initS cls) rfl rfl (Bundle.fit_spec hcls).2
    (a' (.methodLink own ic (Bundle.initS cls)) (by simp [Bundle.ownAtoms])) (h (.instanceMethod (Bundle.initS cls)) (by simp [Bundle.ownAtoms, vt_up, Bundle.chainSAtoms, Bundle.passSAtoms])) (bytes := Bundle.six) (maxL := 2) (h (.code (Bundle.initS cls) Bundle.six 2 none) (by simp [Bundle.ownAtoms, vt_up, Bundle.chainSAtoms, Bundle.passSAtoms]))
    (f := F0 m pc ls (msg :: .ref a :: .ref a :: rest)) rfl (a := a) (msg := msg) (rest := .ref a :: rest) rfl hdg
  cases Option.some.inj (hnC.symm.trans hP1m)
  have X₁ := X.noted hW₁
  have hl2 : Ps.length = 2 := hlen
  obtain ⟨vm₂, X₂, st2⟩ := X₁.ctorMessageOffV hexec (g := F0 m pc ls (.ref a :: rest)) rfl hsize Th Lk Z LZ M LM (P1 :: Ps)
    (fun P hP => by rcases List.mem_cons.mp hP with rfl | hP; exact L1; exact hL P hP) ⟨hlink1, hlink⟩ (u0 := u0) (sen := sen) (self := a) hmsg (cell := freshCell P1.m.cls kX) (cellS := cellS)
    hcell (fun _ => by simp) (by simp) rfl rfl hsel0 hselF hcellS hneS hknownS hu0 hsen
    (Takes.of_laid hk hord tyC (by rw [Y.causeType]; rfl)) (Takes.of_laid hk hord tyS (by rw [Y.stackType]; exact fits_refV_array _ u0)) (Takes.of_laid hk hord tyP (by rw [Y.suppType]; exact fits_refV_object _ sen))
    (Takes.of_laid hk hord tyM (by rw [Y.msgType]; exact fits_refV_object _ ⟨msg, hmsg⟩)) Y.objLocals hskip htr [] hdg
    (by simp only [List.length_cons, hl2]; omega) (by
      show 2 * 0 + ((Value.ref a :: rest).map fun v => v.category).sum + (13 * (P1 :: Ps).length + 42) ≤ R.locals
      have h1 : ((Value.ref a :: rest).map fun v => v.category).sum = 1 + (rest.map fun v => v.category).sum := by simp [Value.category]
      simp only [List.length_cons, hl2]
      omega)
  rw [State.setVm_twice] at X₂ st2
  refine ⟨vm₂, plainBareV Th.toThrowableT (freshCell P1.m.cls kX) a u0 sen msg, _, X₂, fun q hq => ?_, rfl, rfl, fun target hrest => st1 target (fun acts => ?_)⟩
  · simp only [List.mem_cons, List.not_mem_nil, or_false] at hq
    rcases hq with rfl | rfl | rfl | rfl | rfl <;> rfl
  · rw [doInvoke_state]
    exact st2 target hrest
end VTX
theorem vt_exf : ∀ ci : Nat, 13 ≤ ci → ci < 16 → (vt_ct ci).2.2 = 6 ∧ (vt_ct (ci + 3)).1 = (vt_ct ci).1 ∧ (vt_ct (ci + 3)).2.2 = 0 ∧ Bundle.fit (vt_ct ci).1 = true := by
  intro ci h1 h2
  rcases (show ci = 13 ∨ ci = 14 ∨ ci = 15 by omega) with rfl | rfl | rfl <;> exact ⟨rfl, rfl, rfl, by decide +kernel⟩
theorem vt_nrk : (vt_thl.all fun q => (Bundle.ownAtoms (vt_c q.1) q.2.1 (vt_ct q.2.2).1 vt_up).all fun a => vt_nr a || (decide (a = .isRef (.static Bundle.tN "UNASSIGNED_STACK" Bundle.steD)) || (decide (a = .isRef (.static Bundle.tN "SUPPRESSED_SENTINEL" Bundle.listD)) || (decide (a = .laysStatic Bundle.tN "UNASSIGNED_STACK" Bundle.steD) || decide (a = .laysStatic Bundle.tN "SUPPRESSED_SENTINEL" Bundle.listD))))) = true := by decide +kernel
section VTY
variable {P : Nat → List Value → ip_W → Option (Option Value × ip_W)} {Ro : Nat → Option (Nat × Nat × (Nat → Int32))} {l : Launch} {b : Nat} {sc adV : Nat → Nat} {L : Nat} {xs : Nat → Int32} {D : va_G} {aC : Nat → ClassId}
theorem vt_atoms {s : State} {o ic ci : Nat} (hts : ip_TK vt_W s) (hZ1 : va_Zq Bundle.tN "UNASSIGNED_STACK" Bundle.steD (fun q => b ≤ q) s s.heap) (hZ2 : va_Zq Bundle.tN "SUPPRESSED_SENTINEL" Bundle.listD (fun q => b ≤ q) s s.heap) (h7 : ∀ a : Array Value, (Cond.laysStatic Bundle.tN "UNASSIGNED_STACK" Bundle.steD).before a s = true) (h8 : ∀ a : Array Value, (Cond.laysStatic Bundle.tN "SUPPRESSED_SENTINEL" Bundle.listD).before a s = true) (h : (o, ic, ci) ∈ vt_thl) (args : Array Value) : ∀ a ∈ Bundle.ownAtoms (vt_c o) ic (vt_ct ci).1 vt_up, a.before args s = true := by
  intro a ha
  have h1 := List.all_eq_true.mp (List.all_eq_true.mp vt_nrk _ h) a ha
  simp only [Bool.or_eq_true, decide_eq_true_eq] at h1
  rcases h1 with h1 | rfl | rfl | rfl | rfl
  · exact hts a (vt_iX (List.mem_append_left _ (List.mem_flatMap.mpr ⟨_, h, List.mem_filter.mpr ⟨ha, h1⟩⟩))) args
  · exact vt_isRef hZ1
  · exact vt_isRef hZ2
  · exact h7 args
  · exact h8 args
set_option maxHeartbeats 1000000 in
theorem vt_Tall (hfl : l.flags = pinnedFlags ++ [noTraceFlag]) : ip_Tall l (vt_tb P Ro) vt_W (vt_Ev b sc adV L xs) D vt_cl aC b sc vt_N vt_B := by
  intro y p e R s m args below meth c n0 s0 pc k n ci fs lo st w hC hI hN h13 hH hsum hfr hlo hn0 hs0 hcells hslots
  obtain ⟨hx, hb, hml, hrc, hlocks, hexc, hname, hown, hts, hE, hK, hb0⟩ := hC
  obtain ⟨hZ1, hZ2, hE3, hE4, hE5, hE6, hE7, hE8⟩ := hE
  obtain ⟨hy, -, hm⟩ := vt_lm hI
  have hdg0 := (vt_ok2 y pc _ _ hI).1
  have hln : n = 3 := by
    rcases (vt_ok2 y pc _ _ hI).2 with h | h
    · exact h
    · cases h
  subst hln
  have hk0 := List.all_eq_true.mp (List.all_eq_true.mp vt_TK y (List.mem_range.mpr hy)) _ hm
  have hN' : ip_lk (vt_NL.getD (vt_O y) []) k = some (ci, fs) := hN
  dsimp only at hk0
  rw [hN'] at hk0
  simp only [Bool.or_eq_true, Bool.and_eq_true, decide_eq_true_eq] at hk0
  obtain ⟨h16, hk1⟩ := hk0.resolve_left (by omega)
  obtain ⟨hN6, hcn, hN0, hfit⟩ := vt_exf ci h13 h16
  have hdec : ∀ (q : Nat) (i : Instr) (j : Nat), ip_lk (vt_pr.getD y (⟨#[]⟩, [])).2 q = some (i, j) → decode c.code q = .ok (i, j) := fun q i j h => by
    rw [hb]
    exact (vt_ok2 (P := P) (Ro := Ro) y q i j h).1
  unfold vt_tk1 at hk1
  rw [Bool.and_eq_true] at hk1
  obtain ⟨hdup, hk2⟩ := hk1
  have hd3 : decode c.code (pc + 3) = .ok (.dup, 1) := by
    split at hdup
    · rename_i h
      exact hdec _ _ _ h
    · cases hdup
  have hcls := (vt_O_of hy).2
  obtain ⟨C, T0, N0, ty0, g1, g2, g3, g4, g5, -, -⟩ := vt_ok10 (X := vt_X) (P := P) (Ro := Ro) b sc y k ci fs hN
  have hr0 : (C, T0, N0) = vt_ct ci := (vt_ctd g1).symm
  have hC1 : C = (vt_ct ci).1 := congrArg (fun r => r.1) hr0
  have hC3 : N0 = 6 := by
    have h := congrArg (fun r : vw_C => r.2.2) hr0
    exact h.trans hN6
  subst hC3
  subst hC1
  have hKn := hK.1 ci _ g1
  have hK3 := hK.1 (ci + 3) _ (vt_ctc (ci := ci + 3) (by omega))
  have hDD : D.1 (ci + 3) = D.1 ci := by
    have h3 := hK3.2.1
    rw [hcn] at h3
    exact Option.some.inj (h3.symm.trans hKn.2.1)
  have fin : ∀ (lS j : Nat), vt_tk2 y (vt_pr.getD y (⟨#[]⟩, [])).2 pc lS ci = true → (∀ (H : Heap) (locs : List Loc) (ls : Array Slot) (rest : List Value) (cells slots : Nat) (Q : State → Prop), W p l e R s m args below meth c H locs cells slots Q (F0 m (pc + 4 + lS) ls (.ref (sc j) :: rest)) → W p l e R s m args below meth c H locs cells slots Q (F0 m (pc + 4) ls rest)) →
      ip_V p l e R s m args below meth c D vt_cl aC b sc (tL (vt_tb P Ro) y) n0 s0 (ip_Q D vt_cl aC b sc (ip_thw w ci) (.threw w.1) below s n0 s0) w pc lo st := by
    intro lS j ht hldc
    unfold vt_tk2 at ht
    split at ht
    · rename_i ic hsp
      rw [Bool.and_eq_true] at ht
      obtain ⟨hth, ht2⟩ := ht
      have hth : (vt_O y, ic, ci) ∈ vt_thl := List.contains_iff_mem.mp hth
      have hdA : decode c.code (pc + 7 + lS) = .ok (.athrow, 1) := by
        split at ht2
        · rename_i h
          exact hdec _ _ _ h
        · cases ht2
      have hdS := hdec _ _ _ hsp
      intro H locs ls hG hS hl
      refine W.newcK hx rfl hown (hts _ g2 args) (hts _ g3 args) (hts _ g4 args) rfl (by rw [hb]; exact hdg0) (by omega) (by omega) hKn.2.1 rfl fun H1 kC hkC e1 z1 o1 => ?_
      refine lv_dup hx rfl hd3 rfl ?_
      refine hldc H1 locs ls _ _ _ _ ?_
      intro T hT X
      have hsz : H.size = b + w.1 := hG.1
      have hlowT : ∀ q : Nat, q < b → T.heap[q]? = s.heap[q]? := fun q hq => by
        rw [hT, o1 q (by omega)]
        exact ip_low hb0 hS q hq
      obtain ⟨vm', ce, L2, X2, hL2, hce1, hce2, hst⟩ := vt_init X hx (Launch.traces_off hfl X.admits) hown hfit (by rw [hcls]; exact vt_atoms hts hZ1 hZ2 hE7 hE8 hth args) hZ1 hlowT hKn.2.1 hkC (a := H.size) (by rw [hT]; exact e1) (by omega) (msg := .ref (sc j)) rfl (pc := pc + 4 + lS) (ls := ls) (by rw [hml]; exact hl.1) (rest := st.map (ip_v b sc)) hdS hfr (by rw [ip_sum]; omega)
      obtain ⟨k1, k2, k3, k4, k5⟩ := X2.athrowLeaves hx (g := F0 m (pc + 4 + lS + 3) ls (.ref H.size :: st.map (ip_v b sc))) rfl rfl rfl (ip_exc hexc hH _) (a := H.size) (rest := st.map (ip_v b sc)) rfl (by rw [show (F0 m (pc + 4 + lS + 3) ls (.ref H.size :: st.map (ip_v b sc))).pc = pc + 7 + lS by show pc + 4 + lS + 3 = _; omega]; exact hdA) hlocks
      have hheap : ((T.setVm vm').setCell H.size ce).heap = H1.setIfInBounds H.size ce := by rw [← hT]; rfl
      have hlt : H.size < H1.size := by omega
      have hq1 : ∀ q : Nat, q < H.size → (H1.setIfInBounds H.size ce)[q]? = H[q]? := fun q hq => by
        rw [Array.getElem?_setIfInBounds, if_neg (by omega)]
        exact o1 q hq
      refine ⟨_, hst _ k1, k2, by rw [show ip_o b sc (.threw w.1) = .threw H.size by rw [hsz]; rfl]; exact k3, k4, ⟨locs ++ L2, ?_, fun q hq => ?_⟩, ?_, fun q hq => ?_⟩
      · rw [show (ip_thw w ci).1 - n0 = w.1 - n0 + 1 by show w.1 + 1 - n0 = _; omega, show (ip_thw w ci).2.1 - s0 = w.2.1 - s0 + 6 by show w.2.1 + 6 - s0 = _; omega]
        exact k5
      · rcases List.mem_append.mp hq with h | h
        · exact hS.2.2 q h
        · rw [hL2 q h]
          omega
      · show ip_G D vt_cl aC b sc (w.1 + 1, w.2.1 + 6, va_up w.2.2 w.1 (some (.inr (ci + 3, [])))) ((T.setVm vm').setCell H.size ce).heap
        rw [hheap]
        refine hG.grow (by rw [Array.size_setIfInBounds]; exact z1) hq1 ?_
        refine ⟨_, vt_ctc (ci := ci + 3) (by omega), ce, ?_, ?_, hce2, fun k hk => ?_⟩
        · rw [← hsz, Array.getElem?_setIfInBounds, if_pos rfl, if_pos hlt]
        · rw [hce1]
          exact hDD.symm
        · rw [hN0] at hk
          omega
      · show ((T.setVm vm').setCell H.size ce).heap[q]? = s.heap[q]?
        rw [hheap, hq1 q (by omega)]
        exact ip_low hb0 hS q hq
    · cases ht
  split at hk2
  · rename_i kS hls
    split at hk2
    · rename_i j hj
      simp only [Bool.and_eq_true, decide_eq_true_eq] at hk2
      obtain ⟨⟨hj11, hs1, hs2⟩, ht⟩ := hk2
      have hR := hE4 j hj11
      rw [hs1, hs2, ← hcls] at hR
      exact fin 2 j ht (fun H locs ls rest cells slots Q kk => va_ldcS hx rfl hown hR (hdec _ _ _ hls) kk)
    · cases hk2
  · cases hk2
end VTY
