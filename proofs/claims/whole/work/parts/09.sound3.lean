/-! part 09: the run is sound -/
def ip_rc (rc : Nat) (ret : Option FieldType) : Prop := (rc = 0 ∧ ret = none) ∨ (rc = 1 ∧ ret = some .int) ∨ (rc = 2 ∧ ret = some .boolean) ∨ (rc = 3 ∧ ret = some .long) ∨ (rc = 4 ∧ ∃ rt, ret = some rt ∧ ((∃ n, rt = .object n) ∨ ∃ t, rt = .array t))
/-- what the tables say of a method that is run -/
def ip_Zok (tb : ip_TB) (Ts : List Cond) (mN : Nat → MethodName) (mB : Nat → ByteArray) (mR : Nat → Option FieldType) (z n : Nat) : Prop :=
  (((tH tb z).isEmpty = true ∧ Cond.code (mN z) (mB z) (tL tb z) (mR z) ∈ Ts) ∨ Cond.codeWith (mN z) (mB z) (tL tb z) (mR z) (tH tb z) ∈ Ts) ∧ tL tb z ≤ 29 ∧ plainFor (mN z) = true ∧ ((mN z).cls ≠ "java/lang/invoke/MethodHandle" ∧ (mN z).cls ≠ "java/lang/invoke/VarHandle") ∧ (parseMethodDescriptor (mN z).desc).map (fun d => d.parameters.length) = some n ∧ ip_rc (tR tb z) (mR z)
/-- of a call -/
def ip_Mok (tb : ip_TB) (Ts : List Cond) (cl : List vw_C) (mN : Nat → MethodName) (mB : Nat → ByteArray) (mR : Nat → Option FieldType) (y k z n kc ci : Nat) : Prop :=
  (kc = 0 → ip_Zok tb Ts mN mB mR z n ∧ Cond.methodLink (mN y).cls k (mN z) ∈ Ts ∧ Cond.static (mN z) ∈ Ts ∧ Cond.initialized (mN z).cls ∈ Ts) ∧
  (kc = 1 → ip_Zok tb Ts mN mB mR z n ∧ Cond.methodLink (mN y).cls k (mN z) ∈ Ts ∧ Cond.instanceMethod (mN z) ∈ Ts ∧ ∃ r : vw_C, cl[ci]? = some r ∧ Cond.selects r.1 (mN z) (mN z) ∈ Ts) ∧
  (kc = 2 → ip_Zok tb Ts mN mB mR z n ∧ (Cond.methodLink (mN y).cls k (mN z) ∈ Ts ∨ ∃ host, Cond.methodLinkNest (mN y).cls k (mN z) host ∈ Ts) ∧ Cond.instanceMethod (mN z) ∈ Ts ∧ (mN z).name = "<init>" ∧ mR z = none ∧ Cond.code (mN z) (mB z) (tL tb z) (mR z) ∈ Ts) ∧
  (kc = 3 → Cond.methodLink (mN y).cls k Lib.objectInit ∈ Ts ∧ Cond.instanceMethod Lib.objectInit ∈ Ts ∧ Cond.code Lib.objectInit ⟨#[0xb1]⟩ 1 none ∈ Ts)
/-- of all -/
def ip_OK (tb : ip_TB) (Ts : List Cond) (cl : List vw_C) (b : Nat) (sc : Nat → Nat) (mN : Nat → MethodName) (mB : Nat → ByteArray) (mR : Nat → Option FieldType) : Prop :=
  (∀ w ∈ Ts, ip_gw w = true) ∧
  (∀ (y pc : Nat) (i : Instr) (n : Nat), tI tb y pc = some (i, n) → decode (mB y) pc = .ok (i, n) ∧ (n = ip_ln i ∨ ip_sw i = true)) ∧
  (∀ (y k ci j : Nat), tF tb y k = some (ci, j) → ∃ (C : String) (T : u_T) (N : Nat), cl[ci]? = some (C, T, N) ∧ j < N ∧ Cond.fieldLink (mN y).cls k (T j).1 (T j).2.1 (T j).2.2.1 ∈ Ts) ∧
  (∀ (ci : Nat) (C : String) (T : u_T) (N : Nat), cl[ci]? = some (C, T, N) → ip_Fok Ts C T N) ∧
  (∀ (ci j tc : Nat) (fin : Bool) (C : String) (T : u_T) (N : Nat), tFt tb ci j = some (tc, fin) → cl[ci]? = some (C, T, N) → j < N → (T j).2.2.2 = fin ∧ ∃ ty, parseFieldDescriptor (T j).2.2.1 = some ty ∧ ip_ty tc ty) ∧
  (∀ (y ci : Nat) (C : String) (T : u_T) (N : Nat), tJ tb y = some ci → cl[ci]? = some (C, T, N) → (mN y).name = "<init>" ∧ ∀ j, j < N → (T j).1 = (mN y).cls) ∧
  (∀ (y k : Nat) (v : Value), tC tb y k = some v → ip_Cok Ts (mN y).cls k v) ∧
  (∀ (y pc k n : Nat), (tI tb y pc = some (.ldc k, n) ∨ tI tb y pc = some (.ldc_w k, n)) → ∀ x : Int64, tC tb y k ≠ some (.long x)) ∧
  (∀ (y pc k n : Nat), tI tb y pc = some (.ldc2_w k, n) → ∃ x, tC tb y k = some (.long x) ∧ Cond.constantLong (mN y).cls k x ∈ Ts) ∧
  (∀ (y k ci : Nat) (fs : List Value), tN tb y k = some (ci, fs) → ∃ (C : String) (T : u_T) (N : Nat) (ty : Nat → FieldType), cl[ci]? = some (C, T, N) ∧ Cond.classLink (mN y).cls k C ∈ Ts ∧ Cond.instantiable C N ∈ Ts ∧ Cond.initialized C ∈ Ts ∧ N = fs.length ∧ (∀ k, k < N → parseFieldDescriptor (T k).2.2.1 = some (ty k)) ∧ ∀ j, j < N → defaultValue (ty j) = vp_V (fs.map (ip_v b sc)) j) ∧
  (Cond.arrayClass .int ∈ Ts ∧ Cond.arrayClass .byte ∈ Ts ∧ Cond.arrayClass .long ∈ Ts ∧ Cond.arrayClass .boolean ∈ Ts) ∧
  (∀ (y pc k n : Nat), tI tb y pc = some (.anewarray k, n) → Cond.classLink (mN y).cls k "VitalTwin$Symbol" ∈ Ts) ∧
  Cond.arrayOver (.object "VitalTwin$Symbol") ∈ Ts ∧
  (∃ r11 : vw_C, cl[11]? = some r11 ∧ r11.1 = "VitalTwin$Symbol") ∧
  (∀ (y k z n kc ci : Nat), tM tb y k = some (z, n, kc, ci) → ip_Mok tb Ts cl mN mB mR y k z n kc ci)
/-- where a method y stands -/
def ip_Cx (tb : ip_TB) (Ts : List Cond) (Ev : State → Prop) (D : va_G) (cl : List vw_C) (aC : Nat → ClassId) (b : Nat) (mN : Nat → MethodName) (mB : Nat → ByteArray) (y : Nat) (p : Program) (s : State) (m : MethodId) (meth : Method) (c : Code) : Prop :=
  p.tables.exec = Jvm.exec ∧ c.code = mB y ∧ c.maxLocals = tL tb y ∧ ip_rc (tR tb y) meth.sig.returnType ∧ meth.locks = false ∧ c.exceptionTable.toList.map (fun h => (h.startPc, h.endPc, h.handlerPc, h.catchType)) = tH tb y ∧ meth.name = (mN y).name ∧ s.vm.findClass (mN y).cls = some m.cls ∧ ip_TK Ts s ∧ Ev s ∧ va_K D cl (ip_T aC) s ∧ b ≤ s.heap.size
/-- the String constants' rule, wherever a method stands -/
def ip_Sall (l : Launch) (tb : ip_TB) (Ts : List Cond) (Ev : State → Prop) (D : va_G) (cl : List vw_C) (aC : Nat → ClassId) (b : Nat) (sc : Nat → Nat) (mN : Nat → MethodName) (mB : Nat → ByteArray) : Prop :=
  ∀ (y : Nat) (p : Program) (e : Env) (R : Room) (s : State) (m : MethodId) (args : Array Value) (below : List Frame) (meth : Method) (c : Code) (n0 s0 : Nat) (Q : State → Prop), ip_Cx tb Ts Ev D cl aC b mN mB y p s m meth c → ip_Sok p l e R s m args below meth c D cl aC b sc (tL tb y) n0 s0 Q (tC tb y)
/-- the library's own members' rule, wherever a method stands -/
def ip_Pall (l : Launch) (tb : ip_TB) (Ts : List Cond) (Ev : State → Prop) (D : va_G) (cl : List vw_C) (aC : Nat → ClassId) (b : Nat) (sc : Nat → Nat) (mN : Nat → MethodName) (mB : Nat → ByteArray) : Prop :=
  ∀ (y : Nat) (p : Program) (e : Env) (R : Room) (s : State) (m : MethodId) (args : Array Value) (below : List Frame) (meth : Method) (c : Code) (n0 s0 : Nat) (Q : State → Prop) (k z n kc ci pc : Nat) (i : Instr) (av rest st : List Value) (lo : List (Nat × Value)) (v : Option Value) (w w2 : ip_W), ip_Cx tb Ts Ev D cl aC b mN mB y p s m meth c →
    tM tb y k = some (z, n, kc + 4, ci) → ip_ci i = some (kc, k) → decode (mB y) pc = .ok (i, 3) → ip_argP kc n st = some (av, rest) → (rest.map fun v => v.category).sum ≤ 8 → 4 ≤ R.frames → 192 ≤ R.locals → n0 ≤ w.1 → s0 ≤ w.2.1 → w2.1 ≤ n0 + R.cells → w2.2.1 ≤ s0 + R.slots → tP tb z av w = some (v, w2) →
    ip_V p l e R s m args below meth c D cl aC b sc (tL tb y) n0 s0 Q w2 (pc + 3) lo (v.toList ++ rest) → ip_V p l e R s m args below meth c D cl aC b sc (tL tb y) n0 s0 Q w pc lo st
/-- the rule for an exception that is made and thrown at once -/
def ip_Tall (l : Launch) (tb : ip_TB) (Ts : List Cond) (Ev : State → Prop) (D : va_G) (cl : List vw_C) (aC : Nat → ClassId) (b : Nat) (sc : Nat → Nat) (mN : Nat → MethodName) (mB : Nat → ByteArray) : Prop :=
  ∀ (y : Nat) (p : Program) (e : Env) (R : Room) (s : State) (m : MethodId) (args : Array Value) (below : List Frame) (meth : Method) (c : Code) (n0 s0 pc k n ci : Nat) (fs : List Value) (lo : List (Nat × Value)) (st : List Value) (w : ip_W), ip_Cx tb Ts Ev D cl aC b mN mB y p s m meth c →
    tI tb y pc = some (.new k, n) → tN tb y k = some (ci, fs) → 13 ≤ ci → (tH tb y).isEmpty = true → (st.map fun v => v.category).sum ≤ 8 → 6 ≤ R.frames → 288 ≤ R.locals → n0 ≤ w.1 → s0 ≤ w.2.1 → w.1 + 1 ≤ n0 + R.cells → w.2.1 + 6 ≤ s0 + R.slots →
    ip_V p l e R s m args below meth c D cl aC b sc (tL tb y) n0 s0 (ip_Q D cl aC b sc (ip_thw w ci) (.threw w.1) below s n0 s0) w pc lo st
/-- the rule for a thrown one that is caught -/
def ip_Hall (l : Launch) (tb : ip_TB) (Ts : List Cond) (Ev : State → Prop) (D : va_G) (cl : List vw_C) (aC : Nat → ClassId) (b : Nat) (sc : Nat → Nat) (mN : Nat → MethodName) (mB : Nat → ByteArray) : Prop :=
  ∀ (y : Nat) (p : Program) (e : Env) (R : Room) (s : State) (m : MethodId) (args : Array Value) (below : List Frame) (meth : Method) (c : Code) (n0 s0 : Nat) (Q : State → Prop) (pc a h : Nat) (lo : List (Nat × Value)) (w : ip_W), ip_Cx tb Ts Ev D cl aC b mN mB y p s m meth c →
    ip_hd (tX tb y pc) w a = some h → ip_V p l e R s m args below meth c D cl aC b sc (tL tb y) n0 s0 Q w h lo [.ref a] → ip_X p l e R s m args below meth c D cl aC b sc (tL tb y) n0 s0 Q w pc lo a
/-- the rule for arrays that are read alone -/
def ip_Rall (l : Launch) (tb : ip_TB) (Ts : List Cond) (Ev : State → Prop) (D : va_G) (cl : List vw_C) (aC : Nat → ClassId) (b : Nat) (sc : Nat → Nat) (mN : Nat → MethodName) (mB : Nat → ByteArray) : Prop :=
  ∀ (y : Nat) (p : Program) (e : Env) (R : Room) (s : State) (m : MethodId) (args : Array Value) (below : List Frame) (meth : Method) (c : Code) (n0 s0 : Nat) (Q : State → Prop) (pc : Nat) (i : Instr) (lo : List (Nat × Value)) (st st2 : List Value) (w : ip_W), ip_Cx tb Ts Ev D cl aC b mN mB y p s m meth c →
    ip_rd (tO tb) i st = some st2 → decode (mB y) pc = .ok (i, 1) → ip_V p l e R s m args below meth c D cl aC b sc (tL tb y) n0 s0 Q w (pc + 1) lo st2 → ip_V p l e R s m args below meth c D cl aC b sc (tL tb y) n0 s0 Q w pc lo st
/-- all rules that are paid elsewhere -/
def ip_HY (l : Launch) (tb : ip_TB) (Ts : List Cond) (Ev : State → Prop) (D : va_G) (cl : List vw_C) (aC : Nat → ClassId) (b : Nat) (sc : Nat → Nat) (mN : Nat → MethodName) (mB : Nat → ByteArray) : Prop :=
  ip_Sall l tb Ts Ev D cl aC b sc mN mB ∧ ip_Pall l tb Ts Ev D cl aC b sc mN mB ∧ ip_Tall l tb Ts Ev D cl aC b sc mN mB ∧ ip_Hall l tb Ts Ev D cl aC b sc mN mB ∧ ip_Rall l tb Ts Ev D cl aC b sc mN mB
section IPZ
variable {p : Program} {l : Launch} {e : Env} {R : Room} {s : State} {m : MethodId} {args : Array Value} {below : List Frame} {meth : Method} {c : Code} {Q : State → Prop}
variable {D : va_G} {cl : List vw_C} {aC : Nat → ClassId} {b : Nat} {sc : Nat → Nat} {nL n0 s0 : Nat} {cc : ByteArray} {w w2 : ip_W} {pc : Nat} {lo : List (Nat × Value)} {st : List Value} {Ts : List Cond} {Ev : State → Prop}
variable {tb : ip_TB} {mN : Nat → MethodName} {mB : Nat → ByteArray} {mR : Nat → Option FieldType}
theorem ip_objInit (hx : p.tables.exec = Jvm.exec) (hb : c.code = cc) (hml : c.maxLocals = nL) {own : String} {idx a0 : Nat} (hown : s.vm.findClass own = some m.cls) (hlink : (Cond.methodLink own idx Lib.objectInit).before args s = true) (hinst : (Cond.instanceMethod Lib.objectInit).before args s = true) (hcode : (Cond.code Lib.objectInit ⟨#[0xb1]⟩ 1 none).before args s = true) (hsum : (st.map fun v => v.category).sum ≤ 8) (hfr : 1 ≤ R.frames) (hlo : 20 ≤ R.locals) (hdg : decode cc pc = .ok (.invokespecial idx, 3)) (k : ip_V p l e R s m args below meth c D cl aC b sc nL n0 s0 Q w (pc + 3) lo st) : ip_V p l e R s m args below meth c D cl aC b sc nL n0 s0 Q w pc lo (.ref a0 :: st) := by
  intro H locs ls hG hS hl
  have hroom : 2 * (F0 m pc ls (st.map (ip_v b sc))).monitorRoom + ((st.map (ip_v b sc)).map fun v => v.category).sum ≤ 8 := lv_room (by rw [ip_sum]; exact hsum)
  exact W.objInit hx hb hown hlink hinst hcode (g := F0 m pc ls ((Value.ref a0 :: st).map (ip_v b sc))) rfl (by rw [hml]; exact hl.1) (a := b + a0) (rest := st.map (ip_v b sc)) rfl hdg hfr (by
    have h9 : 2 * (F0 m pc ls ((Value.ref a0 :: st).map (ip_v b sc))).monitorRoom = 2 * (F0 m pc ls (st.map (ip_v b sc))).monitorRoom := rfl
    rw [h9]
    omega) (k H locs ls hG hS hl)
set_option maxHeartbeats 1000000 in
theorem ip_simple (hOK : ip_OK tb Ts cl b sc mN mB mR) {y : Nat} (hC : ip_Cx tb Ts Ev D cl aC b mN mB y p s m meth c) (hSk : ip_Sok p l e R s m args below meth c D cl aC b sc (tL tb y) n0 s0 Q (tC tb y)) {i : Instr} {n : Nat} {r : ip_R} (hI : tI tb y pc = some (i, n)) (hst : ip_st (tF tb y) (tFt tb) (tC tb y) (tN tb y) (tL tb y) (tJ tb y) i pc lo st w = some r) (hn0 : n0 ≤ w.1) (hs0 : s0 ≤ w.2.1) (hcells : r.2.2.2.1 ≤ n0 + R.cells) (hslots : r.2.2.2.2.1 ≤ s0 + R.slots)
    (k : ip_Vr p l e R s m args below meth c D cl aC b sc (tL tb y) n0 s0 Q r) : ip_V p l e R s m args below meth c D cl aC b sc (tL tb y) n0 s0 Q w pc lo st := by
  obtain ⟨hgood, okI, okF, okcl, okFt, okJ, okC, okL, okL2, okN, okA, okA2, okA3, ⟨r11, ok11⟩, okM⟩ := hOK
  obtain ⟨hx, hb, hml, hrc, hlocks, hexc, hname, hown, hts, hE, hK, hb0⟩ := hC
  obtain ⟨hdg, hn⟩ := okI y pc i n hI
  have hd : ip_sw i = false → decode (mB y) pc = .ok (i, ip_ln i) := fun hs => by
    rcases hn with rfl | hn
    · exact hdg
    · rw [hs] at hn
      cases hn
  have hFd := okF y
  have hNw := okN y
  have hini : ∀ (ci : Nat) (C : String) (T : u_T) (N : Nat), tJ tb y = some ci → cl[ci]? = some (C, T, N) → meth.name = "<init>" ∧ ∀ j, j < N → (T j).1 = (mN y).cls := fun ci C T N h1 h2 => by
    rw [hname]
    exact okJ y ci C T N h1 h2
  cases i
  case iconst => exact ip_s_iconst hst hx hb (hd rfl) k
  case bipush => exact ip_s_bipush hst hx hb (hd rfl) k
  case sipush => exact ip_s_sipush hst hx hb (hd rfl) k
  case lconst => exact ip_s_lconst hst hx hb (hd rfl) k
  case iload_n => exact ip_s_iload_n hst hx hb (hd rfl) k
  case iload => exact ip_s_iload hst hx hb (hd rfl) k
  case lload_n => exact ip_s_lload_n hst hx hb (hd rfl) k
  case lload => exact ip_s_lload hst hx hb (hd rfl) k
  case aload_n => exact ip_s_aload_n hst hx hb (hd rfl) k
  case aload => exact ip_s_aload hst hx hb (hd rfl) k
  case istore_n => exact ip_s_istore_n hst hx hb (hd rfl) k
  case istore => exact ip_s_istore hst hx hb (hd rfl) k
  case lstore_n => exact ip_s_lstore_n hst hx hb (hd rfl) k
  case lstore => exact ip_s_lstore hst hx hb (hd rfl) k
  case astore_n => exact ip_s_astore_n hst hx hb (hd rfl) k
  case astore => exact ip_s_astore hst hx hb (hd rfl) k
  case iinc => exact ip_s_iinc hst hx hb (hd rfl) k
  case iadd => exact ip_s_iadd hst hx hb (hd rfl) k
  case isub => exact ip_s_isub hst hx hb (hd rfl) k
  case imul => exact ip_s_imul hst hx hb (hd rfl) k
  case iand => exact ip_s_iand hst hx hb (hd rfl) k
  case ixor => exact ip_s_ixor hst hx hb (hd rfl) k
  case ladd => exact ip_s_ladd hst hx hb (hd rfl) k
  case lsub => exact ip_s_lsub hst hx hb (hd rfl) k
  case lmul => exact ip_s_lmul hst hx hb (hd rfl) k
  case land => exact ip_s_land hst hx hb (hd rfl) k
  case lor => exact ip_s_lor hst hx hb (hd rfl) k
  case lxor => exact ip_s_lxor hst hx hb (hd rfl) k
  case ineg => exact ip_s_ineg hst hx hb (hd rfl) k
  case lneg => exact ip_s_lneg hst hx hb (hd rfl) k
  case i2l => exact ip_s_i2l hst hx hb (hd rfl) k
  case l2i => exact ip_s_l2i hst hx hb (hd rfl) k
  case i2b => exact ip_s_i2b hst hx hb (hd rfl) k
  case i2c => exact ip_s_i2c hst hx hb (hd rfl) k
  case lshl => exact ip_s_lshl hst hx hb (hd rfl) k
  case lshr => exact ip_s_lshr hst hx hb (hd rfl) k
  case lushr => exact ip_s_lushr hst hx hb (hd rfl) k
  case lcmp => exact ip_s_lcmp hst hx hb (hd rfl) k
  case idiv => exact ip_s_idiv hst hx hb (hd rfl) k
  case irem => exact ip_s_irem hst hx hb (hd rfl) k
  case ldiv => exact ip_s_ldiv hst hx hb (hd rfl) k
  case lrem => exact ip_s_lrem hst hx hb (hd rfl) k
  case dup => exact ip_s_dup hst hx hb (hd rfl) k
  case pop => exact ip_s_pop hst hx hb (hd rfl) k
  case dup2 => exact ip_s_dup2 hst hx hb (hd rfl) k
  case ifCond => exact ip_s_ifCond hst hx hb (hd rfl) k
  case if_icmp => exact ip_s_if_icmp hst hx hb (hd rfl) k
  case goto => exact ip_s_goto hst hx hb (hd rfl) k
  case ifnull => exact ip_s_ifnull hst hx hb (hd rfl) k
  case ifnonnull => exact ip_s_ifnonnull hst hx hb (hd rfl) k
  case aconst_null => exact ip_s_null hst hx hb (hd rfl) k
  case lookupswitch => exact ip_s_lookup hst hx hb hdg k
  case tableswitch => exact ip_s_table hst hx hb hdg k
  case arraylength => exact ip_s_arraylength hst hx hb (hd rfl) hK k
  case iaload => exact ip_s_iaload hst hx hb (hd rfl) hK k
  case baload => exact ip_s_baload hst hx hb (hd rfl) hK k
  case laload => exact ip_s_laload hst hx hb (hd rfl) hK k
  case aaload => exact ip_s_aaload hst hx hb (hd rfl) hK k
  case iastore => exact ip_s_iastore hst hx hb (hd rfl) hK k
  case bastore => exact ip_s_bastore hst hx hb (hd rfl) hK k
  case lastore => exact ip_s_lastore hst hx hb (hd rfl) hK k
  case aastore => exact ip_s_aastore hst hx hb (hd rfl) hK ok11 k
  case getfield => exact ip_s_getfield hst hx hb (hd rfl) hK hts hown hFd okcl k
  case putfield => exact ip_s_putfield hst hx hb (hd rfl) hK hts hown hFd okcl okFt hini k
  case new => exact ip_s_new hst hx hb (hd rfl) hK hts hown hFd okcl hn0 hs0 hcells hslots hNw k
  case newarray => exact ip_s_newarray hst hx hb (hd rfl) hK hts okA hn0 hs0 hcells hslots k
  case anewarray => exact ip_s_anewarray hst hx hb (hd rfl) hK hts hown (okA2 y pc _ n hI) okA3 hn0 hs0 hcells hslots k
  case ldc => exact ip_s_ldc hst hx hb (hd rfl) hts hown (okC y) (okL y pc _ n (Or.inl hI)) hSk k
  case ldc_w => exact ip_s_ldc_w hst hx hb (hd rfl) hts hown (okC y) (okL y pc _ n (Or.inr hI)) hSk k
  case ldc2_w => exact ip_s_ldc2 hst hx hb (hd rfl) hts hown (okL2 y pc _ n hI) k
  all_goals (simp [ip_st] at hst)
end IPZ
