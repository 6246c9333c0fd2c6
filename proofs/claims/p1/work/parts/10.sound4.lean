/-! part 10: THE RUN IS SOUND: where the interpreter comes to an outcome, so does the machine -/
section IPW
variable {p : Program} {l : Launch} {e : Env} {R : Room} {s : State} {m : MethodId} {args : Array Value} {below : List Frame} {meth : Method} {c : Code} {Q : State → Prop}
variable {D : va_G} {cl : List vw_C} {aC : Nat → ClassId} {b : Nat} {sc : Nat → Nat} {nL n0 s0 : Nat} {cc : ByteArray} {w w2 : ip_W} {pc : Nat} {lo : List (Nat × Value)} {st : List Value} {Ts : List Cond} {Ev : State → Prop}
variable {tb : ip_TB} {mN : Nat → MethodName} {mB : Nat → ByteArray} {mR : Nat → Option FieldType}
theorem ip_args (b : Nat) (sc : Nat → Nat) : ∀ (av : List Value) (i : Nat), lv_args i (av.map (ip_v b sc)) = ip_l b sc (lv_args i av)
  | [], i => rfl
  | v :: vs, i => by
    show (i, ip_v b sc v) :: lv_args (if (ip_v b sc v).category = 2 then i + 2 else i + 1) (vs.map (ip_v b sc)) = (i, ip_v b sc v) :: ip_l b sc (lv_args (if v.category = 2 then i + 2 else i + 1) vs)
    rw [ip_v_cat, ip_args b sc vs]
theorem ip_sl (b : Nat) (sc : Nat → Nat) : ∀ av : List Value, (lg_sl (av.map (ip_v b sc))).length = (lg_sl av).length
  | [] => rfl
  | v :: vs => by
    have h := ip_sl b sc vs
    simp only [lg_sl, List.map_cons, List.flatMap_cons, List.length_append] at h ⊢
    rw [h, ip_v_cat]
    split <;> rfl
/-- the room that a run of depth d takes, from a world to another -/
def ip_rm (d : Nat) (w w2 : ip_W) : Room := { frames := d, cells := w2.1 - w.1, slots := w2.2.1 - w.2.1, locals := 48 * d }
theorem ip_zw {z : Nat} (hts : ip_TK Ts s) (h : ((tH tb z).isEmpty = true ∧ Cond.code (mN z) (mB z) (tL tb z) (mR z) ∈ Ts) ∨ Cond.codeWith (mN z) (mB z) (tL tb z) (mR z) (tH tb z) ∈ Ts) (args : Array Value) : (Cond.codeWith (mN z) (mB z) (tL tb z) (mR z) (tH tb z)).before args s = true := by
  rcases h with ⟨h1, h2⟩ | h
  · have h3 : tH tb z = [] := List.isEmpty_iff.mp h1
    rw [h3]
    have h4 := hts _ h2 args
    simp only [Cond.before, Cond.holds] at h4 ⊢
    rw [← Cond.code_iff_codeWith_nil]
    exact h4
  · exact hts _ h args
/-- a method's meaning out of its body's run -/
theorem ip_enter {z n d : Nat} {av : List Value} {o : Outcome} (hz : ip_Zok tb Ts mN mB mR z n) (hav : (lg_sl av).length ≤ tL tb z) (hw : w.1 ≤ w2.1 ∧ w.2.1 ≤ w2.2.1)
    (h : ∀ (p : Program) (e : Env) (R : Room) (s : State) (m : MethodId) (args : Array Value) (below : List Frame) (meth : Method) (c : Code) (n0 s0 : Nat), ip_Cx tb Ts Ev D cl aC b mN mB z p s m meth c → d ≤ R.frames → 48 * d ≤ R.locals → n0 ≤ w.1 → s0 ≤ w.2.1 → w2.1 ≤ n0 + R.cells → w2.2.1 ≤ s0 + R.slots → ip_V p l e R s m args below meth c D cl aC b sc (tL tb z) n0 s0 (ip_Q D cl aC b sc w2 o below s n0 s0) w 0 (lv_args 0 av) []) :
    ip_M l Ev Ts D cl aC b sc (mN z) (ip_rm d w w2) w av o w2 := by
  intro p e s m args below meth c T hx X hn hts hE hK hargs hT hb0 hG
  subst hargs
  obtain ⟨m', meth', c', hn', h1, h2, h3, h4, h7, h5, h6, h8⟩ := Cond.codeWith_spec (ip_zw hts hz.1 (av.map (ip_v b sc)).toArray)
  cases Option.some.inj (hn.symm.trans hn')
  cases X.method.symm.trans h1
  cases X.code.symm.trans h2
  have hrc : ip_rc (tR tb z) meth.sig.returnType := by rw [h5]; exact hz.2.2.2.2.2
  have hCx : ip_Cx tb Ts Ev D cl aC b mN mB z p s m meth c := ⟨hx, h3, h4, hrc, h6, h7, (name_of_methodNamed hn h1).1, findClass_of_methodNamed hn, hts, hE, hK, hb0⟩
  have hV := h p e (ip_rm d w w2) s m (av.map (ip_v b sc)).toArray below meth c w.1 w.2.1 hCx (Nat.le_refl _) (Nat.le_refl _) (Nat.le_refl _) (Nat.le_refl _) (by show w2.1 ≤ w.1 + (w2.1 - w.1); omega) (by show w2.2.1 ≤ w.2.1 + (w2.2.1 - w.2.1); omega)
  have hl := lv_entry (av.map (ip_v b sc)) (n := c.maxLocals) (by rw [ip_sl, h4]; exact hav)
  rw [ip_args, h4] at hl
  rw [lg_entry_eq, h4]
  have X' : Stand p l e (ip_rm d w w2) s m (av.map (ip_v b sc)).toArray below meth c T [] (w.1 - w.1) (w.2.1 - w.2.1) := by
    rw [Nat.sub_self, Nat.sub_self]
    exact X
  exact hV s.heap [] _ hG va_S.rf hl T hT X'
theorem ip_exc {hh : List (Nat × Nat × Nat × Nat)} (h : c.exceptionTable.toList.map (fun h => (h.startPc, h.endPc, h.handlerPc, h.catchType)) = hh) (h0 : hh.isEmpty = true) (pc : Nat) : ∀ x ∈ c.exceptionTable.toList, covers x pc = false := by
  intro x hx
  have h1 : hh = [] := List.isEmpty_iff.mp h0
  rw [h1] at h
  have h2 : c.exceptionTable.toList = [] := List.map_eq_nil_iff.mp h
  rw [h2] at hx
  cases hx
theorem ip_endok {y n : Nat} {i : Instr} {o : Outcome} (hC : ip_Cx tb Ts Ev D cl aC b mN mB y p s m meth c) (hdg : decode (mB y) pc = .ok (i, n)) (hn : n = ip_ln i ∨ ip_sw i = true) (h : ip_end (tR tb y) i st w = some (o, w2)) : ip_V p l e R s m args below meth c D cl aC b sc (tL tb y) n0 s0 (ip_Q D cl aC b sc w2 o below s n0 s0) w pc lo st := by
  obtain ⟨hx, hb, hml, hrc, hlocks, hexc, hname, hown, hts, hE, hK, hb0⟩ := hC
  have hd : ip_sw i = false → decode (mB y) pc = .ok (i, ip_ln i) := fun hs => by
    rcases hn with rfl | hn
    · exact hdg
    · rw [hs] at hn
      cases hn
  have hw := ip_end_mono h
  subst hw
  cases i
  case ireturn =>
    simp only [ip_end] at h
    split at h
    · split at h
      · rename_i v hv
        cases h
        rcases hv with hv | ⟨hv, hv2⟩
        · rcases hrc with ⟨h1, h2⟩ | ⟨h1, h2⟩ | ⟨h1, h2⟩ | ⟨h1, h2⟩ | ⟨h1, h2⟩
          · omega
          · exact ip_iret hx hb h2 rfl hlocks hb0 (hd rfl)
          · omega
          · omega
          · omega
        · rcases hrc with ⟨h1, h2⟩ | ⟨h1, h2⟩ | ⟨h1, h2⟩ | ⟨h1, h2⟩ | ⟨h1, h2⟩
          · omega
          · omega
          · exact ip_iret hx hb h2 (by rcases hv2 with rfl | rfl <;> rfl) hlocks hb0 (hd rfl)
          · omega
          · omega
      · cases h
    · cases h
  case lreturn =>
    simp only [ip_end] at h
    split at h
    · split at h
      · rename_i v hv
        cases h
        rcases hrc with ⟨h1, h2⟩ | ⟨h1, h2⟩ | ⟨h1, h2⟩ | ⟨h1, h2⟩ | ⟨h1, h2⟩
        · omega
        · omega
        · omega
        · exact ip_lret hx hb h2 hlocks hb0 (hd rfl)
        · omega
      · cases h
    · cases h
  case areturn =>
    simp only [ip_end] at h
    split at h
    · split at h
      · rename_i v hv
        cases h
        rcases hrc with ⟨h1, h2⟩ | ⟨h1, h2⟩ | ⟨h1, h2⟩ | ⟨h1, h2⟩ | ⟨h1, rt, h2, h3⟩
        · omega
        · omega
        · omega
        · omega
        · exact ip_aret hx hb h2 h3 (Or.inr ⟨_, rfl⟩) hlocks hb0 (hd rfl)
      · cases h
    · split at h
      · rename_i v hv
        cases h
        rcases hrc with ⟨h1, h2⟩ | ⟨h1, h2⟩ | ⟨h1, h2⟩ | ⟨h1, h2⟩ | ⟨h1, rt, h2, h3⟩
        · omega
        · omega
        · omega
        · omega
        · exact ip_aret hx hb h2 h3 (Or.inl rfl) hlocks hb0 (hd rfl)
      · cases h
    · cases h
  case return_ =>
    simp only [ip_end] at h
    split at h
    · split at h
      · rename_i v hv
        cases h
        rcases hrc with ⟨h1, h2⟩ | ⟨h1, h2⟩ | ⟨h1, h2⟩ | ⟨h1, h2⟩ | ⟨h1, h2⟩
        · exact ip_vret hx hb h2 hlocks hb0 (hd rfl)
        · omega
        · omega
        · omega
        · omega
      · cases h
    · cases h
  all_goals (simp [ip_end] at h)
end IPW
