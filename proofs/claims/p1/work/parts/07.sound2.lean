/-! part 07: arrays made, constants; the whole simple step is sound -/
section IPT
variable {p : Program} {l : Launch} {e : Env} {R : Room} {s : State} {m : MethodId} {args : Array Value} {below : List Frame} {meth : Method} {c : Code} {Q : State → Prop}
variable {D : va_G} {cl : List vw_C} {aC : Nat → ClassId} {b : Nat} {sc : Nat → Nat} {nL n0 s0 : Nat} {cc : ByteArray} {w : ip_W} {pc : Nat} {lo : List (Nat × Value)} {st : List Value} {Ts : List Cond} {own : String}
variable {Fd : Nat → Option (Nat × Nat)} {Ft : Nat → Nat → Option (Nat × Bool)} {Cn : Nat → Option Value} {Nw : Nat → Option (Nat × List Value)} {ini : Option Nat} {r : ip_R}
set_option maxHeartbeats 400000 in
theorem ip_s_newarray {t : ArrayType} (h : ip_st Fd Ft Cn Nw nL ini (.newarray t) pc lo st w = some r) (hx : p.tables.exec = Jvm.exec) (hb : c.code = cc) (hdg : decode cc pc = .ok (.newarray t, 2)) (hK : va_K D cl (ip_T aC) s) (hts : ip_TK Ts s) (hA : Cond.arrayClass .int ∈ Ts ∧ Cond.arrayClass .byte ∈ Ts ∧ Cond.arrayClass .long ∈ Ts ∧ Cond.arrayClass .boolean ∈ Ts) (hn0 : n0 ≤ w.1) (hs0 : s0 ≤ w.2.1) (hcells : r.2.2.2.1 ≤ n0 + R.cells) (hslots : r.2.2.2.2.1 ≤ s0 + R.slots) (k : ip_Vr p l e R s m args below meth c D cl aC b sc nL n0 s0 Q r) : ip_V p l e R s m args below meth c D cl aC b sc nL n0 s0 Q w pc lo st := by
  simp only [ip_st] at h
  split at h
  · rename_i n rr
    cases t
    all_goals simp only [ip_atk] at h
    case boolean =>
      split at h
      · rename_i hn
        cases h
        have harr : (Cond.arrayClass (newarray.typeOf .boolean)).before args s = true := hts _ hA.2.2.2 args
        have hby : n.toNatClampNeg * componentBytes .boolean ≤ 536870912 := by
          have h3 : componentBytes .boolean ≤ 8 := by decide
          have h4 := Nat.mul_le_mul hn.2 h3
          omega
        have hcel : ∀ cA : ClassId, (match ip_e b sc (fun _ => cA) (.inl (3, n.toNatClampNeg, .inl (fun _ => 0))) with | .inl y => vp_cell y.1 y.2 | .inr _ => arrV 0 0 (fun _ => .null)) = arrV cA n.toNatClampNeg (fun _ => defaultValue .boolean) := fun _ => rfl
        exact ip_newa (atype := .boolean) (ty := .boolean) (n := n) (N' := n.toNatClampNeg) (kd := 3) (x0 := .inl (fun _ => 0)) hx hb harr rfl hK rfl hcel hn.1 rfl hby (fun _ h => h) hn0 hs0 hcells hslots hdg k
      · cases h
    case byte =>
      split at h
      · rename_i hn
        cases h
        have harr : (Cond.arrayClass (newarray.typeOf .byte)).before args s = true := hts _ hA.2.1 args
        have hby : n.toNatClampNeg * componentBytes .byte ≤ 536870912 := by
          have h3 : componentBytes .byte ≤ 8 := by decide
          have h4 := Nat.mul_le_mul hn.2 h3
          omega
        have hcel : ∀ cA : ClassId, (match ip_e b sc (fun _ => cA) (.inl (1, n.toNatClampNeg, .inl (fun _ => 0))) with | .inl y => vp_cell y.1 y.2 | .inr _ => arrV 0 0 (fun _ => .null)) = arrV cA n.toNatClampNeg (fun _ => defaultValue .byte) := fun _ => rfl
        exact ip_newa (atype := .byte) (ty := .byte) (n := n) (N' := n.toNatClampNeg) (kd := 1) (x0 := .inl (fun _ => 0)) hx hb harr rfl hK rfl hcel hn.1 rfl hby (fun _ h => h) hn0 hs0 hcells hslots hdg k
      · cases h
    case int =>
      split at h
      · rename_i hn
        cases h
        have harr : (Cond.arrayClass (newarray.typeOf .int)).before args s = true := hts _ hA.1 args
        have hby : n.toNatClampNeg * componentBytes .int ≤ 536870912 := by
          have h3 : componentBytes .int ≤ 8 := by decide
          have h4 := Nat.mul_le_mul hn.2 h3
          omega
        have hcel : ∀ cA : ClassId, (match ip_e b sc (fun _ => cA) (.inl (0, n.toNatClampNeg, .inl (fun _ => 0))) with | .inl y => vp_cell y.1 y.2 | .inr _ => arrV 0 0 (fun _ => .null)) = arrV cA n.toNatClampNeg (fun _ => defaultValue .int) := fun _ => rfl
        exact ip_newa (atype := .int) (ty := .int) (n := n) (N' := n.toNatClampNeg) (kd := 0) (x0 := .inl (fun _ => 0)) hx hb harr rfl hK rfl hcel hn.1 rfl hby (fun _ h => h) hn0 hs0 hcells hslots hdg k
      · cases h
    case long =>
      split at h
      · rename_i hn
        cases h
        have harr : (Cond.arrayClass (newarray.typeOf .long)).before args s = true := hts _ hA.2.2.1 args
        have hby : n.toNatClampNeg * componentBytes .long ≤ 536870912 := by
          have h3 : componentBytes .long ≤ 8 := by decide
          have h4 := Nat.mul_le_mul hn.2 h3
          omega
        have hcel : ∀ cA : ClassId, (match ip_e b sc (fun _ => cA) (.inl (2, n.toNatClampNeg, .inr (.inl (fun _ => 0)))) with | .inl y => vp_cell y.1 y.2 | .inr _ => arrV 0 0 (fun _ => .null)) = arrV cA n.toNatClampNeg (fun _ => defaultValue .long) := fun _ => rfl
        exact ip_newa (atype := .long) (ty := .long) (n := n) (N' := n.toNatClampNeg) (kd := 2) (x0 := .inr (.inl (fun _ => 0))) hx hb harr rfl hK rfl hcel hn.1 rfl hby (fun _ h => h) hn0 hs0 hcells hslots hdg k
      · cases h
    all_goals cases h
  · cases h
theorem ip_s_anewarray {kx : Nat} (h : ip_st Fd Ft Cn Nw nL ini (.anewarray kx) pc lo st w = some r) (hx : p.tables.exec = Jvm.exec) (hb : c.code = cc) (hdg : decode cc pc = .ok (.anewarray kx, 3)) (hK : va_K D cl (ip_T aC) s) (hts : ip_TK Ts s) (hown : s.vm.findClass own = some m.cls) (hlk : Cond.classLink own kx "VitalTwin$Symbol" ∈ Ts) (hov : Cond.arrayOver (.object "VitalTwin$Symbol") ∈ Ts) (hn0 : n0 ≤ w.1) (hs0 : s0 ≤ w.2.1) (hcells : r.2.2.2.1 ≤ n0 + R.cells) (hslots : r.2.2.2.2.1 ≤ s0 + R.slots) (k : ip_Vr p l e R s m args below meth c D cl aC b sc nL n0 s0 Q r) : ip_V p l e R s m args below meth c D cl aC b sc nL n0 s0 Q w pc lo st := by
  simp only [ip_st] at h
  split at h
  · split at h
    · rename_i hn
      cases h
      exact ip_anew hx hb hown (hts _ hlk args) (hts _ hov args) hK hn.1 rfl (by have := hn.2; omega) hn0 hs0 hcells hslots hdg k
    · cases h
  · cases h
/-- a constant that a method loads -/
def ip_Cok (Ts : List Cond) (own : String) (k : Nat) (v : Value) : Prop := (∃ x, v = .int x ∧ Cond.constant own k x ∈ Ts) ∨ (∃ x, v = .long x ∧ Cond.constantLong own k x ∈ Ts) ∨ ∃ j, v = .retAddr j
/-- the rule for String constants, to be paid where they are known -/
def ip_Sok (p : Program) (l : Launch) (e : Env) (R : Room) (s : State) (m : MethodId) (args : Array Value) (below : List Frame) (meth : Method) (c : Code) (D : va_G) (cl : List vw_C) (aC : Nat → ClassId) (b : Nat) (sc : Nat → Nat) (nL n0 s0 : Nat) (Q : State → Prop) (Cn : Nat → Option Value) : Prop :=
  ∀ (k j pc n : Nat) (i : Instr) (w : ip_W) (lo : List (Nat × Value)) (st : List Value), Cn k = some (.retAddr j) → decode c.code pc = .ok (i, n) → ((i = .ldc k ∧ n = 2) ∨ (i = .ldc_w k ∧ n = 3)) → ip_V p l e R s m args below meth c D cl aC b sc nL n0 s0 Q w (pc + n) lo (.retAddr j :: st) → ip_V p l e R s m args below meth c D cl aC b sc nL n0 s0 Q w pc lo st
theorem ip_s_ldc {kx : Nat} (h : ip_st Fd Ft Cn Nw nL ini (.ldc kx) pc lo st w = some r) (hx : p.tables.exec = Jvm.exec) (hb : c.code = cc) (hdg : decode cc pc = .ok (.ldc kx, 2)) (hts : ip_TK Ts s) (hown : s.vm.findClass own = some m.cls) (hCn : ∀ (k : Nat) (v : Value), Cn k = some v → ip_Cok Ts own k v) (hl2 : ∀ x : Int64, Cn kx ≠ some (.long x)) (hSk : ip_Sok p l e R s m args below meth c D cl aC b sc nL n0 s0 Q Cn) (k : ip_Vr p l e R s m args below meth c D cl aC b sc nL n0 s0 Q r) : ip_V p l e R s m args below meth c D cl aC b sc nL n0 s0 Q w pc lo st := by
  simp only [ip_st] at h
  split at h
  · rename_i v hc
    cases h
    rcases hCn _ _ hc with ⟨x, rfl, hk⟩ | ⟨x, rfl, hk⟩ | ⟨j, rfl⟩
    · exact fun H locs ls hG hS hl => lv_ldc hx hb hown (hts _ hk args) hdg (k H locs ls hG hS hl)
    · exact absurd hc (hl2 x)
    · exact hSk kx j pc 2 (.ldc kx) w lo st hc (by rw [hb]; exact hdg) (Or.inl ⟨rfl, rfl⟩) k
  · cases h
theorem ip_s_ldc_w {kx : Nat} (h : ip_st Fd Ft Cn Nw nL ini (.ldc_w kx) pc lo st w = some r) (hx : p.tables.exec = Jvm.exec) (hb : c.code = cc) (hdg : decode cc pc = .ok (.ldc_w kx, 3)) (hts : ip_TK Ts s) (hown : s.vm.findClass own = some m.cls) (hCn : ∀ (k : Nat) (v : Value), Cn k = some v → ip_Cok Ts own k v) (hl2 : ∀ x : Int64, Cn kx ≠ some (.long x)) (hSk : ip_Sok p l e R s m args below meth c D cl aC b sc nL n0 s0 Q Cn) (k : ip_Vr p l e R s m args below meth c D cl aC b sc nL n0 s0 Q r) : ip_V p l e R s m args below meth c D cl aC b sc nL n0 s0 Q w pc lo st := by
  simp only [ip_st] at h
  split at h
  · rename_i v hc
    cases h
    rcases hCn _ _ hc with ⟨x, rfl, hk⟩ | ⟨x, rfl, hk⟩ | ⟨j, rfl⟩
    · exact fun H locs ls hG hS hl => lv_ldcw hx hb hown (hts _ hk args) hdg (k H locs ls hG hS hl)
    · exact absurd hc (hl2 x)
    · exact hSk kx j pc 3 (.ldc_w kx) w lo st hc (by rw [hb]; exact hdg) (Or.inr ⟨rfl, rfl⟩) k
  · cases h
theorem ip_s_ldc2 {kx : Nat} (h : ip_st Fd Ft Cn Nw nL ini (.ldc2_w kx) pc lo st w = some r) (hx : p.tables.exec = Jvm.exec) (hb : c.code = cc) (hdg : decode cc pc = .ok (.ldc2_w kx, 3)) (hts : ip_TK Ts s) (hown : s.vm.findClass own = some m.cls) (hC2 : ∃ x, Cn kx = some (.long x) ∧ Cond.constantLong own kx x ∈ Ts) (k : ip_Vr p l e R s m args below meth c D cl aC b sc nL n0 s0 Q r) : ip_V p l e R s m args below meth c D cl aC b sc nL n0 s0 Q w pc lo st := by
  simp only [ip_st] at h
  obtain ⟨x, hc, hk⟩ := hC2
  rw [hc] at h
  cases h
  exact fun H locs ls hG hS hl => lv_ldc2 hx hb hown (hts _ hk args) hdg (k H locs ls hG hS hl)
end IPT
