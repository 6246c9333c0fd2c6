/-! part 06: the simple step is sound -/
section IPS
variable {p : Program} {l : Launch} {e : Env} {R : Room} {s : State} {m : MethodId} {args : Array Value} {below : List Frame} {meth : Method} {c : Code} {Q : State → Prop}
variable {D : va_G} {cl : List vw_C} {aC : Nat → ClassId} {b : Nat} {sc : Nat → Nat} {nL n0 s0 : Nat} {cc : ByteArray} {w : ip_W} {pc : Nat} {lo : List (Nat × Value)} {st : List Value} {Ts : List Cond} {own : String}
variable {Fd : Nat → Option (Nat × Nat)} {Ft : Nat → Nat → Option (Nat × Bool)} {Cn : Nat → Option Value} {Nw : Nat → Option (Nat × List Value)} {ini : Option Nat} {r : ip_R}
/-- ip_V at what a step gives -/
def ip_Vr (p : Program) (l : Launch) (e : Env) (R : Room) (s : State) (m : MethodId) (args : Array Value) (below : List Frame) (meth : Method) (c : Code) (D : va_G) (cl : List vw_C) (aC : Nat → ClassId) (b : Nat) (sc : Nat → Nat) (nL n0 s0 : Nat) (Q : State → Prop) (r : ip_R) : Prop := ip_V p l e R s m args below meth c D cl aC b sc nL n0 s0 Q r.2.2.2 r.1 r.2.1 r.2.2.1
theorem ip_isR_of {x : Value} (h : ip_isR x = true) : (∃ a, x = .ref a) ∨ (∃ a, x = .retAddr a) ∨ x = .null := by
  cases x with
  | ref a => exact Or.inl ⟨a, rfl⟩
  | retAddr a => exact Or.inr (Or.inl ⟨a, rfl⟩)
  | null => exact Or.inr (Or.inr rfl)
  | _ => simp [ip_isR] at h
theorem ip_tg_of {off : Int} {t : Nat} (h : ip_tg pc off = some t) : (pc : Int) + off = (t : Int) := by
  unfold ip_tg at h
  split at h
  · rename_i h0
    cases h
    exact (Int.toNat_of_nonneg h0).symm
  · cases h
theorem ip_in_of {i : Int32} {n : Nat} (h : ip_in i n = true) : vp_in i n := by
  unfold ip_in at h
  simp only [Bool.and_eq_true, decide_eq_true_eq] at h
  intro q
  rcases q with q | q
  · exact h.1 q
  · omega
theorem ip_s_iconst {n : Int} (h : ip_st Fd Ft Cn Nw nL ini (.iconst n) pc lo st w = some r) (hx : p.tables.exec = Jvm.exec) (hb : c.code = cc) (hdg : decode cc pc = .ok (.iconst n, 1)) (k : ip_Vr p l e R s m args below meth c D cl aC b sc nL n0 s0 Q r) : ip_V p l e R s m args below meth c D cl aC b sc nL n0 s0 Q w pc lo st := by
  simp only [ip_st] at h
  cases h
  exact ip_iconst hx hb hdg k
theorem ip_s_bipush {n : Int} (h : ip_st Fd Ft Cn Nw nL ini (.bipush n) pc lo st w = some r) (hx : p.tables.exec = Jvm.exec) (hb : c.code = cc) (hdg : decode cc pc = .ok (.bipush n, 2)) (k : ip_Vr p l e R s m args below meth c D cl aC b sc nL n0 s0 Q r) : ip_V p l e R s m args below meth c D cl aC b sc nL n0 s0 Q w pc lo st := by
  simp only [ip_st] at h
  cases h
  exact ip_bipush hx hb hdg k
theorem ip_s_sipush {n : Int} (h : ip_st Fd Ft Cn Nw nL ini (.sipush n) pc lo st w = some r) (hx : p.tables.exec = Jvm.exec) (hb : c.code = cc) (hdg : decode cc pc = .ok (.sipush n, 3)) (k : ip_Vr p l e R s m args below meth c D cl aC b sc nL n0 s0 Q r) : ip_V p l e R s m args below meth c D cl aC b sc nL n0 s0 Q w pc lo st := by
  simp only [ip_st] at h
  cases h
  exact ip_sipush hx hb hdg k
theorem ip_s_lconst {n : Fin 2} (h : ip_st Fd Ft Cn Nw nL ini (.lconst n) pc lo st w = some r) (hx : p.tables.exec = Jvm.exec) (hb : c.code = cc) (hdg : decode cc pc = .ok (.lconst n, 1)) (k : ip_Vr p l e R s m args below meth c D cl aC b sc nL n0 s0 Q r) : ip_V p l e R s m args below meth c D cl aC b sc nL n0 s0 Q w pc lo st := by
  simp only [ip_st] at h
  cases h
  exact ip_lconst hx hb hdg k
theorem ip_s_null (h : ip_st Fd Ft Cn Nw nL ini (.aconst_null) pc lo st w = some r) (hx : p.tables.exec = Jvm.exec) (hb : c.code = cc) (hdg : decode cc pc = .ok (.aconst_null, 1)) (k : ip_Vr p l e R s m args below meth c D cl aC b sc nL n0 s0 Q r) : ip_V p l e R s m args below meth c D cl aC b sc nL n0 s0 Q w pc lo st := by
  simp only [ip_st] at h
  cases h
  exact ip_null hx hb hdg k
theorem ip_s_iload_n {i : Fin 4} (h : ip_st Fd Ft Cn Nw nL ini (.iload_n i) pc lo st w = some r) (hx : p.tables.exec = Jvm.exec) (hb : c.code = cc) (hdg : decode cc pc = .ok (.iload_n i, 1)) (k : ip_Vr p l e R s m args below meth c D cl aC b sc nL n0 s0 Q r) : ip_V p l e R s m args below meth c D cl aC b sc nL n0 s0 Q w pc lo st := by
  simp only [ip_st] at h
  split at h
  · rename_i hg
    cases h
    exact ip_iload_n hx hb hdg hg k
  · cases h
theorem ip_s_iload {i : Nat} (h : ip_st Fd Ft Cn Nw nL ini (.iload i) pc lo st w = some r) (hx : p.tables.exec = Jvm.exec) (hb : c.code = cc) (hdg : decode cc pc = .ok (.iload i, 2)) (k : ip_Vr p l e R s m args below meth c D cl aC b sc nL n0 s0 Q r) : ip_V p l e R s m args below meth c D cl aC b sc nL n0 s0 Q w pc lo st := by
  simp only [ip_st] at h
  split at h
  · rename_i hg
    cases h
    exact ip_iload hx hb hdg hg k
  · cases h
theorem ip_s_lload_n {i : Fin 4} (h : ip_st Fd Ft Cn Nw nL ini (.lload_n i) pc lo st w = some r) (hx : p.tables.exec = Jvm.exec) (hb : c.code = cc) (hdg : decode cc pc = .ok (.lload_n i, 1)) (k : ip_Vr p l e R s m args below meth c D cl aC b sc nL n0 s0 Q r) : ip_V p l e R s m args below meth c D cl aC b sc nL n0 s0 Q w pc lo st := by
  simp only [ip_st] at h
  split at h
  · rename_i hg
    cases h
    exact ip_lload_n hx hb hdg hg k
  · cases h
theorem ip_s_lload {i : Nat} (h : ip_st Fd Ft Cn Nw nL ini (.lload i) pc lo st w = some r) (hx : p.tables.exec = Jvm.exec) (hb : c.code = cc) (hdg : decode cc pc = .ok (.lload i, 2)) (k : ip_Vr p l e R s m args below meth c D cl aC b sc nL n0 s0 Q r) : ip_V p l e R s m args below meth c D cl aC b sc nL n0 s0 Q w pc lo st := by
  simp only [ip_st] at h
  split at h
  · rename_i hg
    cases h
    exact ip_lload hx hb hdg hg k
  · cases h
theorem ip_s_aload_n {i : Fin 4} (h : ip_st Fd Ft Cn Nw nL ini (.aload_n i) pc lo st w = some r) (hx : p.tables.exec = Jvm.exec) (hb : c.code = cc) (hdg : decode cc pc = .ok (.aload_n i, 1)) (k : ip_Vr p l e R s m args below meth c D cl aC b sc nL n0 s0 Q r) : ip_V p l e R s m args below meth c D cl aC b sc nL n0 s0 Q w pc lo st := by
  simp only [ip_st] at h
  split at h
  · rename_i hg
    split at h
    · rename_i hr
      cases h
      exact ip_aload_n hx hb hdg hg (ip_isR_of hr) k
    · cases h
  · cases h
theorem ip_s_aload {i : Nat} (h : ip_st Fd Ft Cn Nw nL ini (.aload i) pc lo st w = some r) (hx : p.tables.exec = Jvm.exec) (hb : c.code = cc) (hdg : decode cc pc = .ok (.aload i, 2)) (k : ip_Vr p l e R s m args below meth c D cl aC b sc nL n0 s0 Q r) : ip_V p l e R s m args below meth c D cl aC b sc nL n0 s0 Q w pc lo st := by
  simp only [ip_st] at h
  split at h
  · rename_i hg
    split at h
    · rename_i hr
      cases h
      exact ip_aload hx hb hdg hg (ip_isR_of hr) k
    · cases h
  · cases h
theorem ip_s_istore_n {i : Fin 4} (h : ip_st Fd Ft Cn Nw nL ini (.istore_n i) pc lo st w = some r) (hx : p.tables.exec = Jvm.exec) (hb : c.code = cc) (hdg : decode cc pc = .ok (.istore_n i, 1)) (k : ip_Vr p l e R s m args below meth c D cl aC b sc nL n0 s0 Q r) : ip_V p l e R s m args below meth c D cl aC b sc nL n0 s0 Q w pc lo st := by
  simp only [ip_st] at h
  split at h
  · split at h
    · rename_i hn
      cases h
      exact ip_istore_n hx hb hdg hn k
    · cases h
  · cases h
theorem ip_s_istore {i : Nat} (h : ip_st Fd Ft Cn Nw nL ini (.istore i) pc lo st w = some r) (hx : p.tables.exec = Jvm.exec) (hb : c.code = cc) (hdg : decode cc pc = .ok (.istore i, 2)) (k : ip_Vr p l e R s m args below meth c D cl aC b sc nL n0 s0 Q r) : ip_V p l e R s m args below meth c D cl aC b sc nL n0 s0 Q w pc lo st := by
  simp only [ip_st] at h
  split at h
  · split at h
    · rename_i hn
      cases h
      exact ip_istore hx hb hdg hn k
    · cases h
  · cases h
theorem ip_s_lstore_n {i : Fin 4} (h : ip_st Fd Ft Cn Nw nL ini (.lstore_n i) pc lo st w = some r) (hx : p.tables.exec = Jvm.exec) (hb : c.code = cc) (hdg : decode cc pc = .ok (.lstore_n i, 1)) (k : ip_Vr p l e R s m args below meth c D cl aC b sc nL n0 s0 Q r) : ip_V p l e R s m args below meth c D cl aC b sc nL n0 s0 Q w pc lo st := by
  simp only [ip_st] at h
  split at h
  · split at h
    · rename_i hn
      cases h
      exact ip_lstore_n hx hb hdg hn k
    · cases h
  · cases h
theorem ip_s_lstore {i : Nat} (h : ip_st Fd Ft Cn Nw nL ini (.lstore i) pc lo st w = some r) (hx : p.tables.exec = Jvm.exec) (hb : c.code = cc) (hdg : decode cc pc = .ok (.lstore i, 2)) (k : ip_Vr p l e R s m args below meth c D cl aC b sc nL n0 s0 Q r) : ip_V p l e R s m args below meth c D cl aC b sc nL n0 s0 Q w pc lo st := by
  simp only [ip_st] at h
  split at h
  · split at h
    · rename_i hn
      cases h
      exact ip_lstore hx hb hdg hn k
    · cases h
  · cases h
theorem ip_s_astore_n {i : Fin 4} (h : ip_st Fd Ft Cn Nw nL ini (.astore_n i) pc lo st w = some r) (hx : p.tables.exec = Jvm.exec) (hb : c.code = cc) (hdg : decode cc pc = .ok (.astore_n i, 1)) (k : ip_Vr p l e R s m args below meth c D cl aC b sc nL n0 s0 Q r) : ip_V p l e R s m args below meth c D cl aC b sc nL n0 s0 Q w pc lo st := by
  simp only [ip_st] at h
  split at h
  · split at h
    · rename_i hn
      cases h
      exact ip_astore_n hx hb hdg hn.1 (ip_isR_of hn.2) k
    · cases h
  · cases h
theorem ip_s_astore {i : Nat} (h : ip_st Fd Ft Cn Nw nL ini (.astore i) pc lo st w = some r) (hx : p.tables.exec = Jvm.exec) (hb : c.code = cc) (hdg : decode cc pc = .ok (.astore i, 2)) (k : ip_Vr p l e R s m args below meth c D cl aC b sc nL n0 s0 Q r) : ip_V p l e R s m args below meth c D cl aC b sc nL n0 s0 Q w pc lo st := by
  simp only [ip_st] at h
  split at h
  · split at h
    · rename_i hn
      cases h
      exact ip_astore hx hb hdg hn.1 (ip_isR_of hn.2) k
    · cases h
  · cases h
theorem ip_s_iinc {i : Nat} {n : Int} (h : ip_st Fd Ft Cn Nw nL ini (.iinc i n) pc lo st w = some r) (hx : p.tables.exec = Jvm.exec) (hb : c.code = cc) (hdg : decode cc pc = .ok (.iinc i n, 3)) (k : ip_Vr p l e R s m args below meth c D cl aC b sc nL n0 s0 Q r) : ip_V p l e R s m args below meth c D cl aC b sc nL n0 s0 Q w pc lo st := by
  simp only [ip_st] at h
  split at h
  · rename_i hg
    split at h
    · rename_i hn
      cases h
      exact ip_iinc hx hb hdg hn hg k
    · cases h
  · cases h
theorem ip_s_iadd (h : ip_st Fd Ft Cn Nw nL ini (.iadd) pc lo st w = some r) (hx : p.tables.exec = Jvm.exec) (hb : c.code = cc) (hdg : decode cc pc = .ok (.iadd, 1)) (k : ip_Vr p l e R s m args below meth c D cl aC b sc nL n0 s0 Q r) : ip_V p l e R s m args below meth c D cl aC b sc nL n0 s0 Q w pc lo st := by
  simp only [ip_st] at h
  split at h
  · cases h
    exact ip_iadd hx hb hdg k
  · cases h
theorem ip_s_isub (h : ip_st Fd Ft Cn Nw nL ini (.isub) pc lo st w = some r) (hx : p.tables.exec = Jvm.exec) (hb : c.code = cc) (hdg : decode cc pc = .ok (.isub, 1)) (k : ip_Vr p l e R s m args below meth c D cl aC b sc nL n0 s0 Q r) : ip_V p l e R s m args below meth c D cl aC b sc nL n0 s0 Q w pc lo st := by
  simp only [ip_st] at h
  split at h
  · cases h
    exact ip_isub hx hb hdg k
  · cases h
theorem ip_s_imul (h : ip_st Fd Ft Cn Nw nL ini (.imul) pc lo st w = some r) (hx : p.tables.exec = Jvm.exec) (hb : c.code = cc) (hdg : decode cc pc = .ok (.imul, 1)) (k : ip_Vr p l e R s m args below meth c D cl aC b sc nL n0 s0 Q r) : ip_V p l e R s m args below meth c D cl aC b sc nL n0 s0 Q w pc lo st := by
  simp only [ip_st] at h
  split at h
  · cases h
    exact ip_imul hx hb hdg k
  · cases h
theorem ip_s_iand (h : ip_st Fd Ft Cn Nw nL ini (.iand) pc lo st w = some r) (hx : p.tables.exec = Jvm.exec) (hb : c.code = cc) (hdg : decode cc pc = .ok (.iand, 1)) (k : ip_Vr p l e R s m args below meth c D cl aC b sc nL n0 s0 Q r) : ip_V p l e R s m args below meth c D cl aC b sc nL n0 s0 Q w pc lo st := by
  simp only [ip_st] at h
  split at h
  · cases h
    exact ip_iand hx hb hdg k
  · cases h
theorem ip_s_ixor (h : ip_st Fd Ft Cn Nw nL ini (.ixor) pc lo st w = some r) (hx : p.tables.exec = Jvm.exec) (hb : c.code = cc) (hdg : decode cc pc = .ok (.ixor, 1)) (k : ip_Vr p l e R s m args below meth c D cl aC b sc nL n0 s0 Q r) : ip_V p l e R s m args below meth c D cl aC b sc nL n0 s0 Q w pc lo st := by
  simp only [ip_st] at h
  split at h
  · cases h
    exact ip_ixor hx hb hdg k
  · cases h
theorem ip_s_ladd (h : ip_st Fd Ft Cn Nw nL ini (.ladd) pc lo st w = some r) (hx : p.tables.exec = Jvm.exec) (hb : c.code = cc) (hdg : decode cc pc = .ok (.ladd, 1)) (k : ip_Vr p l e R s m args below meth c D cl aC b sc nL n0 s0 Q r) : ip_V p l e R s m args below meth c D cl aC b sc nL n0 s0 Q w pc lo st := by
  simp only [ip_st] at h
  split at h
  · cases h
    exact ip_ladd hx hb hdg k
  · cases h
theorem ip_s_lsub (h : ip_st Fd Ft Cn Nw nL ini (.lsub) pc lo st w = some r) (hx : p.tables.exec = Jvm.exec) (hb : c.code = cc) (hdg : decode cc pc = .ok (.lsub, 1)) (k : ip_Vr p l e R s m args below meth c D cl aC b sc nL n0 s0 Q r) : ip_V p l e R s m args below meth c D cl aC b sc nL n0 s0 Q w pc lo st := by
  simp only [ip_st] at h
  split at h
  · cases h
    exact ip_lsub hx hb hdg k
  · cases h
theorem ip_s_lmul (h : ip_st Fd Ft Cn Nw nL ini (.lmul) pc lo st w = some r) (hx : p.tables.exec = Jvm.exec) (hb : c.code = cc) (hdg : decode cc pc = .ok (.lmul, 1)) (k : ip_Vr p l e R s m args below meth c D cl aC b sc nL n0 s0 Q r) : ip_V p l e R s m args below meth c D cl aC b sc nL n0 s0 Q w pc lo st := by
  simp only [ip_st] at h
  split at h
  · cases h
    exact ip_lmul hx hb hdg k
  · cases h
theorem ip_s_land (h : ip_st Fd Ft Cn Nw nL ini (.land) pc lo st w = some r) (hx : p.tables.exec = Jvm.exec) (hb : c.code = cc) (hdg : decode cc pc = .ok (.land, 1)) (k : ip_Vr p l e R s m args below meth c D cl aC b sc nL n0 s0 Q r) : ip_V p l e R s m args below meth c D cl aC b sc nL n0 s0 Q w pc lo st := by
  simp only [ip_st] at h
  split at h
  · cases h
    exact ip_land hx hb hdg k
  · cases h
theorem ip_s_lor (h : ip_st Fd Ft Cn Nw nL ini (.lor) pc lo st w = some r) (hx : p.tables.exec = Jvm.exec) (hb : c.code = cc) (hdg : decode cc pc = .ok (.lor, 1)) (k : ip_Vr p l e R s m args below meth c D cl aC b sc nL n0 s0 Q r) : ip_V p l e R s m args below meth c D cl aC b sc nL n0 s0 Q w pc lo st := by
  simp only [ip_st] at h
  split at h
  · cases h
    exact ip_lor hx hb hdg k
  · cases h
theorem ip_s_lxor (h : ip_st Fd Ft Cn Nw nL ini (.lxor) pc lo st w = some r) (hx : p.tables.exec = Jvm.exec) (hb : c.code = cc) (hdg : decode cc pc = .ok (.lxor, 1)) (k : ip_Vr p l e R s m args below meth c D cl aC b sc nL n0 s0 Q r) : ip_V p l e R s m args below meth c D cl aC b sc nL n0 s0 Q w pc lo st := by
  simp only [ip_st] at h
  split at h
  · cases h
    exact ip_lxor hx hb hdg k
  · cases h
theorem ip_s_ineg (h : ip_st Fd Ft Cn Nw nL ini (.ineg) pc lo st w = some r) (hx : p.tables.exec = Jvm.exec) (hb : c.code = cc) (hdg : decode cc pc = .ok (.ineg, 1)) (k : ip_Vr p l e R s m args below meth c D cl aC b sc nL n0 s0 Q r) : ip_V p l e R s m args below meth c D cl aC b sc nL n0 s0 Q w pc lo st := by
  simp only [ip_st] at h
  split at h
  · cases h
    exact ip_ineg hx hb hdg k
  · cases h
theorem ip_s_lneg (h : ip_st Fd Ft Cn Nw nL ini (.lneg) pc lo st w = some r) (hx : p.tables.exec = Jvm.exec) (hb : c.code = cc) (hdg : decode cc pc = .ok (.lneg, 1)) (k : ip_Vr p l e R s m args below meth c D cl aC b sc nL n0 s0 Q r) : ip_V p l e R s m args below meth c D cl aC b sc nL n0 s0 Q w pc lo st := by
  simp only [ip_st] at h
  split at h
  · cases h
    exact ip_lneg hx hb hdg k
  · cases h
theorem ip_s_i2l (h : ip_st Fd Ft Cn Nw nL ini (.i2l) pc lo st w = some r) (hx : p.tables.exec = Jvm.exec) (hb : c.code = cc) (hdg : decode cc pc = .ok (.i2l, 1)) (k : ip_Vr p l e R s m args below meth c D cl aC b sc nL n0 s0 Q r) : ip_V p l e R s m args below meth c D cl aC b sc nL n0 s0 Q w pc lo st := by
  simp only [ip_st] at h
  split at h
  · cases h
    exact ip_i2l hx hb hdg k
  · cases h
theorem ip_s_l2i (h : ip_st Fd Ft Cn Nw nL ini (.l2i) pc lo st w = some r) (hx : p.tables.exec = Jvm.exec) (hb : c.code = cc) (hdg : decode cc pc = .ok (.l2i, 1)) (k : ip_Vr p l e R s m args below meth c D cl aC b sc nL n0 s0 Q r) : ip_V p l e R s m args below meth c D cl aC b sc nL n0 s0 Q w pc lo st := by
  simp only [ip_st] at h
  split at h
  · cases h
    exact ip_l2i hx hb hdg k
  · cases h
theorem ip_s_i2b (h : ip_st Fd Ft Cn Nw nL ini (.i2b) pc lo st w = some r) (hx : p.tables.exec = Jvm.exec) (hb : c.code = cc) (hdg : decode cc pc = .ok (.i2b, 1)) (k : ip_Vr p l e R s m args below meth c D cl aC b sc nL n0 s0 Q r) : ip_V p l e R s m args below meth c D cl aC b sc nL n0 s0 Q w pc lo st := by
  simp only [ip_st] at h
  split at h
  · cases h
    exact ip_i2b hx hb hdg k
  · cases h
theorem ip_s_i2c (h : ip_st Fd Ft Cn Nw nL ini (.i2c) pc lo st w = some r) (hx : p.tables.exec = Jvm.exec) (hb : c.code = cc) (hdg : decode cc pc = .ok (.i2c, 1)) (k : ip_Vr p l e R s m args below meth c D cl aC b sc nL n0 s0 Q r) : ip_V p l e R s m args below meth c D cl aC b sc nL n0 s0 Q w pc lo st := by
  simp only [ip_st] at h
  split at h
  · cases h
    exact ip_i2c hx hb hdg k
  · cases h
theorem ip_s_lshl (h : ip_st Fd Ft Cn Nw nL ini (.lshl) pc lo st w = some r) (hx : p.tables.exec = Jvm.exec) (hb : c.code = cc) (hdg : decode cc pc = .ok (.lshl, 1)) (k : ip_Vr p l e R s m args below meth c D cl aC b sc nL n0 s0 Q r) : ip_V p l e R s m args below meth c D cl aC b sc nL n0 s0 Q w pc lo st := by
  simp only [ip_st] at h
  split at h
  · cases h
    exact ip_lshl hx hb hdg k
  · cases h
theorem ip_s_lshr (h : ip_st Fd Ft Cn Nw nL ini (.lshr) pc lo st w = some r) (hx : p.tables.exec = Jvm.exec) (hb : c.code = cc) (hdg : decode cc pc = .ok (.lshr, 1)) (k : ip_Vr p l e R s m args below meth c D cl aC b sc nL n0 s0 Q r) : ip_V p l e R s m args below meth c D cl aC b sc nL n0 s0 Q w pc lo st := by
  simp only [ip_st] at h
  split at h
  · cases h
    exact ip_lshr hx hb hdg k
  · cases h
theorem ip_s_lushr (h : ip_st Fd Ft Cn Nw nL ini (.lushr) pc lo st w = some r) (hx : p.tables.exec = Jvm.exec) (hb : c.code = cc) (hdg : decode cc pc = .ok (.lushr, 1)) (k : ip_Vr p l e R s m args below meth c D cl aC b sc nL n0 s0 Q r) : ip_V p l e R s m args below meth c D cl aC b sc nL n0 s0 Q w pc lo st := by
  simp only [ip_st] at h
  split at h
  · cases h
    exact ip_lushr hx hb hdg k
  · cases h
theorem ip_s_lcmp (h : ip_st Fd Ft Cn Nw nL ini (.lcmp) pc lo st w = some r) (hx : p.tables.exec = Jvm.exec) (hb : c.code = cc) (hdg : decode cc pc = .ok (.lcmp, 1)) (k : ip_Vr p l e R s m args below meth c D cl aC b sc nL n0 s0 Q r) : ip_V p l e R s m args below meth c D cl aC b sc nL n0 s0 Q w pc lo st := by
  simp only [ip_st] at h
  split at h
  · cases h
    exact ip_lcmp hx hb hdg k
  · cases h
theorem ip_s_idiv (h : ip_st Fd Ft Cn Nw nL ini (.idiv) pc lo st w = some r) (hx : p.tables.exec = Jvm.exec) (hb : c.code = cc) (hdg : decode cc pc = .ok (.idiv, 1)) (k : ip_Vr p l e R s m args below meth c D cl aC b sc nL n0 s0 Q r) : ip_V p l e R s m args below meth c D cl aC b sc nL n0 s0 Q w pc lo st := by
  simp only [ip_st] at h
  split at h
  · split at h
    · rename_i hn
      cases h
      exact ip_idiv hx hb hdg hn k
    · cases h
  · cases h
theorem ip_s_irem (h : ip_st Fd Ft Cn Nw nL ini (.irem) pc lo st w = some r) (hx : p.tables.exec = Jvm.exec) (hb : c.code = cc) (hdg : decode cc pc = .ok (.irem, 1)) (k : ip_Vr p l e R s m args below meth c D cl aC b sc nL n0 s0 Q r) : ip_V p l e R s m args below meth c D cl aC b sc nL n0 s0 Q w pc lo st := by
  simp only [ip_st] at h
  split at h
  · split at h
    · rename_i hn
      cases h
      exact ip_irem hx hb hdg hn k
    · cases h
  · cases h
theorem ip_s_ldiv (h : ip_st Fd Ft Cn Nw nL ini (.ldiv) pc lo st w = some r) (hx : p.tables.exec = Jvm.exec) (hb : c.code = cc) (hdg : decode cc pc = .ok (.ldiv, 1)) (k : ip_Vr p l e R s m args below meth c D cl aC b sc nL n0 s0 Q r) : ip_V p l e R s m args below meth c D cl aC b sc nL n0 s0 Q w pc lo st := by
  simp only [ip_st] at h
  split at h
  · split at h
    · rename_i hn
      cases h
      exact ip_ldiv hx hb hdg hn k
    · cases h
  · cases h
theorem ip_s_lrem (h : ip_st Fd Ft Cn Nw nL ini (.lrem) pc lo st w = some r) (hx : p.tables.exec = Jvm.exec) (hb : c.code = cc) (hdg : decode cc pc = .ok (.lrem, 1)) (k : ip_Vr p l e R s m args below meth c D cl aC b sc nL n0 s0 Q r) : ip_V p l e R s m args below meth c D cl aC b sc nL n0 s0 Q w pc lo st := by
  simp only [ip_st] at h
  split at h
  · split at h
    · rename_i hn
      cases h
      exact ip_lrem hx hb hdg hn k
    · cases h
  · cases h
theorem ip_s_dup (h : ip_st Fd Ft Cn Nw nL ini (.dup) pc lo st w = some r) (hx : p.tables.exec = Jvm.exec) (hb : c.code = cc) (hdg : decode cc pc = .ok (.dup, 1)) (k : ip_Vr p l e R s m args below meth c D cl aC b sc nL n0 s0 Q r) : ip_V p l e R s m args below meth c D cl aC b sc nL n0 s0 Q w pc lo st := by
  simp only [ip_st] at h
  split at h
  · split at h
    · rename_i hn
      cases h
      exact ip_dup hx hb hdg hn k
    · cases h
  · cases h
theorem ip_s_pop (h : ip_st Fd Ft Cn Nw nL ini (.pop) pc lo st w = some r) (hx : p.tables.exec = Jvm.exec) (hb : c.code = cc) (hdg : decode cc pc = .ok (.pop, 1)) (k : ip_Vr p l e R s m args below meth c D cl aC b sc nL n0 s0 Q r) : ip_V p l e R s m args below meth c D cl aC b sc nL n0 s0 Q w pc lo st := by
  simp only [ip_st] at h
  split at h
  · split at h
    · rename_i hn
      cases h
      exact ip_pop hx hb hdg hn k
    · cases h
  · cases h
theorem ip_s_dup2 (h : ip_st Fd Ft Cn Nw nL ini (.dup2) pc lo st w = some r) (hx : p.tables.exec = Jvm.exec) (hb : c.code = cc) (hdg : decode cc pc = .ok (.dup2, 1)) (k : ip_Vr p l e R s m args below meth c D cl aC b sc nL n0 s0 Q r) : ip_V p l e R s m args below meth c D cl aC b sc nL n0 s0 Q w pc lo st := by
  simp only [ip_st] at h
  split at h
  · split at h
    · rename_i hn
      cases h
      exact ip_dup2_2 hx hb hdg hn k
    · split at h
      · split at h
        · rename_i hn
          cases h
          exact ip_dup2_11 hx hb hdg hn.1 hn.2 k
        · cases h
      · cases h
  · cases h
theorem ip_s_ifCond {cd : ClassFile.Cond} {off : Int} (h : ip_st Fd Ft Cn Nw nL ini (.ifCond cd off) pc lo st w = some r) (hx : p.tables.exec = Jvm.exec) (hb : c.code = cc) (hdg : decode cc pc = .ok (.ifCond cd off, 3)) (k : ip_Vr p l e R s m args below meth c D cl aC b sc nL n0 s0 Q r) : ip_V p l e R s m args below meth c D cl aC b sc nL n0 s0 Q w pc lo st := by
  simp only [ip_st] at h
  split at h
  · split at h
    · rename_i ht
      cases h
      cases cd
      · exact ip_if_eq hx hb hdg (ip_tg_of ht) k
      · exact ip_if_ne hx hb hdg (ip_tg_of ht) k
      · exact ip_if_lt hx hb hdg (ip_tg_of ht) k
      · exact ip_if_ge hx hb hdg (ip_tg_of ht) k
      · exact ip_if_gt hx hb hdg (ip_tg_of ht) k
      · exact ip_if_le hx hb hdg (ip_tg_of ht) k
    · cases h
  · cases h
theorem ip_s_if_icmp {cd : ClassFile.Cond} {off : Int} (h : ip_st Fd Ft Cn Nw nL ini (.if_icmp cd off) pc lo st w = some r) (hx : p.tables.exec = Jvm.exec) (hb : c.code = cc) (hdg : decode cc pc = .ok (.if_icmp cd off, 3)) (k : ip_Vr p l e R s m args below meth c D cl aC b sc nL n0 s0 Q r) : ip_V p l e R s m args below meth c D cl aC b sc nL n0 s0 Q w pc lo st := by
  simp only [ip_st] at h
  split at h
  · split at h
    · rename_i ht
      cases h
      cases cd
      · exact ip_icmp_eq hx hb hdg (ip_tg_of ht) k
      · exact ip_icmp_ne hx hb hdg (ip_tg_of ht) k
      · exact ip_icmp_lt hx hb hdg (ip_tg_of ht) k
      · exact ip_icmp_ge hx hb hdg (ip_tg_of ht) k
      · exact ip_icmp_gt hx hb hdg (ip_tg_of ht) k
      · exact ip_icmp_le hx hb hdg (ip_tg_of ht) k
    · cases h
  · cases h
theorem ip_s_goto {off : Int} (h : ip_st Fd Ft Cn Nw nL ini (.goto off) pc lo st w = some r) (hx : p.tables.exec = Jvm.exec) (hb : c.code = cc) (hdg : decode cc pc = .ok (.goto off, 3)) (k : ip_Vr p l e R s m args below meth c D cl aC b sc nL n0 s0 Q r) : ip_V p l e R s m args below meth c D cl aC b sc nL n0 s0 Q w pc lo st := by
  simp only [ip_st] at h
  split at h
  · rename_i ht
    cases h
    exact ip_goto hx hb hdg (ip_tg_of ht) k
  · cases h
theorem ip_s_ifnull {off : Int} (h : ip_st Fd Ft Cn Nw nL ini (.ifnull off) pc lo st w = some r) (hx : p.tables.exec = Jvm.exec) (hb : c.code = cc) (hdg : decode cc pc = .ok (.ifnull off, 3)) (k : ip_Vr p l e R s m args below meth c D cl aC b sc nL n0 s0 Q r) : ip_V p l e R s m args below meth c D cl aC b sc nL n0 s0 Q w pc lo st := by
  simp only [ip_st] at h
  split at h
  · cases h
    exact ip_ifnull hx hb hdg k
  · split at h
    · rename_i ht
      cases h
      exact ip_ifnullN hx hb hdg (ip_tg_of ht) k
    · cases h
  · cases h
theorem ip_s_ifnonnull {off : Int} (h : ip_st Fd Ft Cn Nw nL ini (.ifnonnull off) pc lo st w = some r) (hx : p.tables.exec = Jvm.exec) (hb : c.code = cc) (hdg : decode cc pc = .ok (.ifnonnull off, 3)) (k : ip_Vr p l e R s m args below meth c D cl aC b sc nL n0 s0 Q r) : ip_V p l e R s m args below meth c D cl aC b sc nL n0 s0 Q w pc lo st := by
  simp only [ip_st] at h
  split at h
  · cases h
    exact ip_ifnonnullN hx hb hdg k
  · split at h
    · rename_i ht
      cases h
      exact ip_ifnonnull hx hb hdg (ip_tg_of ht) k
    · cases h
  · cases h
theorem ip_s_lookup {d : Int} {ps : Array (Int × Int)} {len : Nat} (h : ip_st Fd Ft Cn Nw nL ini (.lookupswitch d ps) pc lo st w = some r) (hx : p.tables.exec = Jvm.exec) (hb : c.code = cc) (hdg : decode cc pc = .ok (.lookupswitch d ps, len)) (k : ip_Vr p l e R s m args below meth c D cl aC b sc nL n0 s0 Q r) : ip_V p l e R s m args below meth c D cl aC b sc nL n0 s0 Q w pc lo st := by
  simp only [ip_st] at h
  split at h
  · split at h
    · rename_i hp
      split at h
      · rename_i ht
        cases h
        exact ip_lookup hx hb hdg hp rfl (ip_tg_of ht) k
      · cases h
    · cases h
  · cases h
theorem ip_s_table {d lw hi : Int} {offs : Array Int} {len : Nat} (h : ip_st Fd Ft Cn Nw nL ini (.tableswitch d lw hi offs) pc lo st w = some r) (hx : p.tables.exec = Jvm.exec) (hb : c.code = cc) (hdg : decode cc pc = .ok (.tableswitch d lw hi offs, len)) (k : ip_Vr p l e R s m args below meth c D cl aC b sc nL n0 s0 Q r) : ip_V p l e R s m args below meth c D cl aC b sc nL n0 s0 Q w pc lo st := by
  simp only [ip_st] at h
  split at h
  · split at h
    · rename_i hp
      split at h
      · rename_i ht
        cases h
        exact ip_tableOut hx hb hdg hp (ip_tg_of ht) k
      · cases h
    · rename_i hp
      split at h
      · rename_i ho
        split at h
        · rename_i ht
          cases h
          exact ip_tableIn hx hb hdg (fun q => hp (Or.inl q)) (fun q => hp (Or.inr q)) ho (ip_tg_of ht) k
        · cases h
      · cases h
  · cases h
theorem ip_s_arraylength (h : ip_st Fd Ft Cn Nw nL ini (.arraylength) pc lo st w = some r) (hx : p.tables.exec = Jvm.exec) (hb : c.code = cc) (hdg : decode cc pc = .ok (.arraylength, 1)) (hK : va_K D cl (ip_T aC) s) (k : ip_Vr p l e R s m args below meth c D cl aC b sc nL n0 s0 Q r) : ip_V p l e R s m args below meth c D cl aC b sc nL n0 s0 Q w pc lo st := by
  simp only [ip_st] at h
  split at h
  · split at h
    · rename_i he
      split at h
      · rename_i hkd
        cases h
        exact ip_alen hx hb hK hkd he hdg k
      · cases h
    · cases h
  · cases h
theorem ip_s_iaload (h : ip_st Fd Ft Cn Nw nL ini (.iaload) pc lo st w = some r) (hx : p.tables.exec = Jvm.exec) (hb : c.code = cc) (hdg : decode cc pc = .ok (.iaload, 1)) (hK : va_K D cl (ip_T aC) s) (k : ip_Vr p l e R s m args below meth c D cl aC b sc nL n0 s0 Q r) : ip_V p l e R s m args below meth c D cl aC b sc nL n0 s0 Q w pc lo st := by
  simp only [ip_st] at h
  split at h
  · split at h
    · rename_i he
      split at h
      · rename_i hn
        cases h
        exact ip_iald hx hb hK he (ip_in_of hn) hdg k
      · cases h
    · cases h
  · cases h
theorem ip_s_baload (h : ip_st Fd Ft Cn Nw nL ini (.baload) pc lo st w = some r) (hx : p.tables.exec = Jvm.exec) (hb : c.code = cc) (hdg : decode cc pc = .ok (.baload, 1)) (hK : va_K D cl (ip_T aC) s) (k : ip_Vr p l e R s m args below meth c D cl aC b sc nL n0 s0 Q r) : ip_V p l e R s m args below meth c D cl aC b sc nL n0 s0 Q w pc lo st := by
  simp only [ip_st] at h
  split at h
  · split at h
    · rename_i he
      split at h
      · rename_i hn
        cases h
        exact ip_bald hx hb hK he (ip_in_of hn) hdg k
      · cases h
    · rename_i he
      split at h
      · rename_i hn
        cases h
        exact ip_zald hx hb hK he (ip_in_of hn) hdg k
      · cases h
    · cases h
  · cases h
theorem ip_s_laload (h : ip_st Fd Ft Cn Nw nL ini (.laload) pc lo st w = some r) (hx : p.tables.exec = Jvm.exec) (hb : c.code = cc) (hdg : decode cc pc = .ok (.laload, 1)) (hK : va_K D cl (ip_T aC) s) (k : ip_Vr p l e R s m args below meth c D cl aC b sc nL n0 s0 Q r) : ip_V p l e R s m args below meth c D cl aC b sc nL n0 s0 Q w pc lo st := by
  simp only [ip_st] at h
  split at h
  · split at h
    · rename_i he
      split at h
      · rename_i hn
        cases h
        exact ip_lald hx hb hK he (ip_in_of hn) hdg k
      · cases h
    · cases h
  · cases h
theorem ip_s_aaload (h : ip_st Fd Ft Cn Nw nL ini (.aaload) pc lo st w = some r) (hx : p.tables.exec = Jvm.exec) (hb : c.code = cc) (hdg : decode cc pc = .ok (.aaload, 1)) (hK : va_K D cl (ip_T aC) s) (k : ip_Vr p l e R s m args below meth c D cl aC b sc nL n0 s0 Q r) : ip_V p l e R s m args below meth c D cl aC b sc nL n0 s0 Q w pc lo st := by
  simp only [ip_st] at h
  split at h
  · split at h
    · rename_i he
      split at h
      · rename_i hn
        cases h
        exact ip_aald hx hb hK he (ip_in_of hn) hdg k
      · cases h
    · cases h
  · cases h
theorem ip_s_iastore (h : ip_st Fd Ft Cn Nw nL ini (.iastore) pc lo st w = some r) (hx : p.tables.exec = Jvm.exec) (hb : c.code = cc) (hdg : decode cc pc = .ok (.iastore, 1)) (hK : va_K D cl (ip_T aC) s) (k : ip_Vr p l e R s m args below meth c D cl aC b sc nL n0 s0 Q r) : ip_V p l e R s m args below meth c D cl aC b sc nL n0 s0 Q w pc lo st := by
  simp only [ip_st] at h
  split at h
  · split at h
    · rename_i he
      split at h
      · rename_i hn
        cases h
        exact ip_iast hx hb hK he (ip_in_of hn) hdg k
      · cases h
    · cases h
  · cases h
theorem ip_s_bastore (h : ip_st Fd Ft Cn Nw nL ini (.bastore) pc lo st w = some r) (hx : p.tables.exec = Jvm.exec) (hb : c.code = cc) (hdg : decode cc pc = .ok (.bastore, 1)) (hK : va_K D cl (ip_T aC) s) (k : ip_Vr p l e R s m args below meth c D cl aC b sc nL n0 s0 Q r) : ip_V p l e R s m args below meth c D cl aC b sc nL n0 s0 Q w pc lo st := by
  simp only [ip_st] at h
  split at h
  · split at h
    · rename_i he
      split at h
      · rename_i hn
        cases h
        exact ip_bast hx hb hK he (ip_in_of hn) hdg k
      · cases h
    · rename_i he
      split at h
      · rename_i hn
        cases h
        exact ip_zast hx hb hK he (ip_in_of hn) hdg k
      · cases h
    · cases h
  · cases h
theorem ip_s_lastore (h : ip_st Fd Ft Cn Nw nL ini (.lastore) pc lo st w = some r) (hx : p.tables.exec = Jvm.exec) (hb : c.code = cc) (hdg : decode cc pc = .ok (.lastore, 1)) (hK : va_K D cl (ip_T aC) s) (k : ip_Vr p l e R s m args below meth c D cl aC b sc nL n0 s0 Q r) : ip_V p l e R s m args below meth c D cl aC b sc nL n0 s0 Q w pc lo st := by
  simp only [ip_st] at h
  split at h
  · split at h
    · rename_i he
      split at h
      · rename_i hn
        cases h
        exact ip_last hx hb hK he (ip_in_of hn) hdg k
      · cases h
    · cases h
  · cases h
theorem ip_s_aastore (h : ip_st Fd Ft Cn Nw nL ini (.aastore) pc lo st w = some r) (hx : p.tables.exec = Jvm.exec) (hb : c.code = cc) (hdg : decode cc pc = .ok (.aastore, 1)) (hK : va_K D cl (ip_T aC) s) {r11 : vw_C} (hS11 : cl[11]? = some r11 ∧ r11.1 = "VitalTwin$Symbol") (k : ip_Vr p l e R s m args below meth c D cl aC b sc nL n0 s0 Q r) : ip_V p l e R s m args below meth c D cl aC b sc nL n0 s0 Q w pc lo st := by
  simp only [ip_st] at h
  split at h
  · split at h
    · rename_i he hv
      split at h
      · rename_i hn
        cases h
        exact ip_aast hx hb hK he hv hS11.1 hS11.2 (ip_in_of hn) hdg k
      · cases h
    · cases h
  · cases h
/-- what the tables say of a class' fields -/
def ip_Fok (Ts : List Cond) (C : String) (T : u_T) (N : Nat) : Prop := (∀ w ∈ u_ws C T N, w ∈ Ts) ∧ (∀ a, a < N → ∀ b, b < N → a ≠ b → (T a).2.1 ≠ (T b).2.1) ∧ ∃ ty0 : Nat → FieldType, ∀ k, k < N → parseFieldDescriptor (T k).2.2.1 = some (ty0 k)
def ip_ty (tc : Nat) (ty : FieldType) : Prop := (tc = 0 ∧ ty = .int) ∨ (tc = 1 ∧ ty = .long) ∨ (tc = 2 ∧ ty = .boolean) ∨ (tc = 3 ∧ ((∃ n, ty = .object n) ∨ ∃ t, ty = .array t))
theorem ip_ty_ok {tc : Nat} {ty : FieldType} {v : Value} (ht : ip_ty tc ty) (hv : ip_fok tc v = true) : narrow ty (ip_v b sc v) = ip_v b sc v ∧ fits ty (ip_v b sc v) = true := by
  rcases ht with ⟨rfl, rfl⟩ | ⟨rfl, rfl⟩ | ⟨rfl, rfl⟩ | ⟨rfl, ⟨n, rfl⟩ | ⟨t, rfl⟩⟩
  · cases v <;> simp [ip_fok] at hv
    exact ⟨rfl, rfl⟩
  · cases v <;> simp [ip_fok] at hv
    exact ⟨rfl, rfl⟩
  · cases v <;> simp [ip_fok] at hv
    rcases hv with rfl | rfl <;> exact ⟨rfl, rfl⟩
  · cases v <;> simp [ip_fok] at hv <;> exact ⟨rfl, rfl⟩
  · cases v <;> simp [ip_fok] at hv <;> exact ⟨rfl, rfl⟩
theorem ip_s_getfield {kx : Nat} (h : ip_st Fd Ft Cn Nw nL ini (.getfield kx) pc lo st w = some r) (hx : p.tables.exec = Jvm.exec) (hb : c.code = cc) (hdg : decode cc pc = .ok (.getfield kx, 3)) (hK : va_K D cl (ip_T aC) s) (hts : ip_TK Ts s) (hown : s.vm.findClass own = some m.cls) (hFd : ∀ (k ci j : Nat), Fd k = some (ci, j) → ∃ (C : String) (T : u_T) (N : Nat), cl[ci]? = some (C, T, N) ∧ j < N ∧ Cond.fieldLink own k (T j).1 (T j).2.1 (T j).2.2.1 ∈ Ts) (hcl : ∀ (ci : Nat) (C : String) (T : u_T) (N : Nat), cl[ci]? = some (C, T, N) → ip_Fok Ts C T N) (k : ip_Vr p l e R s m args below meth c D cl aC b sc nL n0 s0 Q r) : ip_V p l e R s m args below meth c D cl aC b sc nL n0 s0 Q w pc lo st := by
  simp only [ip_st] at h
  split at h
  · split at h
    · rename_i hf he
      split at h
      · rename_i hci
        subst hci
        split at h
        · rename_i hv
          cases h
          obtain ⟨C, T, N, hc, hj, hlk⟩ := hFd _ _ _ hf
          exact ip_getf hx hb (fun w hw => hts w hw args) (hcl _ _ _ _ hc).1 hown hK he hc _ hj (hts _ hlk args) (fun _ h9 => h9) hv hdg k
        · cases h
      · cases h
    · cases h
  · cases h
theorem ip_s_putfield {kx : Nat} (h : ip_st Fd Ft Cn Nw nL ini (.putfield kx) pc lo st w = some r) (hx : p.tables.exec = Jvm.exec) (hb : c.code = cc) (hdg : decode cc pc = .ok (.putfield kx, 3)) (hK : va_K D cl (ip_T aC) s) (hts : ip_TK Ts s) (hown : s.vm.findClass own = some m.cls) (hFd : ∀ (k ci j : Nat), Fd k = some (ci, j) → ∃ (C : String) (T : u_T) (N : Nat), cl[ci]? = some (C, T, N) ∧ j < N ∧ Cond.fieldLink own k (T j).1 (T j).2.1 (T j).2.2.1 ∈ Ts) (hcl : ∀ (ci : Nat) (C : String) (T : u_T) (N : Nat), cl[ci]? = some (C, T, N) → ip_Fok Ts C T N) (hFt : ∀ (ci j tc : Nat) (fin : Bool) (C : String) (T : u_T) (N : Nat), Ft ci j = some (tc, fin) → cl[ci]? = some (C, T, N) → j < N → (T j).2.2.2 = fin ∧ ∃ ty, parseFieldDescriptor (T j).2.2.1 = some ty ∧ ip_ty tc ty) (hini : ∀ (ci : Nat) (C : String) (T : u_T) (N : Nat), ini = some ci → cl[ci]? = some (C, T, N) → meth.name = "<init>" ∧ ∀ j, j < N → (T j).1 = own) (k : ip_Vr p l e R s m args below meth c D cl aC b sc nL n0 s0 Q r) : ip_V p l e R s m args below meth c D cl aC b sc nL n0 s0 Q w pc lo st := by
  simp only [ip_st] at h
  split at h
  · split at h
    · rename_i hf he
      split at h
      · rename_i hft
        split at h
        · rename_i hcc
          obtain ⟨hci, hfo, hjl, hfin⟩ := hcc
          subst hci
          cases h
          obtain ⟨C, T, N, hc, hj, hlk⟩ := hFd _ _ _ hf
          obtain ⟨hin, hnm, ty0, hty⟩ := hcl _ _ _ _ hc
          obtain ⟨hf1, ty, hd, hty2⟩ := hFt _ _ _ _ _ _ _ hft hc hj
          obtain ⟨hn, hfit⟩ := ip_ty_ok (b := b) (sc := sc) hty2 hfo
          cases hfb : (T _).2.2.2 with
          | false => exact ip_putf hx hb (fun w hw => hts w hw args) hin ty0 hty hnm hown hK he hc _ hj (hts _ hlk args) (fun _ h9 => h9) hfb hd hn hfit hjl hdg k
          | true =>
            have h7 := hini _ _ _ _ (hfin (by rw [← hf1]; exact hfb)) hc
            exact ip_putfF hx hb (fun w hw => hts w hw args) hin ty0 hty hnm hown hK he hc _ hj (hts _ hlk args) (fun _ h9 => h9) hfb h7.1 (h7.2 _ hj) hd hn hfit hjl hdg k
        · cases h
      · cases h
    · cases h
  · cases h
theorem ip_s_new {kx : Nat} (h : ip_st Fd Ft Cn Nw nL ini (.new kx) pc lo st w = some r) (hx : p.tables.exec = Jvm.exec) (hb : c.code = cc) (hdg : decode cc pc = .ok (.new kx, 3)) (hK : va_K D cl (ip_T aC) s) (hts : ip_TK Ts s) (hown : s.vm.findClass own = some m.cls) (hFd : ∀ (k ci j : Nat), Fd k = some (ci, j) → ∃ (C : String) (T : u_T) (N : Nat), cl[ci]? = some (C, T, N) ∧ j < N ∧ Cond.fieldLink own k (T j).1 (T j).2.1 (T j).2.2.1 ∈ Ts) (hcl : ∀ (ci : Nat) (C : String) (T : u_T) (N : Nat), cl[ci]? = some (C, T, N) → ip_Fok Ts C T N) (hn0 : n0 ≤ w.1) (hs0 : s0 ≤ w.2.1) (hcells : r.2.2.2.1 ≤ n0 + R.cells) (hslots : r.2.2.2.2.1 ≤ s0 + R.slots) (hNw : ∀ (k ci : Nat) (fs : List Value), Nw k = some (ci, fs) → ∃ (C : String) (T : u_T) (N : Nat) (ty : Nat → FieldType), cl[ci]? = some (C, T, N) ∧ Cond.classLink own k C ∈ Ts ∧ Cond.instantiable C N ∈ Ts ∧ Cond.initialized C ∈ Ts ∧ N = fs.length ∧ (∀ k, k < N → parseFieldDescriptor (T k).2.2.1 = some (ty k)) ∧ ∀ j, j < N → defaultValue (ty j) = vp_V (fs.map (ip_v b sc)) j) (k : ip_Vr p l e R s m args below meth c D cl aC b sc nL n0 s0 Q r) : ip_V p l e R s m args below meth c D cl aC b sc nL n0 s0 Q w pc lo st := by
  simp only [ip_st] at h
  split at h
  · rename_i hnw
    cases h
    obtain ⟨C, T, N, ty, hc, hlk, hinst, hinit, hlen, hty, hfs⟩ := hNw _ _ _ hnw
    subst hlen
    exact ip_new hx hb (fun w hw => hts w hw args) (hcl _ _ _ _ hc).1 ty hty hown (hts _ hlk args) (hts _ hinst args) (hts _ hinit args) hK hc hfs hn0 hs0 hcells hslots hdg k
  · cases h
end IPS
