/-! part 02: the rules of fields, arrays, new -/
/-- the kinds of arrays: 0 int, 1 byte, 2 long, 3 boolean, 4 of Symbols -/
def ip_T (aC : Nat → ClassId) : List (ClassId × FieldType) := [(aC 0, .int), (aC 1, .byte), (aC 2, .long), (aC 3, .boolean), (aC 4, .object "VitalTwin$Symbol")]
/-- one cell of a world turns, all else stays -/
theorem ip_G.turn {D : va_G} {cl : List vw_C} {aC : Nat → ClassId} {b : Nat} {sc : Nat → Nat} {w : ip_W} {H H1 : Heap} {a : Nat} {x : ip_E} (h : ip_G D cl aC b sc w H) (z : H1.size = H.size) (oq : ∀ q : Nat, q ≠ b + a → H1[q]? = H[q]?) (ha : va_at D cl (b + a, ip_e b sc aC x) H1) : ip_G D cl aC b sc (w.1, w.2.1, va_up w.2.2 a (some x)) H1 := by
  refine ⟨by rw [z]; exact h.1, fun k y hk => ?_⟩
  by_cases hka : k = a
  · subst hka
    have hk' : va_up w.2.2 k (some x) k = some y := hk
    simp [va_up] at hk'
    subst hk'
    exact ha
  · have hk' : va_up w.2.2 a (some x) k = some y := hk
    simp [va_up, hka] at hk'
    exact (h.2 k y hk').kept (oq (b + k) (by omega))
/-- a world grows by a cell -/
theorem ip_G.grow {D : va_G} {cl : List vw_C} {aC : Nat → ClassId} {b : Nat} {sc : Nat → Nat} {w : ip_W} {H H1 : Heap} {N : Nat} {x : ip_E} (h : ip_G D cl aC b sc w H) (z : H1.size = H.size + 1) (oq : ∀ q : Nat, q < H.size → H1[q]? = H[q]?) (ha : va_at D cl (b + w.1, ip_e b sc aC x) H1) : ip_G D cl aC b sc (w.1 + 1, w.2.1 + N, va_up w.2.2 w.1 (some x)) H1 := by
  refine ⟨by show H1.size = b + (w.1 + 1); rw [z, h.1]; omega, fun k y hk => ?_⟩
  by_cases hka : k = w.1
  · have hk' : va_up w.2.2 w.1 (some x) k = some y := hk
    rw [hka] at hk' ⊢
    simp [va_up] at hk'
    subst hk'
    exact ha
  · have hk' : va_up w.2.2 w.1 (some x) k = some y := hk
    simp [va_up, hka] at hk'
    have h2 := h.2 k y hk'
    exact h2.kept (oq (b + k) h2.lt)
theorem ip_S.grow {A : Nat → Prop} {H0 H H1 : Heap} {locs : List Loc} (hS : va_S A H0 H locs) (z : H1.size = H.size + 1) (oq : ∀ q : Nat, q < H.size → H1[q]? = H[q]?) : va_S A H0 H1 locs :=
  ⟨Nat.le_trans hS.1 (by omega), fun x h1 h2 => (oq x (Nat.lt_of_lt_of_le h1 hS.1)).trans (hS.2.1 x h1 h2), hS.2.2⟩
section IPH
variable {p : Program} {l : Launch} {e : Env} {R : Room} {s : State} {m : MethodId} {args : Array Value} {below : List Frame} {meth : Method} {c : Code} {Q : State → Prop}
variable {D : va_G} {cl : List vw_C} {aC : Nat → ClassId} {b : Nat} {sc : Nat → Nat} {nL n0 s0 : Nat} {cc : ByteArray} {w : ip_W} {pc : Nat} {lo : List (Nat × Value)} {st : List Value}
theorem ip_getf (hx : p.tables.exec = Jvm.exec) (hb : c.code = cc) {own ref C : String} {T : u_T} {N ci index a : Nat} {Ts : List Cond} (hts : ∀ w ∈ Ts, w.before args s = true) (hin : ∀ w ∈ u_ws C T N, w ∈ Ts) (hown : s.vm.findClass own = some m.cls) (hK : va_K D cl (ip_T aC) s) {fs : List Value} (he : w.2.2 a = some (.inr (ci, fs))) (hc : cl[ci]? = some (C, T, N)) (j : Nat) (hj : j < N) (hlink : (Cond.fieldLink own index ref (T j).2.1 (T j).2.2.1).before args s = true) (hsame : ∀ x, s.fieldFound? (T j).1 (T j).2.1 (T j).2.2.1 = some x → s.fieldFound? ref (T j).2.1 (T j).2.2.1 = some x) {v : Value} (hv : fs[j]? = some v) (hdg : decode cc pc = .ok (.getfield index, 3)) (k : ip_V p l e R s m args below meth c D cl aC b sc nL n0 s0 Q w (pc + 3) lo (v :: st)) : ip_V p l e R s m args below meth c D cl aC b sc nL n0 s0 Q w pc lo (.ref a :: st) := by
  intro H locs ls hG hS hl
  have hP : va_P D cl [(b + a, ip_e b sc aC (.inr (ci, fs)))] H := fun i q hi => by
    have hz : i < 1 := (List.getElem?_eq_some_iff.mp hi).1
    rw [show i = 0 by omega] at hi
    cases hi
    exact hG.2 a _ he
  exact va_get hx hb hts hin hown hK hP 0 rfl hc j hj hlink hsame (v := ip_v b sc v) (by rw [List.getElem?_map, hv]; rfl) hdg (k H locs ls hG hS hl)
theorem ip_putf (hx : p.tables.exec = Jvm.exec) (hb : c.code = cc) {own ref C : String} {T : u_T} {N ci index a : Nat} {Ts : List Cond} (hts : ∀ w ∈ Ts, w.before args s = true) (hin : ∀ w ∈ u_ws C T N, w ∈ Ts) (ty0 : Nat → FieldType) (hty : ∀ k, k < N → parseFieldDescriptor (T k).2.2.1 = some (ty0 k)) (hnm : ∀ a, a < N → ∀ b, b < N → a ≠ b → (T a).2.1 ≠ (T b).2.1) (hown : s.vm.findClass own = some m.cls) (hK : va_K D cl (ip_T aC) s) {fs : List Value} (he : w.2.2 a = some (.inr (ci, fs))) (hc : cl[ci]? = some (C, T, N)) (j : Nat) (hj : j < N) (hlink : (Cond.fieldLink own index ref (T j).2.1 (T j).2.2.1).before args s = true) (hsame : ∀ x, s.fieldFound? (T j).1 (T j).2.1 (T j).2.2.1 = some x → s.fieldFound? ref (T j).2.1 (T j).2.2.1 = some x) (hfin : (T j).2.2.2 = false) {ty : FieldType} {v : Value} (hd : parseFieldDescriptor (T j).2.2.1 = some ty) (hn : narrow ty (ip_v b sc v) = ip_v b sc v) (hfit : fits ty (ip_v b sc v) = true) (hlen : j < fs.length) (hdg : decode cc pc = .ok (.putfield index, 3))
    (k : ip_V p l e R s m args below meth c D cl aC b sc nL n0 s0 Q (w.1, w.2.1, va_up w.2.2 a (some (.inr (ci, fs.set j v)))) (pc + 3) lo st) : ip_V p l e R s m args below meth c D cl aC b sc nL n0 s0 Q w pc lo (v :: .ref a :: st) := by
  intro H locs ls hG hS hl
  have hap := va_apart (own := own) hts hin ty0 hty hnm hK hc
  obtain ⟨r, h1, cell, q1, q2, q3, q4⟩ := hG.2 a _ he
  have hr : r = (C, T, N) := Option.some.inj (h1.symm.trans hc)
  subst hr
  obtain ⟨hSl, hfc, kC, hkC, hkind⟩ := hK.1 ci _ hc
  obtain ⟨cf, kf, fi, f, hi, hsl⟩ := hSl j hj
  have hlay := hts _ (hin _ (u_in_lay hj))
  unfold u_lay at hlay
  rw [if_neg (by rw [hfin]; decide)] at hlay
  have hst := (u_facts hfc hkC (u_lays hts hin hj) hi).1
  have h6 := u_store hfc hkC hkind hlay hi hd hn hfit
  refine W.putK hx hb (f := f) ⟨hown, hlink, ⟨_, _, _, hsame _ hi⟩, hst⟩ (by rw [q2]; exact h6) q1 q3 (by rw [hsl]; exact k2_hasslot (q4 j hj)) rfl rfl hdg fun H' e1 e2 e3 => ?_
  rw [hsl] at e1 ⊢
  refine k H' _ ls (hG.turn (a := a) (x := .inr (ci, fs.set j v)) e2 e3 ?_) (hS.put e2 e3 (Nat.le_add_right b a)) hl
  refine ⟨_, hc, t_OB.to (V := updV (vp_V (fs.map (ip_v b sc))) j (ip_v b sc v)) ⟨_, e1, q2, q3, t_set q4 hap hj _⟩ (fun i _ => ?_)⟩
  rw [vp_updV_set (by rw [List.length_map]; exact hlen), ← List.map_set]
theorem ip_putfF (hx : p.tables.exec = Jvm.exec) (hb : c.code = cc) {own ref C : String} {T : u_T} {N ci index a : Nat} {Ts : List Cond} (hts : ∀ w ∈ Ts, w.before args s = true) (hin : ∀ w ∈ u_ws C T N, w ∈ Ts) (ty0 : Nat → FieldType) (hty : ∀ k, k < N → parseFieldDescriptor (T k).2.2.1 = some (ty0 k)) (hnm : ∀ a, a < N → ∀ b, b < N → a ≠ b → (T a).2.1 ≠ (T b).2.1) (hown : s.vm.findClass own = some m.cls) (hK : va_K D cl (ip_T aC) s) {fs : List Value} (he : w.2.2 a = some (.inr (ci, fs))) (hc : cl[ci]? = some (C, T, N)) (j : Nat) (hj : j < N) (hlink : (Cond.fieldLink own index ref (T j).2.1 (T j).2.2.1).before args s = true) (hsame : ∀ x, s.fieldFound? (T j).1 (T j).2.1 (T j).2.2.1 = some x → s.fieldFound? ref (T j).2.1 (T j).2.2.1 = some x) (hfin : (T j).2.2.2 = true) (hin2 : meth.name = "<init>") (hdecl : (T j).1 = own) {ty : FieldType} {v : Value} (hd : parseFieldDescriptor (T j).2.2.1 = some ty) (hn : narrow ty (ip_v b sc v) = ip_v b sc v) (hfit : fits ty (ip_v b sc v) = true) (hlen : j < fs.length) (hdg : decode cc pc = .ok (.putfield index, 3))
    (k : ip_V p l e R s m args below meth c D cl aC b sc nL n0 s0 Q (w.1, w.2.1, va_up w.2.2 a (some (.inr (ci, fs.set j v)))) (pc + 3) lo st) : ip_V p l e R s m args below meth c D cl aC b sc nL n0 s0 Q w pc lo (v :: .ref a :: st) := by
  intro H locs ls hG hS hl
  have hap := va_apart (own := own) hts hin ty0 hty hnm hK hc
  obtain ⟨r, h1, cell, q1, q2, q3, q4⟩ := hG.2 a _ he
  have hr : r = (C, T, N) := Option.some.inj (h1.symm.trans hc)
  subst hr
  obtain ⟨hSl, hfc, kC, hkC, hkind⟩ := hK.1 ci _ hc
  obtain ⟨cf, kf, fi, f, hi, hsl⟩ := hSl j hj
  have hlay := hts _ (hin _ (u_in_lay hj))
  unfold u_lay at hlay
  rw [if_pos hfin] at hlay
  have hst := (u_facts hfc hkC (u_lays hts hin hj) hi).1
  have hcf : m.cls = cf := by
    obtain ⟨_, _, c', _, _, _, -, -, hf', -, -, -, hown2, -⟩ := Cond.laysFinal_spec hlay
    have e1 : c' = cf := by have := hi.symm.trans hf'; simp at this; exact this.1.symm
    rw [hdecl] at hown2
    rw [← e1]; exact Option.some.inj (hown.symm.trans hown2)
  have h6 := u_fits hfc hkC hkind (Or.inr hlay) hi hd hn hfit
  refine W.putFinK hx hb hown hlink (hsame _ hi) hst hcf hin2 (by rw [q2]; exact h6) q1 q3 (by rw [hsl]; exact k2_hasslot (q4 j hj)) rfl rfl hdg fun H' e1 e2 e3 => ?_
  rw [hsl] at e1 ⊢
  refine k H' _ ls (hG.turn (a := a) (x := .inr (ci, fs.set j v)) e2 e3 ?_) (hS.put e2 e3 (Nat.le_add_right b a)) hl
  refine ⟨_, hc, t_OB.to (V := updV (vp_V (fs.map (ip_v b sc))) j (ip_v b sc v)) ⟨_, e1, q2, q3, t_set q4 hap hj _⟩ (fun i _ => ?_)⟩
  rw [vp_updV_set (by rw [List.length_map]; exact hlen), ← List.map_set]
theorem ip_iald (hx : p.tables.exec = Jvm.exec) (hb : c.code = cc) (hK : va_K D cl (ip_T aC) s) {a n : Nat} {f : Nat → Int32} (he : w.2.2 a = some (.inl (0, n, .inl f))) {i : Int32} (hin : vp_in i n) (hdg : decode cc pc = .ok (.iaload, 1)) (k : ip_V p l e R s m args below meth c D cl aC b sc nL n0 s0 Q w (pc + 1) lo (.int (f i.toNatClampNeg) :: st)) : ip_V p l e R s m args below meth c D cl aC b sc nL n0 s0 Q w pc lo (.int i :: .ref a :: st) := by
  intro H locs ls hG hS hl
  have hP : va_P D cl [(b + a, ip_e b sc aC (.inl (0, n, .inl f)))] H := fun i q hi => by
    have hz : i < 1 := (List.getElem?_eq_some_iff.mp hi).1
    rw [show i = 0 by omega] at hi
    cases hi
    exact hG.2 a _ he
  exact va_iald hx hb hK hP 0 0 rfl rfl hin hdg (k H locs ls hG hS hl)
theorem ip_bald (hx : p.tables.exec = Jvm.exec) (hb : c.code = cc) (hK : va_K D cl (ip_T aC) s) {a n : Nat} {f : Nat → Int32} (he : w.2.2 a = some (.inl (1, n, .inl f))) {i : Int32} (hin : vp_in i n) (hdg : decode cc pc = .ok (.baload, 1)) (k : ip_V p l e R s m args below meth c D cl aC b sc nL n0 s0 Q w (pc + 1) lo (.int (f i.toNatClampNeg) :: st)) : ip_V p l e R s m args below meth c D cl aC b sc nL n0 s0 Q w pc lo (.int i :: .ref a :: st) := by
  intro H locs ls hG hS hl
  have hP : va_P D cl [(b + a, ip_e b sc aC (.inl (1, n, .inl f)))] H := fun i q hi => by
    have hz : i < 1 := (List.getElem?_eq_some_iff.mp hi).1
    rw [show i = 0 by omega] at hi
    cases hi
    exact hG.2 a _ he
  exact va_bald hx hb hK hP 0 1 rfl rfl hin hdg (k H locs ls hG hS hl)
theorem ip_zald (hx : p.tables.exec = Jvm.exec) (hb : c.code = cc) (hK : va_K D cl (ip_T aC) s) {a n : Nat} {f : Nat → Int32} (he : w.2.2 a = some (.inl (3, n, .inl f))) {i : Int32} (hin : vp_in i n) (hdg : decode cc pc = .ok (.baload, 1)) (k : ip_V p l e R s m args below meth c D cl aC b sc nL n0 s0 Q w (pc + 1) lo (.int (f i.toNatClampNeg) :: st)) : ip_V p l e R s m args below meth c D cl aC b sc nL n0 s0 Q w pc lo (.int i :: .ref a :: st) := by
  intro H locs ls hG hS hl
  have hP : va_P D cl [(b + a, ip_e b sc aC (.inl (3, n, .inl f)))] H := fun i q hi => by
    have hz : i < 1 := (List.getElem?_eq_some_iff.mp hi).1
    rw [show i = 0 by omega] at hi
    cases hi
    exact hG.2 a _ he
  exact va_zald hx hb hK hP 0 3 rfl rfl hin hdg (k H locs ls hG hS hl)
theorem ip_lald (hx : p.tables.exec = Jvm.exec) (hb : c.code = cc) (hK : va_K D cl (ip_T aC) s) {a n : Nat} {f : Nat → Int64} (he : w.2.2 a = some (.inl (2, n, .inr (.inl f)))) {i : Int32} (hin : vp_in i n) (hdg : decode cc pc = .ok (.laload, 1)) (k : ip_V p l e R s m args below meth c D cl aC b sc nL n0 s0 Q w (pc + 1) lo (.long (f i.toNatClampNeg) :: st)) : ip_V p l e R s m args below meth c D cl aC b sc nL n0 s0 Q w pc lo (.int i :: .ref a :: st) := by
  intro H locs ls hG hS hl
  have hP : va_P D cl [(b + a, ip_e b sc aC (.inl (2, n, .inr (.inl f))))] H := fun i q hi => by
    have hz : i < 1 := (List.getElem?_eq_some_iff.mp hi).1
    rw [show i = 0 by omega] at hi
    cases hi
    exact hG.2 a _ he
  exact va_lald hx hb hK hP 0 2 rfl rfl hin hdg (k H locs ls hG hS hl)
def ip_r (r : Option Nat) : Value := match r with
  | none => .null
  | some a => .ref a
theorem ip_aald (hx : p.tables.exec = Jvm.exec) (hb : c.code = cc) (hK : va_K D cl (ip_T aC) s) {a n : Nat} {f : Nat → Option Nat} (he : w.2.2 a = some (.inl (4, n, .inr (.inr f)))) {i : Int32} (hin : vp_in i n) (hdg : decode cc pc = .ok (.aaload, 1)) (k : ip_V p l e R s m args below meth c D cl aC b sc nL n0 s0 Q w (pc + 1) lo (ip_r (f i.toNatClampNeg) :: st)) : ip_V p l e R s m args below meth c D cl aC b sc nL n0 s0 Q w pc lo (.int i :: .ref a :: st) := by
  intro H locs ls hG hS hl
  have hP : va_P D cl [(b + a, ip_e b sc aC (.inl (4, n, .inr (.inr f))))] H := fun i q hi => by
    have hz : i < 1 := (List.getElem?_eq_some_iff.mp hi).1
    rw [show i = 0 by omega] at hi
    cases hi
    exact hG.2 a _ he
  have kk := k H locs ls hG hS hl
  refine va_aldq hx hb hK hP 0 4 rfl rfl hin hdg ?_
  have e1 : va_rf ((f i.toNatClampNeg).map (fun a => b + a)) = ip_v b sc (ip_r (f i.toNatClampNeg)) := by cases f i.toNatClampNeg <;> rfl
  rw [e1]
  exact kk
theorem ip_alen (hx : p.tables.exec = Jvm.exec) (hb : c.code = cc) (hK : va_K D cl (ip_T aC) s) {a kd n : Nat} {x : ip_A} (hkd : kd < 5) (he : w.2.2 a = some (.inl (kd, n, x))) (hdg : decode cc pc = .ok (.arraylength, 1)) (k : ip_V p l e R s m args below meth c D cl aC b sc nL n0 s0 Q w (pc + 1) lo (.int (Int32.ofNat n) :: st)) : ip_V p l e R s m args below meth c D cl aC b sc nL n0 s0 Q w pc lo (.ref a :: st) := by
  intro H locs ls hG hS hl
  have kk := k H locs ls hG hS hl
  have ht : ∃ ty, (ip_T aC)[kd]? = some (aC kd, ty) := by
    rcases (show kd = 0 ∨ kd = 1 ∨ kd = 2 ∨ kd = 3 ∨ kd = 4 by omega) with rfl | rfl | rfl | rfl | rfl <;> exact ⟨_, rfl⟩
  obtain ⟨ty, ht⟩ := ht
  obtain f | f | f := x
  all_goals
    have hP : va_P D cl [(b + a, ip_e b sc aC _)] H := fun i q hi => by
      have hz : i < 1 := (List.getElem?_eq_some_iff.mp hi).1
      rw [show i = 0 by omega] at hi
      cases hi
      exact hG.2 a _ he
    exact va_alen hx hb hK hP 0 kd rfl ht rfl hdg kk
theorem ip_iast (hx : p.tables.exec = Jvm.exec) (hb : c.code = cc) (hK : va_K D cl (ip_T aC) s) {a n : Nat} {f : Nat → Int32} (he : w.2.2 a = some (.inl (0, n, .inl f))) {i : Int32} {x : Int32} (hin : vp_in i n) (hdg : decode cc pc = .ok (.iastore, 1)) (k : ip_V p l e R s m args below meth c D cl aC b sc nL n0 s0 Q (w.1, w.2.1, va_up w.2.2 a (some (.inl (0, n, .inl (upd f i.toNatClampNeg x))))) (pc + 1) lo st) : ip_V p l e R s m args below meth c D cl aC b sc nL n0 s0 Q w pc lo (.int x :: .int i :: .ref a :: st) := by
  intro H locs ls hG hS hl
  have hcell : H[b + a]? = some (vp_cell (aC 0) (n, .inl f)) := hG.2 a _ he
  refine W.iast hx hb hcell ((hK.2 0 _ rfl).1 n (fun j => .int (f j))) (fun q => by cases q) (by show ¬ (i < 0 ∨ (arrV _ _ _).slots.size ≤ _); rw [arrV_size]; exact hin) rfl rfl hdg fun H1 e1 z oq => ?_
  refine k H1 _ ls (hG.turn (a := a) (x := .inl (0, n, .inl (upd f i.toNatClampNeg x))) z oq ?_) (hS.put z oq (Nat.le_add_right b a)) hl
  show H1[b + a]? = some (vp_cell (aC 0) (n, .inl (upd f i.toNatClampNeg x)))
  rw [e1]
  rw [vp_cell_i, vp_cell_i, arrV_store]
  congr 2
  funext q
  by_cases hq : q = i.toNatClampNeg
  · subst hq
    simp [updV, upd]
  · simp [updV, upd, hq]
theorem ip_bast (hx : p.tables.exec = Jvm.exec) (hb : c.code = cc) (hK : va_K D cl (ip_T aC) s) {a n : Nat} {f : Nat → Int32} (he : w.2.2 a = some (.inl (1, n, .inl f))) {i : Int32} {x : Int32} (hin : vp_in i n) (hdg : decode cc pc = .ok (.bastore, 1)) (k : ip_V p l e R s m args below meth c D cl aC b sc nL n0 s0 Q (w.1, w.2.1, va_up w.2.2 a (some (.inl (1, n, .inl (upd f i.toNatClampNeg (vp_nar .byte x)))))) (pc + 1) lo st) : ip_V p l e R s m args below meth c D cl aC b sc nL n0 s0 Q w pc lo (.int x :: .int i :: .ref a :: st) := by
  intro H locs ls hG hS hl
  have hcell : H[b + a]? = some (vp_cell (aC 1) (n, .inl f)) := hG.2 a _ he
  refine W.bast hx hb hcell ((hK.2 1 _ rfl).1 n (fun j => .int (f j))) (fun q => by cases q) (by show ¬ (i < 0 ∨ (arrV _ _ _).slots.size ≤ _); rw [arrV_size]; exact hin) rfl rfl hdg fun H1 e1 z oq => ?_
  refine k H1 _ ls (hG.turn (a := a) (x := .inl (1, n, .inl (upd f i.toNatClampNeg (vp_nar .byte x)))) z oq ?_) (hS.put z oq (Nat.le_add_right b a)) hl
  show H1[b + a]? = some (vp_cell (aC 1) (n, .inl (upd f i.toNatClampNeg (vp_nar .byte x))))
  rw [e1]
  rw [vp_cell_i, vp_cell_i, arrV_store]
  congr 2
  funext q
  by_cases hq : q = i.toNatClampNeg
  · subst hq
    simp [updV, upd, vp_nar]
    try rfl
  · simp [updV, upd, hq]
theorem ip_zast (hx : p.tables.exec = Jvm.exec) (hb : c.code = cc) (hK : va_K D cl (ip_T aC) s) {a n : Nat} {f : Nat → Int32} (he : w.2.2 a = some (.inl (3, n, .inl f))) {i : Int32} {x : Int32} (hin : vp_in i n) (hdg : decode cc pc = .ok (.bastore, 1)) (k : ip_V p l e R s m args below meth c D cl aC b sc nL n0 s0 Q (w.1, w.2.1, va_up w.2.2 a (some (.inl (3, n, .inl (upd f i.toNatClampNeg (vp_nar .boolean x)))))) (pc + 1) lo st) : ip_V p l e R s m args below meth c D cl aC b sc nL n0 s0 Q w pc lo (.int x :: .int i :: .ref a :: st) := by
  intro H locs ls hG hS hl
  have hcell : H[b + a]? = some (vp_cell (aC 3) (n, .inl f)) := hG.2 a _ he
  refine W.zast hx hb hcell ((hK.2 3 _ rfl).1 n (fun j => .int (f j))) (fun q => by cases q) (by show ¬ (i < 0 ∨ (arrV _ _ _).slots.size ≤ _); rw [arrV_size]; exact hin) rfl rfl hdg fun H1 e1 z oq => ?_
  refine k H1 _ ls (hG.turn (a := a) (x := .inl (3, n, .inl (upd f i.toNatClampNeg (vp_nar .boolean x)))) z oq ?_) (hS.put z oq (Nat.le_add_right b a)) hl
  show H1[b + a]? = some (vp_cell (aC 3) (n, .inl (upd f i.toNatClampNeg (vp_nar .boolean x))))
  rw [e1]
  rw [vp_cell_i, vp_cell_i, arrV_store]
  congr 2
  funext q
  by_cases hq : q = i.toNatClampNeg
  · subst hq
    simp [updV, upd, vp_nar]
    try rfl
  · simp [updV, upd, hq]
theorem ip_last (hx : p.tables.exec = Jvm.exec) (hb : c.code = cc) (hK : va_K D cl (ip_T aC) s) {a n : Nat} {f : Nat → Int64} (he : w.2.2 a = some (.inl (2, n, .inr (.inl f)))) {i : Int32} {x : Int64} (hin : vp_in i n) (hdg : decode cc pc = .ok (.lastore, 1)) (k : ip_V p l e R s m args below meth c D cl aC b sc nL n0 s0 Q (w.1, w.2.1, va_up w.2.2 a (some (.inl (2, n, .inr (.inl (vp_updL f i.toNatClampNeg x)))))) (pc + 1) lo st) : ip_V p l e R s m args below meth c D cl aC b sc nL n0 s0 Q w pc lo (.long x :: .int i :: .ref a :: st) := by
  intro H locs ls hG hS hl
  have hcell : H[b + a]? = some (vp_cell (aC 2) (n, .inr (.inl f))) := hG.2 a _ he
  refine W.last hx hb hcell ((hK.2 2 _ rfl).1 n (fun j => .long (f j))) (fun q => by cases q) (by show ¬ (i < 0 ∨ (arrV _ _ _).slots.size ≤ _); rw [arrV_size]; exact hin) rfl rfl hdg fun H1 e1 z oq => ?_
  refine k H1 _ ls (hG.turn (a := a) (x := .inl (2, n, .inr (.inl (vp_updL f i.toNatClampNeg x)))) z oq ?_) (hS.put z oq (Nat.le_add_right b a)) hl
  show H1[b + a]? = some (vp_cell (aC 2) (n, .inr (.inl (vp_updL f i.toNatClampNeg x))))
  rw [e1]
  rw [vp_cell_l, vp_cell_l, arrV_store]
  congr 2
  funext q
  by_cases hq : q = i.toNatClampNeg
  · subst hq
    simp [updV, vp_updL]
  · simp [updV, vp_updL, hq]
theorem ip_aast (hx : p.tables.exec = Jvm.exec) (hb : c.code = cc) (hK : va_K D cl (ip_T aC) s) {a n v ci : Nat} {f : Nat → Option Nat} {vs : List Value} {r : vw_C} (he : w.2.2 a = some (.inl (4, n, .inr (.inr f)))) (hv : w.2.2 v = some (.inr (ci, vs))) (hc : cl[ci]? = some r) (hr1 : r.1 = "VitalTwin$Symbol") {i : Int32} (hin : vp_in i n) (hdg : decode cc pc = .ok (.aastore, 1)) (k : ip_V p l e R s m args below meth c D cl aC b sc nL n0 s0 Q (w.1, w.2.1, va_up w.2.2 a (some (.inl (4, n, .inr (.inr (va_up f i.toNatClampNeg (some v))))))) (pc + 1) lo st) : ip_V p l e R s m args below meth c D cl aC b sc nL n0 s0 Q w pc lo (.ref v :: .int i :: .ref a :: st) := by
  intro H locs ls hG hS hl
  have hcell : H[b + a]? = some (vp_cell (aC 4) (n, .inr (.inr (.inr (.inr (fun j => (f j).map (fun a => b + a))))))) := hG.2 a _ he
  have hlt : i.toNatClampNeg < n := Nat.not_le.mp fun q => hin (Or.inr q)
  have h0 : ¬ i < 0 := fun q => hin (Or.inl q)
  obtain ⟨r', hr', cellV, g1, g2, g3, -⟩ := hG.2 v _ hv
  have hcls := (hK.1 ci r hc).2
  obtain ⟨kA, comp, k1, k2, k3, -⟩ := (hK.2 4 (aC 4, .object "VitalTwin$Symbol") rfl).2
  rw [hr1] at hcls
  have hcomp : comp = D.1 ci := Option.some.inj (k3.symm.trans hcls.1)
  subst hcomp
  obtain ⟨kC, hkC, -⟩ := hcls.2
  refine W.aast hx hb hcell (fun q h => by cases h) (fun h => by cases h) k1 k2 rfl hkC ⟨h0, by show _ < (arrV _ _ _).slots.size; rw [arrV_size]; exact hlt⟩ g1 (fun q h => by rw [g3] at h; cases h) (by rw [g2]; exact hkC) (by rw [g2]; exact va_assign hcls) rfl rfl hdg fun H1 e1 z oq => ?_
  refine k H1 _ ls (hG.turn (a := a) (x := .inl (4, n, .inr (.inr (va_up f i.toNatClampNeg (some v))))) z oq ?_) (hS.put z oq (Nat.le_add_right b a)) hl
  show H1[b + a]? = some (vp_cell (aC 4) (n, .inr (.inr (.inr (.inr (fun j => (va_up f i.toNatClampNeg (some v) j).map (fun a => b + a)))))))
  rw [e1]
  rw [vp_cell_q, vp_cell_q, arrV_store]
  congr 2
  funext q
  by_cases hq : q = i.toNatClampNeg
  · subst hq
    simp [updV, va_up, va_rf, ip_v]
  · simp [updV, va_up, hq]
theorem ip_new (hx : p.tables.exec = Jvm.exec) (hb : c.code = cc) {own C : String} {T : u_T} {N ci index : Nat} {Ts : List Cond} (hts : ∀ w ∈ Ts, w.before args s = true) (hin : ∀ w ∈ u_ws C T N, w ∈ Ts) (ty : Nat → FieldType) (hty : ∀ k, k < N → parseFieldDescriptor (T k).2.2.1 = some (ty k)) (hown : s.vm.findClass own = some m.cls) (hcl : (Cond.classLink own index C).before args s = true) (hinst : (Cond.instantiable C N).before args s = true) (hini : (Cond.initialized C).before args s = true)
    (hK : va_K D cl (ip_T aC) s) (hc : cl[ci]? = some (C, T, N)) {fs : List Value} (hfs : ∀ j, j < N → defaultValue (ty j) = vp_V (fs.map (ip_v b sc)) j) (hn0 : n0 ≤ w.1) (hs0 : s0 ≤ w.2.1) (hcells : w.1 + 1 ≤ n0 + R.cells) (hslots : w.2.1 + N ≤ s0 + R.slots) (hdg : decode cc pc = .ok (.new index, 3))
    (k : ip_V p l e R s m args below meth c D cl aC b sc nL n0 s0 Q (w.1 + 1, w.2.1 + N, va_up w.2.2 w.1 (some (.inr (ci, fs)))) (pc + 3) lo (.ref w.1 :: st)) : ip_V p l e R s m args below meth c D cl aC b sc nL n0 s0 Q w pc lo st := by
  intro H locs ls hG hS hl
  have hKn := hK.1 ci _ hc
  refine W.newcK hx hb hown hcl hinst hini rfl hdg (by omega) (by omega) hKn.2.1 rfl fun H1 kC hkC e1 z1 o1 => ?_
  have kk := k H1 locs ls (hG.grow (N := N) (x := .inr (ci, fs)) z1 o1 ?_) (ip_S.grow hS z1 o1) hl
  · rw [show w.1 - n0 + 1 = w.1 + 1 - n0 by omega, show w.2.1 - s0 + N = w.2.1 + N - s0 by omega, hG.1]
    exact kk
  · refine ⟨_, hc, ?_⟩
    have hbn := (u_born ty hts hin hKn hkC e1 hty).to hfs
    rw [hG.1] at hbn
    exact hbn
theorem ip_newa (hx : p.tables.exec = Jvm.exec) (hb : c.code = cc) {atype : ArrayType} (harr : (Cond.arrayClass (newarray.typeOf atype)).before args s = true) {ty : FieldType} (hty : newarray.typeOf atype = ty) {kd : Nat} (hK : va_K D cl (ip_T aC) s) (hkd : (ip_T aC)[kd]? = some (aC kd, ty)) {n : Int32} {N' : Nat} {x0 : ip_A} (ha : ∀ cA : ClassId, (match ip_e b sc (fun _ => cA) (.inl (kd, N', x0)) with | .inl y => vp_cell y.1 y.2 | .inr _ => arrV 0 0 (fun _ => .null)) = arrV cA N' (fun _ => defaultValue ty)) (hn : ¬ n < 0) (hN : n.toNatClampNeg = N') (hbytes : N' * componentBytes ty ≤ 536870912)
    (hnm : ∀ cA, va_RA s cA ty → s.vm.findClass ("[" ++ ty.toString) = some cA) (hn0 : n0 ≤ w.1) (hs0 : s0 ≤ w.2.1) (hcells : w.1 + 1 ≤ n0 + R.cells) (hslots : w.2.1 + N' ≤ s0 + R.slots) (hdg : decode cc pc = .ok (.newarray atype, 2))
    (k : ip_V p l e R s m args below meth c D cl aC b sc nL n0 s0 Q (w.1 + 1, w.2.1 + N', va_up w.2.2 w.1 (some (.inl (kd, N', x0)))) (pc + 2) lo (.ref w.1 :: st)) : ip_V p l e R s m args below meth c D cl aC b sc nL n0 s0 Q w pc lo (.int n :: st) := by
  subst hty
  intro H locs ls hG hS hl
  refine va_newaK hx hb harr rfl hdg rfl hn hN hbytes (by omega) (by omega) rfl fun H1 cA e1 z1 o1 hAr hNm => ?_
  have hcA : cA = aC kd := Option.some.inj (hNm.symm.trans (hnm _ (hK.2 kd _ hkd).2))
  subst hcA
  have kk := k H1 locs ls (hG.grow (N := N') (x := .inl (kd, N', x0)) z1 o1 ?_) (ip_S.grow hS z1 o1) hl
  · rw [show w.1 - n0 + 1 = w.1 + 1 - n0 by omega, show w.2.1 - s0 + N' = w.2.1 + N' - s0 by omega, hG.1]
    exact kk
  · rw [hG.1, ← ha] at e1
    obtain f | f | f := x0 <;> exact e1
theorem ip_anew (hx : p.tables.exec = Jvm.exec) (hb : c.code = cc) {own : String} {index : Nat} (hown : s.vm.findClass own = some m.cls) (hclink : (Cond.classLink own index "VitalTwin$Symbol").before args s = true) (hover : (Cond.arrayOver (.object "VitalTwin$Symbol")).before args s = true) (hK : va_K D cl (ip_T aC) s) {n : Int32} {N' : Nat} (hn : ¬ n < 0) (hN : n.toNatClampNeg = N') (hbytes : N' * 4 ≤ 536870912) (hn0 : n0 ≤ w.1) (hs0 : s0 ≤ w.2.1) (hcells : w.1 + 1 ≤ n0 + R.cells) (hslots : w.2.1 + N' ≤ s0 + R.slots) (hdg : decode cc pc = .ok (.anewarray index, 3))
    (k : ip_V p l e R s m args below meth c D cl aC b sc nL n0 s0 Q (w.1 + 1, w.2.1 + N', va_up w.2.2 w.1 (some (.inl (4, N', .inr (.inr (fun _ => none)))))) (pc + 3) lo (.ref w.1 :: st)) : ip_V p l e R s m args below meth c D cl aC b sc nL n0 s0 Q w pc lo (.int n :: st) := by
  subst hN
  intro H locs ls hG hS hl
  refine W.anew hx hb hown hclink hover rfl hdg rfl hn hbytes (by omega) (by omega) fun cA kA comp f1 f2 f3 f4 => ?_
  generalize hH1 : H.push ({ cls := cA, slots := Array.replicate n.toNatClampNeg .null, vm := .none } : Cell) = H1
  have z1 : H1.size = H.size + 1 := by rw [← hH1, Array.size_push]
  have e1 : H1[H.size]? = some (arrV cA n.toNatClampNeg (fun _ => .null)) := by rw [← hH1, Array.getElem?_push_size, ← arrV_new]
  have o1 : ∀ q : Nat, q < H.size → H1[q]? = H[q]? := fun q hq => by rw [← hH1, Array.getElem?_push, if_neg (Nat.ne_of_lt hq)]
  obtain ⟨kA', comp', g1, g2, g3, g4⟩ := (hK.2 4 (aC 4, .object "VitalTwin$Symbol") rfl).2
  have hcA : cA = aC 4 := Option.some.inj (f1.symm.trans g4)
  subst hcA
  have kk := k H1 locs ls (hG.grow (N := n.toNatClampNeg) (x := .inl (4, n.toNatClampNeg, .inr (.inr (fun _ => none)))) z1 o1 ?_) (ip_S.grow hS z1 o1) hl
  · rw [show w.1 - n0 + 1 = w.1 + 1 - n0 by omega, show w.2.1 - s0 + n.toNatClampNeg = w.2.1 + n.toNatClampNeg - s0 by omega, hG.1]
    exact kk
  · rw [hG.1] at e1
    exact e1
end IPH
