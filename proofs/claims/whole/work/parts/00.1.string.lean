/-! part 00.1: String.length, charAt, indexOf of a Latin-1 String, by contract: the JDK's methods, one by one -/
/-- where a sign stands first in what is left of a text, from place k on -/
def vt_ix (c : Int32) : List Int32 → Nat → Int32
  | [], _ => -1
  | b :: l, k => if b = c then Int32.ofNat k else vt_ix c l (k + 1)
abbrev zs_N : Nat → Prop := fun _ => False
abbrev zs_rm (a b : Nat) : Room := { frames := a, cells := 0, slots := 0, locals := b }
/-- the String at q: Latin-1, its n bytes f at d; the two statics that its methods read -/
def zs_S (q d n : Nat) (f : Nat → Int32) (U : State) : Prop := va_O "java/lang/String" q zs_N U U.heap ∧ va_OF "java/lang/String" "coder" "B" (.int 0) q zs_N U U.heap ∧ va_OF "java/lang/String" "value" "[B" (.ref d) q zs_N U U.heap ∧ va_T .byte d n (fun j => .int (f j)) zs_N U U.heap ∧ va_Z "java/lang/String" "COMPACT_STRINGS" "Z" (.int 1) zs_N U U.heap ∧ va_Zq "jdk/internal/util/Preconditions" "SIOOBE_FORMATTER" "Ljava/util/function/BiFunction;" zs_N U U.heap
theorem zs_S.same {q d n : Nat} {f : Nat → Int32} {u U : State} (hv : u.vm.Alike U.vm) (hh : U.heap = u.heap) (h : zs_S q d n f u) : zs_S q d n f U := by
  obtain ⟨h1, h2, h3, h4, h5, h6⟩ := h
  unfold zs_S
  rw [hh]
  exact ⟨va_O.moved hv h1, va_OF.moved hv h2, va_OF.moved hv h3, va_T.moved hv h4, va_Z.moved hv h5, va_Zq.moved hv h6⟩
theorem zs_bl {av : List Value} {q d n : Nat} {f : Nat → Int32} : FrameBlind (va_Pc av (zs_S q d n f)) := fun a U g mk h => ⟨h.1, zs_S.same (u := U) (U := U.calling g mk a) (Vm.Alike.refl U.vm) rfl h.2⟩
theorem zs_gd {Ts : List Cond} {w0 : Cond} (hT : ∀ w ∈ zs_L, w ∈ Ts) (h0 : w0 ∈ zs_L) : GoodIn Ts (w0 :: zs_L) := by
  intro w hw
  have h1 : w ∈ zs_L := by
    rcases List.mem_cons.mp hw with rfl | h
    · exact h0
    · exact h
  exact ⟨hT w h1, good_of_word (List.all_eq_true.mp zs_gk w h1)⟩
def zs_QV : Array Value → State → Outcome → State → Prop := fun _ st o t => o = .returned none ∧ t.heap = st.heap
/-- a contract out of a walk from the method's start -/
theorem zs_met {l : Launch} {y : MethodName} {cc : ByteArray} {maxL : Nat} {ret : Option FieldType} {rm : Room} {av : List Value} {q d n : Nat} {f : Nat → Int32} {Qc : Array Value → State → Outcome → State → Prop} (hy : plainName y.cls = true) (hlen : (lg_sl av).length ≤ maxL)
    (body : ∀ (p : Program) (e : Env) (s : State) (m : MethodId) (below : List Frame) (meth : Method) (c : Code) (ls : Array Slot), p.tables.exec = Jvm.exec → c.code = cc → meth.sig.returnType = ret → c.maxLocals = maxL → (∀ w ∈ zs_L, w.before av.toArray s = true) → s.vm.findClass y.cls = some m.cls → meth.locks = false → zs_S q d n f s → lv_has ls maxL (lv_args 0 av) →
      W p l e rm s m av.toArray below meth c s.heap [] 0 0 (MQ below Qc av.toArray s 0 0 zs_N) (F0 m 0 ls [])) : Met l y (Cond.code y cc maxL ret :: zs_L) rm (va_Pc av (zs_S q d n f)) Qc 0 0 zs_N := by
  refine Met.ofW (cc := cc) (maxL := maxL) (ret := ret) hy rfl ?_
  intro p e s m args below meth c s₁ B hml hv
  obtain ⟨rfl, hE⟩ := hv
  rw [lg_entry_eq]
  exact body p e s m below meth c _ B.exec B.bytes B.returns hml (fun w hw => atoms_spec (ws := Cond.code y cc maxL ret :: zs_L) B.pre w (List.mem_cons_of_mem _ hw)) (findClass_of_methodNamed B.named) B.notSynchronized hE (lv_entry av hlen)
section ZCL
variable {p : Program} {l : Launch} {e : Env} {R : Room} {s : State} {m : MethodId} {args : Array Value} {below : List Frame} {meth : Method} {c : Code} {H : Heap} {locs : List Loc} {cells slots : Nat} {Q : State → Prop}
variable {cc bytes : ByteArray} {pc nL maxL index k : Nat} {ls : Array Slot} {rest av : List Value} {own : String} {y : MethodName} {ret : Option FieldType} {rm : Room} {q d n : Nat} {f : Nat → Int32} {r : Int32}
theorem zs_callN {g : JFrame} {a : Array Value} (hr : CallRun p l e R s m args below meth c H locs cells slots 0 0 g rest (zs_QV a) (fun _ => False)) (kk : W p l e R s m args below meth c H locs cells slots Q { g with pc := g.pc + 3, stack := rest }) : W p l e R s m args below meth c H locs cells slots Q g := by
  intro T hT X
  obtain ⟨v, st₀, t, T', L, h0, X', hL, e1, ⟨hv, hh⟩, st⟩ := hr T hT X
  cases hv
  obtain ⟨t2, a1, b1⟩ := kk T' (by rw [e1, hh, h0]) (Stand.forget X' (fun q h => (hL q h).elim))
  exact ⟨t2, st t2 a1, b1⟩
theorem zs_callS (hx : p.tables.exec = Jvm.exec) (hb : c.code = cc) (hml : c.maxLocals = nL) (hown : s.vm.findClass own = some m.cls) (hts : ∀ w ∈ zs_L, w.before args s = true) (hM : Met l y (Cond.code y bytes maxL ret :: zs_L) rm (va_Pc av (zs_S q d n f)) (QcRead r) 0 0 zs_N)
    (hk : Cond.code y bytes maxL ret ∈ zs_L ∧ Cond.static y ∈ zs_L ∧ Cond.initialized y.cls ∈ zs_L) (hlink : (Cond.methodLink own index y).before args s = true) (hd : y.cls ≠ "java/lang/invoke/MethodHandle" ∧ y.cls ≠ "java/lang/invoke/VarHandle" ∧ (parseMethodDescriptor y.desc).map (fun d => d.parameters.length) = some k) (hn : av.length = k) (hr0 : rm.cells = 0 ∧ rm.slots = 0) (hR : rm.frames + 1 ≤ R.frames ∧ 8 + (maxL + 11) + rm.locals ≤ R.locals) (hc : cells ≤ R.cells ∧ slots ≤ R.slots)
    (hE : ∀ U : State, U.heap = H → s.WarmedH U.vm → zs_S q d n f U) (hsz : ls.size = nL) (hsum : (rest.map fun v => v.category).sum ≤ 8) (hdg : decode cc pc = .ok (.invokestatic index, 3))
    (kk : W p l e R s m args below meth c H locs cells slots Q (F0 m (pc + 3) ls (.int r :: rest))) : W p l e R s m args below meth c H locs cells slots Q (F0 m pc ls (av.reverse ++ rest)) :=
  W.callR (W.runS (Ts := zs_L) (cc := cc) (nL := nL) (own := own) (index := index) (As := av) (rest := rest) (g := F0 m pc ls (av.reverse ++ rest)) ⟨hx, hb, hml, hown, hts⟩ hM ⟨callB_of k hts (zs_gd (fun w h => h) hk.1) rfl hr0.1 hr0.2 (hts _ hk.2.2) hlink hd hR, hts _ hk.2.1⟩ ⟨zs_bl, fun U hU hW => ⟨rfl, hE U hU hW⟩⟩ rfl hn hsz rfl (lv_room hsum) hdg ⟨hc.1, hc.2⟩) kk
theorem zs_callS0 (hx : p.tables.exec = Jvm.exec) (hb : c.code = cc) (hml : c.maxLocals = nL) (hown : s.vm.findClass own = some m.cls) (hts : ∀ w ∈ zs_L, w.before args s = true) (hM : Met l y (Cond.code y bytes maxL ret :: zs_L) rm (va_Pc av (zs_S q d n f)) zs_QV 0 0 zs_N)
    (hk : Cond.code y bytes maxL ret ∈ zs_L ∧ Cond.static y ∈ zs_L ∧ Cond.initialized y.cls ∈ zs_L) (hlink : (Cond.methodLink own index y).before args s = true) (hd : y.cls ≠ "java/lang/invoke/MethodHandle" ∧ y.cls ≠ "java/lang/invoke/VarHandle" ∧ (parseMethodDescriptor y.desc).map (fun d => d.parameters.length) = some k) (hn : av.length = k) (hr0 : rm.cells = 0 ∧ rm.slots = 0) (hR : rm.frames + 1 ≤ R.frames ∧ 8 + (maxL + 11) + rm.locals ≤ R.locals) (hc : cells ≤ R.cells ∧ slots ≤ R.slots)
    (hE : ∀ U : State, U.heap = H → s.WarmedH U.vm → zs_S q d n f U) (hsz : ls.size = nL) (hsum : (rest.map fun v => v.category).sum ≤ 8) (hdg : decode cc pc = .ok (.invokestatic index, 3))
    (kk : W p l e R s m args below meth c H locs cells slots Q (F0 m (pc + 3) ls rest)) : W p l e R s m args below meth c H locs cells slots Q (F0 m pc ls (av.reverse ++ rest)) :=
  zs_callN (W.runS (Ts := zs_L) (cc := cc) (nL := nL) (own := own) (index := index) (As := av) (rest := rest) (g := F0 m pc ls (av.reverse ++ rest)) ⟨hx, hb, hml, hown, hts⟩ hM ⟨callB_of k hts (zs_gd (fun w h => h) hk.1) rfl hr0.1 hr0.2 (hts _ hk.2.2) hlink hd hR, hts _ hk.2.1⟩ ⟨zs_bl, fun U hU hW => ⟨rfl, hE U hU hW⟩⟩ rfl hn hsz rfl (lv_room hsum) hdg ⟨hc.1, hc.2⟩) kk
theorem zs_callV (hx : p.tables.exec = Jvm.exec) (hb : c.code = cc) (hml : c.maxLocals = nL) (hown : s.vm.findClass own = some m.cls) (hts : ∀ w ∈ zs_L, w.before args s = true) (hM : Met l y (Cond.code y bytes maxL ret :: zs_L) rm (va_Pc (.ref q :: av) (zs_S q d n f)) (QcRead r) 0 0 zs_N)
    (hk : Cond.code y bytes maxL ret ∈ zs_L ∧ Cond.instanceMethod y ∈ zs_L ∧ Cond.selects "java/lang/String" y y ∈ zs_L ∧ Cond.initialized y.cls ∈ zs_L) (hlink : (Cond.methodLink own index y).before args s = true) (hd : y.cls ≠ "java/lang/invoke/MethodHandle" ∧ y.cls ≠ "java/lang/invoke/VarHandle" ∧ (parseMethodDescriptor y.desc).map (fun d => d.parameters.length) = some k) (hn : av.length = k) (hr0 : rm.cells = 0 ∧ rm.slots = 0) (hR : rm.frames + 1 ≤ R.frames ∧ 8 + (maxL + 11) + rm.locals ≤ R.locals) (hc : cells ≤ R.cells ∧ slots ≤ R.slots)
    (hO : ∃ cell : Cell, H[q]? = some cell ∧ cell.vm.isStatics = false ∧ s.vm.findClass "java/lang/String" = some cell.cls) (hE : ∀ U : State, U.heap = H → s.WarmedH U.vm → zs_S q d n f U) (hsz : ls.size = nL) (hsum : (rest.map fun v => v.category).sum ≤ 8) (hdg : decode cc pc = .ok (.invokevirtual index, 3))
    (kk : W p l e R s m args below meth c H locs cells slots Q (F0 m (pc + 3) ls (.int r :: rest))) : W p l e R s m args below meth c H locs cells slots Q (F0 m pc ls (av.reverse ++ .ref q :: rest)) :=
  W.callR (W.runV (Ts := zs_L) (cc := cc) (nL := nL) (own := own) (C := "java/lang/String") (index := index) (b := q) (As := av) (rest := rest) (g := F0 m pc ls (av.reverse ++ .ref q :: rest)) ⟨hx, hb, hml, hown, hts⟩ hM ⟨callB_of k hts (zs_gd (fun w h => h) hk.1) rfl hr0.1 hr0.2 (hts _ hk.2.2.2) hlink hd hR, hts _ hk.2.1, hts _ hk.2.2.1⟩ ⟨zs_bl, hO, fun U hU hW => ⟨rfl, hE U hU hW⟩⟩ rfl hn hsz rfl (lv_room hsum) hdg ⟨hc.1, hc.2⟩) kk
end ZCL
section ZCT
variable {l : Launch} {q d n : Nat} {f : Nat → Int32}
theorem zs_st {s : State} (h : zs_S q d n f s) : (∃ cell : Cell, s.heap[q]? = some cell ∧ cell.vm.isStatics = false ∧ s.vm.findClass "java/lang/String" = some cell.cls) ∧ ∀ U : State, U.heap = s.heap → s.WarmedH U.vm → zs_S q d n f U := by
  refine ⟨?_, fun U hU hW => zs_S.same hW.alike hU h⟩
  obtain ⟨cell, h1, h2, h3, -⟩ := h.1
  exact ⟨cell, h1, h2, h3⟩
theorem zc_coder : Met l zy_coder (Cond.code zy_coder zb_coder 1 (some .byte) :: zs_L) (zs_rm 0 0) (va_Pc [.ref q] (zs_S q d n f)) (QcRead 0) 0 0 zs_N := by
  refine zs_met (by decide) (Nat.le_of_ble_eq_true rfl) ?_
  intro p e s m below meth c ls hx hb hr hml hts hown hlocks hE hl
  have hl : lv_has ls 1 [(0, .ref q)] := hl
  have hown : s.vm.findClass "java/lang/String" = some m.cls := hown
  have hS : va_S zs_N s.heap s.heap [] := va_S.rf
  obtain ⟨E1, E2, E3, E4, E5, E6⟩ := hE
  refine va_gets hx hb E5 hS hown (hts (.fieldLink "java/lang/String" 38 "java/lang/String" "COMPACT_STRINGS" "Z") (by decide +kernel)) (fun _ h9 => h9) zd_coder_0 ?_
  refine lv_if_eq (tgt := 13) hx hb zd_coder_3 (by decide) (fun h => absurd h (by decide)) (fun _ => ?_)
  refine lv_aload_n hx hb zd_coder_6 rfl (lv_at hl 0 rfl) ?_
  refine vk_getf hx hb E2 hS hown (hts (.fieldLink "java/lang/String" 15 "java/lang/String" "coder" "B") (by decide +kernel)) (fun _ h9 => h9) zd_coder_7 ?_
  refine lv_goto (tgt := 14) hx hb zd_coder_10 (by decide) ?_
  exact W.zret (v := 0) hx hb hr (by first | rfl | decide +kernel) (fun t ht hW => ⟨rfl, ht⟩) hS.2.2 zd_coder_14
theorem zc_isl : Met l zy_isl (Cond.code zy_isl zb_isl 1 (some .boolean) :: zs_L) (zs_rm 0 0) (va_Pc [.ref q] (zs_S q d n f)) (QcRead 1) 0 0 zs_N := by
  refine zs_met (by decide) (Nat.le_of_ble_eq_true rfl) ?_
  intro p e s m below meth c ls hx hb hr hml hts hown hlocks hE hl
  have hl : lv_has ls 1 [(0, .ref q)] := hl
  have hown : s.vm.findClass "java/lang/String" = some m.cls := hown
  have hS : va_S zs_N s.heap s.heap [] := va_S.rf
  obtain ⟨E1, E2, E3, E4, E5, E6⟩ := hE
  refine va_gets hx hb E5 hS hown (hts (.fieldLink "java/lang/String" 38 "java/lang/String" "COMPACT_STRINGS" "Z") (by decide +kernel)) (fun _ h9 => h9) zd_isl_0 ?_
  refine lv_if_eq (tgt := 17) hx hb zd_isl_3 (by decide) (fun h => absurd h (by decide)) (fun _ => ?_)
  refine lv_aload_n hx hb zd_isl_6 rfl (lv_at hl 0 rfl) ?_
  refine vk_getf hx hb E2 hS hown (hts (.fieldLink "java/lang/String" 15 "java/lang/String" "coder" "B") (by decide +kernel)) (fun _ h9 => h9) zd_isl_7 ?_
  refine lv_if_ne (tgt := 17) hx hb zd_isl_10 (by decide) (fun h => absurd rfl h) (fun _ => ?_)
  refine lv_iconst (v := 1) hx hb zd_isl_13 (by decide) ?_
  refine lv_goto (tgt := 18) hx hb zd_isl_14 (by decide) ?_
  exact W.zret (v := 1) hx hb hr (by first | rfl | decide +kernel) (fun t ht hW => ⟨rfl, ht⟩) hS.2.2 zd_isl_18
theorem zc_length : Met l zy_length (Cond.code zy_length zb_length 1 (some .int) :: zs_L) (zs_rm 1 20) (va_Pc [.ref q] (zs_S q d n f)) (QcRead (Int32.ofNat n)) 0 0 zs_N := by
  refine zs_met (by decide) (Nat.le_of_ble_eq_true rfl) ?_
  intro p e s m below meth c ls hx hb hr hml hts hown hlocks hE hl
  have hl : lv_has ls 1 [(0, .ref q)] := hl
  have hown : s.vm.findClass "java/lang/String" = some m.cls := hown
  have hS : va_S zs_N s.heap s.heap [] := va_S.rf
  obtain ⟨hO, hU⟩ := zs_st hE
  obtain ⟨E1, E2, E3, E4, E5, E6⟩ := hE
  refine lv_aload_n hx hb zd_length_0 rfl (lv_at hl 0 rfl) ?_
  refine vk_getf hx hb E3 hS hown (hts (.fieldLink "java/lang/String" 9 "java/lang/String" "value" "[B") (by decide +kernel)) (fun _ h9 => h9) zd_length_1 ?_
  refine va_tlen hx hb E4 hS rfl zd_length_4 ?_
  refine lv_aload_n hx hb zd_length_5 rfl (lv_at hl 0 rfl) ?_
  refine zs_callV (av := []) (rest := [.int (Int32.ofNat n)]) hx hb hml hown hts zc_coder (by decide +kernel) (hts (.methodLink "java/lang/String" 335 zy_coder) (by decide +kernel)) (by decide +kernel) rfl ⟨rfl, rfl⟩ ⟨Nat.le_of_ble_eq_true rfl, Nat.le_of_ble_eq_true rfl⟩ ⟨Nat.zero_le _, Nat.zero_le _⟩ hO hU hl.1 (Nat.le_of_ble_eq_true rfl) zd_length_6 ?_
  refine lv_ishr hx hb zd_length_9 ?_
  rw [sb_shr0]
  exact W.iret (v := Int32.ofNat n) hx hb hr (fun t ht hW => ⟨rfl, ht⟩) hS.2.2 zd_length_10
theorem zc_pre {i N : Int32} {fv : Value} (hfv : fv = .null ∨ ∃ t : Nat, fv = .ref t) (h0 : ¬ i < 0) (h1 : i < N) : Met l zy_pre (Cond.code zy_pre zb_pre 3 (some .int) :: zs_L) (zs_rm 0 0) (va_Pc [.int i, .int N, fv] (zs_S q d n f)) (QcRead i) 0 0 zs_N := by
  refine zs_met (by decide) (by rcases hfv with rfl | ⟨t, rfl⟩ <;> exact Nat.le_of_ble_eq_true rfl) ?_
  intro p e s m below meth c ls hx hb hr hml hts hown hlocks hE hl
  have hl : lv_has ls 3 [(0, .int i), (1, .int N)] := by
    rcases hfv with rfl | ⟨t, rfl⟩
    · exact lv_sub (l := [(0, .int i), (1, .int N), (2, .null)]) hl [0, 1] rfl
    · exact lv_sub (l := [(0, .int i), (1, .int N), (2, .ref t)]) hl [0, 1] rfl
  have hS : va_S zs_N s.heap s.heap [] := va_S.rf
  refine lv_iload_n hx hb zd_pre_0 rfl (lv_at hl 0 rfl) ?_
  refine lv_if_lt (tgt := 9) hx hb zd_pre_1 (by decide) (fun h => absurd h h0) (fun _ => ?_)
  refine lv_iload_n hx hb zd_pre_4 rfl (lv_at hl 0 rfl) ?_
  refine lv_iload_n hx hb zd_pre_5 rfl (lv_at hl 1 rfl) ?_
  refine lv_icmp_lt (tgt := 16) hx hb zd_pre_6 (by decide) (fun _ => ?_) (fun h => absurd h1 h)
  refine lv_iload_n hx hb zd_pre_16 rfl (lv_at hl 0 rfl) ?_
  exact W.iret (v := i) hx hb hr (fun t ht hW => ⟨rfl, ht⟩) hS.2.2 zd_pre_17
theorem zc_chk {i N : Int32} (h0 : ¬ i < 0) (h1 : i < N) : Met l zy_chk (Cond.code zy_chk zb_chk 2 none :: zs_L) (zs_rm 1 22) (va_Pc [.int i, .int N] (zs_S q d n f)) zs_QV 0 0 zs_N := by
  refine zs_met (by decide) (Nat.le_of_ble_eq_true rfl) ?_
  intro p e s m below meth c ls hx hb hr hml hts hown hlocks hE hl
  have hl : lv_has ls 2 [(0, .int i), (1, .int N)] := hl
  have hown : s.vm.findClass "java/lang/String" = some m.cls := hown
  have hS : va_S zs_N s.heap s.heap [] := va_S.rf
  obtain ⟨hO, hU⟩ := zs_st hE
  obtain ⟨E1, E2, E3, E4, E5, E6⟩ := hE
  refine lv_iload_n hx hb zd_chk_0 rfl (lv_at hl 0 rfl) ?_
  refine lv_iload_n hx hb zd_chk_1 rfl (lv_at hl 1 rfl) ?_
  have E7 : ∃ fv : Value, (fv = .null ∨ ∃ t : Nat, fv = .ref t) ∧ va_Z "jdk/internal/util/Preconditions" "SIOOBE_FORMATTER" "Ljava/util/function/BiFunction;" fv zs_N s s.heap := by
    rcases E6 with h | ⟨t, h⟩
    · exact ⟨.null, Or.inl rfl, h⟩
    · exact ⟨.ref t, Or.inr ⟨t, rfl⟩, h⟩
  obtain ⟨fv, hfv, E7⟩ := E7
  refine va_gets hx hb E7 hS hown (hts (.fieldLink "java/lang/String" 1053 "jdk/internal/util/Preconditions" "SIOOBE_FORMATTER" "Ljava/util/function/BiFunction;") (by decide +kernel)) (fun _ h9 => h9) zd_chk_2 ?_
  refine zs_callS (av := [.int i, .int N, fv]) (k := 3) (rest := []) hx hb hml hown hts (zc_pre hfv h0 h1) (by decide +kernel) (hts (.methodLink "java/lang/String" 1059 zy_pre) (by decide +kernel)) (by decide +kernel) rfl ⟨rfl, rfl⟩ ⟨Nat.le_of_ble_eq_true rfl, Nat.le_of_ble_eq_true rfl⟩ ⟨Nat.zero_le _, Nat.zero_le _⟩ hU hl.1 (Nat.le_of_ble_eq_true rfl) zd_chk_5 ?_
  refine lv_pop hx hb zd_chk_8 rfl ?_
  exact W.vret hx hb hr (fun t ht hW => ⟨rfl, ht⟩) hS.2.2 zd_chk_9
theorem zc_lat {k : Nat} (hn : n < 2 ^ 31) (hk : k < n) (hf : f k &&& 255 = f k) : Met l zy_lat (Cond.code zy_lat zb_lat 2 (some .char) :: zs_L) (zs_rm 2 43) (va_Pc [.ref d, .int (Int32.ofNat k)] (zs_S q d n f)) (QcRead (f k)) 0 0 zs_N := by
  refine zs_met (by decide) (Nat.le_of_ble_eq_true rfl) ?_
  intro p e s m below meth c ls hx hb hr hml hts hown hlocks hE hl
  have hl : lv_has ls 2 [(0, .ref d), (1, .int (Int32.ofNat k))] := hl
  have hown : s.vm.findClass "java/lang/StringLatin1" = some m.cls := hown
  have hS : va_S zs_N s.heap s.heap [] := va_S.rf
  obtain ⟨hO, hU⟩ := zs_st hE
  obtain ⟨E1, E2, E3, E4, E5, E6⟩ := hE
  have hcl : (Int32.ofNat k).toNatClampNeg = k := nI_clamp (by omega)
  refine lv_iload_n hx hb zd_lat_0 rfl (lv_at hl 1 rfl) ?_
  refine lv_aload_n hx hb zd_lat_1 rfl (lv_at hl 0 rfl) ?_
  refine va_tlen hx hb E4 hS rfl zd_lat_2 ?_
  refine zs_callS0 (av := [.int (Int32.ofNat k), .int (Int32.ofNat n)]) (k := 2) (rest := []) hx hb hml hown hts (zc_chk (nI_pos (by omega)) (nI_lt hk hn)) (by decide +kernel) (hts (.methodLink "java/lang/StringLatin1" 9 zy_chk) (by decide +kernel)) (by decide +kernel) rfl ⟨rfl, rfl⟩ ⟨Nat.le_of_ble_eq_true rfl, Nat.le_of_ble_eq_true rfl⟩ ⟨Nat.zero_le _, Nat.zero_le _⟩ hU hl.1 (Nat.le_of_ble_eq_true rfl) zd_lat_3 ?_
  refine lv_aload_n hx hb zd_lat_6 rfl (lv_at hl 0 rfl) ?_
  refine lv_iload_n hx hb zd_lat_7 rfl (lv_at hl 1 rfl) ?_
  refine va_tb (v := .int (f k)) hx hb E4 hS (vp_in_nI hk hn) (by show Value.int (f (Int32.ofNat k).toNatClampNeg) = _; rw [hcl]) zd_lat_8 ?_
  refine lv_sipush (v := 255) hx hb zd_lat_9 (by decide) ?_
  refine lv_iand hx hb zd_lat_12 ?_
  refine lv_i2c (v := f k) hx hb zd_lat_13 (by rw [sc_c2, hf]) ?_
  exact W.zret (v := f k) hx hb hr (by rw [← hf]; exact sc_nar _) (fun t ht hW => ⟨rfl, ht⟩) hS.2.2 zd_lat_14
theorem zc_at {k : Nat} (hn : n < 2 ^ 31) (hk : k < n) (hf : f k &&& 255 = f k) : Met l zy_at (Cond.code zy_at zb_at 2 (some .char) :: zs_L) (zs_rm 3 64) (va_Pc [.ref q, .int (Int32.ofNat k)] (zs_S q d n f)) (QcRead (f k)) 0 0 zs_N := by
  refine zs_met (by decide) (Nat.le_of_ble_eq_true rfl) ?_
  intro p e s m below meth c ls hx hb hr hml hts hown hlocks hE hl
  have hl : lv_has ls 2 [(0, .ref q), (1, .int (Int32.ofNat k))] := hl
  have hown : s.vm.findClass "java/lang/String" = some m.cls := hown
  have hS : va_S zs_N s.heap s.heap [] := va_S.rf
  obtain ⟨hO, hU⟩ := zs_st hE
  obtain ⟨E1, E2, E3, E4, E5, E6⟩ := hE
  refine lv_aload_n hx hb zd_at_0 rfl (lv_at hl 0 rfl) ?_
  refine zs_callV (av := []) (rest := []) hx hb hml hown hts zc_isl (by decide +kernel) (hts (.methodLink "java/lang/String" 492 zy_isl) (by decide +kernel)) (by decide +kernel) rfl ⟨rfl, rfl⟩ ⟨Nat.le_of_ble_eq_true rfl, Nat.le_of_ble_eq_true rfl⟩ ⟨Nat.zero_le _, Nat.zero_le _⟩ hO hU hl.1 (Nat.le_of_ble_eq_true rfl) zd_at_1 ?_
  refine lv_if_eq (tgt := 16) hx hb zd_at_4 (by decide) (fun h => absurd h (by decide)) (fun _ => ?_)
  refine lv_aload_n hx hb zd_at_7 rfl (lv_at hl 0 rfl) ?_
  refine vk_getf hx hb E3 hS hown (hts (.fieldLink "java/lang/String" 9 "java/lang/String" "value" "[B") (by decide +kernel)) (fun _ h9 => h9) zd_at_8 ?_
  refine lv_iload_n hx hb zd_at_11 rfl (lv_at hl 1 rfl) ?_
  refine zs_callS (av := [.ref d, .int (Int32.ofNat k)]) (k := 2) (rest := []) hx hb hml hown hts (zc_lat hn hk hf) (by decide +kernel) (hts (.methodLink "java/lang/String" 495 zy_lat) (by decide +kernel)) (by decide +kernel) rfl ⟨rfl, rfl⟩ ⟨Nat.le_of_ble_eq_true rfl, Nat.le_of_ble_eq_true rfl⟩ ⟨Nat.zero_le _, Nat.zero_le _⟩ hU hl.1 (Nat.le_of_ble_eq_true rfl) zd_at_12 ?_
  exact W.zret (v := f k) hx hb hr (by rw [← hf]; exact sc_nar _) (fun t ht hW => ⟨rfl, ht⟩) hS.2.2 zd_at_15
theorem zc_can {x : Int32} (h0 : ¬ x < 0) (h1 : ¬ 255 < x) : Met l zy_can (Cond.code zy_can zb_can 1 (some .boolean) :: zs_L) (zs_rm 0 0) (va_Pc [.int x] (zs_S q d n f)) (QcRead 1) 0 0 zs_N := by
  refine zs_met (by decide) (Nat.le_of_ble_eq_true rfl) ?_
  intro p e s m below meth c ls hx hb hr hml hts hown hlocks hE hl
  have hl : lv_has ls 1 [(0, .int x)] := hl
  have hS : va_S zs_N s.heap s.heap [] := va_S.rf
  refine lv_iload_n hx hb zd_can_0 rfl (lv_at hl 0 rfl) ?_
  refine lv_if_lt (tgt := 15) hx hb zd_can_1 (by decide) (fun h => absurd h h0) (fun _ => ?_)
  refine lv_iload_n hx hb zd_can_4 rfl (lv_at hl 0 rfl) ?_
  refine lv_sipush (v := 255) hx hb zd_can_5 (by decide) ?_
  refine lv_icmp_gt (tgt := 15) hx hb zd_can_8 (by decide) (fun h => absurd h h1) (fun _ => ?_)
  refine lv_iconst (v := 1) hx hb zd_can_11 (by decide) ?_
  refine lv_goto (tgt := 16) hx hb zd_can_12 (by decide) ?_
  exact W.zret (v := 1) hx hb hr (by first | rfl | decide +kernel) (fun t ht hW => ⟨rfl, ht⟩) hS.2.2 zd_can_16
/-- the loop of indexOfChar -/
theorem zc_iocL {p : Program} {e : Env} {R : Room} {s : State} {m : MethodId} {args : Array Value} {below : List Frame} {meth : Method} {c : Code} {x r : Int32} {bs : List Int32} (hx : p.tables.exec = Jvm.exec) (hb : c.code = zb_ioc) (hr : meth.sig.returnType = some .int) (hlocks : meth.locks = false) (hn : bs.length < 2 ^ 31) (E4 : va_T .byte d bs.length (fun j => .int (bs.getD j 0)) zs_N s s.heap) :
    ∀ (lb : List Int32) (k : Nat) (ls : Array Slot), bs.drop k = lb → k ≤ bs.length → lv_has ls 6 [(5, .int (Int32.ofNat k)), (4, .int x), (0, .ref d), (1, .int x), (2, .int 0), (3, .int (Int32.ofNat bs.length))] → vt_ix x lb k = r → W p l e R s m args below meth c s.heap [] 0 0 (MQ below (QcRead r) args s 0 0 zs_N) (F0 m 7 ls []) := by
  have hS : va_S zs_N s.heap s.heap [] := va_S.rf
  intro lb
  induction lb with
  | nil =>
    intro k ls hdr hk hl he
    have hz : bs.length ≤ k := List.drop_eq_nil_iff.mp hdr
    refine lv_iload hx hb zd_ioc_7 (lv_at hl 0 rfl) ?_
    refine lv_iload_n hx hb zd_ioc_9 rfl (lv_at hl 5 rfl) ?_
    refine lv_icmp_ge (tgt := 31) hx hb zd_ioc_10 (by decide) (fun _ => ?_) (fun h => absurd (nI_le hz (by omega)) h)
    refine lv_iconst (v := -1) hx hb zd_ioc_31 (by decide) ?_
    exact W.iret (v := -1) hx hb hr (fun t ht hW => ⟨by rw [← he]; first | done | rfl, ht⟩) hS.2.2 zd_ioc_32
  | cons b lb ih =>
    intro k ls hdr hk hl he
    obtain ⟨h1, h2, h3, -⟩ := sc_dropC hdr
    have hcl : (Int32.ofNat k).toNatClampNeg = k := nI_clamp (by omega)
    refine lv_iload hx hb zd_ioc_7 (lv_at hl 0 rfl) ?_
    refine lv_iload_n hx hb zd_ioc_9 rfl (lv_at hl 5 rfl) ?_
    refine lv_icmp_ge (tgt := 31) hx hb zd_ioc_10 (by decide) (fun h => absurd h (nI_ge h1 hn)) (fun _ => ?_)
    refine lv_aload_n hx hb zd_ioc_13 rfl (lv_at hl 2 rfl) ?_
    refine lv_iload hx hb zd_ioc_14 (lv_at hl 0 rfl) ?_
    refine va_tb (v := .int b) hx hb E4 hS (vp_in_nI h1 hn) (by show Value.int (bs.getD (Int32.ofNat k).toNatClampNeg 0) = _; rw [hcl, h2]) zd_ioc_16 ?_
    refine lv_iload hx hb zd_ioc_17 (lv_at hl 1 rfl) ?_
    refine lv_icmp_ne (tgt := 25) hx hb zd_ioc_19 (by decide) (fun hc => ?_) (fun hc => ?_)
    · rw [vt_ix, if_neg hc] at he
      refine lv_iinc (k := 0) (v := Int32.ofNat (k + 1)) hx hb zd_ioc_25 hl rfl (by rw [show Int32.ofInt 1 = (1 : Int32) from by decide]; exact (nI_succ k).symm) (Nat.le_of_ble_eq_true rfl) rfl (fun ls' hl' => ?_)
      refine lv_goto (tgt := 7) hx hb zd_ioc_28 (by decide) ?_
      exact ih (k + 1) ls' h3 (by omega) hl' he
    · rw [vt_ix, if_pos hc] at he
      refine lv_iload hx hb zd_ioc_22 (lv_at hl 0 rfl) ?_
      exact W.iret (v := Int32.ofNat k) hx hb hr (fun t ht hW => ⟨by rw [← he], ht⟩) hS.2.2 zd_ioc_24
theorem zc_ioc {x : Int32} {bs : List Int32} (hn : bs.length < 2 ^ 31) (h8 : x.toInt8.toInt32 = x) : Met l zy_ioc (Cond.code zy_ioc zb_ioc 6 (some .int) :: zs_L) (zs_rm 0 0) (va_Pc [.ref d, .int x, .int 0, .int (Int32.ofNat bs.length)] (zs_S q d bs.length (fun j => bs.getD j 0))) (QcRead (vt_ix x bs 0)) 0 0 zs_N := by
  refine zs_met (by decide) (Nat.le_of_ble_eq_true rfl) ?_
  intro p e s m below meth c ls hx hb hr hml hts hown hlocks hE hl
  have hl : lv_has ls 6 [(0, .ref d), (1, .int x), (2, .int 0), (3, .int (Int32.ofNat bs.length))] := hl
  obtain ⟨E1, E2, E3, E4, E5, E6⟩ := hE
  refine lv_iload_n hx hb zd_ioc_0 rfl (lv_at hl 1 rfl) ?_
  refine lv_i2b (v := x) hx hb zd_ioc_1 h8 ?_
  refine lv_istore hx hb zd_ioc_2 hl (Nat.le_of_ble_eq_true rfl) rfl (fun ls1 hl1 => ?_)
  refine lv_iload_n hx hb zd_ioc_4 rfl (lv_at hl1 3 rfl) ?_
  refine lv_istore hx hb zd_ioc_5 hl1 (Nat.le_of_ble_eq_true rfl) rfl (fun ls2 hl2 => ?_)
  exact zc_iocL hx hb hr hlocks hn E4 bs 0 ls2 rfl (Nat.zero_le _) hl2 rfl
theorem zc_lix {x : Int32} {bs : List Int32} (hn : bs.length < 2 ^ 31) (hp : 0 < bs.length) (h8 : x.toInt8.toInt32 = x) (h0 : ¬ x < 0) (h1 : ¬ 255 < x) : Met l zy_lix (Cond.code zy_lix zb_lix 4 (some .int) :: zs_L) (zs_rm 1 25) (va_Pc [.ref d, .int x, .int 0, .int (Int32.ofNat bs.length)] (zs_S q d bs.length (fun j => bs.getD j 0))) (QcRead (vt_ix x bs 0)) 0 0 zs_N := by
  refine zs_met (by decide) (Nat.le_of_ble_eq_true rfl) ?_
  intro p e s m below meth c ls hx hb hr hml hts hown hlocks hE hl
  have hl : lv_has ls 4 [(0, .ref d), (1, .int x), (2, .int 0), (3, .int (Int32.ofNat bs.length))] := hl
  have hown : s.vm.findClass "java/lang/StringLatin1" = some m.cls := hown
  have hS : va_S zs_N s.heap s.heap [] := va_S.rf
  obtain ⟨hO, hU⟩ := zs_st hE
  obtain ⟨E1, E2, E3, E4, E5, E6⟩ := hE
  refine lv_iload_n hx hb zd_lix_0 rfl (lv_at hl 1 rfl) ?_
  refine zs_callS (av := [.int x]) (k := 1) (rest := []) hx hb hml hown hts (zc_can h0 h1) (by decide +kernel) (hts (.methodLink "java/lang/StringLatin1" 88 zy_can) (by decide +kernel)) (by decide +kernel) rfl ⟨rfl, rfl⟩ ⟨Nat.le_of_ble_eq_true rfl, Nat.le_of_ble_eq_true rfl⟩ ⟨Nat.zero_le _, Nat.zero_le _⟩ hU hl.1 (Nat.le_of_ble_eq_true rfl) zd_lix_1 ?_
  refine lv_if_ne (tgt := 9) hx hb zd_lix_4 (by decide) (fun _ => ?_) (fun h => absurd h (by decide))
  refine lv_iload_n hx hb zd_lix_9 rfl (lv_at hl 2 rfl) ?_
  refine lv_iconst (v := 0) hx hb zd_lix_10 (by decide) ?_
  refine va_mmax (rest := []) hx hb (by rw [hml]; exact hl.1.symm) hown (hts (.methodLink "java/lang/StringLatin1" 92 Lib.Math.max.name) (by decide +kernel)) (hts (.static Lib.Math.max.name) (by decide +kernel)) (hts (.initialized "java/lang/Math") (by decide +kernel)) (hts (.code Lib.Math.max.name Lib.Math.max.code 2 (some .int)) (by decide +kernel)) (Nat.le_of_ble_eq_true rfl) (Nat.le_of_ble_eq_true rfl) (Nat.zero_le _) (Nat.zero_le _) zd_lix_11 ?_
  rw [show (if (0 : Int32) < 0 then (0 : Int32) else 0) = 0 from ite_self _]
  refine lv_istore_n hx hb zd_lix_14 rfl hl (Nat.le_of_ble_eq_true rfl) rfl (fun ls1 hl1 => ?_)
  refine lv_iload_n hx hb zd_lix_15 rfl (lv_at hl1 3 rfl) ?_
  refine lv_aload_n hx hb zd_lix_16 rfl (lv_at hl1 1 rfl) ?_
  refine va_tlen hx hb E4 hS rfl zd_lix_17 ?_
  refine va_mmin (rest := []) hx hb (by rw [hml]; exact hl1.1.symm) hown (hts (.methodLink "java/lang/StringLatin1" 38 Lib.Math.min.name) (by decide +kernel)) (hts (.static Lib.Math.min.name) (by decide +kernel)) (hts (.initialized "java/lang/Math") (by decide +kernel)) (hts (.code Lib.Math.min.name Lib.Math.min.code 2 (some .int)) (by decide +kernel)) (Nat.le_of_ble_eq_true rfl) (Nat.le_of_ble_eq_true rfl) (Nat.zero_le _) (Nat.zero_le _) zd_lix_18 ?_
  rw [show (if Int32.ofNat bs.length < Int32.ofNat bs.length then Int32.ofNat bs.length else Int32.ofNat bs.length) = Int32.ofNat bs.length from ite_self _]
  refine lv_istore_n hx hb zd_lix_21 rfl hl1 (Nat.le_of_ble_eq_true rfl) rfl (fun ls2 hl2 => ?_)
  have hl2 : lv_has ls2 4 [(3, .int (Int32.ofNat bs.length)), (2, .int 0), (0, .ref d), (1, .int x)] := hl2
  refine lv_iload_n hx hb zd_lix_22 rfl (lv_at hl2 1 rfl) ?_
  refine lv_iload_n hx hb zd_lix_23 rfl (lv_at hl2 0 rfl) ?_
  refine lv_icmp_lt (tgt := 29) hx hb zd_lix_24 (by decide) (fun _ => ?_) (fun h => absurd (nI_lt (a := 0) hp hn) h)
  refine lv_aload_n hx hb zd_lix_29 rfl (lv_at hl2 2 rfl) ?_
  refine lv_iload_n hx hb zd_lix_30 rfl (lv_at hl2 3 rfl) ?_
  refine lv_iload_n hx hb zd_lix_31 rfl (lv_at hl2 1 rfl) ?_
  refine lv_iload_n hx hb zd_lix_32 rfl (lv_at hl2 0 rfl) ?_
  refine zs_callS (av := [.ref d, .int x, .int 0, .int (Int32.ofNat bs.length)]) (k := 4) (rest := []) hx hb hml hown hts (zc_ioc hn h8) (by decide +kernel) (hts (.methodLink "java/lang/StringLatin1" 95 zy_ioc) (by decide +kernel)) (by decide +kernel) rfl ⟨rfl, rfl⟩ ⟨Nat.le_of_ble_eq_true rfl, Nat.le_of_ble_eq_true rfl⟩ ⟨Nat.zero_le _, Nat.zero_le _⟩ hU hl2.1 (Nat.le_of_ble_eq_true rfl) zd_lix_33 ?_
  exact W.iret hx hb hr (fun t ht hW => ⟨rfl, ht⟩) hS.2.2 zd_lix_36
theorem zc_ix2 {x : Int32} {bs : List Int32} (hn : bs.length < 2 ^ 31) (hp : 0 < bs.length) (h8 : x.toInt8.toInt32 = x) (h0 : ¬ x < 0) (h1 : ¬ 255 < x) : Met l zy_ix2 (Cond.code zy_ix2 zb_ix2 3 (some .int) :: zs_L) (zs_rm 2 48) (va_Pc [.ref q, .int x, .int 0] (zs_S q d bs.length (fun j => bs.getD j 0))) (QcRead (vt_ix x bs 0)) 0 0 zs_N := by
  refine zs_met (by decide) (Nat.le_of_ble_eq_true rfl) ?_
  intro p e s m below meth c ls hx hb hr hml hts hown hlocks hE hl
  have hl : lv_has ls 3 [(0, .ref q), (1, .int x), (2, .int 0)] := hl
  have hown : s.vm.findClass "java/lang/String" = some m.cls := hown
  have hS : va_S zs_N s.heap s.heap [] := va_S.rf
  obtain ⟨hO, hU⟩ := zs_st hE
  obtain ⟨E1, E2, E3, E4, E5, E6⟩ := hE
  refine lv_aload_n hx hb zd_ix2_0 rfl (lv_at hl 0 rfl) ?_
  refine zs_callV (av := []) (rest := []) hx hb hml hown hts zc_isl (by decide +kernel) (hts (.methodLink "java/lang/String" 492 zy_isl) (by decide +kernel)) (by decide +kernel) rfl ⟨rfl, rfl⟩ ⟨Nat.le_of_ble_eq_true rfl, Nat.le_of_ble_eq_true rfl⟩ ⟨Nat.zero_le _, Nat.zero_le _⟩ hO hU hl.1 (Nat.le_of_ble_eq_true rfl) zd_ix2_1 ?_
  refine lv_if_eq (tgt := 23) hx hb zd_ix2_4 (by decide) (fun h => absurd h (by decide)) (fun _ => ?_)
  refine lv_aload_n hx hb zd_ix2_7 rfl (lv_at hl 0 rfl) ?_
  refine vk_getf hx hb E3 hS hown (hts (.fieldLink "java/lang/String" 9 "java/lang/String" "value" "[B") (by decide +kernel)) (fun _ h9 => h9) zd_ix2_8 ?_
  refine lv_iload_n hx hb zd_ix2_11 rfl (lv_at hl 1 rfl) ?_
  refine lv_iload_n hx hb zd_ix2_12 rfl (lv_at hl 2 rfl) ?_
  refine lv_aload_n hx hb zd_ix2_13 rfl (lv_at hl 0 rfl) ?_
  refine zs_callV (av := []) (rest := [.int 0, .int x, .ref d]) hx hb hml hown hts zc_length (by decide +kernel) (hts (.methodLink "java/lang/String" 505 zy_length) (by decide +kernel)) (by decide +kernel) rfl ⟨rfl, rfl⟩ ⟨Nat.le_of_ble_eq_true rfl, Nat.le_of_ble_eq_true rfl⟩ ⟨Nat.zero_le _, Nat.zero_le _⟩ hO hU hl.1 (Nat.le_of_ble_eq_true rfl) zd_ix2_14 ?_
  refine zs_callS (av := [.ref d, .int x, .int 0, .int (Int32.ofNat bs.length)]) (k := 4) (rest := []) hx hb hml hown hts (zc_lix hn hp h8 h0 h1) (by decide +kernel) (hts (.methodLink "java/lang/String" 637 zy_lix) (by decide +kernel)) (by decide +kernel) rfl ⟨rfl, rfl⟩ ⟨Nat.le_of_ble_eq_true rfl, Nat.le_of_ble_eq_true rfl⟩ ⟨Nat.zero_le _, Nat.zero_le _⟩ hU hl.1 (Nat.le_of_ble_eq_true rfl) zd_ix2_17 ?_
  refine lv_goto (tgt := 36) hx hb zd_ix2_20 (by decide) ?_
  exact W.iret hx hb hr (fun t ht hW => ⟨rfl, ht⟩) hS.2.2 zd_ix2_36
theorem zc_ix {x : Int32} {bs : List Int32} (hn : bs.length < 2 ^ 31) (hp : 0 < bs.length) (h8 : x.toInt8.toInt32 = x) (h0 : ¬ x < 0) (h1 : ¬ 255 < x) : Met l zy_ix (Cond.code zy_ix zb_ix 2 (some .int) :: zs_L) (zs_rm 3 70) (va_Pc [.ref q, .int x] (zs_S q d bs.length (fun j => bs.getD j 0))) (QcRead (vt_ix x bs 0)) 0 0 zs_N := by
  refine zs_met (by decide) (Nat.le_of_ble_eq_true rfl) ?_
  intro p e s m below meth c ls hx hb hr hml hts hown hlocks hE hl
  have hl : lv_has ls 2 [(0, .ref q), (1, .int x)] := hl
  have hown : s.vm.findClass "java/lang/String" = some m.cls := hown
  have hS : va_S zs_N s.heap s.heap [] := va_S.rf
  obtain ⟨hO, hU⟩ := zs_st hE
  refine lv_aload_n hx hb zd_ix_0 rfl (lv_at hl 0 rfl) ?_
  refine lv_iload_n hx hb zd_ix_1 rfl (lv_at hl 1 rfl) ?_
  refine lv_iconst (v := 0) hx hb zd_ix_2 (by decide) ?_
  refine zs_callV (av := [.int x, .int 0]) (k := 2) (rest := []) hx hb hml hown hts (zc_ix2 hn hp h8 h0 h1) (by decide +kernel) (hts (.methodLink "java/lang/String" 633 zy_ix2) (by decide +kernel)) (by decide +kernel) rfl ⟨rfl, rfl⟩ ⟨Nat.le_of_ble_eq_true rfl, Nat.le_of_ble_eq_true rfl⟩ ⟨Nat.zero_le _, Nat.zero_le _⟩ hO hU hl.1 (Nat.le_of_ble_eq_true rfl) zd_ix_3 ?_
  exact W.iret hx hb hr (fun t ht hW => ⟨rfl, ht⟩) hS.2.2 zd_ix_6
end ZCT
