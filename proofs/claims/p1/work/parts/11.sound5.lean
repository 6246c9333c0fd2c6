/-! part 11: the theorem -/
section IPU
variable {l : Launch} {D : va_G} {cl : List vw_C} {aC : Nat → ClassId} {b : Nat} {sc : Nat → Nat} {Ts : List Cond} {Ev : State → Prop}
variable {tb : ip_TB} {mN : Nat → MethodName} {mB : Nat → ByteArray} {mR : Nat → Option FieldType}
theorem ip_ci_of {i : Instr} {kc k : Nat} (h : ip_ci i = some (kc, k)) : (i = .invokestatic k ∧ kc = 0) ∨ (i = .invokevirtual k ∧ kc = 1) ∨ (i = .invokespecial k ∧ kc = 2) := by
  cases i <;> simp [ip_ci] at h
  · obtain ⟨rfl, rfl⟩ := h
    exact Or.inr (Or.inr ⟨rfl, rfl⟩)
  · obtain ⟨rfl, rfl⟩ := h
    exact Or.inl ⟨rfl, rfl⟩
  · obtain ⟨rfl, rfl⟩ := h
    exact Or.inr (Or.inl ⟨rfl, rfl⟩)
theorem ip_arg0 {n ci : Nat} {st av rest : List Value} {w : ip_W} (h : ip_arg 0 n ci st w = some (av, rest)) : st = av.reverse ++ rest ∧ av.length = n := by
  unfold ip_arg at h
  split at h
  · cases h
  · rename_i hp
    simp at h
    obtain ⟨rfl, rfl⟩ := h
    exact ip_take_of hp
theorem ip_arg2 {n ci : Nat} {st av rest : List Value} {w : ip_W} (h : ip_arg 2 n ci st w = some (av, rest)) : ∃ (a : Nat) (av2 : List Value), av = .ref a :: av2 ∧ st = av2.reverse ++ .ref a :: rest ∧ av2.length = n := by
  unfold ip_arg at h
  split at h
  · cases h
  · rename_i hp
    simp at h
    split at h
    · simp at h
      obtain ⟨rfl, rfl⟩ := h
      exact ⟨_, _, rfl, ip_take_of hp⟩
    · cases h
theorem ip_arg1 {n ci : Nat} {st av rest : List Value} {w : ip_W} (h : ip_arg 1 n ci st w = some (av, rest)) : ∃ (a : Nat) (av2 fs : List Value), av = .ref a :: av2 ∧ st = av2.reverse ++ .ref a :: rest ∧ av2.length = n ∧ w.2.2 a = some (.inr (ci, fs)) := by
  unfold ip_arg at h
  split at h
  · cases h
  · rename_i hp
    simp at h
    split at h
    · split at h
      · rename_i he
        split at h
        · rename_i hci
          subst hci
          simp at h
          obtain ⟨rfl, rfl⟩ := h
          obtain ⟨h1, h2⟩ := ip_take_of hp
          exact ⟨_, _, _, rfl, h1, h2, he⟩
        · cases h
      · cases h
    · cases h
/-- a call to a method that is run -/
theorem ip_callok {p : Program} {e : Env} {R : Room} {s : State} {m : MethodId} {args : Array Value} {below : List Frame} {meth : Method} {c : Code} {n0 s0 : Nat} {Q : State → Prop} {w w2 : ip_W} {pc y k z n kc ci d : Nat} {lo : List (Nat × Value)} {st av rest : List Value} {i : Instr} {o : Outcome}
    (hOK : ip_OK tb Ts cl b sc mN mB mR) (hEk : ip_Ek b Ev) (hC : ip_Cx tb Ts Ev D cl aC b mN mB y p s m meth c) (hM : tM tb y k = some (z, n, kc, ci)) (hci : ip_ci i = some (kc, k)) (hdg : decode (mB y) pc = .ok (i, 3)) (ha : ip_arg kc n ci st w = some (av, rest)) (hsum : (rest.map fun v => v.category).sum ≤ 8) (hav : (lg_sl av).length ≤ tL tb z)
    (hd1 : 1 ≤ d) (hdR : d ≤ R.frames) (hdL : 48 * d ≤ R.locals) (hn0 : n0 ≤ w.1) (hs0 : s0 ≤ w.2.1) (hw1 : w.1 ≤ w2.1) (hw2 : w.2.1 ≤ w2.2.1) (hcells : w2.1 ≤ n0 + R.cells) (hslots : w2.2.1 ≤ s0 + R.slots)
    (hrun : ∀ (p : Program) (e : Env) (R : Room) (s : State) (m : MethodId) (args : Array Value) (below : List Frame) (meth : Method) (c : Code) (n0 s0 : Nat), ip_Cx tb Ts Ev D cl aC b mN mB z p s m meth c → d - 1 ≤ R.frames → 48 * (d - 1) ≤ R.locals → n0 ≤ w.1 → s0 ≤ w.2.1 → w2.1 ≤ n0 + R.cells → w2.2.1 ≤ s0 + R.slots → ip_V p l e R s m args below meth c D cl aC b sc (tL tb z) n0 s0 (ip_Q D cl aC b sc w2 o below s n0 s0) w 0 (lv_args 0 av) [])
    (hret : ∀ v, o = .returned v → ip_V p l e R s m args below meth c D cl aC b sc (tL tb y) n0 s0 Q w2 (pc + 3) lo (v.toList ++ rest)) (hthr : ∀ a, o = .threw a → ip_X p l e R s m args below meth c D cl aC b sc (tL tb y) n0 s0 Q w2 pc lo a) : ip_V p l e R s m args below meth c D cl aC b sc (tL tb y) n0 s0 Q w pc lo st := by
  have okM := hOK.2.2.2.2.2.2.2.2.2.2.2.2.2.2 y k z n kc ci hM
  obtain ⟨hx, hb, hml, hrc, hlocks, hexc, hname, hown, hts, hE, hK, hb0⟩ := hC
  have hc9 : w.1 + (ip_rm (d - 1) w w2).cells ≤ n0 + R.cells := by show w.1 + (w2.1 - w.1) ≤ _; omega
  have hs9 : w.2.1 + (ip_rm (d - 1) w w2).slots ≤ s0 + R.slots := by show w.2.1 + (w2.2.1 - w.2.1) ≤ _; omega
  rcases ip_ci_of hci with ⟨rfl, rfl⟩ | ⟨rfl, rfl⟩ | ⟨rfl, rfl⟩
  · obtain ⟨hz, h1, h2, h3⟩ := okM.1 rfl
    obtain ⟨rfl, hlen⟩ := ip_arg0 ha
    have hR : (ip_rm (d - 1) w w2).frames + 1 ≤ R.frames ∧ 8 + (tL tb z + 11) + (ip_rm (d - 1) w w2).locals ≤ R.locals := by
      have h29 := hz.2.1
      exact ⟨by show d - 1 + 1 ≤ _; omega, by show 8 + (tL tb z + 11) + 48 * (d - 1) ≤ _; omega⟩
    exact ip_callS hx hb hml hOK.1 hts hEk hE hK hb0 hown (hts _ h1 args) (hts _ h2 args) (hts _ h3 args) (by
      obtain ⟨mk, meth', c', hk, -⟩ := Cond.codeWith_spec (ip_zw hts hz.1 args)
      exact ⟨mk, hk⟩) (ip_C.ofWith (ip_zw hts hz.1 args)) hz.2.2.2.1 hz.2.2.1 hz.2.2.2.2.1 hlen hsum hR hc9 hs9 hn0 hs0 hw1 hw2 (ip_enter hz hav ⟨hw1, hw2⟩ hrun) hdg hret hthr
  · obtain ⟨hz, h1, h2, r, h3, h4⟩ := okM.2.1 rfl
    obtain ⟨a, av2, fs, rfl, rfl, hlen, he⟩ := ip_arg1 ha
    have hR : (ip_rm (d - 1) w w2).frames + 1 ≤ R.frames ∧ 8 + (tL tb z + 11) + (ip_rm (d - 1) w w2).locals ≤ R.locals := by
      have h29 := hz.2.1
      exact ⟨by show d - 1 + 1 ≤ _; omega, by show 8 + (tL tb z + 11) + 48 * (d - 1) ≤ _; omega⟩
    exact ip_callV hx hb hml hOK.1 hts hEk hE hK hb0 hown (hts _ h1 args) (hts _ h2 args) (hts _ h4 args) (ip_C.ofWith (ip_zw hts hz.1 args)) hz.2.2.2.1 hz.2.2.1 hz.2.2.2.2.1 hlen he h3 rfl hsum hR hc9 hs9 hn0 hs0 hw1 hw2 (ip_enter hz hav ⟨hw1, hw2⟩ hrun) hdg hret hthr
  · obtain ⟨hz, h1, h2, h3, h4, h5⟩ := okM.2.2.1 rfl
    obtain ⟨a, av2, rfl, rfl, hlen⟩ := ip_arg2 ha
    have hR : (ip_rm (d - 1) w w2).frames + 1 ≤ R.frames ∧ 8 + (tL tb z + 11) + (ip_rm (d - 1) w w2).locals ≤ R.locals := by
      have h29 := hz.2.1
      exact ⟨by show d - 1 + 1 ≤ _; omega, by show 8 + (tL tb z + 11) + 48 * (d - 1) ≤ _; omega⟩
    have hlk : (Cond.methodLink (mN y).cls k (mN z)).before args s = true ∨ ∃ host, (Cond.methodLinkNest (mN y).cls k (mN z) host).before args s = true := by
      rcases h1 with h1 | ⟨host, h1⟩
      · exact Or.inl (hts _ h1 args)
      · exact Or.inr ⟨host, hts _ h1 args⟩
    have hcd := hts _ h5 args
    rw [h4] at hcd
    exact ip_callI hx hb hml hOK.1 hts hEk hE hK hb0 hown h3 hlk (hts _ h2 args) hcd hz.2.2.2.1 hz.2.2.1 hz.2.2.2.2.1 hlen hsum hR hc9 hs9 hn0 hs0 hw1 hw2 (ip_enter hz hav ⟨hw1, hw2⟩ hrun) hdg hret hthr
theorem ip_tw_of {Nw : Nat → Option (Nat × List Value)} {i : Instr} {ci : Nat} (h : ip_tw Nw i = some ci) : ∃ (k : Nat) (fs : List Value), i = .new k ∧ Nw k = some (ci, fs) ∧ 13 ≤ ci := by
  cases i <;> simp only [ip_tw] at h <;> first | (cases h; done) | skip
  split at h
  · rename_i hN
    split at h
    · rename_i h13
      cases h
      exact ⟨_, _, rfl, hN, h13⟩
    · cases h
  · cases h
theorem ip_rd_len {Ro : Nat → Option (Nat × Nat × (Nat → Int32))} {i : Instr} {st st2 : List Value} {cc : ByteArray} {pc n : Nat} (h : ip_rd Ro i st = some st2) (hdg : decode cc pc = .ok (i, n)) (hn : n = ip_ln i ∨ ip_sw i = true) : decode cc pc = .ok (i, 1) := by
  have e1 : ip_ln i = 1 ∧ ip_sw i = false := by
    cases i <;> simp only [ip_rd] at h <;> first | (cases h; done) | exact ⟨rfl, rfl⟩
  rcases hn with rfl | hn
  · rw [e1.1] at hdg
    exact hdg
  · rw [e1.2] at hn
    cases hn
theorem ip_sound (hOK : ip_OK tb Ts cl b sc mN mB mR) (hEk : ip_Ek b Ev) (hY : ip_HY l tb Ts Ev D cl aC b sc mN mB) : ∀ (f d y pc : Nat) (lo : List (Nat × Value)) (st : List Value) (w : ip_W) (o : Outcome) (w2 : ip_W), ip_ex tb f d y pc lo st w = some (o, w2) →
    ∀ (p : Program) (e : Env) (R : Room) (s : State) (m : MethodId) (args : Array Value) (below : List Frame) (meth : Method) (c : Code) (n0 s0 : Nat), ip_Cx tb Ts Ev D cl aC b mN mB y p s m meth c → d ≤ R.frames → 48 * d ≤ R.locals → n0 ≤ w.1 → s0 ≤ w.2.1 → w2.1 ≤ n0 + R.cells → w2.2.1 ≤ s0 + R.slots → ip_V p l e R s m args below meth c D cl aC b sc (tL tb y) n0 s0 (ip_Q D cl aC b sc w2 o below s n0 s0) w pc lo st := by
  intro f
  induction f with
  | zero => intro d y pc lo st w o w2 h; simp [ip_ex] at h
  | succ f ih =>
    intro d y pc lo st w o w2 h p e R s m args below meth c n0 s0 hC hdR hdL hn0 hs0 hcells hslots
    obtain ⟨hS, hP, hT, hH, hRo⟩ := hY
    unfold ip_ex at h
    split at h
    · cases h
    · rename_i i n hI
      obtain ⟨hdg, hn⟩ := hOK.2.1 y pc i n hI
      split at h
      · split at h
        · rename_i ci htw
          split at h
          · rename_i hcc
            cases h
            obtain ⟨k, fs, rfl, hN, h13⟩ := ip_tw_of htw
            exact hT y p e R s m args below meth c n0 s0 pc k n ci fs lo st w hC hI hN h13 hcc.2.1 hcc.2.2 (by omega) (by omega) hn0 hs0 hcells hslots
          · cases h
        · split at h
          · rename_i r hst
            have hm := ip_ex_mono tb _ _ _ _ _ _ _ _ _ h
            have hm1 := ip_st_mono hst
            exact ip_simple hOK hC (hS y p e R s m args below meth c n0 s0 _ hC) hI hst hn0 hs0 (by omega) (by omega) (ih _ _ _ _ _ _ _ _ h p e R s m args below meth c n0 s0 hC hdR hdL (by omega) (by omega) hcells hslots)
          · split at h
            · rename_i st2 hrd
              exact hRo y p e R s m args below meth c n0 s0 _ pc i lo st st2 w hC hrd (ip_rd_len hrd hdg hn) (ih _ _ _ _ _ _ _ _ h p e R s m args below meth c n0 s0 hC hdR hdL hn0 hs0 hcells hslots)
            · cases h
      · split at h
        · exact ip_endok hC hdg hn h
        · split at h
          · cases h
          · rename_i kc k hci
            have h3 : decode (mB y) pc = .ok (i, 3) := by
              have e3 : ip_ln i = 3 ∧ ip_sw i = false := by
                rcases ip_ci_of hci with ⟨rfl, -⟩ | ⟨rfl, -⟩ | ⟨rfl, -⟩ <;> exact ⟨rfl, rfl⟩
              rcases hn with rfl | hn
              · rw [e3.1] at hdg
                exact hdg
              · rw [e3.2] at hn
                cases hn
            split at h
            · cases h
            · rename_i z na kc2 ci hM
              split at h
              · rename_i hk3
                subst hk3
                split at h
                · split at h
                  · rename_i hcc
                    obtain ⟨hk2, hd1, hsum⟩ := hcc
                    subst hk2
                    have okM := (hOK.2.2.2.2.2.2.2.2.2.2.2.2.2.2 y k z na 3 ci hM).2.2.2 rfl
                    have hC' := hC
                    obtain ⟨hx, hb, hml, hrc, hlocks, hexc, hname, hown, hts, hE, hK, hb0⟩ := hC'
                    rcases ip_ci_of hci with ⟨_, h9⟩ | ⟨_, h9⟩ | ⟨rfl, -⟩
                    · cases h9
                    · cases h9
                    · exact ip_objInit hx hb hml hown (hts _ okM.1 args) (hts _ okM.2.1 args) (hts _ okM.2.2 args) hsum (by omega) (by omega) h3 (ih _ _ _ _ _ _ _ _ h p e R s m args below meth c n0 s0 hC hdR hdL hn0 hs0 hcells hslots)
                  · cases h
                · cases h
              · split at h
                · rename_i hkk
                  subst hkk
                  split at h
                  · cases h
                  · rename_i av rest ha
                    split at h
                    · rename_i hcc
                      obtain ⟨hd1, hsum, hav⟩ := hcc
                      split at h
                      · rename_i v w1 hrun
                        have hm1 := ip_ex_mono tb _ _ _ _ _ _ _ _ _ hrun
                        have hm2 := ip_ex_mono tb _ _ _ _ _ _ _ _ _ h
                        exact ip_callok hOK hEk hC hM hci h3 ha hsum hav hd1 hdR hdL hn0 hs0 hm1.1 hm1.2 (by omega) (by omega) (ih _ _ _ _ _ _ _ _ hrun)
                          (fun v2 hv2 => by
                            cases hv2
                            exact ih _ _ _ _ _ _ _ _ h p e R s m args below meth c n0 s0 hC hdR hdL (by omega) (by omega) hcells hslots)
                          (fun a ha => by cases ha)
                      · rename_i a w1 hrun
                        have hm1 := ip_ex_mono tb _ _ _ _ _ _ _ _ _ hrun
                        split at h
                        · rename_i hem
                          cases h
                          have hC' := hC
                          obtain ⟨hx, hb, hml, hrc, hlocks, hexc, hname, hown, hts, hE, hK, hb0⟩ := hC'
                          exact ip_callok hOK hEk hC hM hci h3 ha hsum hav hd1 hdR hdL hn0 hs0 hm1.1 hm1.2 (by omega) (by omega) (ih _ _ _ _ _ _ _ _ hrun)
                            (fun v2 hv2 => by cases hv2)
                            (fun a2 ha2 => by
                              cases ha2
                              exact ip_Xout hlocks hb0 (ip_exc hexc hem pc))
                        · split at h
                          · rename_i hpc hhd
                            have hm2 := ip_ex_mono tb _ _ _ _ _ _ _ _ _ h
                            exact ip_callok hOK hEk hC hM hci h3 ha hsum hav hd1 hdR hdL hn0 hs0 hm1.1 hm1.2 (by omega) (by omega) (ih _ _ _ _ _ _ _ _ hrun)
                              (fun v2 hv2 => by cases hv2)
                              (fun a2 ha2 => by
                                cases ha2
                                exact hH y p e R s m args below meth c n0 s0 _ pc a hpc lo w1 hC hhd (ih _ _ _ _ _ _ _ _ h p e R s m args below meth c n0 s0 hC hdR hdL (by omega) (by omega) hcells hslots))
                          · cases h
                      · cases h
                    · cases h
                · split at h
                  · rename_i hkk
                    subst hkk
                    split at h
                    · cases h
                    · rename_i av rest ha
                      split at h
                      · rename_i hcc
                        obtain ⟨hd1, hsum⟩ := hcc
                        split at h
                        · rename_i v w1 hpr
                          split at h
                          · rename_i hm1
                            have hm2 := ip_ex_mono tb _ _ _ _ _ _ _ _ _ h
                            exact hP y p e R s m args below meth c n0 s0 _ k z na kc ci pc i av rest st lo v w w1 hC hM hci h3 ha hsum (by omega) (by omega) hn0 hs0 (by omega) (by omega) hpr (ih _ _ _ _ _ _ _ _ h p e R s m args below meth c n0 s0 hC hdR hdL (by omega) (by omega) hcells hslots)
                          · cases h
                        · cases h
                      · cases h
                  · cases h
/-- the meaning of a method that the interpreter runs to an outcome -/
theorem ip_means (hOK : ip_OK tb Ts cl b sc mN mB mR) (hEk : ip_Ek b Ev) (hY : ip_HY l tb Ts Ev D cl aC b sc mN mB) {f d z n : Nat} {av : List Value} {w w2 : ip_W} {o : Outcome} (hz : ip_Zok tb Ts mN mB mR z n) (hav : (lg_sl av).length ≤ tL tb z) (h : ip_ex tb f d z 0 (lv_args 0 av) [] w = some (o, w2)) : ip_M l Ev Ts D cl aC b sc (mN z) (ip_rm d w w2) w av o w2 :=
  ip_enter hz hav (ip_ex_mono tb _ _ _ _ _ _ _ _ _ h) (ip_sound hOK hEk hY _ _ _ _ _ _ _ _ _ h)
end IPU
