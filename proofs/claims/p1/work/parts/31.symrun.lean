/-! part 31: a run with symbols is sound -/
section SXU
variable {N : sx_N}
theorem sx_args_d (N : sx_N) : ∀ (av : List sx_v) (i : Nat), sx_ld N (sx_args i av) = lv_args i (av.map (sx_d N))
  | [], i => rfl
  | v :: vs, i => by
    show (i, sx_d N v) :: sx_ld N (sx_args (if sx_cat v = 2 then i + 2 else i + 1) vs) = (i, sx_d N v) :: lv_args (if (sx_d N v).category = 2 then i + 2 else i + 1) (vs.map (sx_d N))
    rw [sx_args_d N vs, sx_cat_d]
theorem sx_sum (st : List sx_v) : ((st.map (sx_d N)).map fun v => v.category).sum = (st.map sx_cat).sum := by
  rw [List.map_map]
  congr 1
  exact List.map_congr_left (fun v _ => sx_cat_d N v)
theorem sx_c12 (v : Value) : v.category = 1 ∨ v.category = 2 := by cases v <;> simp [Value.category]
theorem sx_sl : ∀ av : List sx_v, (lg_sl (av.map (sx_d N))).length = (av.map sx_cat).sum
  | [] => rfl
  | v :: vs => by
    have h := sx_sl vs
    simp only [lg_sl, List.map_cons, List.flatMap_cons, List.length_append, List.sum_cons] at h ⊢
    rw [h, sx_cat_d]
    congr 1
    rcases sx_c12 (sx_d N v) with h1 | h1
    · rw [sx_cat_d] at h1
      rw [h1]
      rfl
    · rw [sx_cat_d] at h1
      rw [h1]
      rfl
theorem sx_take_d {n : Nat} {st av rest : List sx_v} (h : sx_take n st = some (av, rest)) : ip_take n (st.map (sx_d N)) = some (av.map (sx_d N), rest.map (sx_d N)) := by
  unfold sx_take at h
  split at h
  · rename_i hn
    cases h
    unfold ip_take
    rw [if_pos (by rw [List.length_map]; exact hn), ← List.map_take, ← List.map_drop, ← List.map_reverse]
  · cases h
theorem sx_arg_d {kc n ci : Nat} {st av rest : List sx_v} {W : sx_W} (h : sx_arg kc n ci st W = some (av, rest)) : ip_arg kc n ci (st.map (sx_d N)) (il_w (sx_wd N W)) = some (av.map (sx_d N), rest.map (sx_d N)) := by
  unfold sx_arg at h
  split at h
  · cases h
  · rename_i av2 rest2 ht
    unfold ip_arg
    rw [sx_take_d ht]
    simp only
    split at h
    · rename_i hk
      cases h
      rw [if_pos hk]
    · rename_i hk
      rw [if_neg hk]
      split at h
      · rename_i a rr
        simp only [List.map_cons, sx_d]
        split at h
        · rename_i hk2
          cases h
          rw [if_pos hk2]
          rfl
        · rename_i hk2
          rw [if_neg hk2]
          split at h
          · rename_i cj fs hW
            split at h
            · rename_i hcj
              cases h
              simp only [sx_at, hW, Option.map_some, sx_ed]
              rw [if_pos hcj]
              rfl
            · cases h
          · cases h
      · cases h
theorem sx_hd_d {X : Nat → Option Nat} {W : sx_W} {a h : Nat} (hh : sx_hd X W a = some h) : ip_hd X (il_w (sx_wd N W)) a = some h := by
  unfold sx_hd at hh
  unfold ip_hd
  split at hh
  · rename_i ci fs hW
    simp only [sx_at, hW, Option.map_some, sx_ed]
    exact hh
  · cases hh
theorem sx_P_ok {z : Nat} {av : List sx_v} {k k2 : Nat} {cs cs2 : List sx_c} {x : sx_v} {w : ip_W} (h : sx_P z av k cs = some (x, k2, cs2)) (hall : ∀ c ∈ cs2, sx_h N c) : (∀ c ∈ cs, sx_h N c) ∧ vt_P z (av.map (sx_d N)) w = some (some (sx_d N x), w) := by
  unfold sx_P at h
  split at h
  · rename_i cv hcv
    split at h
    · rename_i hz
      split at h
      · rename_i y w0 hP
        cases h
        refine ⟨hall, ?_⟩
        rw [sx_allc_of N _ _ hcv]
        unfold vt_P at hP ⊢
        split at hP
        all_goals first | (cases hP; done) | (cases hP; rfl) | (exfalso; omega)
      · cases h
    · cases h
  · split at h
    all_goals first | (cases h; done) | skip
    all_goals
      split at h
      · rename_i hk
        cases h
        refine ⟨fun c hc => hall c (List.mem_cons_of_mem _ hc), ?_⟩
        have hc := hall _ List.mem_cons_self
        first
          | (simp only [List.map_cons, List.map_nil, sx_isI_d hk.1, sx_isI_d hk.2, vt_P]; rw [show sx_d N (.inr (false, k)) = .int (sx_i N (.inr (false, k))) from rfl, show sx_i N (.inr (false, k)) = _ from hc]; done)
          | (simp only [List.map_cons, List.map_nil, sx_isL_d hk.1, sx_isL_d hk.2, vt_P]; rw [show sx_d N (.inr (true, k)) = .long (sx_l N (.inr (true, k))) from rfl, show sx_l N (.inr (true, k)) = _ from hc]; done)
          | (simp only [List.map_cons, List.map_nil, sx_isI_d hk, vt_P]; rw [show sx_d N (.inr (false, k)) = .int (sx_i N (.inr (false, k))) from rfl, show sx_i N (.inr (false, k)) = _ from hc]; done)
          | (simp only [List.map_cons, List.map_nil, sx_isL_d hk, vt_P]; rw [show sx_d N (.inr (true, k)) = .long (sx_l N (.inr (true, k))) from rfl, show sx_l N (.inr (true, k)) = _ from hc]; done)
      · cases h
theorem sx_end_ok {rc : Nat} {i : Instr} {st : List sx_v} {cs : List sx_c} {r : sx_o × List sx_c} {w : ip_W} (h : sx_end rc i st cs = some r) (hall : ∀ c ∈ r.2, sx_h N c) : (∀ c ∈ cs, sx_h N c) ∧ ip_end rc i (st.map (sx_d N)) w = some (sx_od N r.1, w) := by
  cases i <;> simp only [sx_end] at h <;> first | (cases h; done) | skip
  case ireturn =>
    split at h
    · split at h
      · rename_i x hk
        cases h
        refine ⟨hall, ?_⟩
        show (if _ then _ else _) = _
        rw [if_pos hk]
        rfl
      · cases h
    · rename_i k
      split at h
      · rename_i hk
        cases h
        refine ⟨hall, ?_⟩
        show (if _ then _ else _) = _
        rw [if_pos (Or.inl hk)]
        rfl
      · split at h
        · rename_i hk
          cases h
          have hc : N.1 k = 0 ∨ N.1 k = 1 := hall _ List.mem_cons_self
          refine ⟨fun c hc => hall c (List.mem_cons_of_mem _ hc), ?_⟩
          show (if _ then _ else _) = _
          rw [if_pos (Or.inr ⟨hk, hc⟩)]
          rfl
        · cases h
    · cases h
  case lreturn =>
    split at h
    · split at h
      · rename_i x hk
        cases h
        refine ⟨hall, ?_⟩
        simp only [List.map_cons, List.map_nil, sx_isL_d hk.2, ip_end]
        rw [if_pos hk.1]
        simp only [sx_od, Option.map_some, sx_isL_d hk.2]
      · cases h
    · cases h
  case areturn =>
    split at h
    · split at h
      · rename_i a hk
        cases h
        refine ⟨hall, ?_⟩
        show (if _ then _ else _) = _
        rw [if_pos hk]
        rfl
      · cases h
    · split at h
      · rename_i hk
        cases h
        refine ⟨hall, ?_⟩
        show (if _ then _ else _) = _
        rw [if_pos hk]
        rfl
      · cases h
    · cases h
  case return_ =>
    split at h
    · split at h
      · rename_i hk
        cases h
        refine ⟨hall, ?_⟩
        show (if _ then _ else _) = _
        rw [if_pos hk]
        rfl
      · cases h
    · cases h
variable {Ro : Nat → Option (Nat × Nat × (Nat → Int32))}
set_option maxHeartbeats 1000000 in
theorem sx_ex_ok (hsc : sx_sc N Ro) : ∀ (f d y pc : Nat) (lo : List (Nat × sx_v)) (st : List sx_v) (W : sx_W) (ps : List Nat) (k : Nat) (cs : List sx_c) (o : sx_o) (W2 : sx_W) (ps2 : List Nat) (k2 : Nat) (cs2 : List sx_c), sx_ex sx_tb f d y pc lo st W ps k cs = some (o, W2, ps2, k2, cs2) → (∀ c ∈ cs2, sx_h N c) → (∀ c ∈ cs, sx_h N c) ∧ ip_ex (vt_tb vt_P Ro) f d y pc (sx_ld N lo) (st.map (sx_d N)) (il_w (sx_wd N W)) = some (sx_od N o, il_w (sx_wd N W2)) := by
  intro f
  induction f with
  | zero => intro d y pc lo st W ps k cs o W2 ps2 k2 cs2 h; simp [sx_ex] at h
  | succ f ih =>
    intro d y pc lo st W ps k cs o W2 ps2 k2 cs2 h hall
    unfold sx_ex at h
    unfold ip_ex
    split at h
    · cases h
    · rename_i i n hI
      have hI2 : tI (vt_tb vt_P Ro) y pc = some (i, n) := hI
      simp only [hI2]
      split at h
      · rename_i hck
        rw [if_pos hck]
        split at h
        · rename_i ci htw
          have htw2 : ip_tw (tN (vt_tb vt_P Ro) y) i = some ci := htw
          simp only [htw2]
          split at h
          · rename_i hc
            cases h
            rw [if_pos ⟨hc.1, hc.2.1, by rw [sx_sum]; exact hc.2.2⟩]
            refine ⟨hall, ?_⟩
            unfold ip_thw
            rw [show (Sum.inr (ci + 3, []) : ip_E) = sx_ed N (.inr (ci + 3, [])) from rfl, show (6 : Nat) = sx_n N (.inl 6) from rfl, sx_wpush, sx_wlen]
            rfl
          · cases h
        · rename_i htw
          have htw2 : ip_tw (tN (vt_tb vt_P Ro) y) i = none := htw
          simp only [htw2]
          split at h
          · rename_i r hst
            obtain ⟨h1, h2⟩ := ih _ _ _ _ _ _ _ _ _ _ _ _ _ _ h hall
            obtain ⟨h3, h4⟩ := sx_st_ok (Ro := Ro) hsc hst h1
            refine ⟨h3, ?_⟩
            rcases h4 with h4 | ⟨h4, h5, h6, h7, h8⟩
            · have h4b : ip_st (tF (vt_tb vt_P Ro) y) (tFt (vt_tb vt_P Ro)) (tC (vt_tb vt_P Ro) y) (tN (vt_tb vt_P Ro) y) (tL (vt_tb vt_P Ro) y) (tJ (vt_tb vt_P Ro) y) i pc (sx_ld N lo) (st.map (sx_d N)) (il_w (sx_wd N W)) = _ := h4
              simp only [h4b]
              exact h2
            · have h4b : ip_st (tF (vt_tb vt_P Ro) y) (tFt (vt_tb vt_P Ro)) (tC (vt_tb vt_P Ro) y) (tN (vt_tb vt_P Ro) y) (tL (vt_tb vt_P Ro) y) (tJ (vt_tb vt_P Ro) y) i pc (sx_ld N lo) (st.map (sx_d N)) (il_w (sx_wd N W)) = none := h4
              have h5b : ip_rd (tO (vt_tb vt_P Ro)) i (st.map (sx_d N)) = _ := h5
              simp only [h4b, h5b]
              rw [h6, h7, h8] at h2
              exact h2
          · cases h
      · rename_i hck
        rw [if_neg hck]
        split at h
        · rename_i hck2
          rw [if_pos hck2]
          split at h
          · rename_i r he
            cases h
            exact sx_end_ok he hall
          · cases h
        · rename_i hck2
          rw [if_neg hck2]
          split at h
          · cases h
          · rename_i kc j hci
            simp only [hci]
            split at h
            · cases h
            · rename_i z na kc2 ci hM
              have hM2 : tM (vt_tb vt_P Ro) y j = some (z, na, kc2, ci) := hM
              simp only [hM2]
              split at h
              · rename_i hk3
                rw [if_pos hk3]
                split at h
                · rename_i a rr
                  split at h
                  · rename_i hc
                    simp only [List.map_cons, sx_d]
                    rw [if_pos ⟨hc.1, hc.2.1, by rw [sx_sum]; exact hc.2.2⟩]
                    exact ih _ _ _ _ _ _ _ _ _ _ _ _ _ _ h hall
                  · cases h
                · cases h
              · rename_i hk3
                rw [if_neg hk3]
                split at h
                · rename_i hkk
                  rw [if_pos hkk]
                  split at h
                  · cases h
                  · rename_i av rest ha
                    have ha2 := sx_arg_d (N := N) ha
                    simp only [ha2]
                    split at h
                    · rename_i hc
                      rw [if_pos ⟨hc.1, by rw [sx_sum]; exact hc.2.1, by rw [sx_sl]; exact hc.2.2⟩]
                      split at h
                      · rename_i x W1 ps1 k1 cs1 hrun
                        obtain ⟨h1, h2⟩ := ih _ _ _ _ _ _ _ _ _ _ _ _ _ _ h hall
                        obtain ⟨h3, h4⟩ := ih _ _ _ _ _ _ _ _ _ _ _ _ _ _ hrun h1
                        refine ⟨h3, ?_⟩
                        rw [sx_args_d] at h4
                        simp only [List.map_nil] at h4
                        simp only [h4, sx_od]
                        have e1 : (x.toList ++ rest).map (sx_d N) = (x.map (sx_d N)).toList ++ rest.map (sx_d N) := by
                          rw [List.map_append]
                          cases x <;> rfl
                        rw [← e1]
                        exact h2
                      · rename_i a W1 ps1 k1 cs1 hrun
                        split at h
                        · rename_i he
                          cases h
                          obtain ⟨h3, h4⟩ := ih _ _ _ _ _ _ _ _ _ _ _ _ _ _ hrun hall
                          refine ⟨h3, ?_⟩
                          rw [sx_args_d] at h4
                          simp only [List.map_nil] at h4
                          simp only [h4, sx_od]
                          have he2 : (tH (vt_tb vt_P Ro) y).isEmpty = true := he
                          rw [if_pos he2]
                        · rename_i he
                          split at h
                          · rename_i hh hhd
                            obtain ⟨h1, h2⟩ := ih _ _ _ _ _ _ _ _ _ _ _ _ _ _ h hall
                            obtain ⟨h3, h4⟩ := ih _ _ _ _ _ _ _ _ _ _ _ _ _ _ hrun h1
                            refine ⟨h3, ?_⟩
                            rw [sx_args_d] at h4
                            simp only [List.map_nil] at h4
                            simp only [h4, sx_od]
                            have he2 : ¬ (tH (vt_tb vt_P Ro) y).isEmpty = true := he
                            rw [if_neg he2]
                            have hhd2 : ip_hd (tX (vt_tb vt_P Ro) y pc) (il_w (sx_wd N W1)) a = some hh := sx_hd_d hhd
                            simp only [hhd2]
                            exact h2
                          · cases h
                      · cases h
                    · cases h
                · rename_i hkk
                  rw [if_neg hkk]
                  split at h
                  · rename_i hk4
                    rw [if_pos hk4]
                    split at h
                    · cases h
                    · rename_i av rest ha
                      have ha2 : ip_argP kc na (st.map (sx_d N)) = _ := sx_take_d (N := N) ha
                      simp only [ha2]
                      split at h
                      · rename_i hc
                        rw [if_pos ⟨hc.1, by rw [sx_sum]; exact hc.2⟩]
                        split at h
                        · rename_i x k1 cs1 hpr
                          obtain ⟨h1, h2⟩ := ih _ _ _ _ _ _ _ _ _ _ _ _ _ _ h hall
                          obtain ⟨h3, h4⟩ := sx_P_ok (w := il_w (sx_wd N W)) hpr h1
                          refine ⟨h3, ?_⟩
                          rw [show tP (vt_tb vt_P Ro) = vt_P from rfl]
                          simp only [h4]
                          rw [if_pos ⟨Nat.le_refl _, Nat.le_refl _⟩]
                          exact h2
                        · cases h
                      · cases h
                  · cases h
/-- a whole method -/
theorem sx_rn (hsc : sx_sc N Ro) {f d y pc : Nat} {lo : List (Nat × sx_v)} {st : List sx_v} {W : sx_W} {ps : List Nat} {k : Nat} {o : sx_o} {W2 : sx_W} {ps2 : List Nat} {k2 : Nat} {cs2 : List sx_c} (h : sx_ex sx_tb f d y pc lo st W ps k [] = some (o, W2, ps2, k2, cs2)) (hall : ∀ c ∈ cs2, sx_h N c) : ip_rn (vt_tb vt_P Ro) d y pc (sx_ld N lo) (st.map (sx_d N)) (il_w (sx_wd N W)) (sx_od N o) (il_w (sx_wd N W2)) :=
  ⟨f, (sx_ex_ok hsc f d y pc lo st W ps k [] o W2 ps2 k2 cs2 h hall).2⟩
set_option maxHeartbeats 1000000 in
/-- some steps, then a run -/
theorem sx_go_ok (hsc : sx_sc N Ro) {F d y : Nat} {o : Outcome} {w2 : ip_W} : ∀ (n pc : Nat) (lo : List (Nat × sx_v)) (st : List sx_v) (W : sx_W) (ps : List Nat) (k : Nat) (cs : List sx_c) (r : sx_R), sx_go sx_tb F d y n pc lo st W ps k cs = some r → (∀ c ∈ r.2.2.2.2.2.2, sx_h N c) → (∀ c ∈ cs, sx_h N c) ∧ (ip_rn (vt_tb vt_P Ro) d y r.1 (sx_ld N r.2.1) (r.2.2.1.map (sx_d N)) (il_w (sx_wd N r.2.2.2.1)) o w2 → ip_rn (vt_tb vt_P Ro) d y pc (sx_ld N lo) (st.map (sx_d N)) (il_w (sx_wd N W)) o w2) := by
  intro n
  induction n with
  | zero =>
    intro pc lo st W ps k cs r h hall
    simp only [sx_go, Option.some.injEq] at h
    subst h
    exact ⟨hall, id⟩
  | succ n ih =>
    intro pc lo st W ps k cs r h hall
    unfold sx_go at h
    split at h
    · cases h
    · rename_i i k0 hI
      have hI2 : tI (vt_tb vt_P Ro) y pc = some (i, k0) := hI
      split at h
      · rename_i hck
        split at h
        · cases h
        · rename_i htw
          have htw2 : ip_tw (tN (vt_tb vt_P Ro) y) i = none := htw
          split at h
          · rename_i r1 hst
            obtain ⟨h1, h2⟩ := ih _ _ _ _ _ _ _ _ h hall
            obtain ⟨h3, h4⟩ := sx_st_ok (Ro := Ro) hsc hst h1
            refine ⟨h3, fun hr => ?_⟩
            obtain ⟨f, hf⟩ := h2 hr
            refine ⟨f + 1, ?_⟩
            unfold ip_ex
            simp only [hI2]
            rw [if_pos hck]
            simp only [htw2]
            rcases h4 with h4 | ⟨h4, h5, h6, h7, h8⟩
            · have h4b : ip_st (tF (vt_tb vt_P Ro) y) (tFt (vt_tb vt_P Ro)) (tC (vt_tb vt_P Ro) y) (tN (vt_tb vt_P Ro) y) (tL (vt_tb vt_P Ro) y) (tJ (vt_tb vt_P Ro) y) i pc (sx_ld N lo) (st.map (sx_d N)) (il_w (sx_wd N W)) = _ := h4
              simp only [h4b]
              exact hf
            · have h4b : ip_st (tF (vt_tb vt_P Ro) y) (tFt (vt_tb vt_P Ro)) (tC (vt_tb vt_P Ro) y) (tN (vt_tb vt_P Ro) y) (tL (vt_tb vt_P Ro) y) (tJ (vt_tb vt_P Ro) y) i pc (sx_ld N lo) (st.map (sx_d N)) (il_w (sx_wd N W)) = none := h4
              have h5b : ip_rd (tO (vt_tb vt_P Ro)) i (st.map (sx_d N)) = _ := h5
              simp only [h4b, h5b]
              rw [h6, h7, h8] at hf
              exact hf
          · cases h
      · rename_i hck
        split at h
        · cases h
        · rename_i hck2
          split at h
          · cases h
          · rename_i kc j hci
            split at h
            · cases h
            · rename_i z na kc2 ci hM
              have hM2 : tM (vt_tb vt_P Ro) y j = some (z, na, kc2, ci) := hM
              split at h
              · rename_i hk3
                split at h
                · rename_i a rr
                  split at h
                  · rename_i hc
                    obtain ⟨h1, h2⟩ := ih _ _ _ _ _ _ _ _ h hall
                    refine ⟨h1, fun hr => ?_⟩
                    obtain ⟨f, hf⟩ := h2 hr
                    refine ⟨f + 1, ?_⟩
                    unfold ip_ex
                    simp only [hI2]
                    rw [if_neg hck, if_neg hck2]
                    simp only [hci, hM2]
                    rw [if_pos hk3]
                    simp only [List.map_cons, sx_d]
                    rw [if_pos ⟨hc.1, hc.2.1, by rw [sx_sum]; exact hc.2.2⟩]
                    exact hf
                  · cases h
                · cases h
              · rename_i hk3
                split at h
                · rename_i hkk
                  split at h
                  · cases h
                  · rename_i av rest ha
                    have ha2 := sx_arg_d (N := N) ha
                    split at h
                    · rename_i hc
                      split at h
                      · rename_i x W1 ps1 k1 cs1 hrun
                        obtain ⟨h1, h2⟩ := ih _ _ _ _ _ _ _ _ h hall
                        obtain ⟨h3, h4⟩ := sx_ex_ok hsc _ _ _ _ _ _ _ _ _ _ _ _ _ _ _ hrun h1
                        refine ⟨h3, fun hr => ?_⟩
                        obtain ⟨f, hf⟩ := h2 hr
                        refine ⟨f + F + 1, ?_⟩
                        unfold ip_ex
                        simp only [hI2]
                        rw [if_neg hck, if_neg hck2]
                        simp only [hci, hM2]
                        rw [if_neg hk3, if_pos hkk]
                        simp only [ha2]
                        rw [if_pos ⟨hc.1, by rw [sx_sum]; exact hc.2.1, by rw [sx_sl]; exact hc.2.2⟩]
                        rw [sx_args_d] at h4
                        simp only [List.map_nil] at h4
                        have h5 := ip_ex_up _ _ (f + F) _ (d - 1) _ _ _ _ _ _ h4 (by omega) (Nat.le_refl _)
                        simp only [h5, sx_od]
                        have e1 : (x.toList ++ rest).map (sx_d N) = (x.map (sx_d N)).toList ++ rest.map (sx_d N) := by
                          rw [List.map_append]
                          cases x <;> rfl
                        rw [← e1]
                        exact ip_ex_up _ _ (f + F) _ d _ _ _ _ _ _ hf (by omega) (Nat.le_refl _)
                      · rename_i a W1 ps1 k1 cs1 hrun
                        split at h
                        · cases h
                        · rename_i he
                          have he2 : ¬ (tH (vt_tb vt_P Ro) y).isEmpty = true := he
                          split at h
                          · rename_i hh hhd
                            obtain ⟨h1, h2⟩ := ih _ _ _ _ _ _ _ _ h hall
                            obtain ⟨h3, h4⟩ := sx_ex_ok hsc _ _ _ _ _ _ _ _ _ _ _ _ _ _ _ hrun h1
                            refine ⟨h3, fun hr => ?_⟩
                            obtain ⟨f, hf⟩ := h2 hr
                            refine ⟨f + F + 1, ?_⟩
                            unfold ip_ex
                            simp only [hI2]
                            rw [if_neg hck, if_neg hck2]
                            simp only [hci, hM2]
                            rw [if_neg hk3, if_pos hkk]
                            simp only [ha2]
                            rw [if_pos ⟨hc.1, by rw [sx_sum]; exact hc.2.1, by rw [sx_sl]; exact hc.2.2⟩]
                            rw [sx_args_d] at h4
                            simp only [List.map_nil] at h4
                            have h5 := ip_ex_up _ _ (f + F) _ (d - 1) _ _ _ _ _ _ h4 (by omega) (Nat.le_refl _)
                            simp only [h5, sx_od]
                            rw [if_neg he2]
                            have hhd2 : ip_hd (tX (vt_tb vt_P Ro) y pc) (il_w (sx_wd N W1)) a = some hh := sx_hd_d hhd
                            simp only [hhd2]
                            exact ip_ex_up _ _ (f + F) _ d _ _ _ _ _ _ hf (by omega) (Nat.le_refl _)
                          · cases h
                      · cases h
                    · cases h
                · rename_i hkk
                  split at h
                  · rename_i hk4
                    split at h
                    · cases h
                    · rename_i av rest ha
                      have ha2 : ip_argP kc na (st.map (sx_d N)) = _ := sx_take_d (N := N) ha
                      split at h
                      · rename_i hc
                        split at h
                        · rename_i x k1 cs1 hpr
                          obtain ⟨h1, h2⟩ := ih _ _ _ _ _ _ _ _ h hall
                          obtain ⟨h3, h4⟩ := sx_P_ok (w := il_w (sx_wd N W)) hpr h1
                          refine ⟨h3, fun hr => ?_⟩
                          obtain ⟨f, hf⟩ := h2 hr
                          refine ⟨f + 1, ?_⟩
                          unfold ip_ex
                          simp only [hI2]
                          rw [if_neg hck, if_neg hck2]
                          simp only [hci, hM2]
                          rw [if_neg hk3, if_neg hkk, if_pos hk4]
                          simp only [ha2]
                          rw [if_pos ⟨hc.1, by rw [sx_sum]; exact hc.2⟩, show tP (vt_tb vt_P Ro) = vt_P from rfl]
                          simp only [h4]
                          rw [if_pos ⟨Nat.le_refl _, Nat.le_refl _⟩]
                          exact hf
                        · cases h
                      · cases h
                  · cases h
end SXU
