/-! part 30: a step with symbols is sound -/
section SXT
variable {N : sx_N} {Fd : Nat → Option (Nat × Nat)} {Ft : Nat → Nat → Option (Nat × Bool)} {Cn : Nat → Option Value} {Nw : Nat → Option (Nat × List Value)} {nL : Nat} {ini : Option Nat} {Ro : Nat → Option (Nat × Nat × (Nat → Int32))} {i : Instr} {pc : Nat} {lo : List (Nat × sx_v)} {st : List sx_v} {W : sx_W} {ps : List Nat} {k : Nat} {cs : List sx_c} {r : sx_R}
/-- the environment knows the script -/
def sx_sc (N : sx_N) (Ro : Nat → Option (Nat × Nat × (Nat → Int32))) : Prop := ∃ L : Nat, Ro 100 = some (0, L, N.2.2.1 0) ∧ N.1 0 = Int32.ofNat L ∧ L < 2 ^ 31
def sx_ok (N : sx_N) (Fd : Nat → Option (Nat × Nat)) (Ft : Nat → Nat → Option (Nat × Bool)) (Cn : Nat → Option Value) (Nw : Nat → Option (Nat × List Value)) (nL : Nat) (ini : Option Nat) (Ro : Nat → Option (Nat × Nat × (Nat → Int32))) (i : Instr) (pc : Nat) (lo : List (Nat × sx_v)) (st : List sx_v) (W : sx_W) (cs : List sx_c) (r : sx_R) : Prop :=
  (∀ c ∈ cs, sx_h N c) ∧ (ip_st Fd Ft Cn Nw nL ini i pc (sx_ld N lo) (st.map (sx_d N)) (il_w (sx_wd N W)) = some (r.1, sx_ld N r.2.1, r.2.2.1.map (sx_d N), il_w (sx_wd N r.2.2.2.1)) ∨ (ip_st Fd Ft Cn Nw nL ini i pc (sx_ld N lo) (st.map (sx_d N)) (il_w (sx_wd N W)) = none ∧ ip_rd Ro i (st.map (sx_d N)) = some (r.2.2.1.map (sx_d N)) ∧ r.1 = pc + 1 ∧ r.2.1 = lo ∧ r.2.2.2.1 = W))
theorem sx_gen {m kd : Nat} (ha : sx_ar i = some (m, kd)) (h : sx_st Fd Ft Cn Nw nL ini i pc lo st W ps k cs = some r) (hall : ∀ c ∈ r.2.2.2.2.2.2, sx_h N c) : sx_ok N Fd Ft Cn Nw nL ini Ro i pc lo st W cs r := by
  unfold sx_st at h
  rw [ha] at h
  simp only at h
  split at h
  · rename_i hm
    have hlen : (st.take m).length = m := by rw [List.length_take]; omega
    have hst : st.map (sx_d N) = (st.take m).map (sx_d N) ++ (st.drop m).map (sx_d N) := by rw [← List.map_append, List.take_append_drop]
    have hl2 : ((st.take m).map (sx_d N)).length = m := by rw [List.length_map]; exact hlen
    split at h
    · rename_i cv hcv
      have hcv2 := sx_allc_of N _ _ hcv
      split at h
      · rename_i q hq
        cases h
        obtain ⟨k1, k2⟩ := sx_keep ha hq
        refine ⟨hall, Or.inl ?_⟩
        have hq2 : ip_st (fun _ => none) (fun _ _ => none) Cn (fun _ => none) 0 none i pc [] ((st.take m).map (sx_d N)) sx_w0 = some (q.1, [], q.2.2.1, sx_w0) := by
          rw [hcv2, hq]
          rw [← k1, ← k2]
        rw [hst, sx_frame ha hl2 (Or.inl rfl) hq2, List.map_append, List.map_map]
        have e1 : q.2.2.1.map (sx_d N ∘ Sum.inl) = q.2.2.1 := by
          have e2 : (sx_d N ∘ Sum.inl : Value → Value) = id := rfl
          rw [e2, List.map_id]
        rw [e1]
      · cases h
    · rename_i hcv
      have hm1 : 1 ≤ m := by
        rcases Nat.eq_zero_or_pos m with h0 | h0
        · subst h0
          cases hcv
        · exact h0
      split at h
      · split at h
        · rename_i t p
          cases h
          have hc := hall _ List.mem_cons_self
          refine ⟨fun c hc => hall c (List.mem_cons_of_mem _ hc), Or.inl ?_⟩
          rw [hst, sx_frame ha hl2 (Or.inr hm1) hc]
          rfl
        · cases h
      · cases h
        have hc := hall _ List.mem_cons_self
        refine ⟨fun c hc => hall c (List.mem_cons_of_mem _ hc), Or.inl ?_⟩
        rw [hst, sx_frame ha hl2 (Or.inr hm1) hc]
        rfl
      · cases h
        have hc := hall _ List.mem_cons_self
        refine ⟨fun c hc => hall c (List.mem_cons_of_mem _ hc), Or.inl ?_⟩
        rw [hst, sx_frame ha hl2 (Or.inr hm1) hc]
        rfl
      · cases h
  · cases h
set_option maxHeartbeats 2000000 in
theorem sx_st_ok (hsc : sx_sc N Ro) (h : sx_st Fd Ft Cn Nw nL ini i pc lo st W ps k cs = some r) (hall : ∀ c ∈ r.2.2.2.2.2.2, sx_h N c) : sx_ok N Fd Ft Cn Nw nL ini Ro i pc lo st W cs r := by
  cases ha : sx_ar i with
  | some q => exact sx_gen (m := q.1) (kd := q.2) ha h hall
  | none =>
    unfold sx_st at h
    rw [ha] at h
    simp only at h
    cases i
    case iload_n j =>
      simp only at h
      split at h
      · rename_i x hx
        split at h
        · rename_i hk
          cases h
          refine ⟨hall, Or.inl ?_⟩
          simp only [ip_st, sx_get_d, hx, Option.map_some, sx_isI_d hk, List.map_cons]
        · cases h
      · cases h
    case iload j =>
      simp only at h
      split at h
      · rename_i x hx
        split at h
        · rename_i hk
          cases h
          refine ⟨hall, Or.inl ?_⟩
          simp only [ip_st, sx_get_d, hx, Option.map_some, sx_isI_d hk, List.map_cons]
        · cases h
      · cases h
    case lload_n j =>
      simp only at h
      split at h
      · rename_i x hx
        split at h
        · rename_i hk
          cases h
          refine ⟨hall, Or.inl ?_⟩
          simp only [ip_st, sx_get_d, hx, Option.map_some, sx_isL_d hk, List.map_cons]
        · cases h
      · cases h
    case lload j =>
      simp only at h
      split at h
      · rename_i x hx
        split at h
        · rename_i hk
          cases h
          refine ⟨hall, Or.inl ?_⟩
          simp only [ip_st, sx_get_d, hx, Option.map_some, sx_isL_d hk, List.map_cons]
        · cases h
      · cases h
    case aload_n j =>
      simp only at h
      split at h
      · rename_i x hx
        split at h
        · rename_i hk
          cases h
          refine ⟨hall, Or.inl ?_⟩
          simp only [ip_st, sx_get_d, hx, Option.map_some, List.map_cons, sx_d]
          rw [if_pos hk]
        · cases h
      · cases h
    case aload j =>
      simp only at h
      split at h
      · rename_i x hx
        split at h
        · rename_i hk
          cases h
          refine ⟨hall, Or.inl ?_⟩
          simp only [ip_st, sx_get_d, hx, Option.map_some, List.map_cons, sx_d]
          rw [if_pos hk]
        · cases h
      · cases h
    case istore_n j =>
      simp only at h
      split at h
      · rename_i x rr
        split at h
        · rename_i hk
          cases h
          refine ⟨hall, Or.inl ?_⟩
          simp only [ip_st, List.map_cons, sx_isI_d hk.1, sx_set1_d]
          rw [if_pos hk.2]
        · cases h
      · cases h
    case istore j =>
      simp only at h
      split at h
      · rename_i x rr
        split at h
        · rename_i hk
          cases h
          refine ⟨hall, Or.inl ?_⟩
          simp only [ip_st, List.map_cons, sx_isI_d hk.1, sx_set1_d]
          rw [if_pos hk.2]
        · cases h
      · cases h
    case lstore_n j =>
      simp only at h
      split at h
      · rename_i x rr
        split at h
        · rename_i hk
          cases h
          refine ⟨hall, Or.inl ?_⟩
          simp only [ip_st, List.map_cons, sx_isL_d hk.1, sx_set2_d]
          rw [if_pos hk.2]
        · cases h
      · cases h
    case lstore j =>
      simp only at h
      split at h
      · rename_i x rr
        split at h
        · rename_i hk
          cases h
          refine ⟨hall, Or.inl ?_⟩
          simp only [ip_st, List.map_cons, sx_isL_d hk.1, sx_set2_d]
          rw [if_pos hk.2]
        · cases h
      · cases h
    case astore_n j =>
      simp only at h
      split at h
      · rename_i x rr
        split at h
        · rename_i hk
          cases h
          refine ⟨hall, Or.inl ?_⟩
          simp only [ip_st, List.map_cons, sx_set1_d]
          rw [show sx_d N (.inl x) = x from rfl, if_pos hk]
        · cases h
      · cases h
    case astore j =>
      simp only at h
      split at h
      · rename_i x rr
        split at h
        · rename_i hk
          cases h
          refine ⟨hall, Or.inl ?_⟩
          simp only [ip_st, List.map_cons, sx_set1_d]
          rw [show sx_d N (.inl x) = x from rfl, if_pos hk]
        · cases h
      · cases h
    case iinc j z =>
      simp only at h
      split at h
      · rename_i x hx
        split at h
        · rename_i hk
          cases h
          refine ⟨hall, Or.inl ?_⟩
          simp only [ip_st, sx_get_d, hx, Option.map_some, sx_d, sx_set1_d]
          rw [if_pos hk]
        · cases h
      · rename_i q hx
        split at h
        · rename_i hk
          cases h
          have hc : ip_st (fun _ => none) (fun _ _ => none) (fun _ => none) (fun _ => none) 0 none .iadd 0 [] [.int (Int32.ofInt z), .int (N.1 q)] sx_w0 = some (1, [], [.int (N.1 k)], sx_w0) := hall _ List.mem_cons_self
          refine ⟨fun c hc => hall c (List.mem_cons_of_mem _ hc), Or.inl ?_⟩
          simp only [ip_st, Option.some.injEq, Prod.mk.injEq, List.cons.injEq, Value.int.injEq, and_true, true_and] at hc
          simp only [ip_st, sx_get_d, hx, Option.map_some, sx_d, sx_set1_d]
          rw [if_pos hk, hc]
        · cases h
      · cases h
    case dup =>
      simp only at h
      split at h
      · rename_i x rr
        split at h
        · rename_i hk
          cases h
          refine ⟨hall, Or.inl ?_⟩
          simp only [ip_st, List.map_cons, sx_cat_d]
          rw [if_pos hk]
        · cases h
      · cases h
    case pop =>
      simp only at h
      split at h
      · rename_i x rr
        split at h
        · rename_i hk
          cases h
          refine ⟨hall, Or.inl ?_⟩
          simp only [ip_st, List.map_cons, sx_cat_d]
          rw [if_pos hk]
        · cases h
      · cases h
    case dup2 =>
      simp only at h
      split at h
      · rename_i x rr
        split at h
        · rename_i hk
          cases h
          refine ⟨hall, Or.inl ?_⟩
          simp only [ip_st, List.map_cons, sx_cat_d]
          rw [if_pos hk]
        · rename_i hk
          split at h
          · rename_i y r2
            split at h
            · rename_i hk2
              cases h
              refine ⟨hall, Or.inl ?_⟩
              simp only [ip_st, List.map_cons, sx_cat_d]
              rw [if_neg hk, if_pos hk2]
            · cases h
          · cases h
      · cases h
    case getfield j =>
      simp only at h
      split at h
      · rename_i a rr
        split at h
        · rename_i ci q ci2 fs hF hW
          split at h
          · rename_i hci
            split at h
            · rename_i x hx
              cases h
              refine ⟨hall, Or.inl ?_⟩
              simp only [ip_st, List.map_cons]
              rw [show sx_d N (.inl (.ref a)) = .ref a from rfl]
              simp only [sx_at, hF, hW, Option.map_some, sx_ed]
              rw [if_pos hci]
              simp only [List.getElem?_map, hx, Option.map_some]
            · cases h
          · cases h
        · cases h
      · cases h
    case putfield j =>
      simp only at h
      split at h
      · rename_i x a rr
        split at h
        · rename_i ci q ci2 fs hF hW
          split at h
          · rename_i tc fin hFt
            split at h
            · rename_i hk
              split at h
              · rename_i b hb
                cases h
                obtain ⟨h1, h2⟩ := sx_ask_of hall
                have hfk := sx_fok_of hb h1
                refine ⟨h2, Or.inl ?_⟩
                simp only [ip_st, List.map_cons]
                rw [show sx_d N (.inl (.ref a)) = .ref a from rfl]
                simp only [sx_at, hF, hW, Option.map_some, sx_ed, hFt]
                rw [if_pos ⟨hk.1, hfk, by rw [List.length_map]; exact hk.2.1, hk.2.2⟩, ← List.map_set]
                rw [show (Sum.inr (ci, (fs.set q x).map (sx_d N)) : ip_E) = sx_ed N (.inr (ci, fs.set q x)) from rfl, sx_wset hW]
              · cases h
            · cases h
          · cases h
        · cases h
      · cases h
    case arraylength =>
      simp only at h
      split at h
      · rename_i a rr
        split at h
        · rename_i e hW
          split at h
          · rename_i hk
            split at h
            · rename_i n hn
              cases h
              refine ⟨hall, Or.inl ?_⟩
              simp only [ip_st, List.map_cons, sx_d, sx_at, hW, Option.map_some, sx_ed]
              rw [if_pos hk, hn]
              rfl
            · rename_i n hn
              cases h
              have hc : N.1 k = Int32.ofNat (sx_n N e.2.1) := hall _ List.mem_cons_self
              refine ⟨fun c hc => hall c (List.mem_cons_of_mem _ hc), Or.inl ?_⟩
              simp only [ip_st, List.map_cons, sx_d, sx_at, hW, Option.map_some, sx_ed]
              rw [if_pos hk, hc]
          · cases h
        · cases h
      · rename_i rr
        cases h
        obtain ⟨L, hR, hN0, hL⟩ := hsc
        refine ⟨hall, Or.inr ⟨rfl, ?_, rfl, rfl, rfl⟩⟩
        simp only [ip_rd, List.map_cons, sx_d, hR, hN0]
      · cases h
    case iaload =>
      simp only at h
      split at h
      · rename_i x a rr
        split at h
        · rename_i e hW
          split at h
          · rename_i hk
            split at h
            · rename_i b hb
              cases h
              obtain ⟨kd, n, bb, us⟩ := e
              simp only at hk
              subst hk
              have hI : sx_isI x = true := by
                unfold sx_inb at hb
                split at hb
                · rfl
                · split at hb
                  · rename_i hI
                    exact hI
                  · cases hb
              obtain ⟨h1, h2, h3⟩ := sx_elt_of hI hall
              obtain ⟨h4, h5⟩ := sx_ask_of h1
              obtain ⟨-, h6⟩ := sx_inb_of (N := N) hb rfl h4
              refine ⟨h5, Or.inl ?_⟩
              simp only [ip_st, List.map_cons, sx_isI_d hI]
              rw [show sx_d N (.inl (.ref a)) = .ref a from rfl]
              simp only [sx_at, hW, Option.map_some, sx_ed, sx_ad]
              rw [if_neg (by decide), if_neg (by decide)]
              simp only
              rw [if_pos h6, h3 (by intro h; cases h)]
            · cases h
          · cases h
        · cases h
      · rename_i x rr
        split at h
        · rename_i b hb
          cases h
          have hI : sx_isI x = true := by
            unfold sx_inb at hb
            split at hb
            · rfl
            · split at hb
              · rename_i hI
                exact hI
              · cases hb
          obtain ⟨h1, h2, h3⟩ := sx_elt_of hI hall
          obtain ⟨h4, h5⟩ := sx_ask_of h1
          obtain ⟨-, h6⟩ := sx_inb_of (N := N) hb rfl h4
          obtain ⟨L, hR, hN0, hL⟩ := hsc
          have hn : sx_n N sx_scr.2.1 = L := by
            show (N.1 0).toNatClampNeg = L
            rw [hN0]
            exact Int32.toNatClampNeg_ofNat_of_lt hL
          rw [hn] at h6
          refine ⟨h5, Or.inr ⟨?_, ?_, rfl, rfl, rfl⟩⟩
          · simp only [ip_st, List.map_cons, sx_isI_d hI]
            rfl
          · simp only [ip_rd, List.map_cons, sx_isI_d hI]
            rw [show sx_d N (.inl (.retAddr 100)) = .retAddr 100 from rfl]
            simp only [hR]
            rw [if_pos h6, h3 (by intro h; cases h)]
            rfl
        · cases h
      · cases h
    case baload =>
      simp only at h
      split at h
      · rename_i x a rr
        split at h
        · rename_i e hW
          split at h
          · rename_i hk
            split at h
            · rename_i b hb
              cases h
              obtain ⟨kd, n, bb, us⟩ := e
              simp only at hk
              have hI : sx_isI x = true := by
                unfold sx_inb at hb
                split at hb
                · rfl
                · split at hb
                  · rename_i hI
                    exact hI
                  · cases hb
              obtain ⟨h1, h2, h3⟩ := sx_elt_of hI hall
              obtain ⟨h4, h5⟩ := sx_ask_of h1
              obtain ⟨-, h6⟩ := sx_inb_of (N := N) hb rfl h4
              refine ⟨h5, Or.inl ?_⟩
              simp only [ip_st, List.map_cons, sx_isI_d hI]
              rw [show sx_d N (.inl (.ref a)) = .ref a from rfl]
              rcases hk with rfl | rfl
              all_goals
                simp only [sx_at, hW, Option.map_some, sx_ed, sx_ad]
                rw [if_neg (by decide), if_neg (by decide)]
                simp only
                rw [if_pos h6, h3 (by intro h; cases h)]
            · cases h
          · cases h
        · cases h
      · cases h
    case laload =>
      simp only at h
      split at h
      · rename_i x a rr
        split at h
        · rename_i e hW
          split at h
          · rename_i hk
            split at h
            · rename_i b hb
              cases h
              obtain ⟨kd, n, bb, us⟩ := e
              simp only at hk
              subst hk
              have hI : sx_isI x = true := by
                unfold sx_inb at hb
                split at hb
                · rfl
                · split at hb
                  · rename_i hI
                    exact hI
                  · cases hb
              obtain ⟨h1, h2, h3⟩ := sx_elt_of hI hall
              obtain ⟨h4, h5⟩ := sx_ask_of h1
              obtain ⟨-, h6⟩ := sx_inb_of (N := N) hb rfl h4
              refine ⟨h5, Or.inl ?_⟩
              simp only [ip_st, List.map_cons, sx_isI_d hI]
              rw [show sx_d N (.inl (.ref a)) = .ref a from rfl]
              simp only [sx_at, hW, Option.map_some, sx_ed, sx_ad]
              rw [if_pos trivial]
              simp only
              rw [if_pos h6, h2 rfl]
            · cases h
          · cases h
        · cases h
      · cases h
    case iastore =>
      simp only at h
      split at h
      · rename_i x y a rr
        split at h
        · rename_i e hW
          split at h
          · rename_i hk
            split at h
            · rename_i b hb
              cases h
              obtain ⟨kd, n, bb, us⟩ := e
              simp only at hk
              obtain ⟨rfl, hx⟩ := hk
              obtain ⟨h4, h5⟩ := sx_ask_of hall
              obtain ⟨hI, h6⟩ := sx_inb_of (N := N) hb rfl h4
              refine ⟨h5, Or.inl ?_⟩
              simp only [ip_st, List.map_cons, sx_isI_d hI, sx_isI_d hx]
              rw [show sx_d N (.inl (.ref a)) = .ref a from rfl]
              simp only [sx_at, hW, Option.map_some, sx_ed, sx_ad]
              rw [if_neg (by decide), if_neg (by decide)]
              simp only
              rw [if_pos h6, ← sx_wset hW]
              rfl
            · cases h
          · cases h
        · cases h
      · cases h
    case lastore =>
      simp only at h
      split at h
      · rename_i x y a rr
        split at h
        · rename_i e hW
          split at h
          · rename_i hk
            split at h
            · rename_i b hb
              cases h
              obtain ⟨kd, n, bb, us⟩ := e
              simp only at hk
              obtain ⟨rfl, hx⟩ := hk
              obtain ⟨h4, h5⟩ := sx_ask_of hall
              obtain ⟨hI, h6⟩ := sx_inb_of (N := N) hb rfl h4
              refine ⟨h5, Or.inl ?_⟩
              simp only [ip_st, List.map_cons, sx_isI_d hI, sx_isL_d hx]
              rw [show sx_d N (.inl (.ref a)) = .ref a from rfl]
              simp only [sx_at, hW, Option.map_some, sx_ed, sx_ad]
              rw [if_pos trivial]
              simp only
              rw [if_pos h6, ← sx_wset hW]
              rfl
            · cases h
          · cases h
        · cases h
      · cases h
    case bastore =>
      simp only at h
      split at h
      · rename_i x y a rr
        split at h
        · rename_i e hW
          split at h
          · rename_i hk
            split at h
            · rename_i b hb
              cases h
              obtain ⟨kd, n, bb, us⟩ := e
              simp only at hk
              obtain ⟨hk, hx⟩ := hk
              obtain ⟨h1, h2, h3⟩ := sx_nar_of hx hall
              obtain ⟨h4, h5⟩ := sx_ask_of h1
              obtain ⟨hI, h6⟩ := sx_inb_of (N := N) hb rfl h4
              refine ⟨h5, Or.inl ?_⟩
              simp only [ip_st, List.map_cons, sx_isI_d hI, sx_isI_d hx]
              rw [show sx_d N (.inl (.ref a)) = .ref a from rfl]
              rcases hk with rfl | rfl
              · simp only [sx_at, hW, Option.map_some, sx_ed, sx_ad]
                rw [if_neg (by decide), if_neg (by decide)]
                simp only
                rw [if_pos h6, ← sx_wset hW, ← h2 rfl]
                rfl
              · simp only [sx_at, hW, Option.map_some, sx_ed, sx_ad]
                rw [if_neg (by decide), if_neg (by decide)]
                simp only
                rw [if_pos h6, ← sx_wset hW, ← h3 rfl]
                rfl
            · cases h
          · cases h
        · cases h
      · cases h
    case new j =>
      simp only at h
      split at h
      · rename_i ci fs hN
        cases h
        refine ⟨hall, Or.inl ?_⟩
        simp only [ip_st, hN]
        have e1 : fs.map (sx_d N ∘ Sum.inl) = fs := by
          have e2 : (sx_d N ∘ Sum.inl : Value → Value) = id := rfl
          rw [e2, List.map_id]
        have e3 : (Sum.inr (ci, fs) : ip_E) = sx_ed N (.inr (ci, fs.map .inl)) := by
          show _ = (Sum.inr (ci, (fs.map Sum.inl).map (sx_d N)) : ip_E)
          rw [List.map_map, e1]
        rw [e3, show fs.length = sx_n N (.inl fs.length) from rfl, sx_wpush]
        simp only [List.map_cons, sx_d, sx_wlen]
        rfl
      · cases h
    case newarray t =>
      simp only at h
      split at h
      · rename_i x rr
        split at h
        · rename_i kd x0 z b n ht hn
          cases h
          obtain ⟨h1, h2⟩ := sx_ask_of hall
          obtain ⟨hI, h3, h4⟩ := sx_len_of (N := N) hn h1
          refine ⟨h2, Or.inl ?_⟩
          simp only [ip_st, List.map_cons, sx_isI_d hI, ht]
          rw [if_pos h4, ← h3]
          have e3 : (Sum.inl (kd, sx_n N n, x0) : ip_E) = sx_ed N (.inl (kd, n, 0, [])) := by
            cases t <;> simp only [ip_atk] at ht <;> first | (cases ht; done) | (cases ht; rfl)
          rw [e3, sx_wpush]
          simp only [sx_d, sx_wlen]
        · cases h
      · cases h
    case anewarray t =>
      simp only at h
      split at h
      · rename_i x rr
        split at h
        · rename_i b n hn
          cases h
          obtain ⟨h1, h2⟩ := sx_ask_of hall
          obtain ⟨hI, h3, h4⟩ := sx_len_of (N := N) hn h1
          refine ⟨h2, Or.inl ?_⟩
          simp only [ip_st, List.map_cons, sx_isI_d hI]
          rw [if_pos h4, ← h3]
          rw [show (Sum.inl (4, sx_n N n, .inr (.inr (fun _ => none))) : ip_E) = sx_ed N (.inl (4, n, 0, [])) from rfl, sx_wpush]
          simp only [sx_d, sx_wlen]
        · cases h
      · cases h
    all_goals (first | (simp only at h; cases h; done) | (simp [sx_ar] at ha; done))
end SXT
