/-! part 25: a path's computation is sound -/
theorem il_set {l : List ip_E} {a : Nat} {x y : ip_E} (h : l[a]? = some y) : va_up (fun q => l[q]?) a (some x) = fun q => (l.set a x)[q]? := by
  have ha : a < l.length := (List.getElem?_eq_some_iff.mp h).1
  funext q
  show (if q = a then some x else l[q]?) = (l.set a x)[q]?
  rw [List.getElem?_set]
  by_cases hq : q = a
  · subst hq
    rw [if_pos rfl, if_pos rfl, if_pos ha]
  · rw [if_neg hq, if_neg (fun h => hq h.symm)]
theorem il_push {l : List ip_E} {x : ip_E} : va_up (fun q => l[q]?) l.length (some x) = fun q => (l ++ [x])[q]? := by
  funext q
  show (if q = l.length then some x else l[q]?) = (l ++ [x])[q]?
  by_cases hq : q = l.length
  · subst hq
    rw [if_pos rfl, List.getElem?_append_right (Nat.le_refl _), Nat.sub_self]
    rfl
  · rw [if_neg hq]
    by_cases h : q < l.length
    · rw [List.getElem?_append_left h]
    · rw [List.getElem?_eq_none (by omega), List.getElem?_eq_none (by rw [List.length_append]; show l.length + 1 ≤ q; omega)]
theorem il_wset {v : il_W} {a : Nat} {x y : ip_E} (h : v.1[a]? = some y) : ((il_w v).1, (il_w v).2.1, va_up (il_w v).2.2 a (some x)) = il_w (v.1.set a x, v.2) := by
  show (v.1.length, v.2, va_up (fun q => v.1[q]?) a (some x)) = ((v.1.set a x).length, v.2, fun q => (v.1.set a x)[q]?)
  rw [il_set h, List.length_set]
theorem il_wpush {v : il_W} {x : ip_E} {N : Nat} : ((il_w v).1 + 1, (il_w v).2.1 + N, va_up (il_w v).2.2 (il_w v).1 (some x)) = il_w (v.1 ++ [x], v.2 + N) := by
  show (v.1.length + 1, v.2 + N, va_up (fun q => v.1[q]?) v.1.length (some x)) = ((v.1 ++ [x]).length, v.2 + N, fun q => (v.1 ++ [x])[q]?)
  rw [il_push, List.length_append]
  rfl
section ILS
variable {Fd : Nat → Option (Nat × Nat)} {Ft : Nat → Nat → Option (Nat × Bool)} {Cn : Nat → Option Value} {Nw : Nat → Option (Nat × List Value)} {nL : Nat} {ini : Option Nat} {Ro : Nat → Option (Nat × Nat × (Nat → Int32))} {i : Instr} {pc : Nat} {lo : List (Nat × Value)} {st : List Value} {v : il_W} {bs : List Nat} {cs : List Prop} {r : il_R}
/-- what a step of a path says -/
def il_ok (Fd : Nat → Option (Nat × Nat)) (Ft : Nat → Nat → Option (Nat × Bool)) (Cn : Nat → Option Value) (Nw : Nat → Option (Nat × List Value)) (nL : Nat) (ini : Option Nat) (Ro : Nat → Option (Nat × Nat × (Nat → Int32))) (i : Instr) (pc : Nat) (lo : List (Nat × Value)) (st : List Value) (v : il_W) (cs : List Prop) (r : il_R) : Prop :=
  (∀ c ∈ cs, c) ∧ (ip_st Fd Ft Cn Nw nL ini i pc lo st (il_w v) = some (r.1, r.2.1, r.2.2.1, il_w r.2.2.2.1) ∨ (ip_st Fd Ft Cn Nw nL ini i pc lo st (il_w v) = none ∧ ip_rd Ro i st = some r.2.2.1 ∧ r.1 = pc + 1 ∧ r.2.1 = lo ∧ r.2.2.2.1 = v))
set_option maxHeartbeats 2000000 in
theorem il_st_ok (h : il_st Fd Ft Cn Nw nL ini Ro i pc lo st v bs cs = some r) (hall : ∀ c ∈ r.2.2.2.2.2, c) : il_ok Fd Ft Cn Nw nL ini Ro i pc lo st v cs r := by
  cases i
  case ifCond c off =>
    simp only [il_st] at h
    split at h
    · rename_i x rr bs2
      cases h
      have hc := hall _ List.mem_cons_self
      refine ⟨fun q hq => hall q (List.mem_cons_of_mem _ hq), Or.inl ?_⟩
      obtain ⟨t, ht⟩ := Option.isSome_iff_exists.mp hc.2
      simp only [ip_st, ht, (il_b1 c x t (pc + 3)).2 hc.1]
    · rename_i x rr b bs2 hb
      split at h
      · rename_i t ht
        cases h
        have hc := hall _ List.mem_cons_self
        refine ⟨fun q hq => hall q (List.mem_cons_of_mem _ hq), Or.inl ?_⟩
        simp only [ip_st, ht, (il_b1 c x t (pc + 3)).1 hc]
      · cases h
    · cases h
  case if_icmp c off =>
    simp only [il_st] at h
    split at h
    · rename_i y x rr bs2
      cases h
      have hc := hall _ List.mem_cons_self
      refine ⟨fun q hq => hall q (List.mem_cons_of_mem _ hq), Or.inl ?_⟩
      obtain ⟨t, ht⟩ := Option.isSome_iff_exists.mp hc.2
      simp only [ip_st, ht, (il_b2 c x y t (pc + 3)).2 hc.1]
    · rename_i y x rr b bs2 hb
      split at h
      · rename_i t ht
        cases h
        have hc := hall _ List.mem_cons_self
        refine ⟨fun q hq => hall q (List.mem_cons_of_mem _ hq), Or.inl ?_⟩
        simp only [ip_st, ht, (il_b2 c x y t (pc + 3)).1 hc]
      · cases h
    · cases h
  case lookupswitch d ps =>
    simp only [il_st] at h
    split at h
    · rename_i x rr k bs2
      split at h
      · rename_i hsort
        split at h
        · split at h
          · rename_i t ht
            cases h
            have hc := hall _ List.mem_cons_self
            refine ⟨fun q hq => hall q (List.mem_cons_of_mem _ hq), Or.inl ?_⟩
            simp only [ip_st]
            rw [if_pos hsort, hc, ht]
          · cases h
        · split at h
          · rename_i q hq
            split at h
            · rename_i t ht
              cases h
              have hc := hall _ List.mem_cons_self
              refine ⟨fun q hq => hall q (List.mem_cons_of_mem _ hq), Or.inl ?_⟩
              simp only [ip_st]
              rw [if_pos hsort, hc, ht]
            · cases h
          · cases h
      · cases h
    · cases h
  case tableswitch d lw hi offs =>
    simp only [il_st] at h
    split at h
    · split at h
      · rename_i t ht
        cases h
        have hc := hall _ List.mem_cons_self
        refine ⟨fun q hq => hall q (List.mem_cons_of_mem _ hq), Or.inl ?_⟩
        simp only [ip_st]
        rw [if_pos hc, ht]
      · cases h
    · rename_i x rr k bs2
      split at h
      · rename_i off hoff
        split at h
        · rename_i t ht
          cases h
          have hc := hall _ List.mem_cons_self
          refine ⟨fun q hq => hall q (List.mem_cons_of_mem _ hq), Or.inl ?_⟩
          simp only [ip_st]
          have hoff2 : offs[(x.toInt - lw).toNat]? = some off := by
            rw [show (x.toInt - lw).toNat = k by omega, ← Array.getElem?_toList]
            exact hoff
          rw [if_neg (by omega), hoff2]
          simp only [ht]
        · cases h
      · cases h
    · cases h
  case idiv =>
    simp only [il_st] at h
    split at h
    · cases h
      have hc := hall _ List.mem_cons_self
      refine ⟨fun q hq => hall q (List.mem_cons_of_mem _ hq), Or.inl ?_⟩
      simp only [ip_st]
      rw [if_pos hc]
    · cases h
  case irem =>
    simp only [il_st] at h
    split at h
    · cases h
      have hc := hall _ List.mem_cons_self
      refine ⟨fun q hq => hall q (List.mem_cons_of_mem _ hq), Or.inl ?_⟩
      simp only [ip_st]
      rw [if_pos hc]
    · cases h
  case ldiv =>
    simp only [il_st] at h
    split at h
    · cases h
      have hc := hall _ List.mem_cons_self
      refine ⟨fun q hq => hall q (List.mem_cons_of_mem _ hq), Or.inl ?_⟩
      simp only [ip_st]
      rw [if_pos hc]
    · cases h
  case lrem =>
    simp only [il_st] at h
    split at h
    · cases h
      have hc := hall _ List.mem_cons_self
      refine ⟨fun q hq => hall q (List.mem_cons_of_mem _ hq), Or.inl ?_⟩
      simp only [ip_st]
      rw [if_pos hc]
    · cases h
  case getfield k =>
    simp only [il_st] at h
    split at h
    · rename_i a rr
      split at h
      · rename_i ci j ci2 fs hF hv
        split at h
        · rename_i hci
          split at h
          · rename_i x hx
            cases h
            refine ⟨hall, Or.inl ?_⟩
            simp only [ip_st]
            rw [hF, show (il_w v).2.2 a = some (.inr (ci2, fs)) from hv]
            simp only [if_pos hci, hx]
          · cases h
        · cases h
      · cases h
    · cases h
  case putfield k =>
    simp only [il_st] at h
    split at h
    · rename_i x a rr
      split at h
      · rename_i ci j ci2 fs hF hv
        split at h
        · rename_i tc fin hFt
          split at h
          · rename_i hc0
            cases h
            have hc := hall _ List.mem_cons_self
            refine ⟨fun q hq => hall q (List.mem_cons_of_mem _ hq), Or.inl ?_⟩
            simp only [ip_st]
            rw [hF, show (il_w v).2.2 a = some (.inr (ci2, fs)) from hv]
            simp only [hFt]
            rw [if_pos ⟨hc0.1, hc, hc0.2.1, hc0.2.2⟩, il_wset hv]
          · cases h
        · cases h
      · cases h
    · cases h
  case arraylength =>
    simp only [il_st] at h
    split at h
    · rename_i a rr
      split at h
      · rename_i kd n x hv
        split at h
        · rename_i hkd
          cases h
          refine ⟨hall, Or.inl ?_⟩
          simp only [ip_st]
          rw [show (il_w v).2.2 a = some (.inl (kd, n, x)) from hv]
          simp only [if_pos hkd]
        · cases h
      · cases h
    · rename_i j rr
      split at h
      · rename_i kq n f hr
        cases h
        refine ⟨hall, Or.inr ⟨rfl, ?_, rfl, rfl, rfl⟩⟩
        simp only [ip_rd, hr]
      · cases h
    · cases h
  case iaload =>
    simp only [il_st] at h
    split at h
    · rename_i ix a rr
      split at h
      · rename_i n f hv
        cases h
        have hc := hall _ List.mem_cons_self
        refine ⟨fun q hq => hall q (List.mem_cons_of_mem _ hq), Or.inl ?_⟩
        simp only [ip_st]
        rw [show (il_w v).2.2 a = some (.inl (0, n, .inl f)) from hv]
        simp only [if_pos hc]
      · cases h
    · rename_i ix j rr
      split at h
      · rename_i n f hr
        cases h
        have hc := hall _ List.mem_cons_self
        refine ⟨fun q hq => hall q (List.mem_cons_of_mem _ hq), Or.inr ⟨rfl, ?_, rfl, rfl, rfl⟩⟩
        simp only [ip_rd, hr, if_pos hc]
      · cases h
    · cases h
  case baload =>
    simp only [il_st] at h
    split at h
    · rename_i ix a rr
      split at h
      · rename_i n f hv
        cases h
        have hc := hall _ List.mem_cons_self
        refine ⟨fun q hq => hall q (List.mem_cons_of_mem _ hq), Or.inl ?_⟩
        simp only [ip_st]
        rw [show (il_w v).2.2 a = some (.inl (1, n, .inl f)) from hv]
        simp only [if_pos hc]
      · rename_i n f hv
        cases h
        have hc := hall _ List.mem_cons_self
        refine ⟨fun q hq => hall q (List.mem_cons_of_mem _ hq), Or.inl ?_⟩
        simp only [ip_st]
        rw [show (il_w v).2.2 a = some (.inl (3, n, .inl f)) from hv]
        simp only [if_pos hc]
      · cases h
    · cases h
  case laload =>
    simp only [il_st] at h
    split at h
    · rename_i ix a rr
      split at h
      · rename_i n f hv
        cases h
        have hc := hall _ List.mem_cons_self
        refine ⟨fun q hq => hall q (List.mem_cons_of_mem _ hq), Or.inl ?_⟩
        simp only [ip_st]
        rw [show (il_w v).2.2 a = some (.inl (2, n, .inr (.inl f))) from hv]
        simp only [if_pos hc]
      · cases h
    · cases h
  case aaload =>
    simp only [il_st] at h
    split at h
    · rename_i ix a rr
      split at h
      · rename_i n f hv
        cases h
        have hc := hall _ List.mem_cons_self
        refine ⟨fun q hq => hall q (List.mem_cons_of_mem _ hq), Or.inl ?_⟩
        simp only [ip_st]
        rw [show (il_w v).2.2 a = some (.inl (4, n, .inr (.inr f))) from hv]
        simp only [if_pos hc]
      · cases h
    · cases h
  case iastore =>
    simp only [il_st] at h
    split at h
    · rename_i x ix a rr
      split at h
      · rename_i n f hv
        cases h
        have hc := hall _ List.mem_cons_self
        refine ⟨fun q hq => hall q (List.mem_cons_of_mem _ hq), Or.inl ?_⟩
        simp only [ip_st]
        rw [show (il_w v).2.2 a = some (.inl (0, n, .inl f)) from hv]
        simp only [if_pos hc]
        rw [il_wset hv]
      · cases h
    · cases h
  case bastore =>
    simp only [il_st] at h
    split at h
    · rename_i x ix a rr
      split at h
      · rename_i n f hv
        cases h
        have hc := hall _ List.mem_cons_self
        refine ⟨fun q hq => hall q (List.mem_cons_of_mem _ hq), Or.inl ?_⟩
        simp only [ip_st]
        rw [show (il_w v).2.2 a = some (.inl (1, n, .inl f)) from hv]
        simp only [if_pos hc]
        rw [il_wset hv]
      · rename_i n f hv
        cases h
        have hc := hall _ List.mem_cons_self
        refine ⟨fun q hq => hall q (List.mem_cons_of_mem _ hq), Or.inl ?_⟩
        simp only [ip_st]
        rw [show (il_w v).2.2 a = some (.inl (3, n, .inl f)) from hv]
        simp only [if_pos hc]
        rw [il_wset hv]
      · cases h
    · cases h
  case lastore =>
    simp only [il_st] at h
    split at h
    · rename_i x ix a rr
      split at h
      · rename_i n f hv
        cases h
        have hc := hall _ List.mem_cons_self
        refine ⟨fun q hq => hall q (List.mem_cons_of_mem _ hq), Or.inl ?_⟩
        simp only [ip_st]
        rw [show (il_w v).2.2 a = some (.inl (2, n, .inr (.inl f))) from hv]
        simp only [if_pos hc]
        rw [il_wset hv]
      · cases h
    · cases h
  case aastore =>
    simp only [il_st] at h
    split at h
    · rename_i x ix a rr
      split at h
      · rename_i n f fs hv hv2
        cases h
        have hc := hall _ List.mem_cons_self
        refine ⟨fun q hq => hall q (List.mem_cons_of_mem _ hq), Or.inl ?_⟩
        simp only [ip_st]
        rw [show (il_w v).2.2 a = some (.inl (4, n, .inr (.inr f))) from hv, show (il_w v).2.2 x = some (.inr (11, fs)) from hv2]
        simp only [if_pos hc]
        rw [il_wset hv]
      · cases h
    · cases h
  case new k =>
    simp only [il_st] at h
    split at h
    · rename_i ci fs hN
      cases h
      refine ⟨hall, Or.inl ?_⟩
      simp only [ip_st, hN]
      rw [il_wpush]
      rfl
    · cases h
  case newarray t =>
    simp only [il_st] at h
    split at h
    · rename_i n rr
      split at h
      · rename_i kd x0 z ht
        cases h
        have hc := hall _ List.mem_cons_self
        refine ⟨fun q hq => hall q (List.mem_cons_of_mem _ hq), Or.inl ?_⟩
        simp only [ip_st, ht]
        rw [if_pos hc, il_wpush]
        rfl
      · cases h
    · cases h
  case anewarray t =>
    simp only [il_st] at h
    split at h
    · rename_i n rr
      cases h
      have hc := hall _ List.mem_cons_self
      refine ⟨fun q hq => hall q (List.mem_cons_of_mem _ hq), Or.inl ?_⟩
      simp only [ip_st]
      rw [if_pos hc, il_wpush]
      rfl
    · cases h
  all_goals
    simp only [il_st] at h
    split at h
    · rename_i r0 heq
      cases h
      refine ⟨hall, Or.inl ?_⟩
      simp only [ip_st] at heq ⊢
      (repeat' split at heq) <;> first | (cases heq; done) | (cases heq; simp_all)
    · cases h
end ILS
