/-! part 39: a run with more locals is the same run -/
/-- lo2 has all that lo has -/
def ip_le (lo lo2 : List (Nat × Value)) : Prop := (lo.map Prod.fst).Nodup ∧ (lo2.map Prod.fst).Nodup ∧ ∀ (k : Nat) (v : Value), ip_get lo k = some v → ip_get lo2 k = some v
theorem ip_get_none : ∀ (lo : List (Nat × Value)) (k : Nat), k ∉ lo.map Prod.fst → ip_get lo k = none
  | [], k, _ => rfl
  | q :: r, k, h => by
    simp only [List.map_cons, List.mem_cons, not_or] at h
    show (if q.1 = k then some q.2 else ip_get r k) = none
    rw [if_neg (fun e => h.1 e.symm)]
    exact ip_get_none r k h.2
theorem ip_get_filter (p : Nat × Value → Bool) : ∀ (lo : List (Nat × Value)) (k : Nat), (lo.map Prod.fst).Nodup → ip_get (lo.filter p) k = (match ip_get lo k with
    | some v => if p (k, v) = true then some v else none
    | none => none)
  | [], k, _ => rfl
  | q :: r, k, h => by
    simp only [List.map_cons, List.nodup_cons] at h
    have ih := ip_get_filter p r k h.2
    by_cases hq : q.1 = k
    · have e1 : ip_get (q :: r) k = some q.2 := by
        show (if q.1 = k then some q.2 else ip_get r k) = _
        rw [if_pos hq]
      have hn : ip_get r k = none := ip_get_none r k (by rw [← hq]; exact h.1)
      rw [hn] at ih
      rw [e1]
      have eq : (k, q.2) = q := by rw [← hq]
      simp only [eq]
      by_cases hp : p q = true
      · rw [List.filter_cons_of_pos hp, if_pos hp]
        show (if q.1 = k then some q.2 else ip_get (r.filter p) k) = _
        rw [if_pos hq]
      · rw [List.filter_cons_of_neg hp, if_neg hp]
        exact ih
    · have e1 : ip_get (q :: r) k = ip_get r k := by
        show (if q.1 = k then some q.2 else ip_get r k) = _
        rw [if_neg hq]
      rw [e1]
      by_cases hp : p q = true
      · rw [List.filter_cons_of_pos hp]
        show (if q.1 = k then some q.2 else ip_get (r.filter p) k) = _
        rw [if_neg hq]
        exact ih
      · rw [List.filter_cons_of_neg hp]
        exact ih
theorem ip_nodup_filter {p : Nat × Value → Bool} {lo : List (Nat × Value)} (h : (lo.map Prod.fst).Nodup) : ((lo.filter p).map Prod.fst).Nodup :=
  List.Sublist.nodup (List.Sublist.map _ List.filter_sublist) h
theorem ip_le_cons {lo lo2 : List (Nat × Value)} (h : ip_le lo lo2) {p : Nat × Value → Bool} {i : Nat} {v : Value} (hp : ∀ u, p (i, u) = false) : ip_le ((i, v) :: lo.filter p) ((i, v) :: lo2.filter p) := by
  have hni : ∀ l : List (Nat × Value), i ∉ (l.filter p).map Prod.fst := by
    intro l hm
    obtain ⟨q, hq, he⟩ := List.mem_map.mp hm
    have h1 := (List.mem_filter.mp hq).2
    rw [show q = (i, q.2) from by rw [← he]] at h1
    rw [hp] at h1
    cases h1
  refine ⟨?_, ?_, fun k u hk => ?_⟩
  · simp only [List.map_cons, List.nodup_cons]
    exact ⟨hni lo, ip_nodup_filter h.1⟩
  · simp only [List.map_cons, List.nodup_cons]
    exact ⟨hni lo2, ip_nodup_filter h.2.1⟩
  · have hk : (if i = k then some v else ip_get (lo.filter p) k) = some u := hk
    show (if i = k then some v else ip_get (lo2.filter p) k) = some u
    by_cases hi : i = k
    · rw [if_pos hi] at hk ⊢
      exact hk
    · rw [if_neg hi] at hk ⊢
      rw [ip_get_filter p lo k h.1] at hk
      rw [ip_get_filter p lo2 k h.2.1]
      cases hg : ip_get lo k with
      | none => rw [hg] at hk; cases hk
      | some x =>
        rw [hg] at hk
        rw [h.2.2 k x hg]
        exact hk
theorem ip_le_set1 {lo lo2 : List (Nat × Value)} (h : ip_le lo lo2) (i : Nat) (v : Value) : ip_le (ip_set1 lo i v) (ip_set1 lo2 i v) := ip_le_cons h (fun u => by simp)
theorem ip_le_set2 {lo lo2 : List (Nat × Value)} (h : ip_le lo lo2) (i : Nat) (v : Value) : ip_le (ip_set2 lo i v) (ip_set2 lo2 i v) := ip_le_cons h (fun u => by simp)
set_option maxHeartbeats 1000000 in
theorem ip_st_lo {Fd : Nat → Option (Nat × Nat)} {Ft : Nat → Nat → Option (Nat × Bool)} {Cn : Nat → Option Value} {Nw : Nat → Option (Nat × List Value)} {nL : Nat} {ini : Option Nat} {i : Instr} {pc : Nat} {lo lo2 : List (Nat × Value)} {st : List Value} {w : ip_W} {r : ip_R} (hle : ip_le lo lo2) (h : ip_st Fd Ft Cn Nw nL ini i pc lo st w = some r) : ∃ l, ip_st Fd Ft Cn Nw nL ini i pc lo2 st w = some (r.1, l, r.2.2.1, r.2.2.2) ∧ ip_le r.2.1 l := by
  cases i
  case iload_n | iload | lload_n | lload =>
    simp only [ip_st] at h ⊢
    split at h
    · rename_i x hx
      cases h
      rw [hle.2.2 _ _ hx]
      exact ⟨_, rfl, hle⟩
    · cases h
  case aload_n | aload =>
    simp only [ip_st] at h ⊢
    split at h
    · rename_i x hx
      rw [hle.2.2 _ _ hx]
      split at h
      · rename_i hr
        cases h
        simp only [if_pos hr]
        exact ⟨_, rfl, hle⟩
      · cases h
    · cases h
  case iinc =>
    simp only [ip_st] at h ⊢
    split at h
    · rename_i x hx
      rw [hle.2.2 _ _ hx]
      split at h
      · rename_i hr
        cases h
        simp only [if_pos hr]
        exact ⟨_, rfl, ip_le_set1 hle _ _⟩
      · cases h
    · cases h
  case istore_n | istore | astore_n | astore =>
    simp only [ip_st] at h ⊢
    split at h
    · split at h
      · rename_i hr
        cases h
        simp only [if_pos hr]
        exact ⟨_, rfl, ip_le_set1 hle _ _⟩
      · cases h
    · cases h
  case lstore_n | lstore =>
    simp only [ip_st] at h ⊢
    split at h
    · split at h
      · rename_i hr
        cases h
        simp only [if_pos hr]
        exact ⟨_, rfl, ip_le_set2 hle _ _⟩
      · cases h
    · cases h
  case lookupswitch d ps =>
    simp only [ip_st] at h ⊢
    split at h
    · split at h
      · rename_i hs
        split at h
        · rename_i t ht
          cases h
          refine ⟨lo2, ?_, hle⟩
          rw [if_pos hs]
          try simp only [ht]
        · cases h
      · cases h
    · cases h
  case tableswitch d lw hi offs =>
    simp only [ip_st] at h ⊢
    split at h
    · split at h
      · rename_i hs
        split at h
        · rename_i t ht
          cases h
          refine ⟨lo2, ?_, hle⟩
          rw [if_pos hs]
          try simp only [ht]
        · cases h
      · rename_i hs
        split at h
        · rename_i off hoff
          split at h
          · rename_i t ht
            cases h
            refine ⟨lo2, ?_, hle⟩
            rw [if_neg hs]
            try simp only [hoff, ht]
          · cases h
        · cases h
    · cases h
  all_goals
    simp only [ip_st] at h ⊢
    (repeat' split at h) <;> first | (cases h; done) | (cases h; exact ⟨lo2, by simp_all, hle⟩)
theorem ip_st_lo0 {Fd : Nat → Option (Nat × Nat)} {Ft : Nat → Nat → Option (Nat × Bool)} {Cn : Nat → Option Value} {Nw : Nat → Option (Nat × List Value)} {nL : Nat} {ini : Option Nat} {Ro : Nat → Option (Nat × Nat × (Nat → Int32))} {i : Instr} {pc : Nat} {lo2 : List (Nat × Value)} {st st2 : List Value} {w : ip_W} (h : ip_rd Ro i st = some st2) : ip_st Fd Ft Cn Nw nL ini i pc lo2 st w = none := by
  cases i <;> simp only [ip_rd] at h <;> first | (cases h; done) | skip
  all_goals
    (repeat' split at h) <;> first | (cases h; done) | (simp only [ip_st]; done) | rfl
theorem ip_ex_lo (tb : ip_TB) : ∀ (f d y pc : Nat) (lo lo2 : List (Nat × Value)) (st : List Value) (w : ip_W) (r : Outcome × ip_W), ip_le lo lo2 → ip_ex tb f d y pc lo st w = some r → ip_ex tb f d y pc lo2 st w = some r := by
  intro f
  induction f with
  | zero => intro d y pc lo lo2 st w r hle h; simp [ip_ex] at h
  | succ f ih =>
    intro d y pc lo lo2 st w r hle h
    unfold ip_ex at h
    unfold ip_ex
    split at h
    · cases h
    · rename_i i n hI
      try simp only [hI]
      split at h
      · rename_i hck
        rw [if_pos hck]
        split at h
        · rename_i ci htw
          try simp only [htw]
          exact h
        · rename_i htw
          try simp only [htw]
          split at h
          · rename_i r1 hst
            obtain ⟨l, h1, h2⟩ := ip_st_lo hle hst
            simp only [h1]
            exact ih _ _ _ _ _ _ _ _ h2 h
          · rename_i hst
            split at h
            · rename_i st2 hrd
              rw [ip_st_lo0 hrd]
              try simp only [hrd]
              exact ih _ _ _ _ _ _ _ _ hle h
            · cases h
      · rename_i hck
        rw [if_neg hck]
        split at h
        · rename_i hck2
          rw [if_pos hck2]
          exact h
        · rename_i hck2
          rw [if_neg hck2]
          split at h
          · cases h
          · rename_i kc k hci
            try simp only [hci]
            split at h
            · cases h
            · rename_i z na kc2 ci hM
              try simp only [hM]
              split at h
              · rename_i hk3
                rw [if_pos hk3]
                split at h
                · split at h
                  · rename_i hc
                    try rw [if_pos hc]
                    exact ih _ _ _ _ _ _ _ _ hle h
                  · cases h
                · cases h
              · rename_i hk3
                rw [if_neg hk3]
                split at h
                · rename_i hkk
                  rw [if_pos hkk]
                  split at h
                  · cases h
                  · rename_i av rest ha
                    try simp only [ha]
                    split at h
                    · rename_i hc
                      rw [if_pos hc]
                      split at h
                      · rename_i x w1 hrun
                        try simp only [hrun]
                        exact ih _ _ _ _ _ _ _ _ hle h
                      · rename_i a w1 hrun
                        try simp only [hrun]
                        split at h
                        · rename_i he
                          rw [if_pos he]
                          exact h
                        · rename_i he
                          rw [if_neg he]
                          split at h
                          · rename_i hh hhd
                            try simp only [hhd]
                            exact ih _ _ _ _ _ _ _ _ hle h
                          · cases h
                      · cases h
                    · cases h
                · rename_i hkk
                  rw [if_neg hkk]
                  split at h
                  · rename_i hk4
                    rw [if_pos hk4]
                    split at h
                    · cases h
                    · rename_i av rest ha
                      try simp only [ha]
                      split at h
                      · rename_i hc
                        rw [if_pos hc]
                        split at h
                        · rename_i x w1 hP
                          try simp only [hP]
                          split at h
                          · rename_i hm
                            rw [if_pos hm]
                            exact ih _ _ _ _ _ _ _ _ hle h
                          · cases h
                        · cases h
                      · cases h
                  · cases h
/-- a run with more locals -/
theorem ip_rn.more {tb : ip_TB} {d y pc : Nat} {lo lo2 : List (Nat × Value)} {st : List Value} {w : ip_W} {o : Outcome} {w2 : ip_W} (h : ip_rn tb d y pc lo st w o w2) (hle : ip_le lo lo2) : ip_rn tb d y pc lo2 st w o w2 := by
  obtain ⟨f, hf⟩ := h
  exact ⟨f, ip_ex_lo tb f d y pc lo lo2 st w _ hle hf⟩
