/-! part 26: more fuel and more depth change nothing; runs as a relation; paths give runs -/
theorem ip_ex_up (tb : ip_TB) : ∀ (f f2 d d2 y pc : Nat) (lo : List (Nat × Value)) (st : List Value) (w : ip_W) (r : Outcome × ip_W), ip_ex tb f d y pc lo st w = some r → f ≤ f2 → d ≤ d2 → ip_ex tb f2 d2 y pc lo st w = some r := by
  intro f
  induction f with
  | zero => intro f2 d d2 y pc lo st w r h; simp [ip_ex] at h
  | succ f ih =>
    intro f2 d d2 y pc lo st w r h hf hd
    obtain ⟨g, rfl⟩ : ∃ g, f2 = g + 1 := ⟨f2 - 1, by omega⟩
    have hg : f ≤ g := by omega
    unfold ip_ex at h
    unfold ip_ex
    split at h
    · cases h
    · rename_i i n hI
      try simp only [hI]
      split at h
      · rename_i hck
        rw [if_pos hck]
        split at h
        · rename_i ci htw
          try simp only [htw]
          split at h
          · rename_i hc
            rw [if_pos ⟨by omega, hc.2⟩]
            exact h
          · cases h
        · rename_i htw
          try simp only [htw]
          split at h
          · rename_i r1 hst
            try simp only [hst]
            exact ih _ _ _ _ _ _ _ _ _ h hg hd
          · rename_i hst
            try simp only [hst]
            split at h
            · rename_i st2 hrd
              try simp only [hrd]
              exact ih _ _ _ _ _ _ _ _ _ h hg hd
            · cases h
      · rename_i hck
        rw [if_neg hck]
        split at h
        · rename_i hck2
          rw [if_pos hck2]
          exact h
        · rename_i hck2
          rw [if_neg hck2]
          split at h
          · cases h
          · rename_i kc k hci
            try simp only [hci]
            split at h
            · cases h
            · rename_i z na kc2 ci hM
              try simp only [hM]
              split at h
              · rename_i hk3
                rw [if_pos hk3]
                split at h
                · split at h
                  · rename_i hc
                    rw [if_pos ⟨hc.1, by omega, hc.2.2⟩]
                    exact ih _ _ _ _ _ _ _ _ _ h hg hd
                  · cases h
                · cases h
              · rename_i hk3
                rw [if_neg hk3]
                split at h
                · rename_i hkk
                  rw [if_pos hkk]
                  split at h
                  · cases h
                  · rename_i av rest ha
                    try simp only [ha]
                    split at h
                    · rename_i hc
                      rw [if_pos ⟨by omega, hc.2⟩]
                      split at h
                      · rename_i x w1 hrun
                        have h1 := ih _ _ (d2 - 1) _ _ _ _ _ _ hrun hg (by omega)
                        try simp only [h1]
                        exact ih _ _ _ _ _ _ _ _ _ h hg hd
                      · rename_i a w1 hrun
                        have h1 := ih _ _ (d2 - 1) _ _ _ _ _ _ hrun hg (by omega)
                        try simp only [h1]
                        split at h
                        · rename_i he
                          rw [if_pos he]
                          exact h
                        · rename_i he
                          rw [if_neg he]
                          split at h
                          · rename_i hh hhd
                            try simp only [hhd]
                            exact ih _ _ _ _ _ _ _ _ _ h hg hd
                          · cases h
                      · cases h
                    · cases h
                · rename_i hkk
                  rw [if_neg hkk]
                  split at h
                  · rename_i hk4
                    rw [if_pos hk4]
                    split at h
                    · cases h
                    · rename_i av rest ha
                      try simp only [ha]
                      split at h
                      · rename_i hc
                        rw [if_pos ⟨by omega, hc.2⟩]
                        split at h
                        · rename_i x w1 hP
                          try simp only [hP]
                          split at h
                          · rename_i hm
                            rw [if_pos hm]
                            exact ih _ _ _ _ _ _ _ _ _ h hg hd
                          · cases h
                        · cases h
                      · cases h
                  · cases h
theorem il_P_ok {z : Nat} {av : List Value} {v v2 : il_W} {x : Option Value} {c : Prop} (h : il_P z av v = some (x, v2, c)) (hc : c) : vt_P z av (il_w v) = some (x, il_w v2) ∧ (il_w v).1 ≤ (il_w v2).1 ∧ (il_w v).2.1 ≤ (il_w v2).2.1 := by
  unfold il_P at h
  split at h
  case h_7 a0 sp a1 dp n =>
    split at h
    · rename_i m0 f m1 g h0 h1
      cases h
      refine ⟨?_, by show v.1.length ≤ (v.1.set a1 _).length; rw [List.length_set]; exact Nat.le_refl _, Nat.le_refl _⟩
      unfold vt_P
      simp only
      rw [if_pos hc.1, show (il_w v).2.2 a0 = some (.inl (0, m0, .inl f)) from h0, show (il_w v).2.2 a1 = some (.inl (0, m1, .inl g)) from h1]
      simp only [if_pos hc.2]
      rw [il_wset h1]
    · rename_i m0 f m1 g h0 h1
      cases h
      refine ⟨?_, by show v.1.length ≤ (v.1.set a1 _).length; rw [List.length_set]; exact Nat.le_refl _, Nat.le_refl _⟩
      unfold vt_P
      simp only
      rw [if_pos hc.1, show (il_w v).2.2 a0 = some (.inl (2, m0, .inr (.inl f))) from h0, show (il_w v).2.2 a1 = some (.inl (2, m1, .inr (.inl g))) from h1]
      simp only [if_pos hc.2]
      rw [il_wset h1]
    · cases h
  case h_8 => cases h
  all_goals
    cases h
    exact ⟨rfl, Nat.le_refl _, Nat.le_refl _⟩
theorem il_end_ok {rc : Nat} {i : Instr} {st : List Value} {r : Outcome × Prop} {w : ip_W} (h : il_end rc i st = some r) (hc : r.2) : ip_end rc i st w = some (r.1, w) := by
  cases i
  all_goals simp only [il_end] at h
  all_goals (repeat' split at h)
  all_goals first | (cases h; done) | (cases h; simp_all [ip_end])
section ILX
variable {tb : ip_TB}
set_option maxHeartbeats 1000000 in
theorem il_ex_ok (hP : tP tb = vt_P) : ∀ (f d y pc : Nat) (lo : List (Nat × Value)) (st : List Value) (v : il_W) (bs : List Nat) (cs : List Prop) (o : Outcome) (v2 : il_W) (bs2 : List Nat) (cs2 : List Prop), il_ex tb f d y pc lo st v bs cs = some (o, v2, bs2, cs2) → (∀ c ∈ cs2, c) → (∀ c ∈ cs, c) ∧ ip_ex tb f d y pc lo st (il_w v) = some (o, il_w v2) := by
  intro f
  induction f with
  | zero => intro d y pc lo st v bs cs o v2 bs2 cs2 h; simp [il_ex] at h
  | succ f ih =>
    intro d y pc lo st v bs cs o v2 bs2 cs2 h hall
    unfold il_ex at h
    unfold ip_ex
    split at h
    · cases h
    · rename_i i n hI
      simp only [hI]
      split at h
      · rename_i hck
        rw [if_pos hck]
        split at h
        · rename_i ci htw
          simp only [htw]
          split at h
          · rename_i hc
            cases h
            rw [if_pos hc]
            refine ⟨hall, ?_⟩
            show some (Outcome.threw v.1.length, ((il_w v).1 + 1, (il_w v).2.1 + 6, va_up (il_w v).2.2 (il_w v).1 (some (.inr (ci + 3, []))))) = _
            rw [il_wpush]
          · cases h
        · rename_i htw
          simp only [htw]
          split at h
          · rename_i r hst
            obtain ⟨h1, h2⟩ := ih _ _ _ _ _ _ _ _ _ _ _ _ h hall
            obtain ⟨h3, h4⟩ := il_st_ok hst h1
            refine ⟨h3, ?_⟩
            rcases h4 with h4 | ⟨h4, h5, h6, h7, h8⟩
            · simp only [h4]
              exact h2
            · simp only [h4, h5]
              rw [h6, h7, h8] at h2
              exact h2
          · cases h
      · rename_i hck
        rw [if_neg hck]
        split at h
        · rename_i hck2
          rw [if_pos hck2]
          split at h
          · rename_i r he
            cases h
            exact ⟨fun q hq => hall q (List.mem_cons_of_mem _ hq), il_end_ok he (hall _ List.mem_cons_self)⟩
          · cases h
        · rename_i hck2
          rw [if_neg hck2]
          split at h
          · cases h
          · rename_i kc k hci
            simp only [hci]
            split at h
            · cases h
            · rename_i z na kc2 ci hM
              simp only [hM]
              split at h
              · rename_i hk3
                rw [if_pos hk3]
                split at h
                · split at h
                  · rename_i hc
                    dsimp only
                    rw [if_pos hc]
                    exact ih _ _ _ _ _ _ _ _ _ _ _ _ h hall
                  · cases h
                · cases h
              · rename_i hk3
                rw [if_neg hk3]
                split at h
                · rename_i hkk
                  rw [if_pos hkk]
                  split at h
                  · cases h
                  · rename_i av rest ha
                    simp only [ha]
                    split at h
                    · rename_i hc
                      rw [if_pos hc]
                      split at h
                      · rename_i x v1 bs1 cs1 hrun
                        obtain ⟨h1, h2⟩ := ih _ _ _ _ _ _ _ _ _ _ _ _ h hall
                        obtain ⟨h3, h4⟩ := ih _ _ _ _ _ _ _ _ _ _ _ _ hrun h1
                        refine ⟨h3, ?_⟩
                        simp only [h4]
                        exact h2
                      · rename_i a v1 bs1 cs1 hrun
                        split at h
                        · rename_i he
                          cases h
                          obtain ⟨h3, h4⟩ := ih _ _ _ _ _ _ _ _ _ _ _ _ hrun hall
                          refine ⟨h3, ?_⟩
                          simp only [h4]
                          rw [if_pos he]
                        · rename_i he
                          split at h
                          · rename_i hh hhd
                            obtain ⟨h1, h2⟩ := ih _ _ _ _ _ _ _ _ _ _ _ _ h hall
                            obtain ⟨h3, h4⟩ := ih _ _ _ _ _ _ _ _ _ _ _ _ hrun h1
                            refine ⟨h3, ?_⟩
                            simp only [h4]
                            rw [if_neg he]
                            simp only [hhd]
                            exact h2
                          · cases h
                      · cases h
                    · cases h
                · rename_i hkk
                  rw [if_neg hkk]
                  split at h
                  · rename_i hk4
                    rw [if_pos hk4]
                    split at h
                    · cases h
                    · rename_i av rest ha
                      simp only [ha]
                      split at h
                      · rename_i hc
                        rw [if_pos hc]
                        split at h
                        · rename_i x v1 c hpr
                          obtain ⟨h1, h2⟩ := ih _ _ _ _ _ _ _ _ _ _ _ _ h hall
                          obtain ⟨h5, h6, h7⟩ := il_P_ok hpr (h1 _ List.mem_cons_self)
                          refine ⟨fun q hq => h1 q (List.mem_cons_of_mem _ hq), ?_⟩
                          rw [hP]
                          simp only [h5]
                          rw [if_pos ⟨h6, h7⟩]
                          exact h2
                        · cases h
                      · cases h
                  · cases h
/-- a run comes to this -/
def ip_rn (tb : ip_TB) (d y pc : Nat) (lo : List (Nat × Value)) (st : List Value) (w : ip_W) (o : Outcome) (w2 : ip_W) : Prop := ∃ f, ip_ex tb f d y pc lo st w = some (o, w2)
theorem ip_rn.deep {d d2 y pc : Nat} {lo : List (Nat × Value)} {st : List Value} {w : ip_W} {o : Outcome} {w2 : ip_W} (h : ip_rn tb d y pc lo st w o w2) (hd : d ≤ d2) : ip_rn tb d2 y pc lo st w o w2 := by
  obtain ⟨f, hf⟩ := h
  exact ⟨f, ip_ex_up tb f f d d2 y pc lo st w _ hf (Nat.le_refl _) hd⟩
/-- a whole path -/
theorem il_rn (hP : tP tb = vt_P) {f d y pc : Nat} {lo : List (Nat × Value)} {st : List Value} {v : il_W} {bs : List Nat} {o : Outcome} {v2 : il_W} {bs2 : List Nat} {cs2 : List Prop} (h : il_ex tb f d y pc lo st v bs [] = some (o, v2, bs2, cs2)) (hall : ∀ c ∈ cs2, c) : ip_rn tb d y pc lo st (il_w v) o (il_w v2) :=
  ⟨f, (il_ex_ok hP f d y pc lo st v bs [] o v2 bs2 cs2 h hall).2⟩
set_option maxHeartbeats 1000000 in
/-- some steps of a path, then a run -/
theorem il_go_ok (hP : tP tb = vt_P) {F d y : Nat} {o : Outcome} {w2 : ip_W} : ∀ (n pc : Nat) (lo : List (Nat × Value)) (st : List Value) (v : il_W) (bs : List Nat) (cs : List Prop) (r : il_R), il_go tb F d y n pc lo st v bs cs = some r → (∀ c ∈ r.2.2.2.2.2, c) → (∀ c ∈ cs, c) ∧ (ip_rn tb d y r.1 r.2.1 r.2.2.1 (il_w r.2.2.2.1) o w2 → ip_rn tb d y pc lo st (il_w v) o w2) := by
  intro n
  induction n with
  | zero =>
    intro pc lo st v bs cs r h hall
    simp only [il_go, Option.some.injEq] at h
    subst h
    exact ⟨hall, id⟩
  | succ n ih =>
    intro pc lo st v bs cs r h hall
    unfold il_go at h
    split at h
    · cases h
    · rename_i i k0 hI
      split at h
      · rename_i hck
        split at h
        · cases h
        · rename_i htw
          split at h
          · rename_i r1 hst
            obtain ⟨h1, h2⟩ := ih _ _ _ _ _ _ _ h hall
            obtain ⟨h3, h4⟩ := il_st_ok hst h1
            refine ⟨h3, fun hr => ?_⟩
            obtain ⟨f, hf⟩ := h2 hr
            refine ⟨f + 1, ?_⟩
            unfold ip_ex
            simp only [hI]
            rw [if_pos hck]
            simp only [htw]
            rcases h4 with h4 | ⟨h4, h5, h6, h7, h8⟩
            · simp only [h4]
              exact hf
            · simp only [h4, h5]
              rw [h6, h7, h8] at hf
              exact hf
          · cases h
      · rename_i hck
        split at h
        · cases h
        · rename_i hck2
          split at h
          · cases h
          · rename_i kc k hci
            split at h
            · cases h
            · rename_i z na kc2 ci hM
              split at h
              · rename_i hk3
                split at h
                · split at h
                  · rename_i hc
                    obtain ⟨h1, h2⟩ := ih _ _ _ _ _ _ _ h hall
                    refine ⟨h1, fun hr => ?_⟩
                    obtain ⟨f, hf⟩ := h2 hr
                    refine ⟨f + 1, ?_⟩
                    unfold ip_ex
                    simp only [hI]
                    rw [if_neg hck, if_neg hck2]
                    simp only [hci, hM]
                    rw [if_pos hk3, if_pos hc]
                    exact hf
                  · cases h
                · cases h
              · rename_i hk3
                split at h
                · rename_i hkk
                  split at h
                  · cases h
                  · rename_i av rest ha
                    split at h
                    · rename_i hc
                      split at h
                      · rename_i x v1 bs1 cs1 hrun
                        obtain ⟨h1, h2⟩ := ih _ _ _ _ _ _ _ h hall
                        obtain ⟨h3, h4⟩ := il_ex_ok hP _ _ _ _ _ _ _ _ _ _ _ _ _ hrun h1
                        refine ⟨h3, fun hr => ?_⟩
                        obtain ⟨f, hf⟩ := h2 hr
                        refine ⟨f + F + 1, ?_⟩
                        unfold ip_ex
                        simp only [hI]
                        rw [if_neg hck, if_neg hck2]
                        simp only [hci, hM]
                        rw [if_neg hk3, if_pos hkk]
                        simp only [ha]
                        rw [if_pos hc]
                        have h5 := ip_ex_up tb _ (f + F) _ (d - 1) _ _ _ _ _ _ h4 (by omega) (Nat.le_refl _)
                        simp only [h5]
                        exact ip_ex_up tb _ (f + F) _ d _ _ _ _ _ _ hf (by omega) (Nat.le_refl _)
                      · rename_i a v1 bs1 cs1 hrun
                        split at h
                        · cases h
                        · rename_i he
                          split at h
                          · rename_i hh hhd
                            obtain ⟨h1, h2⟩ := ih _ _ _ _ _ _ _ h hall
                            obtain ⟨h3, h4⟩ := il_ex_ok hP _ _ _ _ _ _ _ _ _ _ _ _ _ hrun h1
                            refine ⟨h3, fun hr => ?_⟩
                            obtain ⟨f, hf⟩ := h2 hr
                            refine ⟨f + F + 1, ?_⟩
                            unfold ip_ex
                            simp only [hI]
                            rw [if_neg hck, if_neg hck2]
                            simp only [hci, hM]
                            rw [if_neg hk3, if_pos hkk]
                            simp only [ha]
                            rw [if_pos hc]
                            have h5 := ip_ex_up tb _ (f + F) _ (d - 1) _ _ _ _ _ _ h4 (by omega) (Nat.le_refl _)
                            simp only [h5]
                            rw [if_neg he]
                            simp only [hhd]
                            exact ip_ex_up tb _ (f + F) _ d _ _ _ _ _ _ hf (by omega) (Nat.le_refl _)
                          · cases h
                      · cases h
                    · cases h
                · rename_i hkk
                  split at h
                  · rename_i hk4
                    split at h
                    · cases h
                    · rename_i av rest ha
                      split at h
                      · rename_i hc
                        split at h
                        · rename_i x v1 c hpr
                          obtain ⟨h1, h2⟩ := ih _ _ _ _ _ _ _ h hall
                          obtain ⟨h5, h6, h7⟩ := il_P_ok hpr (h1 _ List.mem_cons_self)
                          refine ⟨fun q hq => h1 q (List.mem_cons_of_mem _ hq), fun hr => ?_⟩
                          obtain ⟨f, hf⟩ := h2 hr
                          refine ⟨f + 1, ?_⟩
                          unfold ip_ex
                          simp only [hI]
                          rw [if_neg hck, if_neg hck2]
                          simp only [hci, hM]
                          rw [if_neg hk3, if_neg hkk, if_pos hk4]
                          simp only [ha]
                          rw [if_pos hc, hP]
                          simp only [h5]
                          rw [if_pos ⟨h6, h7⟩]
                          exact hf
                        · cases h
                      · cases h
                  · cases h
end ILX
