/-! part 40: a run that makes nothing is the same run over more cells -/
/-- the cells of w, and where w has none those of u; u's counts -/
def ip_ov (w u : ip_W) : ip_W := (u.1, u.2.1, fun q => match w.2.2 q with
  | some x => some x
  | none => u.2.2 q)
theorem ip_ov_at {w u : ip_W} {a : Nat} {x : ip_E} (h : w.2.2 a = some x) : (ip_ov w u).2.2 a = some x := by
  show (match w.2.2 a with
    | some x => some x
    | none => u.2.2 a) = some x
  rw [h]
theorem ip_ov_up {w u : ip_W} {a : Nat} {x y : ip_E} (_ : w.2.2 a = some y) : ((ip_ov w u).1, (ip_ov w u).2.1, va_up (ip_ov w u).2.2 a (some x)) = ip_ov (w.1, w.2.1, va_up w.2.2 a (some x)) u := by
  show (u.1, u.2.1, va_up (fun q => match w.2.2 q with
    | some x => some x
    | none => u.2.2 q) a (some x)) = (u.1, u.2.1, fun q => match va_up w.2.2 a (some x) q with
    | some x => some x
    | none => u.2.2 q)
  congr 2
  funext q
  by_cases hq : q = a
  · subst hq
    simp [va_up]
  · simp [va_up, hq]
set_option maxHeartbeats 2000000 in
theorem ip_st_ov {Fd : Nat → Option (Nat × Nat)} {Ft : Nat → Nat → Option (Nat × Bool)} {Cn : Nat → Option Value} {Nw : Nat → Option (Nat × List Value)} {nL : Nat} {ini : Option Nat} {i : Instr} {pc : Nat} {lo : List (Nat × Value)} {st : List Value} {w u : ip_W} {r : ip_R} (h : ip_st Fd Ft Cn Nw nL ini i pc lo st w = some r) (hn : r.2.2.2.1 = w.1) : ip_st Fd Ft Cn Nw nL ini i pc lo st (ip_ov w u) = some (r.1, r.2.1, r.2.2.1, ip_ov r.2.2.2 u) := by
  cases i
  case getfield k =>
    simp only [ip_st] at h ⊢
    split at h
    · split at h
      · rename_i hF hw
        rw [hF, ip_ov_at hw]
        split at h
        · rename_i hc
          split at h
          · rename_i x hx
            cases h
            simp only [if_pos hc, hx]
          · cases h
        · cases h
      · cases h
    · cases h
  case putfield k =>
    simp only [ip_st] at h ⊢
    split at h
    · split at h
      · rename_i hF hw
        rw [hF, ip_ov_at hw]
        split at h
        · rename_i hFt
          split at h
          · rename_i hc
            cases h
            simp only [hFt]
            rw [if_pos hc, ip_ov_up hw]
          · cases h
        · cases h
      · cases h
    · cases h
  case arraylength =>
    simp only [ip_st] at h ⊢
    split at h
    · split at h
      · rename_i hw
        rw [ip_ov_at hw]
        split at h
        · rename_i hc
          cases h
          simp only [if_pos hc]
        · cases h
      · cases h
    · cases h
  case iaload | laload | aaload =>
    simp only [ip_st] at h ⊢
    split at h
    · split at h
      · rename_i hw
        rw [ip_ov_at hw]
        split at h
        · rename_i hc
          cases h
          simp only [if_pos hc]
        · cases h
      · cases h
    · cases h
  case baload =>
    simp only [ip_st] at h ⊢
    split at h
    · split at h
      · rename_i hw
        rw [ip_ov_at hw]
        split at h
        · rename_i hc
          cases h
          simp only [if_pos hc]
        · cases h
      · rename_i hw
        rw [ip_ov_at hw]
        split at h
        · rename_i hc
          cases h
          simp only [if_pos hc]
        · cases h
      · cases h
    · cases h
  case iastore | lastore =>
    simp only [ip_st] at h ⊢
    split at h
    · split at h
      · rename_i hw
        rw [ip_ov_at hw]
        split at h
        · rename_i hc
          cases h
          simp only [if_pos hc]
          rw [ip_ov_up hw]
        · cases h
      · cases h
    · cases h
  case bastore =>
    simp only [ip_st] at h ⊢
    split at h
    · split at h
      · rename_i hw
        rw [ip_ov_at hw]
        split at h
        · rename_i hc
          cases h
          simp only [if_pos hc]
          rw [ip_ov_up hw]
        · cases h
      · rename_i hw
        rw [ip_ov_at hw]
        split at h
        · rename_i hc
          cases h
          simp only [if_pos hc]
          rw [ip_ov_up hw]
        · cases h
      · cases h
    · cases h
  case aastore =>
    simp only [ip_st] at h ⊢
    split at h
    · split at h
      · rename_i hw hv
        rw [ip_ov_at hw, ip_ov_at hv]
        split at h
        · rename_i hc
          cases h
          simp only [if_pos hc]
          rw [ip_ov_up hw]
        · cases h
      · cases h
    · cases h
  case new k =>
    simp only [ip_st] at h
    split at h
    · cases h
      simp only at hn
      omega
    · cases h
  case newarray t =>
    simp only [ip_st] at h
    split at h
    · split at h
      · split at h
        · cases h
          simp only at hn
          omega
        · cases h
      · cases h
    · cases h
  case anewarray t =>
    simp only [ip_st] at h
    split at h
    · split at h
      · cases h
        simp only at hn
        omega
      · cases h
    · cases h
  case lookupswitch d ps =>
    simp only [ip_st] at h ⊢
    split at h
    · split at h
      · rename_i hs
        split at h
        · rename_i t ht
          cases h
          rw [if_pos hs]
          try simp only [ht]
        · cases h
      · cases h
    · cases h
  case tableswitch d lw hi offs =>
    simp only [ip_st] at h ⊢
    split at h
    · split at h
      · rename_i hs
        split at h
        · rename_i t ht
          cases h
          rw [if_pos hs]
          try simp only [ht]
        · cases h
      · rename_i hs
        split at h
        · rename_i off hoff
          split at h
          · rename_i t ht
            cases h
            rw [if_neg hs]
            try simp only [hoff, ht]
          · cases h
        · cases h
    · cases h
  all_goals
    simp only [ip_st] at h ⊢
    (repeat' split at h) <;> first | (cases h; done) | (cases h; simp_all)
theorem ip_arg_ov {kc n ci : Nat} {st av rest : List Value} {w u : ip_W} (h : ip_arg kc n ci st w = some (av, rest)) : ip_arg kc n ci st (ip_ov w u) = some (av, rest) := by
  unfold ip_arg at h ⊢
  split at h
  · cases h
  · rename_i av2 rest2 ht
    try simp only [ht]
    split at h
    · rename_i hk
      rw [if_pos hk]
      exact h
    · rename_i hk
      rw [if_neg hk]
      split at h
      · rename_i a rr
        split at h
        · rename_i hk2
          try simp only
          rw [if_pos hk2]
          exact h
        · rename_i hk2
          try simp only
          rw [if_neg hk2]
          split at h
          · rename_i cj fs hw
            rw [ip_ov_at hw]
            exact h
          · cases h
      · cases h
theorem ip_hd_ov {X : Nat → Option Nat} {w u : ip_W} {a h : Nat} (hh : ip_hd X w a = some h) : ip_hd X (ip_ov w u) a = some h := by
  unfold ip_hd at hh ⊢
  split at hh
  · rename_i ci fs hw
    rw [ip_ov_at hw]
    exact hh
  · cases hh
theorem vt_P_ov {z : Nat} {av : List Value} {w u w2 : ip_W} {v : Option Value} (h : vt_P z av w = some (v, w2)) : vt_P z av (ip_ov w u) = some (v, ip_ov w2 u) ∧ w2.1 = w.1 ∧ w2.2.1 = w.2.1 := by
  unfold vt_P at h ⊢
  split at h
  case h_7 a0 sp a1 dp n =>
    split at h
    · rename_i hc
      split at h
      · rename_i m0 f m1 g h0 h1
        split at h
        · rename_i hq
          cases h
          simp only [if_pos hc, ip_ov_at h0, ip_ov_at h1, if_pos hq]
          rw [ip_ov_up h1]
          first | exact ⟨rfl, rfl, rfl⟩ | exact ⟨trivial, trivial, trivial⟩ | simp
        · cases h
      · rename_i m0 f m1 g h0 h1
        split at h
        · rename_i hq
          cases h
          simp only [if_pos hc, ip_ov_at h0, ip_ov_at h1, if_pos hq]
          rw [ip_ov_up h1]
          first | exact ⟨rfl, rfl, rfl⟩ | exact ⟨trivial, trivial, trivial⟩ | simp
        · cases h
      · cases h
    · cases h
  case h_8 => cases h
  all_goals
    cases h
    exact ⟨rfl, rfl, rfl⟩
section IPOV
variable {tb : ip_TB} {u : ip_W}
theorem ip_ex_ov (hP : tP tb = vt_P) : ∀ (f d y pc : Nat) (lo : List (Nat × Value)) (st : List Value) (w : ip_W) (o : Outcome) (w2 : ip_W), ip_ex tb f d y pc lo st w = some (o, w2) → w2.1 = w.1 → ip_ex tb f d y pc lo st (ip_ov w u) = some (o, ip_ov w2 u) := by
  intro f
  induction f with
  | zero => intro d y pc lo st w o w2 h; simp [ip_ex] at h
  | succ f ih =>
    intro d y pc lo st w o w2 h hn
    unfold ip_ex at h
    unfold ip_ex
    split at h
    · cases h
    · rename_i i n hI
      try simp only [hI]
      split at h
      · rename_i hck
        rw [if_pos hck]
        split at h
        · rename_i ci htw
          split at h
          · cases h
            exact absurd hn (by show ¬ w.1 + 1 = w.1; omega)
          · cases h
        · rename_i htw
          try simp only [htw]
          split at h
          · rename_i r hst
            have m1 := ip_st_mono hst
            have m2 := ip_ex_mono tb _ _ _ _ _ _ _ _ _ h
            have h1 := ip_st_ov (u := u) hst (by omega)
            simp only [h1]
            exact ih _ _ _ _ _ _ _ _ h (by omega)
          · rename_i hst
            split at h
            · rename_i st2 hrd
              rw [ip_st_lo0 hrd]
              try simp only [hrd]
              exact ih _ _ _ _ _ _ _ _ h hn
            · cases h
      · rename_i hck
        rw [if_neg hck]
        split at h
        · rename_i hck2
          rw [if_pos hck2]
          have e := ip_end_mono h
          subst e
          cases i <;> simp only [ip_end] at h ⊢ <;> (repeat' split at h) <;> first | (cases h; done) | (cases h; simp_all)
        · rename_i hck2
          rw [if_neg hck2]
          split at h
          · cases h
          · rename_i kc k hci
            try simp only [hci]
            split at h
            · cases h
            · rename_i z na kc2 ci hM
              try simp only [hM]
              split at h
              · rename_i hk3
                rw [if_pos hk3]
                split at h
                · split at h
                  · rename_i hc
                    try simp only
                    rw [if_pos hc]
                    exact ih _ _ _ _ _ _ _ _ h hn
                  · cases h
                · cases h
              · rename_i hk3
                rw [if_neg hk3]
                split at h
                · rename_i hkk
                  rw [if_pos hkk]
                  split at h
                  · cases h
                  · rename_i av rest ha
                    simp only [ip_arg_ov (u := u) ha]
                    split at h
                    · rename_i hc
                      rw [if_pos hc]
                      split at h
                      · rename_i x w1 hrun
                        have m1 := ip_ex_mono tb _ _ _ _ _ _ _ _ _ hrun
                        have m2 := ip_ex_mono tb _ _ _ _ _ _ _ _ _ h
                        have h1 := ih _ _ _ _ _ _ _ _ hrun (by omega)
                        simp only [h1]
                        exact ih _ _ _ _ _ _ _ _ h (by omega)
                      · rename_i a w1 hrun
                        have m1 := ip_ex_mono tb _ _ _ _ _ _ _ _ _ hrun
                        split at h
                        · rename_i he
                          cases h
                          have h1 := ih _ _ _ _ _ _ _ _ hrun hn
                          simp only [h1]
                          rw [if_pos he]
                        · rename_i he
                          split at h
                          · rename_i hh hhd
                            have m2 := ip_ex_mono tb _ _ _ _ _ _ _ _ _ h
                            have h1 := ih _ _ _ _ _ _ _ _ hrun (by omega)
                            simp only [h1]
                            rw [if_neg he]
                            simp only [ip_hd_ov (u := u) hhd]
                            exact ih _ _ _ _ _ _ _ _ h (by omega)
                          · cases h
                      · cases h
                    · cases h
                · rename_i hkk
                  rw [if_neg hkk]
                  split at h
                  · rename_i hk4
                    rw [if_pos hk4]
                    split at h
                    · cases h
                    · rename_i av rest ha
                      try simp only [ha]
                      split at h
                      · rename_i hc
                        rw [if_pos hc]
                        split at h
                        · rename_i x w1 hpr
                          rw [hP] at hpr ⊢
                          obtain ⟨h1, h2, h3⟩ := vt_P_ov (u := u) hpr
                          simp only [h1]
                          split at h
                          · rename_i hm
                            rw [if_pos ⟨Nat.le_refl _, Nat.le_refl _⟩]
                            exact ih _ _ _ _ _ _ _ _ h (by omega)
                          · cases h
                        · cases h
                      · cases h
                  · cases h
/-- a run over more cells -/
theorem ip_rn.over (hP : tP tb = vt_P) {d y pc : Nat} {lo : List (Nat × Value)} {st : List Value} {w : ip_W} {o : Outcome} {w2 : ip_W} (h : ip_rn tb d y pc lo st w o w2) (hn : w2.1 = w.1) : ip_rn tb d y pc lo st (ip_ov w u) o (ip_ov w2 u) := by
  obtain ⟨f, hf⟩ := h
  exact ⟨f, ip_ex_ov hP f d y pc lo st w o w2 hf hn⟩
end IPOV
