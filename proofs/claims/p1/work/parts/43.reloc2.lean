/-! part 43: a run that makes nothing is the same run with its cells elsewhere -/
section RF
variable {φ : Nat → Nat} {ψ : Nat → Option Nat} {u : ip_W} {tb : ip_TB}
theorem re_rd {Ro : Nat → Option (Nat × Nat × (Nat → Int32))} {i : Instr} {st st2 : List Value} (h : ip_rd Ro i st = some st2) : ip_rd Ro i (st.map (re_v φ)) = some (st2.map (re_v φ)) := by
  cases i <;> simp only [ip_rd] at h <;> first | (cases h; done) | skip
  all_goals
    (repeat' split at h) <;> first | (cases h; done) | (cases h; simp_all [ip_rd, re_v])
theorem ip_ex_re (hP : tP tb = vt_P) (hC : ∀ y k v, tC tb y k = some v → re_v φ v = v) (hr : re_ok φ ψ) : ∀ (f d y pc : Nat) (lo : List (Nat × Value)) (st : List Value) (w : ip_W) (o : Outcome) (w2 : ip_W), ip_ex tb f d y pc lo st w = some (o, w2) → w2.1 = w.1 → ip_ex tb f d y pc (re_l φ lo) (st.map (re_v φ)) (re_w φ ψ w u) = some (re_o φ o, re_w φ ψ w2 u) := by
  intro f
  induction f with
  | zero => intro d y pc lo st w o w2 h; simp [ip_ex] at h
  | succ f ih =>
    intro d y pc lo st w o w2 h hn
    unfold ip_ex at h
    unfold ip_ex
    split at h
    · cases h
    · rename_i i n hI
      try simp only [hI]
      split at h
      · rename_i hck
        rw [if_pos hck]
        split at h
        · rename_i ci htw
          split at h
          · cases h
            exact absurd hn (by show ¬ w.1 + 1 = w.1; omega)
          · cases h
        · rename_i htw
          try simp only [htw]
          split at h
          · rename_i r hst
            have m1 := ip_st_mono hst
            have m2 := ip_ex_mono tb _ _ _ _ _ _ _ _ _ h
            have h1 := ip_st_re (u := u) hr (hC y) hst (by omega)
            simp only [h1]
            exact ih _ _ _ _ _ _ _ _ h (by omega)
          · rename_i hst
            split at h
            · rename_i st2 hrd
              have hrd2 := re_rd (φ := φ) hrd
              rw [ip_st_lo0 hrd2]
              simp only [hrd2]
              exact ih _ _ _ _ _ _ _ _ h hn
            · cases h
      · rename_i hck
        rw [if_neg hck]
        split at h
        · rename_i hck2
          rw [if_pos hck2]
          have e := ip_end_mono h
          subst e
          exact re_end h
        · rename_i hck2
          rw [if_neg hck2]
          split at h
          · cases h
          · rename_i kc k hci
            try simp only [hci]
            split at h
            · cases h
            · rename_i z na kc2 ci hM
              try simp only [hM]
              split at h
              · rename_i hk3
                rw [if_pos hk3]
                split at h
                · rename_i a rr
                  split at h
                  · rename_i hc
                    simp only [List.map_cons]
                    rw [show re_v φ (.ref a) = .ref (φ a) from rfl]
                    simp only
                    rw [if_pos ⟨hc.1, hc.2.1, by rw [re_sum]; exact hc.2.2⟩]
                    exact ih _ _ _ _ _ _ _ _ h hn
                  · cases h
                · cases h
              · rename_i hk3
                rw [if_neg hk3]
                split at h
                · rename_i hkk
                  rw [if_pos hkk]
                  split at h
                  · cases h
                  · rename_i av rest ha
                    simp only [re_arg (u := u) hr ha]
                    split at h
                    · rename_i hc
                      rw [if_pos ⟨hc.1, by rw [re_sum]; exact hc.2.1, by rw [re_sl]; exact hc.2.2⟩]
                      rw [← re_args]
                      split at h
                      · rename_i x w1 hrun
                        have m1 := ip_ex_mono tb _ _ _ _ _ _ _ _ _ hrun
                        have m2 := ip_ex_mono tb _ _ _ _ _ _ _ _ _ h
                        have h1 := ih _ _ _ _ _ _ _ _ hrun (by omega)
                        simp only [List.map_nil] at h1
                        simp only [h1, re_o]
                        have e1 : (x.toList ++ rest).map (re_v φ) = (x.map (re_v φ)).toList ++ rest.map (re_v φ) := by
                          rw [List.map_append]
                          cases x <;> rfl
                        rw [← e1]
                        exact ih _ _ _ _ _ _ _ _ h (by omega)
                      · rename_i a w1 hrun
                        have m1 := ip_ex_mono tb _ _ _ _ _ _ _ _ _ hrun
                        split at h
                        · rename_i he
                          cases h
                          have h1 := ih _ _ _ _ _ _ _ _ hrun hn
                          simp only [List.map_nil] at h1
                          simp only [h1, re_o]
                          rw [if_pos he]
                        · rename_i he
                          split at h
                          · rename_i hh hhd
                            have m2 := ip_ex_mono tb _ _ _ _ _ _ _ _ _ h
                            have h1 := ih _ _ _ _ _ _ _ _ hrun (by omega)
                            simp only [List.map_nil] at h1
                            simp only [h1, re_o]
                            rw [if_neg he]
                            simp only [re_hd (u := u) hr hhd]
                            exact ih _ _ _ _ _ _ _ _ h (by omega)
                          · cases h
                      · cases h
                    · cases h
                · rename_i hkk
                  rw [if_neg hkk]
                  split at h
                  · rename_i hk4
                    rw [if_pos hk4]
                    split at h
                    · cases h
                    · rename_i av rest ha
                      have ha2 : ip_argP kc na (st.map (re_v φ)) = _ := re_take (φ := φ) ha
                      simp only [ha2]
                      split at h
                      · rename_i hc
                        rw [if_pos ⟨hc.1, by rw [re_sum]; exact hc.2⟩]
                        split at h
                        · rename_i x w1 hpr
                          rw [hP] at hpr ⊢
                          obtain ⟨h1, h2, h3⟩ := re_P (u := u) hr hpr
                          simp only [h1]
                          split at h
                          · rename_i hm
                            rw [if_pos ⟨Nat.le_refl _, Nat.le_refl _⟩]
                            have e1 : (x.toList ++ rest).map (re_v φ) = (x.map (re_v φ)).toList ++ rest.map (re_v φ) := by
                              rw [List.map_append]
                              cases x <;> rfl
                            rw [← e1]
                            exact ih _ _ _ _ _ _ _ _ h (by omega)
                          · cases h
                        · cases h
                      · cases h
                  · cases h
/-- a run with its cells elsewhere -/
theorem ip_rn.at (hP : tP tb = vt_P) (hC : ∀ y k v, tC tb y k = some v → re_v φ v = v) (hr : re_ok φ ψ) {d y pc : Nat} {lo : List (Nat × Value)} {st : List Value} {w : ip_W} {o : Outcome} {w2 : ip_W} (h : ip_rn tb d y pc lo st w o w2) (hn : w2.1 = w.1) : ip_rn tb d y pc (re_l φ lo) (st.map (re_v φ)) (re_w φ ψ w u) (re_o φ o) (re_w φ ψ w2 u) := by
  obtain ⟨f, hf⟩ := h
  exact ⟨f, ip_ex_re hP hC hr f d y pc lo st w o w2 hf hn⟩
/-- the claim's constants are no references -/
theorem vt_Cre {P : Nat → List Value → ip_W → Option (Option Value × ip_W)} {Ro : Nat → Option (Nat × Nat × (Nat → Int32))} : ∀ y k v, tC (vt_tb P Ro) y k = some v → re_v φ v = v := by
  intro y k v h
  rcases vt_ok7 (X := []) y k v h with ⟨x, rfl, -⟩ | ⟨x, rfl, -⟩ | ⟨j, rfl⟩ <;> rfl
end RF
