/-! part 48: feed as a whole, over its few cells: class and reference do the same -/
section LPG
variable {L : Nat} {xs : Nat → Int32}
/-- the signs of a word, from a shift on -/
def fd_l (x : Int64) (n : Nat) (s : Int32) : List Int32 := match n with
  | 0 => []
  | n + 1 => cg x s :: fd_l x n (s + (-8))
def fd_s (x : Int64) : List Int32 := [cg x 56, cg x 48, cg x 40, cg x 32, cg x 24, cg x 16, cg x 8, cg x 0]
theorem fd_len (x : Int64) : (fd_s x).length = 8 := rfl
theorem fd_l8 (x : Int64) : fd_l x 8 56 = fd_s x := rfl
def fd_ap : List Int32 → Int32 → (Nat → Int32) → Int32 × (Nat → Int32)
  | [], l, tp => (l, tp)
  | g :: gs, l, tp => if g = 0 then fd_ap gs l tp else fd_ap gs (l + 1) (upd tp l.toNatClampNeg (vp_nar .byte g.toInt8.toInt32))
def fd_n : List Int32 → Int32 → Int32
  | [], n => n
  | g :: gs, n => if g = 0 then fd_n gs n else fd_n gs (n + 1)
theorem lp_ap_l (x : Int64) : ∀ (n : Nat) (s l : Int32) (tp : Nat → Int32), lp_ap x n s l tp = fd_ap (fd_l x n s) l tp
  | 0, _, _, _ => rfl
  | n + 1, s, l, tp => by
    unfold lp_ap fd_l fd_ap
    rw [lp_ap_l x n, lp_ap_l x n]
theorem lp_v0 : lp_v 0 = true := by decide
theorem lp_f_l (x : Int64) : ∀ (n : Nat) (s c : Int32), lp_f x n s c = if (fd_l x n s).all lp_v = true then fd_n (fd_l x n s) c else -1
  | 0, _, _ => rfl
  | n + 1, s, c => by
    unfold lp_f fd_l fd_n
    rw [lp_f_l x n, lp_f_l x n, List.all_cons]
    by_cases h0 : cg x s = 0
    · rw [if_pos h0, if_pos h0, h0, lp_v0, Bool.true_and]
    · rw [if_neg h0, if_neg h0]
      by_cases hv : lp_v (cg x s) = true
      · rw [if_pos hv, hv, Bool.true_and]
      · rw [if_neg hv, if_neg (by simp [hv])]
/-- the reference's signs -/
def fd_rl (a b : Int64) (m : Nat) (k : Int32) : List Int32 := match m with
  | 0 => []
  | m + 1 => lp_rs a b k :: fd_rl a b m (k + 1)
theorem lp_rt_l (a b : Int64) : ∀ (m : Nat) (k t : Int32) (rt : Nat → Int32), lp_rt a b m k t rt = fd_ap (fd_rl a b m k) t rt
  | 0, _, _, _ => rfl
  | m + 1, k, t, rt => by
    unfold lp_rt fd_rl fd_ap
    rw [lp_rt_l a b m, lp_rt_l a b m]
theorem lp_rc_l (a b : Int64) : ∀ (m : Nat) (k n : Int32), lp_rc a b m k n = if (fd_rl a b m k).all lp_v = true then some (fd_n (fd_rl a b m k) n) else none
  | 0, _, _ => rfl
  | m + 1, k, n => by
    unfold lp_rc fd_rl fd_n
    rw [lp_rc_l a b m, lp_rc_l a b m, List.all_cons]
    by_cases h0 : lp_rs a b k = 0
    · rw [if_pos h0, if_pos h0, h0, lp_v0, Bool.true_and, Int32.add_zero]
    · rw [if_neg h0, if_neg h0]
      by_cases hv : lp_v (lp_rs a b k) = true
      · rw [if_pos hv, hv, Bool.true_and]
      · rw [if_neg hv, if_neg (by simp [hv])]
/-- a byte is the same by either shift -/
theorem fd_bits (x : BitVec 64) (k : Nat) (hk : k ≤ 56) : (x >>> k).signExtend 32 &&& 255#32 = (x.sshiftRight k).signExtend 32 &&& 255#32 := by
  apply BitVec.eq_of_getLsbD_eq
  intro i hi
  rw [BitVec.getLsbD_and, BitVec.getLsbD_and]
  by_cases h8 : i < 8
  · congr 1
    rw [BitVec.getLsbD_signExtend, BitVec.getLsbD_signExtend, BitVec.getLsbD_ushiftRight, BitVec.getLsbD_sshiftRight]
    have h1 : i < 64 := by omega
    have h2 : k + i < 64 := by omega
    have h3 : ¬ 64 ≤ i := by omega
    simp [h1, h2, h3]
  · have e : (255#32).getLsbD i = false := by
      rw [BitVec.getLsbD_ofNat]
      have : Nat.testBit 255 i = false := Nat.testBit_lt_two_pow (Nat.lt_of_lt_of_le (by decide : 255 < 2 ^ 8) (Nat.pow_le_pow_right (by decide) (by omega)))
      simp [this]
    rw [e, Bool.and_false, Bool.and_false]
theorem fd_g56 (x : Int64) : rg x 56 = cg x 56 := congrArg (fun q => Int32.ofBitVec q) (fd_bits x.toBitVec 56 (by decide)).symm
theorem fd_g48 (x : Int64) : rg x 48 = cg x 48 := congrArg (fun q => Int32.ofBitVec q) (fd_bits x.toBitVec 48 (by decide)).symm
theorem fd_g40 (x : Int64) : rg x 40 = cg x 40 := congrArg (fun q => Int32.ofBitVec q) (fd_bits x.toBitVec 40 (by decide)).symm
theorem fd_g32 (x : Int64) : rg x 32 = cg x 32 := congrArg (fun q => Int32.ofBitVec q) (fd_bits x.toBitVec 32 (by decide)).symm
theorem fd_g24 (x : Int64) : rg x 24 = cg x 24 := congrArg (fun q => Int32.ofBitVec q) (fd_bits x.toBitVec 24 (by decide)).symm
theorem fd_g16 (x : Int64) : rg x 16 = cg x 16 := congrArg (fun q => Int32.ofBitVec q) (fd_bits x.toBitVec 16 (by decide)).symm
theorem fd_g8 (x : Int64) : rg x 8 = cg x 8 := congrArg (fun q => Int32.ofBitVec q) (fd_bits x.toBitVec 8 (by decide)).symm
theorem fd_g0 (x : Int64) : rg x 0 = cg x 0 := congrArg (fun q => Int32.ofBitVec q) (fd_bits x.toBitVec 0 (by decide)).symm
theorem fd_rl16 (a b : Int64) : fd_rl a b 16 0 = fd_s a ++ fd_s b := by
  have e : fd_rl a b 16 0 = [rg a 56, rg a 48, rg a 40, rg a 32, rg a 24, rg a 16, rg a 8, rg a 0, rg b 56, rg b 48, rg b 40, rg b 32, rg b 24, rg b 16, rg b 8, rg b 0] := rfl
  rw [e, fd_g56, fd_g48, fd_g40, fd_g32, fd_g24, fd_g16, fd_g8, fd_g0, fd_g56, fd_g48, fd_g40, fd_g32, fd_g24, fd_g16, fd_g8, fd_g0]
  rfl
theorem fd_ap_app : ∀ (gs hs : List Int32) (l : Int32) (tp : Nat → Int32), fd_ap (gs ++ hs) l tp = fd_ap hs (fd_ap gs l tp).1 (fd_ap gs l tp).2
  | [], _, _, _ => rfl
  | g :: gs, hs, l, tp => by
    rw [List.cons_append]
    by_cases h : g = 0
    · have e1 : fd_ap (g :: (gs ++ hs)) l tp = fd_ap (gs ++ hs) l tp := if_pos h
      have e2 : fd_ap (g :: gs) l tp = fd_ap gs l tp := if_pos h
      rw [e1, e2]
      exact fd_ap_app gs hs l tp
    · have e1 : fd_ap (g :: (gs ++ hs)) l tp = fd_ap (gs ++ hs) (l + 1) (upd tp l.toNatClampNeg (vp_nar .byte g.toInt8.toInt32)) := if_neg h
      have e2 : fd_ap (g :: gs) l tp = fd_ap gs (l + 1) (upd tp l.toNatClampNeg (vp_nar .byte g.toInt8.toInt32)) := if_neg h
      rw [e1, e2]
      exact fd_ap_app gs hs _ _
theorem fd_n_b : ∀ (gs : List Int32) (n : Int32), 0 ≤ n.toInt → n.toInt + gs.length ≤ 100000 → n.toInt ≤ (fd_n gs n).toInt ∧ (fd_n gs n).toInt ≤ n.toInt + gs.length
  | [], n, _, _ => ⟨Int.le_refl _, by simp [fd_n]⟩
  | g :: gs, n, h0, h1 => by
    rw [List.length_cons] at h1 ⊢
    unfold fd_n
    split
    · have := fd_n_b gs n h0 (by omega)
      omega
    · have e := lp_l1 h0 (by omega)
      have := fd_n_b gs (n + 1) (by omega) (by omega)
      omega
theorem fd_ap_b : ∀ (gs : List Int32) (l : Int32) (tp : Nat → Int32), 0 ≤ l.toInt → l.toInt + gs.length ≤ 100000 → l.toInt ≤ (fd_ap gs l tp).1.toInt ∧ (fd_ap gs l tp).1.toInt ≤ l.toInt + gs.length
  | [], n, _, _, _ => ⟨Int.le_refl _, by simp [fd_ap]⟩
  | g :: gs, n, tp, h0, h1 => by
    rw [List.length_cons] at h1 ⊢
    unfold fd_ap
    split
    · have := fd_ap_b gs n tp h0 (by omega)
      omega
    · have e := lp_l1 h0 (by omega)
      have := fd_ap_b gs (n + 1) (upd tp n.toNatClampNeg (vp_nar .byte g.toInt8.toInt32)) (by omega) (by omega)
      omega
/-- the length doesn't look at the tape -/
theorem fd_ap_1 : ∀ (gs : List Int32) (l : Int32) (tp rt : Nat → Int32), (fd_ap gs l tp).1 = (fd_ap gs l rt).1
  | [], _, _, _ => rfl
  | g :: gs, l, tp, rt => by
    unfold fd_ap
    split
    · exact fd_ap_1 gs l _ _
    · exact fd_ap_1 gs _ _ _
/-- feed: its answer, length and tape behind it -/
def fd_R (a b : Int64) (l : Int32) (tp : Nat → Int32) : Int32 × Int32 × (Nat → Int32) := if ((fd_s a).all lp_v && (fd_s b).all lp_v) = true then ((fd_ap (fd_s a ++ fd_s b) l tp).1, fd_ap (fd_s a ++ fd_s b) l tp) else (-1, l, tp)
theorem fd_R_1 (a b : Int64) (l : Int32) (tp rt : Nat → Int32) : (fd_R a b l tp).1 = (fd_R a b l rt).1 := by
  unfold fd_R
  split
  · exact fd_ap_1 _ _ _ _
  · rfl
theorem lp_le8 {s : Int32} {x : Int64} {v : Value} : ip_le [(3, .int s), (1, .long x), (0, v)] [(3, .int s), (0, v), (1, .long x)] :=
  ip_le_of (by simp) (by simp) (by simp [ip_get])
theorem ap_all (hL : L < 2 ^ 31) (Q : Nat → Int32) (Y : Nat → Int64) (l : Int32) (sg tp : Nat → Int32) (x : Int64) (hl0 : 0 ≤ l.toInt) (hl1 : l.toInt + 8 ≤ 8192) :
    ip_rn (vt_tb vt_P (vt_Ro L xs)) 20 15 0 [(0, .ref 0), (1, .long x)] [] (il_w (rdw Q Y l sg tp)) (.returned none) (il_w (rdw Q Y (fd_ap (fd_s x) l tp).1 sg (fd_ap (fd_s x) l tp).2)) := by
  refine ap_e hL Q Y l sg tp x ?_
  have h := ap_run (xs := xs) hL Q Y sg x 8 56 l tp (by decide) (by decide) hl0 (by omega)
  rw [lp_ap_l, fd_l8] at h
  exact h.more lp_le8
theorem ad_run (hL : L < 2 ^ 31) (Q : Nat → Int32) (Y : Nat → Int64) (l : Int32) (sg tp : Nat → Int32) (a b : Int64) (hl0 : 0 ≤ l.toInt) (hl1 : l.toInt + 16 ≤ 8192) :
    ip_rn (vt_tb vt_P (vt_Ro L xs)) 30 12 0 [(0, .ref 0), (1, .long a), (3, .long b)] [] (il_w (rdw Q Y l sg tp)) (.returned (some (.int (fd_R a b l tp).1))) (il_w (rdw Q Y (fd_R a b l tp).2.1 sg (fd_R a b l tp).2.2)) := by
  refine ad_1 hL Q Y l sg tp a b ?_
  refine ip_rn_call (d2 := 20) (z := 13) (av := [.long a]) (rest := []) rfl rfl rfl (by decide) rfl (by decide) (by decide) (show (2 : Nat) ≤ tL sx_tb 13 from by decide +kernel) (so_all hL a _) ?_
  refine ad_2 hL Q Y l sg tp a b (lp_f a 8 56 0) 0 ?_
  refine ip_rn_call (d2 := 20) (z := 13) (av := [.long b]) (rest := []) rfl rfl rfl (by decide) rfl (by decide) (by decide) (show (2 : Nat) ≤ tL sx_tb 13 from by decide +kernel) (so_all hL b _) ?_
  have e0 : (0 : Int32).toInt = 0 := by decide
  unfold fd_R
  rw [lp_f_l, lp_f_l, fd_l8, fd_l8]
  by_cases ha : (fd_s a).all lp_v = true
  · rw [if_pos ha]
    have hpa := fd_n_b (fd_s a) 0 (by decide) (by rw [fd_len]; decide)
    have la : (fd_s a).length = 8 := rfl
    rw [la, e0] at hpa
    by_cases hb : (fd_s b).all lp_v = true
    · rw [if_pos hb, ha, hb, if_pos (by decide)]
      have hpb := fd_n_b (fd_s b) 0 (by decide) (by rw [fd_len]; decide)
      have lb : (fd_s b).length = 8 := rfl
      rw [lb, e0] at hpb
      have e1 : (l + fd_n (fd_s a) 0).toInt = l.toInt + (fd_n (fd_s a) 0).toInt := by
        rw [Int32.toInt_add, Int.bmod_eq_of_le (by omega) (by omega)]
      have e2 : (l + fd_n (fd_s a) 0 + fd_n (fd_s b) 0).toInt = l.toInt + (fd_n (fd_s a) 0).toInt + (fd_n (fd_s b) 0).toInt := by
        rw [Int32.toInt_add, e1, Int.bmod_eq_of_le (by omega) (by omega)]
      have c1 : (65536 : Int32).toInt = 65536 := by decide
      have c2 : (8192 : Int32).toInt = 8192 := by decide
      refine ad_3 hL Q Y l sg tp a b _ _ (by rw [Int32.lt_iff_toInt_lt, e0]; omega) (by rw [Int32.lt_iff_toInt_lt, e0]; omega) (by rw [Int32.le_iff_toInt_le, e2, c1]; omega) (by rw [Int32.le_iff_toInt_le, e2, c2]; omega) ?_
      refine ip_rn_call (d2 := 20) (z := 15) (av := [.ref 0, .long a]) (rest := []) rfl rfl rfl (by decide) rfl (by decide) (by decide) (show (3 : Nat) ≤ tL sx_tb 15 from by decide +kernel) (ap_all hL Q Y l sg tp a hl0 (by omega)) ?_
      have b1 := fd_ap_b (fd_s a) l tp hl0 (by rw [la]; omega)
      rw [la] at b1
      refine ad_4 hL Q Y _ sg _ a b _ _ ?_
      refine ip_rn_call (d2 := 20) (z := 15) (av := [.ref 0, .long b]) (rest := []) rfl rfl rfl (by decide) rfl (by decide) (by decide) (show (3 : Nat) ≤ tL sx_tb 15 from by decide +kernel) (ap_all hL Q Y _ sg _ b (by omega) (by omega)) ?_
      rw [fd_ap_app]
      exact ad_5 hL Q Y _ sg _ a b _ _
    · rw [if_neg hb, if_neg (by simp [hb])]
      exact ad_nq hL Q Y l sg tp a b _ _ (by rw [Int32.lt_iff_toInt_lt, e0]; omega) (by decide)
  · rw [if_neg ha, if_neg (c := ((fd_s a).all lp_v && (fd_s b).all lp_v) = true) (fun h => ha (Bool.and_eq_true_iff.mp h).1)]
    exact ad_np hL Q Y l sg tp a b (-1) _ (by decide)
theorem lp_le9 {k n : Int32} {a b : Int64} {v : Value} : ip_le [(6, .int k), (0, v), (1, .long a), (3, .long b)] [(6, .int k), (5, .int n), (0, v), (1, .long a), (3, .long b)] :=
  ip_le_of (by simp) (by simp) (by simp [ip_get])
theorem rm_run (hL : L < 2 ^ 31) (Q : Nat → Int32) (Y : Nat → Int64) (t : Int32) (rt : Nat → Int32) (a b : Int64) (ht0 : 0 ≤ t.toInt) (ht1 : t.toInt + 16 ≤ 65536) :
    ip_rn (vt_tb vt_P (vt_Ro L xs)) 20 186 0 [(0, .ref 0), (1, .long a), (3, .long b)] [] (il_w (mdw Q Y t rt)) (.returned (some (.int (fd_R a b t rt).1))) (il_w (mdw (fun j => if j = 0 then (0 : Int32) else Q j) Y (fd_R a b t rt).2.1 (fd_R a b t rt).2.2)) := by
  refine rm_e hL Q Y t rt a b ?_
  have e0 : (0 : Int32).toInt = 0 := by decide
  have hall : (fd_rl a b 16 0).all lp_v = ((fd_s a).all lp_v && (fd_s b).all lp_v) := by rw [fd_rl16, List.all_append]
  refine rf_run hL _ Y t rt a b 16 0 0 (by decide) (by decide) ?_ ?_
  · intro n2 h k2
    rw [lp_rc_l, hall] at h
    unfold fd_R
    by_cases hv : ((fd_s a).all lp_v && (fd_s b).all lp_v) = true
    · rw [if_pos hv] at h ⊢
      cases h
      have hb := fd_n_b (fd_rl a b 16 0) 0 (by decide) (by rw [fd_rl16, List.length_append, fd_len, fd_len]; decide)
      have ll : (fd_rl a b 16 0).length = 16 := by rw [fd_rl16]; rfl
      rw [ll, e0] at hb
      have c1 : (65536 : Int32).toInt = 65536 := by decide
      have e1 : (t + fd_n (fd_rl a b 16 0) 0).toInt = t.toInt + (fd_n (fd_rl a b 16 0) 0).toInt := by
        rw [Int32.toInt_add, Int.bmod_eq_of_le (by omega) (by omega)]
      refine rm_1 hL _ Y t rt a b k2 _ (by rw [Int32.le_iff_toInt_le, e1, c1]; omega) ?_
      have h2 := rg_run (xs := xs) hL (fun j => if j = 0 then (0 : Int32) else Q j) Y a b 0 16 0 t rt (by decide) (by decide) ht0 (by omega)
      rw [lp_rt_l, fd_rl16] at h2
      exact h2.more lp_le9
    · rw [if_neg hv] at h
      cases h
  · intro h
    rw [lp_rc_l, hall] at h
    unfold fd_R
    by_cases hv : ((fd_s a).all lp_v && (fd_s b).all lp_v) = true
    · rw [if_pos hv] at h
      cases h
    · rw [if_neg hv]
      exact ⟨rfl, rfl⟩
end LPG
