/-! part 99.zzzzzzzze: the pure run of the law: it answers 1 -/
theorem vm_eq (a : Int32) : (if (if 16 < a then a else 16) < 4096 then (if 16 < a then a else 16) else 4096) = vt_m a := by
  unfold vt_m
  by_cases h1 : 16 < a
  · rw [if_pos h1]
    by_cases h2 : a < 4096
    · rw [if_pos h2, if_pos h1]
    · rw [if_neg h2, if_pos (by decide)]
  · rw [if_neg h1, if_pos (show (16 : Int32) < 4096 by decide)]
    have h2 : a < 4096 := by
      rw [Int32.lt_iff_toInt_lt] at h1 ⊢
      have e1 : (16 : Int32).toInt = 16 := by decide
      have e2 : (4096 : Int32).toInt = 4096 := by decide
      omega
    rw [if_pos h2, if_neg h1]
theorem vl_len : vl_WC.1.length = 137 := by decide +kernel
theorem t0_wd {N : sx_N} (h : (16 * (N.1 3).toInt).toNat = (N.1 4).toNatClampNeg) : js_wd (N.1 3).toInt (t0 N) = il_w (sx_wd N vl_WC) := by
  have e1 : (t0 N (-1) 0).toNat = (vl_WC.1.map (sx_ed N)).length := by
    rw [List.length_map, vl_len]
    rfl
  have e2 : (t0 N (-1) 1).toNat = vl_WC.2.1 + (vl_WC.2.2.map fun v => (sx_i N v).toNatClampNeg).sum := by
    show (((1015957 + ((N.1 4).toNatClampNeg + 8 * (N.1 3).toNatClampNeg) : Nat)) : Int).toNat = 1015957 + ((N.1 4).toNatClampNeg + ((N.1 3).toNatClampNeg + ((N.1 3).toNatClampNeg + ((N.1 3).toNatClampNeg + ((N.1 3).toNatClampNeg + ((N.1 3).toNatClampNeg + ((N.1 3).toNatClampNeg + ((N.1 3).toNatClampNeg + ((N.1 3).toNatClampNeg + 0)))))))))
    omega
  have e3 : js_cell (N.1 3).toInt (t0 N) = fun q => (vl_WC.1.map (sx_ed N))[q]? := by
    funext q
    rw [List.getElem?_map]
    by_cases hq : q < 137
    · exact w0_all h q hq
    · have d : js_desc (N.1 3).toInt (t0 N) (q : Int) = none := by
        have z : t0 N (-1) 0 = 137 := rfl
        unfold js_desc
        rw [if_pos (by omega), if_neg (by omega), z, if_neg (by omega)]
      have a : js_cell (N.1 3).toInt (t0 N) q = none := by
        unfold js_cell
        rw [d]
      rw [a, List.getElem?_eq_none (show vl_WC.1.length ≤ q by rw [vl_len]; omega)]
      rfl
  show ((t0 N (-1) 0).toNat, (t0 N (-1) 1).toNat, js_cell (N.1 3).toInt (t0 N)) = ((vl_WC.1.map (sx_ed N)).length, vl_WC.2.1 + (vl_WC.2.2.map fun v => (sx_i N v).toNatClampNeg).sum, fun q => (vl_WC.1.map (sx_ed N))[q]?)
  rw [e1, e2, e3]
/-- at the loop's start both stand as they should -/
theorem t0_lq {N : sx_N} {L : Nat} {xs : Nat → Int32} (h16 : (16 * (N.1 3).toInt).toNat = (N.1 4).toNatClampNeg) (h7 : (N.1 7).toInt = (N.1 3).toInt) (hM : 16 ≤ (N.1 3).toInt ∧ (N.1 3).toInt ≤ 4096) : LQ ((N.1 3).toInt, L, xs) 0 (t0 N) (t0 N) := by
  have c1 := sy_c_le (t0 N 19) 400
  have c2 := sy_c_le (t0 N 44) 400
  have s0 : t0 N (-1) 0 = 137 := rfl
  have s1 : t0 N (-1) 1 = (((1015957 + ((N.1 4).toNatClampNeg + 8 * (N.1 3).toNatClampNeg) : Nat)) : Int) := rfl
  have n3 : (N.1 3).toNatClampNeg = (N.1 3).toInt.toNat := rfl
  have e19 : ∀ i : Int, t0 N 19 i = -1 := fun i => rfl
  have e44 : ∀ i : Int, t0 N 44 i = -1 := fun i => rfl
  have e84 : ∀ i : Int, t0 N 84 i = 0 := fun i => rfl
  have e83 : t0 N 83 2 = 0 := rfl
  refine ⟨⟨⟨rfl, by rw [e83]; exact Int.le_refl _, by rw [e83]; decide⟩, fun i i1 i2 => absurd i2 (by rw [e83]; omega), fun i _ _ => by rw [e84]; decide⟩, ⟨⟨by rw [s0]; exact Int.le_refl _, by rw [s1]; omega⟩, ⟨fun i _ _ => Or.inl (by show t0 N (19 + 0) i < 0; rw [show (19 + 0 : Int) = 19 from rfl, e19]; decide), fun i _ _ => Or.inl (by show t0 N (19 + 25) i < 0; rw [show (19 + 25 : Int) = 44 from rfl, e44]; decide)⟩, fun i k _ _ _ _ g => absurd g (by rw [e19]; decide), by rw [s0]; omega, by rw [s1]; omega⟩, 0, ⟨Or.inl rfl, ⟨rfl, rfl, rfl⟩, h7, hM⟩, Or.inl ⟨⟨rfl, rfl⟩, ⟨rfl, rfl⟩, ⟨rfl, rfl⟩, rfl, ⟨rfl, rfl⟩, ⟨rfl, rfl⟩, rfl, rfl⟩⟩
theorem vl_le (N : sx_N) : ip_le (js_L [(3, 100), (2, 0), (2, 83), (2, 136), (0, 1), (9, 0), (9, 0), (9, 0)] 0) (sx_ld N vl_L) := by
  refine ⟨js_L_nodup _ _, (by decide : ([4, 3, 2, 1, 0] : List Nat).Nodup), fun k v h => ?_⟩
  match k, h with
  | 0, h => exact h
  | 1, h => exact h
  | 2, h => exact h
  | 3, h => exact h
  | 4, h => exact h
  | 5, h => exact absurd h (by intro q; cases q)
  | 6, h => exact absurd h (by intro q; cases q)
  | 7, h => exact absurd h (by intro q; cases q)
  | n + 8, h =>
    have g := js_L_get [(3, 100), (2, 0), (2, 83), (2, 136), (0, 1), (9, 0), (9, 0), (9, 0)] 0 (n + 8)
    rw [Nat.zero_add] at g
    rw [g] at h
    cases h
theorem law_run (L : Nat) (hL : L ≤ 2561) (xs : Nat → Int32) : ∃ (f : Nat) (w2 : ip_W), ip_ex (vt_tb vt_P (vt_Ro L xs)) f 1750 309 0 [(0, .retAddr 100)] [] (0, 0, fun _ => none) = some (.returned (some (.int 1)), w2) ∧ w2.1 ≤ 601024 ∧ w2.2.1 ≤ 7293000 := by
  obtain ⟨a, ha⟩ : ∃ a : Int32, a = if 0 < L then xs 0 else 0 := ⟨_, rfl⟩
  obtain ⟨N, hN0, hN, hNx⟩ : ∃ N : sx_N, N.1 0 = Int32.ofNat L ∧ vd_N N a ∧ N.2.2.1 0 = xs := ⟨(fun k => match k with
    | 0 => Int32.ofNat L
    | 1 => a
    | 2 => (if a < 4096 then a else 4096)
    | 3 => vt_m a
    | 4 => 16 * vt_m a
    | 5 => a
    | 6 => (if 16 < a then a else 16)
    | 7 => (if (if 16 < a then a else 16) < 4096 then (if 16 < a then a else 16) else 4096)
    | _ => 0, fun _ => 0, fun _ => xs, fun _ _ => 0, fun _ _ => none), rfl, ⟨rfl, rfl, rfl, rfl, rfl, rfl, rfl⟩, rfl⟩
  have hN' := hN
  obtain ⟨k1, k2, k3, k4, k5, k6, k7⟩ := hN'
  have hsc : sx_sc N (vt_Ro L xs) := ⟨L, by rw [hNx]; rfl, hN0, by omega⟩
  have hM := vt_m_in a
  have h16 : (16 * (N.1 3).toInt).toNat = (N.1 4).toNatClampNeg := by
    rw [k3, k4]
    show _ = (16 * vt_m a).toInt.toNat
    rw [vt_m16]
  have h7 : (N.1 7).toInt = (N.1 3).toInt := by rw [k7, k6, k3, vm_eq]
  have q0 : LQ ((N.1 3).toInt, L, xs) 0 (t0 N) (t0 N) := t0_lq h16 h7 (by rw [k3]; exact hM)
  obtain ⟨τ', m, hm, e1, q1⟩ := law_loop (E := ((N.1 3).toInt, L, xs)) (d := 1750) hL (by omega) 512 0 (t0 N) (9, 0) (9, 0) (9, 0) (by omega) (by omega) (show (L : Int) ≤ 5 + 5 * 0 + 5 * ((512 : Nat) : Int) by omega) q0
  obtain ⟨r1, r2⟩ := lq_room q1 hm
  have run : ip_rn (vt_tb vt_P (vt_Ro L xs)) 1750 309 33 (js_L [(3, 100), (2, 0), (2, 83), (2, 136), (0, 1), (9, 0), (9, 0), (9, 0)] 0) [] (js_wd (N.1 3).toInt (t0 N)) (.returned (some (.int 1))) (js_wd (N.1 3).toInt τ') := js_li_rn e1
  rw [t0_wd h16] at run
  have run2 := run.more (vl_le N)
  obtain ⟨o1, o2⟩ := vd_ok hN
  have run3 : ip_rn (vt_tb vt_P (vt_Ro L xs)) 1750 309 0 [(0, .retAddr 100)] [] (0, 0, fun _ => none) (.returned (some (.int 1))) (js_wd (N.1 3).toInt τ') := by
    by_cases h0 : 0 < L
    · rw [if_pos h0] at ha
      refine vd_head hsc (vl_ok (L := L) ⟨hN0, ?_, ?_, ?_, ?_, ?_, ?_, k7⟩ h0 (by omega)) run2
      · rw [k1, ha, hNx]
      · rw [k2, k1]
      · rw [k3, k1]
      · rw [k4, k1]
      · rw [k5, ha, hNx]
      · rw [k6, k5]
    · rw [if_neg h0] at ha
      refine vd_head0 hsc (by rw [k1, ha]) (by rw [k5, ha]) ?_ o1 o2 run2
      intro c hc
      unfold vd_c0 at hc
      rcases List.mem_singleton.mp hc with rfl
      refine sx_hb2 rfl rfl rfl (Or.inl ⟨rfl, ?_⟩)
      show N.1 0 ≤ 0
      rw [hN0, show L = 0 by omega]
      decide
  obtain ⟨f, hf⟩ := run3
  exact ⟨f, _, hf, r1, r2⟩
