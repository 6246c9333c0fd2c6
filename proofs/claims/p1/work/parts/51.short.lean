/-! part 51: scripts of fewer than six ints; every script of at most six (printed by wip/whole/tools/gen51.py) -/
def e0_WA : sx_W := ([.inr (0, [.inl .null, .inl .null, .inl .null, .inl (.int 0), .inl .null, .inl .null])], 6, [])
def e0_cA : List sx_c := [(0, (.if_icmp .ge 9), 3, [.inr (false, 0), .inl (.int 0)], 12, [], sx_a0)]
theorem e0_gA : sx_eR (sx_go sx_tb 400 110 309 5 0 [(0, .inl (.retAddr 100))] [] ([], 0, []) [12] 8 []) (9, [(0, .inl (.retAddr 100))], [.inl (.int 0), .inl (.ref 0), .inl (.ref 0)], e0_WA, [], 8, e0_cA) = true := by decide +kernel
theorem e0_eA : e0_WA = vc_W0 := rfl
def e0_WB : sx_W := ([.inr (0, [.inl (.ref 1), .inl (.ref 56), .inl (.ref 82), .inl (.int 0), .inl (.ref 6), .inl (.ref 31)]), .inr (8, [.inl (.int 0), .inl (.int 0), .inl (.int 0), .inl (.int 0), .inl (.ref 2), .inl (.int 0), .inl (.int 0), .inl (.ref 3), .inl (.ref 4), .inl (.ref 5), .inl (.int 0), .inl (.int 0)]), .inl (1, .inl 20, 0, []), .inl (1, .inl 8192, 0, []), .inl (1, .inl 8193, 0, []), .inl (0, .inl 8193, 0, []), .inr (4, [.inl (.ref 7), .inl (.ref 1), .inr (false, 3), .inl (.ref 21), .inl (.ref 22)]), .inr (7, [.inl (.ref 8), .inl (.int 0), .inl (.int 0), .inl (.int 0), .inl (.int 0), .inl (.int 0), .inl (.int 0), .inl (.ref 19), .inl (.ref 20)]), .inr (1, [.inl (.ref 9), .inl (.ref 10), .inl (.ref 11), .inl (.ref 12), .inl (.ref 13), .inl (.ref 14), .inl (.int 0), .inl (.int 0), .inl (.int 0), .inl (.int 0), .inl (.int 0), .inl (.int 0), .inl (.int 0), .inl (.ref 15), .inl (.ref 16), .inl (.ref 17), .inl (.ref 18)]), .inl (0, .inl 8192, 0, []), .inl (0, .inl 8192, 0, []), .inl (0, .inl 8192, 0, []), .inl (0, .inl 8192, 0, []), .inl (0, .inl 8192, 0, []), .inl (0, .inl 8192, 0, []), .inl (0, .inl 401, 0, []), .inl (0, .inl 401, 0, []), .inl (0, .inl 1024, 0, []), .inl (0, .inl 1024, 0, []), .inl (4, .inl 400, 0, []), .inl (1, .inl 8000, 0, []), .inr (2, [.inl (.int 0), .inl (.int 0), .inl (.int 0), .inl (.ref 1), .inl (.ref 7)]), .inr (10, [.inl (.int 0), .inl (.ref 1), .inl (.ref 7), .inl (.ref 8), .inl (.ref 21), .inl (.ref 23)]), .inr (5, [.inl (.int 0), .inl (.int 0), .inl (.int 0), .inl (.int 0), .inl (.ref 1), .inl (.ref 7), .inl (.ref 8), .inl (.ref 21), .inl (.ref 24), .inl (.ref 25), .inl (.ref 26), .inl (.ref 27), .inl (.ref 28), .inl (.ref 29), .inl (.ref 30), .inl (.int 0)]), .inl (0, .inl 512, 0, []), .inl (0, .inl 512, 0, []), .inl (0, .inl 512, 0, []), .inl (0, .inl 512, 0, []), .inl (0, .inl 512, 0, []), .inl (0, .inl 512, 0, []), .inl (0, .inl 512, 0, []), .inr (4, [.inl (.ref 32), .inl (.ref 1), .inr (false, 3), .inl (.ref 46), .inl (.ref 47)]), .inr (7, [.inl (.ref 33), .inl (.int 0), .inl (.int 0), .inl (.int 0), .inl (.int 0), .inl (.int 0), .inl (.int 0), .inl (.ref 44), .inl (.ref 45)]), .inr (1, [.inl (.ref 34), .inl (.ref 35), .inl (.ref 36), .inl (.ref 37), .inl (.ref 38), .inl (.ref 39), .inl (.int 0), .inl (.int 0), .inl (.int 0), .inl (.int 0), .inl (.int 0), .inl (.int 0), .inl (.int 0), .inl (.ref 40), .inl (.ref 41), .inl (.ref 42), .inl (.ref 43)]), .inl (0, .inl 8192, 0, []), .inl (0, .inl 8192, 0, []), .inl (0, .inl 8192, 0, []), .inl (0, .inl 8192, 0, []), .inl (0, .inl 8192, 0, []), .inl (0, .inl 8192, 0, []), .inl (0, .inl 401, 0, []), .inl (0, .inl 401, 0, []), .inl (0, .inl 1024, 0, []), .inl (0, .inl 1024, 0, []), .inl (4, .inl 400, 0, []), .inl (1, .inl 8000, 0, []), .inr (2, [.inl (.int 0), .inl (.int 0), .inl (.int 0), .inl (.ref 1), .inl (.ref 32)]), .inr (10, [.inl (.int 0), .inl (.ref 1), .inl (.ref 32), .inl (.ref 33), .inl (.ref 46), .inl (.ref 48)]), .inr (5, [.inl (.int 0), .inl (.int 0), .inl (.int 0), .inl (.int 0), .inl (.ref 1), .inl (.ref 32), .inl (.ref 33), .inl (.ref 46), .inl (.ref 49), .inl (.ref 50), .inl (.ref 51), .inl (.ref 52), .inl (.ref 53), .inl (.ref 54), .inl (.ref 55), .inl (.int 0)]), .inl (0, .inl 512, 0, []), .inl (0, .inl 512, 0, []), .inl (0, .inl 512, 0, []), .inl (0, .inl 512, 0, []), .inl (0, .inl 512, 0, []), .inl (0, .inl 512, 0, []), .inl (0, .inl 512, 0, []), .inr (6, [.inl (.ref 58), .inl (.ref 7), .inl (.int 0), .inl (.int 0), .inl (.int 0), .inl (.ref 79), .inl (.ref 81), .inl (.ref 57), .inl (.int 0), .inl (.int 0), .inl (.ref 65), .inl (.ref 72), .inl (.ref 80)]), .inl (0, .inl 32, 0, []), .inr (9, [.inl (.int 0), .inl (.int 0), .inl (.int 0), .inl (.int 0), .inl (.ref 59), .inl (.ref 62)]), .inr (3, [.inl (.long 0), .inl (.long 0), .inl (.int 0), .inl (.int 0), .inl (.long 1), .inl (.ref 61), .inl (.ref 60)]), .inl (0, .inl 16, 0, []), .inl (2, .inr (.inr (false, 3)), 0, []), .inr (3, [.inl (.long 0), .inl (.long 0), .inl (.int 0), .inl (.int 0), .inl (.long 58659), .inl (.ref 64), .inl (.ref 63)]), .inl (0, .inl 16, 0, []), .inl (2, .inr (.inr (false, 3)), 0, []), .inr (9, [.inl (.int 0), .inl (.int 0), .inl (.int 0), .inl (.int 0), .inl (.ref 66), .inl (.ref 69)]), .inr (3, [.inl (.long 0), .inl (.long 0), .inl (.int 0), .inl (.int 0), .inl (.long 1), .inl (.ref 68), .inl (.ref 67)]), .inl (0, .inl 16, 0, []), .inl (2, .inr (.inr (false, 3)), 0, []), .inr (3, [.inl (.long 0), .inl (.long 0), .inl (.int 0), .inl (.int 0), .inl (.long 58659), .inl (.ref 71), .inl (.ref 70)]), .inl (0, .inl 16, 0, []), .inl (2, .inr (.inr (false, 3)), 0, []), .inr (9, [.inl (.int 0), .inl (.int 0), .inl (.int 0), .inl (.int 0), .inl (.ref 73), .inl (.ref 76)]), .inr (3, [.inl (.long 0), .inl (.long 0), .inl (.int 0), .inl (.int 0), .inl (.long 1), .inl (.ref 75), .inl (.ref 74)]), .inl (0, .inl 16, 0, []), .inl (2, .inr (.inr (false, 3)), 0, []), .inr (3, [.inl (.long 0), .inl (.long 0), .inl (.int 0), .inl (.int 0), .inl (.long 58659), .inl (.ref 78), .inl (.ref 77)]), .inl (0, .inl 16, 0, []), .inl (2, .inr (.inr (false, 3)), 0, []), .inl (0, .inr (.inr (false, 3)), 0, []), .inl (0, .inr (.inr (false, 3)), 0, []), .inl (0, .inr (.inr (false, 4)), 0, []), .inl (1, .inl 64, 0, []), .inr (12, [.inl (.int 0), .inl .null, .inl (.int 0), .inl .null, .inl (.int 0), .inl (.int 0), .inl (.int 0), .inl (.int 0), .inl (.int 0), .inl (.int 0), .inl (.int 0), .inl (.int 0), .inl .null, .inl .null, .inl .null, .inl .null, .inl .null, .inl .null, .inl .null, .inl .null, .inl .null, .inl .null, .inl .null, .inl .null, .inl .null, .inl .null, .inl (.int 0), .inl (.int 0), .inl (.int 0), .inl (.int 0), .inl (.int 0), .inl (.int 0), .inl (.int 0), .inl (.int 0), .inl .null, .inl .null, .inl .null, .inl .null, .inl .null, .inl .null, .inl .null, .inl .null, .inl (.long 0), .inl (.long 0), .inl (.int 0), .inl (.int 0), .inl (.int 0), .inl (.int 0), .inl (.int 0), .inl (.int 0), .inl (.int 0), .inl (.int 0), .inl (.int 0), .inl (.int 0), .inl (.int 0), .inl (.int 0), .inl .null, .inl .null, .inl .null, .inl .null, .inl .null, .inl .null, .inl .null, .inl .null, .inl (.int 0), .inl (.int 0), .inl (.int 0), .inl .null, .inl .null, .inl .null, .inl .null, .inl .null, .inl .null, .inl .null, .inl .null, .inl .null, .inl .null, .inl (.int 0), .inl (.int 0), .inl (.int 0), .inl (.int 0), .inl (.int 0), .inl (.int 0), .inl (.int 0), .inl .null, .inl (.int 0), .inl .null, .inl .null, .inl .null, .inl .null, .inl (.int 0), .inl .null, .inl .null, .inl .null, .inl .null, .inl .null, .inl (.int 0)])], 153066, [.inr (false, 4), .inr (false, 3), .inr (false, 3), .inr (false, 3), .inr (false, 3), .inr (false, 3), .inr (false, 3), .inr (false, 3), .inr (false, 3)])
def e0_cB : List sx_c := [(0, (.if_icmp .ge 9), 3, [.inr (false, 0), .inl (.int 0)], 12, [], sx_a0)]
theorem e0_gB : sx_eR (sx_go sx_tb 400 110 309 6 12 [(0, .inl (.retAddr 100))] [.inl (.ref 0)] vc_W4 [12] 8 []) (22, [(1, .inl (.ref 0)), (0, .inl (.retAddr 100))], [.inl (.int 0), .inl (.ref 83), .inl (.ref 83)], e0_WB, [], 8, e0_cB) = true := by decide +kernel
theorem e0_eB : e0_WB = vr_W0 := rfl
def e0_cE : List sx_c := [(0, (.if_icmp .gt 999), 39, [.inr (false, 8), .inl (.int 1)], 1038, [], sx_a0), (0, .isub, 38, [.inl (.int 5), .inr (false, 0)], 39, [.inr (false, 8)], sx_a0)]
theorem e0_gE : sx_eF (sx_ex sx_tb 13 110 309 33 vl_L [] vl_WC [1038] 8 []) (.inl (some (.inl (.int 1))), vl_WC, [], 9, e0_cE) = true := by decide +kernel
def e1_N (L : Nat) (xs : Nat → Int32) (a : Int32) : sx_N := (fun q => [Int32.ofNat L, a, (if a < 4096 then a else 4096), vt_m a, 16 * vt_m a, a, (if 16 < a then a else 16), (if (if 16 < a then a else 16) < 4096 then (if 16 < a then a else 16) else 4096), Int32.ofNat L - 5].getD q 0, fun _ => 0, fun _ => xs, fun _ _ => 0, fun _ _ => none)
theorem e1_run {L : Nat} {xs : Nat → Int32} {a : Int32} (hL : Int32.ofNat L - 5 < 1) (hsc : sx_sc (e1_N L xs a) (vt_Ro L xs)) : ip_rn (vt_tb vt_P (vt_Ro L xs)) 110 309 33 (sx_ld (e1_N L xs a) vl_L) [] (il_w (sx_wd (e1_N L xs a) vl_WC)) (.returned (some (.int 1))) (il_w (sx_wd (e1_N L xs a) vl_WC)) :=
  sx_rn hsc (sx_eF_of e0_gE) (List.forall_mem_cons.mpr ⟨sx_hb2 rfl rfl rfl (Or.inl ⟨rfl, hL⟩), (List.forall_mem_cons.mpr ⟨sx_h0 rfl, (fun _ h => absurd h List.not_mem_nil)⟩)⟩)
theorem e1_goal {L : Nat} (xs : Nat → Int32) (h0 : 0 < L) (h1 : L < 2 ^ 31) (hL : Int32.ofNat L - 5 < 1) : pe_goal L xs :=
  pe_fin (N := e1_N L xs (xs 0)) (W := vl_WC) ⟨rfl, rfl, rfl, rfl, rfl, rfl, rfl, rfl⟩ rfl (fun hsc => e1_run hL hsc) (by decide +kernel) (by decide +kernel) rfl h0 h1
theorem e0_all {xs : Nat → Int32} {c : sx_c} (hc : c ∈ vl_c) : sx_h (e1_N 1 (fun _ => 0) 0) c := vl_ok (N := e1_N 1 (fun _ => 0) 0) (L := 1) ⟨rfl, rfl, rfl, rfl, rfl, rfl, rfl, rfl⟩ (by decide) (by decide) c hc
theorem e0_vc {xs : Nat → Int32} : ∀ c ∈ vc_c, sx_h (e1_N 0 xs 0) c := by
  have h : ∀ c ∈ vc_c, sx_h (e1_N 1 (fun _ => 0) 0) c := fun c hx => e0_all (xs := xs) (List.mem_append_right _ (List.mem_append_left _ hx))
  unfold vc_c vc_c0 vc_c1 vc_c2 vc_c3 vc_ce at h ⊢
  simp only [List.forall_mem_append, List.forall_mem_cons, List.not_mem_nil, false_implies, implies_true, and_true, true_and] at h ⊢
  exact h
theorem e0_vr {xs : Nat → Int32} : ∀ c ∈ vr_c, sx_h (e1_N 0 xs 0) c := by
  have h : ∀ c ∈ vr_c, sx_h (e1_N 1 (fun _ => 0) 0) c := fun c hx => e0_all (xs := xs) (List.mem_append_right _ (List.mem_append_right _ (List.mem_append_right _ (List.mem_append_left _ hx))))
  unfold vr_c vr_c0 vr_c1 vr_c2 vr_c3 vr_c4 vr_c5 vr_c6 vr_c7 vr_c8 vr_c9 vr_c10 vr_c11 vr_c12 vr_c13 vr_ce at h ⊢
  simp only [List.forall_mem_append, List.forall_mem_cons, List.not_mem_nil, false_implies, implies_true, and_true, true_and] at h ⊢
  exact h
theorem e0_head {xs : Nat → Int32} {o : Outcome} {w2 : ip_W} (hsc : sx_sc (e1_N 0 xs 0) (vt_Ro 0 xs)) (h : ip_rn (vt_tb vt_P (vt_Ro 0 xs)) 110 309 33 (sx_ld (e1_N 0 xs 0) vl_L) [] (il_w (sx_wd (e1_N 0 xs 0) vl_WC)) o w2) : ip_rn (vt_tb vt_P (vt_Ro 0 xs)) 110 309 0 [(0, .retAddr 100)] [] (0, 0, fun _ => none) o w2 := by
  refine (sx_go_ok hsc _ _ _ _ _ _ _ _ _ (sx_eR_of e0_gA) (List.forall_mem_cons.mpr ⟨sx_hb2 rfl rfl rfl (Or.inl ⟨rfl, (show (0 : Int32) ≤ 0 by decide)⟩), (fun _ h => absurd h List.not_mem_nil)⟩)).2 ?_
  rw [e0_eA]
  refine sx_call (y := 309) (pc := 9) (W := vc_W0) (st := [.inl (.int 0), .inl (.ref 0), .inl (.ref 0)]) (av := [.inl (.ref 0), .inl (.int 0)]) (rest := [.inl (.ref 0)]) (x := none) (d2 := 100) rfl rfl rfl (by decide) rfl (by decide) (by decide) (by decide +kernel) (vc hsc e0_vc) ?_
  refine (sx_go_ok hsc _ _ _ _ _ _ _ _ _ (sx_eR_of e0_gB) (List.forall_mem_cons.mpr ⟨sx_hb2 rfl rfl rfl (Or.inl ⟨rfl, (show (0 : Int32) ≤ 0 by decide)⟩), (fun _ h => absurd h List.not_mem_nil)⟩)).2 ?_
  rw [e0_eB]
  refine sx_call (y := 309) (pc := 22) (W := vr_W0) (st := [.inl (.int 0), .inl (.ref 83), .inl (.ref 83)]) (av := [.inl (.ref 83), .inl (.int 0)]) (rest := [.inl (.ref 83)]) (x := none) (d2 := 100) rfl rfl rfl (by decide) rfl (by decide) (by decide) (by decide +kernel) (vr hsc e0_vr) ?_
  exact (sx_go_ok hsc _ _ _ _ _ _ _ _ _ (sx_eR_of vl_gC) (fun _ h => absurd h List.not_mem_nil)).2 h
theorem e0_goal (xs : Nat → Int32) : pe_goal 0 xs := by
  have hsc : sx_sc (e1_N 0 xs 0) (vt_Ro 0 xs) := ⟨0, rfl, rfl, by decide⟩
  refine ⟨_, e0_head hsc (e1_run (by decide) hsc), ?_, ?_⟩
  · show (vl_WC.1.map (sx_ed (e1_N 0 xs 0))).length ≤ _
    rw [List.length_map]
    decide +kernel
  · show vl_WC.2.1 + ([256, 16, 16, 16, 16, 16, 16, 16, 16] : List Nat).sum ≤ 7302198
    decide +kernel
theorem e6_goal (xs : Nat → Int32) : pe_goal 6 xs := by
  have hb : (xs 1 &&& 31).toBitVec.toNat ≤ 31 := by
    show ((xs 1).toBitVec &&& 31#32).toNat ≤ 31
    rw [BitVec.toNat_and]
    exact Nat.and_le_right
  have hx : ∀ k : Nat, (xs 1 &&& 31).toBitVec.toNat = k → k < 2 ^ 32 → xs 1 &&& 31 = Int32.ofBitVec (BitVec.ofNat 32 k) := by
    intro k hk h2
    apply Int32.toBitVec_inj.mp
    show _ = BitVec.ofNat 32 k
    apply BitVec.eq_of_toNat_eq
    rw [hk, BitVec.toNat_ofNat, Nat.mod_eq_of_lt h2]
  generalize hk : (xs 1 &&& 31).toBitVec.toNat = k at hb
  match k, hb, hk with
  | 0, _, hk => exact po_0 xs (hx 0 hk (by decide))
  | 1, _, hk => exact po_1 xs (hx 1 hk (by decide))
  | 2, _, hk => exact po_2 xs (hx 2 hk (by decide))
  | 3, _, hk => exact po_3 xs (hx 3 hk (by decide))
  | 4, _, hk => exact po_4 xs (hx 4 hk (by decide))
  | 5, _, hk => exact po_5 xs (hx 5 hk (by decide))
  | 6, _, hk => exact po_6 xs (hx 6 hk (by decide))
  | 7, _, hk => exact po_7 xs (hx 7 hk (by decide))
  | 8, _, hk => exact po_8 xs (hx 8 hk (by decide))
  | 9, _, hk => exact po_9 xs (hx 9 hk (by decide))
  | 10, _, hk => exact po_10 xs (hx 10 hk (by decide))
  | 11, _, hk => exact po_11 xs (hx 11 hk (by decide))
  | 12, _, hk => exact po_12 xs (hx 12 hk (by decide))
  | 13, _, hk => exact po_13 xs (hx 13 hk (by decide))
  | 14, _, hk => exact po_14 xs (hx 14 hk (by decide))
  | 15, _, hk => exact po_15 xs (hx 15 hk (by decide))
  | 16, _, hk => exact po_16 xs (hx 16 hk (by decide))
  | 17, _, hk => exact po_17 xs (hx 17 hk (by decide))
  | 18, _, hk => exact po_18 xs (hx 18 hk (by decide))
  | 19, _, hk => exact po_19 xs (hx 19 hk (by decide))
  | 20, _, hk => exact po_20 xs (hx 20 hk (by decide))
  | 21, _, hk => exact po_21 xs (hx 21 hk (by decide))
  | 22, _, hk => exact po_22 xs (hx 22 hk (by decide))
  | 23, _, hk => exact po_23 xs (hx 23 hk (by decide))
  | 24, _, hk => exact po_24 xs (hx 24 hk (by decide))
  | 25, _, hk => exact po_25 xs (hx 25 hk (by decide))
  | 26, _, hk => exact po_26 xs (hx 26 hk (by decide))
  | 27, _, hk => exact po_27 xs (hx 27 hk (by decide))
  | 28, _, hk => exact po_28 xs (hx 28 hk (by decide))
  | 29, _, hk => exact po_29 xs (hx 29 hk (by decide))
  | 30, _, hk => exact po_30 xs (hx 30 hk (by decide))
  | 31, _, hk => exact po_31 xs (hx 31 hk (by decide))
  | k + 32, hb, _ => exact absurd hb (by omega)
theorem e_goal {L : Nat} (xs : Nat → Int32) (hL : L ≤ 6) : pe_goal L xs := by
  match L, hL with
  | 0, _ => exact e0_goal xs
  | 1, _ => exact e1_goal xs (by decide) (by decide) (by decide)
  | 2, _ => exact e1_goal xs (by decide) (by decide) (by decide)
  | 3, _ => exact e1_goal xs (by decide) (by decide) (by decide)
  | 4, _ => exact e1_goal xs (by decide) (by decide) (by decide)
  | 5, _ => exact e1_goal xs (by decide) (by decide) (by decide)
  | 6, _ => exact e6_goal xs
