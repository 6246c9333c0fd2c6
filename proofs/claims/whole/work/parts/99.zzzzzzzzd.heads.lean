/-! part 99.zzzzzzzzd: the law as far as its loop, deep enough; also with no script -/
theorem vd_gA : sx_eR (sx_go sx_tb 400 1750 309 5 0 [(0, .inl (.retAddr 100))] [] ([], 0, []) [6] 1 []) (9, [(0, .inl (.retAddr 100))], [.inr (false, 1), .inl (.ref 0), .inl (.ref 0)], vl_WA, [], 2, vl_cA) = true := by decide +kernel
theorem vd_gB : sx_eR (sx_go sx_tb 400 1750 309 6 12 [(0, .inl (.retAddr 100))] [.inl (.ref 0)] vc_W4 [6] 5 []) (22, [(1, .inl (.ref 0)), (0, .inl (.retAddr 100))], [.inr (false, 5), .inl (.ref 83), .inl (.ref 83)], vl_WB, [], 6, vl_cB) = true := by decide +kernel
theorem vd_gC : sx_eR (sx_go sx_tb 400 1750 309 6 25 [(1, .inl (.ref 0)), (0, .inl (.retAddr 100))] [.inl (.ref 83)] vr_W14 [] 8 []) (33, [(4, .inl (.int 1)), (3, .inl (.ref 136)), (2, .inl (.ref 83)), (1, .inl (.ref 0)), (0, .inl (.retAddr 100))], [], vl_WC, [], 8, vl_cC) = true := by decide +kernel
def vd_c0 : List sx_c := [(0, (.if_icmp .ge 9), 3, [.inr (false, 0), .inl (.int 0)], 12, [], sx_a0)]
theorem vd_gA0 : sx_eR (sx_go sx_tb 400 1750 309 5 0 [(0, .inl (.retAddr 100))] [] ([], 0, []) [12] 1 []) (9, [(0, .inl (.retAddr 100))], [.inl (.int 0), .inl (.ref 0), .inl (.ref 0)], vl_WA, [], 1, vd_c0) = true := by decide +kernel
theorem vd_gB0 : sx_eR (sx_go sx_tb 400 1750 309 6 12 [(0, .inl (.retAddr 100))] [.inl (.ref 0)] vc_W4 [12] 5 []) (22, [(1, .inl (.ref 0)), (0, .inl (.retAddr 100))], [.inl (.int 0), .inl (.ref 83), .inl (.ref 83)], vl_WB, [], 5, vd_c0) = true := by decide +kernel
theorem vd_head {N : sx_N} {Ro : Nat → Option (Nat × Nat × (Nat → Int32))} {o : Outcome} {w2 : ip_W} (hsc : sx_sc N Ro) (hc : ∀ c ∈ vl_c, sx_h N c) (h : ip_rn (vt_tb vt_P Ro) 1750 309 33 (sx_ld N vl_L) [] (il_w (sx_wd N vl_WC)) o w2) : ip_rn (vt_tb vt_P Ro) 1750 309 0 [(0, .retAddr 100)] [] (0, 0, fun _ => none) o w2 := by
  have hA : ∀ c ∈ vl_cA, sx_h N c := fun c hx => hc c (List.mem_append_left _ hx)
  have hvc : ∀ c ∈ vc_c, sx_h N c := fun c hx => hc c (List.mem_append_right _ (List.mem_append_left _ hx))
  have hB : ∀ c ∈ vl_cB, sx_h N c := fun c hx => hc c (List.mem_append_right _ (List.mem_append_right _ (List.mem_append_left _ hx)))
  have hvr : ∀ c ∈ vr_c, sx_h N c := fun c hx => hc c (List.mem_append_right _ (List.mem_append_right _ (List.mem_append_right _ (List.mem_append_left _ hx))))
  have hC : ∀ c ∈ vl_cC, sx_h N c := fun c hx => hc c (List.mem_append_right _ (List.mem_append_right _ (List.mem_append_right _ (List.mem_append_right _ hx))))
  refine (sx_go_ok hsc _ _ _ _ _ _ _ _ _ (sx_eR_of vd_gA) hA).2 ?_
  rw [vl_eA]
  refine sx_call (y := 309) (pc := 9) (W := vc_W0) (st := [.inr (false, 1), .inl (.ref 0), .inl (.ref 0)]) (av := [.inl (.ref 0), .inr (false, 1)]) (rest := [.inl (.ref 0)]) (x := none) (d2 := 100) rfl rfl rfl (by decide) rfl (by decide) (by decide) (by decide +kernel) (vc hsc hvc) ?_
  refine (sx_go_ok hsc _ _ _ _ _ _ _ _ _ (sx_eR_of vd_gB) hB).2 ?_
  rw [vl_eB]
  refine sx_call (y := 309) (pc := 22) (W := vr_W0) (st := [.inr (false, 5), .inl (.ref 83), .inl (.ref 83)]) (av := [.inl (.ref 83), .inr (false, 5)]) (rest := [.inl (.ref 83)]) (x := none) (d2 := 100) rfl rfl rfl (by decide) rfl (by decide) (by decide) (by decide +kernel) (vr hsc hvr) ?_
  exact (sx_go_ok hsc _ _ _ _ _ _ _ _ _ (sx_eR_of vd_gC) hC).2 h
/-- with no script: 0 is taken for its first int -/
theorem vd_head0 {N : sx_N} {Ro : Nat → Option (Nat × Nat × (Nat → Int32))} {o : Outcome} {w2 : ip_W} (hsc : sx_sc N Ro) (h1 : N.1 1 = 0) (h5 : N.1 5 = 0) (h0 : ∀ c ∈ vd_c0, sx_h N c) (hvc : ∀ c ∈ vc_c, sx_h N c) (hvr : ∀ c ∈ vr_c, sx_h N c) (h : ip_rn (vt_tb vt_P Ro) 1750 309 33 (sx_ld N vl_L) [] (il_w (sx_wd N vl_WC)) o w2) : ip_rn (vt_tb vt_P Ro) 1750 309 0 [(0, .retAddr 100)] [] (0, 0, fun _ => none) o w2 := by
  have hC : ∀ c ∈ vl_cC, sx_h N c := fun c hx => by cases hx
  have e1 : sx_ld N [(0, .inl (.ref 0)), (1, .inr (false, 1))] = sx_ld N [(0, .inl (.ref 0)), (1, .inl (.int 0))] := by
    show [(0, Value.ref 0), (1, Value.int (N.1 1))] = [(0, Value.ref 0), (1, Value.int 0)]
    rw [h1]
  have e5 : sx_ld N [(0, .inl (.ref 83)), (1, .inr (false, 5))] = sx_ld N [(0, .inl (.ref 83)), (1, .inl (.int 0))] := by
    show [(0, Value.ref 83), (1, Value.int (N.1 5))] = [(0, Value.ref 83), (1, Value.int 0)]
    rw [h5]
  have vc' := vc hsc hvc
  have vr' := vr hsc hvr
  rw [e1] at vc'
  rw [e5] at vr'
  refine (sx_go_ok hsc _ _ _ _ _ _ _ _ _ (sx_eR_of vd_gA0) h0).2 ?_
  rw [vl_eA]
  refine sx_call (y := 309) (pc := 9) (W := vc_W0) (st := [.inl (.int 0), .inl (.ref 0), .inl (.ref 0)]) (av := [.inl (.ref 0), .inl (.int 0)]) (rest := [.inl (.ref 0)]) (x := none) (d2 := 100) rfl rfl rfl (by decide) rfl (by decide) (by decide) (by decide +kernel) vc' ?_
  refine (sx_go_ok hsc _ _ _ _ _ _ _ _ _ (sx_eR_of vd_gB0) h0).2 ?_
  rw [vl_eB]
  refine sx_call (y := 309) (pc := 22) (W := vr_W0) (st := [.inl (.int 0), .inl (.ref 83), .inl (.ref 83)]) (av := [.inl (.ref 83), .inl (.int 0)]) (rest := [.inl (.ref 83)]) (x := none) (d2 := 100) rfl rfl rfl (by decide) rfl (by decide) (by decide) (by decide +kernel) vr' ?_
  exact (sx_go_ok hsc _ _ _ _ _ _ _ _ _ (sx_eR_of vd_gC) hC).2 h
/-- what the ints of the environment must be, from the memory that is asked for -/
def vd_N (N : sx_N) (a : Int32) : Prop := N.1 1 = a ∧ N.1 2 = (if a < 4096 then a else 4096) ∧ N.1 3 = vt_m a ∧ N.1 4 = 16 * vt_m a ∧ N.1 5 = a ∧ N.1 6 = (if 16 < a then a else 16) ∧ N.1 7 = (if N.1 6 < 4096 then N.1 6 else 4096)
theorem vd_ok {N : sx_N} {a : Int32} (h : vd_N N a) : (∀ c ∈ vc_c, sx_h N c) ∧ ∀ c ∈ vr_c, sx_h N c := by
  obtain ⟨h1, h2, h3, h4, h5, h6, h7⟩ := h
  have hm := vt_m_ok a
  have hm16 := vt_m16_ok a
  have h03 : ¬ N.1 3 < 0 ∧ (N.1 3).toNatClampNeg ≤ 1000000 := by rw [h3]; exact ⟨hm.1, by omega⟩
  have h04 : ¬ N.1 4 < 0 ∧ (N.1 4).toNatClampNeg ≤ 1000000 := by rw [h4]; exact ⟨hm16.1, by omega⟩
  refine ⟨?_, ?_⟩
  · unfold vc_c vc_c0 vc_c1 vc_c2 vc_c3 vc_ce
    simp only [List.forall_mem_append, List.forall_mem_cons, List.not_mem_nil, false_implies, implies_true, and_true, true_and]
    have g9 : sx_h N (9, sx_i0, 0, [.inl (.int 16), .inr (false, 2)], 0, [.inr (false, 3)], sx_a0) := sx_h9 (by
      show N.1 3 = (if (16 : Int32) < N.1 2 then N.1 2 else 16)
      rw [h3, h2]
      rfl)
    have g0 : sx_h N (0, .imul, 66, [.inr (false, 3), .inl (.int 16)], 67, [.inr (false, 4)], sx_a0) := sx_h0 (by
      show some (66 + 1, ([] : List (Nat × Value)), [Value.int (16 * N.1 3)], sx_w0) = some (67, [], [Value.int (N.1 4)], sx_w0)
      rw [h4, h3])
    exact ⟨⟨g9, sx_h8 (by rw [← h1] at h2; exact h2)⟩, sx_h3 h04, g0, sx_h3 h03, sx_h3 h03, sx_h3 h03, sx_h3 h03, sx_h3 h03, sx_h3 h03, sx_h3 h03, sx_h3 h03⟩
  · unfold vr_c vr_c0 vr_c1 vr_c2 vr_c3 vr_c4 vr_c5 vr_c6 vr_c7 vr_c8 vr_c9 vr_c10 vr_c11 vr_c12 vr_c13 vr_ce
    simp only [List.forall_mem_append, List.forall_mem_cons, List.not_mem_nil, false_implies, implies_true, and_true, true_and]
    exact ⟨sx_h8 h7, sx_h9 (by rw [← h5] at h6; exact h6)⟩
