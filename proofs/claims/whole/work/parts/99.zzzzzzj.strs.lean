/-! part 99.zzzzzzj: String members of the class's text constants; the blocks that use them (printed by wip/whole/tools/gen76.py) -/
/-- sign i of String constant j; where sign c stands in it -/
def js_sg (j i : Int) : Int := ((vt_sby.getD j.toNat []).getD i.toNat 0).toInt
def js_sx (j c : Int) : Int := (vt_ix (Int32.ofInt c) (vt_sby.getD j.toNat []) 0).toInt
section J76
variable {E : js_E} {d y pc : Nat} {ls st : List js_v} {σ : js_S}
theorem j_strlen {k ci : Nat} {j n : Int} (hc : js_cl y pc 1 k 7 0 ci) (hj : j.toNat < 11) (hn : Int32.ofNat (vt_sll.getD j.toNat 0) = Int32.ofInt n) (hs : js_sum st ≤ 8) (hd : 4 ≤ d) : js_J E d y pc ls ((3, j) :: st) σ = js_J E d y (pc + 3) ls ((0, n) :: st) σ := by
  refine j_lib (av := [(3, j)]) hc rfl rfl hs hd ?_
  show (if j.toNat < 11 then some (some (Value.int (Int32.ofNat (vt_sll.getD j.toNat 0))), _) else none) = some (some (Value.int (Int32.ofInt n)), _)
  rw [if_pos hj, hn]
theorem j_strat {k ci : Nat} {j x : Int} {n : Nat} (hc : js_cl y pc 1 k 8 1 ci) (hj : j.toNat < 11) (hn : vt_sll.getD j.toNat 0 = n) (hs : js_sum st ≤ 8) (hd : 4 ≤ d) (h : 0 ≤ js_w x ∧ js_w x < n) : js_J E d y pc ls ((0, x) :: (3, j) :: st) σ = js_J E d y (pc + 3) ls ((0, js_sg j (js_w x)) :: st) σ := by
  refine j_lib (av := [(3, j), (0, x)]) hc rfl rfl hs hd ?_
  show (if j.toNat < 11 ∧ ¬ Int32.ofInt x < 0 ∧ (Int32.ofInt x).toNatClampNeg < vt_sll.getD j.toNat 0 then some (some (Value.int ((vt_sby.getD j.toNat []).getD (Int32.ofInt x).toNatClampNeg 0)), _) else none) = some (some (Value.int (Int32.ofInt (js_sg j (js_w x)))), _)
  have e : (Int32.ofInt x).toNatClampNeg = (js_w x).toNat := rfl
  have h1 : ¬ Int32.ofInt x < 0 := fun hh => by
    have := (js_w_lt x 0).mp hh
    have z : js_w 0 = 0 := rfl
    omega
  rw [if_pos ⟨hj, h1, by rw [e, hn]; omega⟩, e]
  unfold js_sg
  rw [Int32.ofInt_toInt]
theorem j_strix {k ci : Nat} {j x : Int} (hc : js_cl y pc 1 k 9 1 ci) (hj : j.toNat < 11) (hs : js_sum st ≤ 8) (hd : 4 ≤ d) (h : 0 ≤ js_w x ∧ js_w x < 128) : js_J E d y pc ls ((0, x) :: (3, j) :: st) σ = js_J E d y (pc + 3) ls ((0, js_sx j (js_w x)) :: st) σ := by
  refine j_lib (av := [(3, j), (0, x)]) hc rfl rfl hs hd ?_
  show (if j.toNat < 11 ∧ ¬ Int32.ofInt x < 0 ∧ Int32.ofInt x < 128 then some (some (Value.int (vt_ix (Int32.ofInt x) (vt_sby.getD j.toNat []) 0)), _) else none) = some (some (Value.int (Int32.ofInt (js_sx j (js_w x)))), _)
  have h1 : ¬ Int32.ofInt x < 0 := fun hh => by
    have := (js_w_lt x 0).mp hh
    have z : js_w 0 = 0 := rfl
    omega
  have h2 : Int32.ofInt x < 128 := (js_w_lt x 128).mpr (by
    have z : js_w 128 = 128 := by decide
    omega)
  rw [if_pos ⟨hj, h1, h2⟩]
  unfold js_sx
  rw [Int32.ofInt_toInt, show Int32.ofInt (js_w x) = Int32.ofInt x from Int32.ofInt_toInt _]
end J76
theorem q_29_63 : js_I 29 63 = some (.iload_n 2, 1) := by decide +kernel
theorem q_29_64 : js_I 29 64 = some (.iload_n 1, 1) := by decide +kernel
theorem q_29_65 : js_I 29 65 = some (.isub, 1) := by decide +kernel
theorem q_29_66 : js_I 29 66 = some (.bipush 10, 2) := by decide +kernel
theorem q_29_68 : js_I 29 68 = some (.if_icmp .gt 18, 3) := by decide +kernel
theorem q_29_71 : js_I 29 71 = some (.aload_n 0, 1) := by decide +kernel
theorem q_29_72 : js_I 29 72 = some (.iload_n 1, 1) := by decide +kernel
theorem q_29_73 : js_I 29 73 = some (.iload_n 2, 1) := by decide +kernel
theorem q_29_74 : js_I 29 74 = some (.iload_n 1, 1) := by decide +kernel
theorem q_29_75 : js_I 29 75 = some (.isub, 1) := by decide +kernel
theorem q_29_118 : js_I 29 118 = some (.ifCond .lt 7, 3) := by decide +kernel
theorem q_29_125 : js_I 29 125 = some (.iconst 1, 1) := by decide +kernel
theorem q_29_126 : js_I 29 126 = some (.ireturn, 1) := by decide +kernel
theorem q_29_121 : js_I 29 121 = some (.iload_n 3, 1) := by decide +kernel
theorem q_29_122 : js_I 29 122 = some (.goto 4, 3) := by decide +kernel
theorem q_30_20 : js_I 30 20 = some (.if_icmp .ge 78, 3) := by decide +kernel
theorem q_30_98 : js_I 30 98 = some (.iconst 2, 1) := by decide +kernel
theorem q_30_99 : js_I 30 99 = some (.ireturn, 1) := by decide +kernel
theorem q_30_23 : js_I 30 23 = some (.ldc 115, 2) := by decide +kernel
theorem q_30_25 : js_I 30 25 = some (.iload 6, 2) := by decide +kernel
theorem q_30_27 : js_I 30 27 = some (.invokevirtual 120, 3) := by decide +kernel
theorem q_30_30 : js_I 30 30 = some (.istore 7, 2) := by decide +kernel
theorem q_30_32 : js_I 30 32 = some (.iload 7, 2) := by decide +kernel
theorem q_30_34 : js_I 30 34 = some (.bipush 32, 2) := by decide +kernel
theorem q_30_36 : js_I 30 36 = some (.if_icmp .ne 28, 3) := by decide +kernel
theorem q_30_39 : js_I 30 39 = some (.iload 5, 2) := by decide +kernel
theorem q_30_41 : js_I 30 41 = some (.ifCond .eq 11, 3) := by decide +kernel
theorem q_30_44 : js_I 30 44 = some (.iload 4, 2) := by decide +kernel
theorem q_30_46 : js_I 30 46 = some (.iload_n 2, 1) := by decide +kernel
theorem q_30_47 : js_I 30 47 = some (.if_icmp .ne 5, 3) := by decide +kernel
theorem q_30_50 : js_I 30 50 = some (.iload_n 3, 1) := by decide +kernel
theorem q_30_51 : js_I 30 51 = some (.ireturn, 1) := by decide +kernel
theorem q_30_64 : js_I 30 64 = some (.iload 5, 2) := by decide +kernel
theorem q_30_66 : js_I 30 66 = some (.ifCond .eq 20, 3) := by decide +kernel
theorem q_30_69 : js_I 30 69 = some (.aload_n 0, 1) := by decide +kernel
theorem q_30_70 : js_I 30 70 = some (.iload_n 1, 1) := by decide +kernel
theorem q_30_71 : js_I 30 71 = some (.iload 4, 2) := by decide +kernel
theorem q_30_73 : js_I 30 73 = some (.iadd, 1) := by decide +kernel
theorem q_129_32 : js_I 129 32 = some (.if_icmp .ge 32, 3) := by decide +kernel
theorem q_129_35 : js_I 129 35 = some (.ldc 233, 2) := by decide +kernel
theorem q_129_37 : js_I 129 37 = some (.iload 7, 2) := by decide +kernel
theorem q_129_39 : js_I 129 39 = some (.invokevirtual 240, 3) := by decide +kernel
theorem q_129_42 : js_I 129 42 = some (.bipush 32, 2) := by decide +kernel
theorem q_129_44 : js_I 129 44 = some (.if_icmp .eq 14, 3) := by decide +kernel
theorem q_129_47 : js_I 129 47 = some (.aload_n 0, 1) := by decide +kernel
theorem q_129_48 : js_I 129 48 = some (.ldc 233, 2) := by decide +kernel
theorem q_129_50 : js_I 129 50 = some (.iload 7, 2) := by decide +kernel
theorem q_129_52 : js_I 129 52 = some (.invokevirtual 240, 3) := by decide +kernel
theorem qm_8_120 : ip_lk (vt_ML.getD 8 []) 120 = some (8, 1, 5, 0) := by decide +kernel
theorem qm_0_240 : ip_lk (vt_ML.getD 0 []) 240 = some (8, 1, 5, 0) := by decide +kernel
theorem ww_186 : js_w 186 = 186 := by decide +kernel
-- 29: VitalTwin$Reader.kindOf (II)I
theorem b_29_60 {E : js_E} {d : Nat} {σ : js_S} {x1 x2 x3 z0 : Int} : js_J E d 29 60 [(2, 1), (0, x1), (0, x2), (0, x3)] [(0, z0)] σ = (if js_w z0 = 0 then (if js_w (x2 - x1) = 2 then js_J E d 29 104 [(2, 1), (0, x1), (0, x2), (0, x3)] [(0, x1 + 1), (2, 1), (0, x3)] σ else js_J E d 29 111 [(2, 1), (0, x1), (0, x2), (0, x3)] [] σ) else (if 10 < js_w (x2 - x1) then js_r E (0, 1) σ else js_J E d 29 76 [(2, 1), (0, x1), (0, x2), (0, x3)] [(0, x2 - x1), (0, x1), (2, 1)] σ)) :=
  (j_ifeq (t := 92) q_29_60 rfl).trans (js_ite ((j_iload_n q_29_92 rfl).trans <| (j_iload_n q_29_93 rfl).trans <| (j_isub q_29_94).trans <| (j_iconst q_29_95).trans <| (j_cmpneB (t := 111) q_29_96 rfl ww_2).trans (js_ite ((j_iload_n q_29_99 rfl).trans <| (j_aload_n q_29_100 rfl).trans <| (j_iload_n q_29_101 rfl).trans <| (j_iconst q_29_102).trans <| (j_iadd q_29_103).trans <| rfl) (rfl))) ((j_iload_n q_29_63 rfl).trans <| (j_iload_n q_29_64 rfl).trans <| (j_isub q_29_65).trans <| (j_bi q_29_66 rfl).trans <| (j_cmpgtB (t := 86) q_29_68 rfl ww_10).trans (js_ite ((j_iconst q_29_86).trans <| (j_goto (t := 91) q_29_87 rfl).trans <| j_ireturn q_29_91 qr_29) ((j_aload_n q_29_71 rfl).trans <| (j_iload_n q_29_72 rfl).trans <| (j_iload_n q_29_73 rfl).trans <| (j_iload_n q_29_74 rfl).trans <| (j_isub q_29_75).trans <| rfl))))
theorem b_29_111 {E : js_E} {d : Nat} {σ : js_S} {x1 x2 x3 : Int} (hd : 4 ≤ d) (hst_115 : 0 ≤ js_w (js_i2c x3) ∧ js_w (js_i2c x3) < 128) : js_J E d 29 111 [(2, 1), (0, x1), (0, x2), (0, x3)] [] σ = (if js_w (js_sx 0 (js_w (js_i2c x3))) < 0 then js_r E (0, 1) σ else js_r E (0, x3) σ) :=
  (j_ldc (v := (3, 0)) q_29_111 (js_Co qy_29 qc_8_108)).trans <| (j_iload_n q_29_113 rfl).trans <| (j_i2c q_29_114).trans <| (j_strix (js_clV q_29_115 (js_Mo qy_29 qm_8_110)) (by decide) (Nat.le_of_ble_eq_true rfl) hd hst_115).trans <| (j_iflt (t := 125) q_29_118 rfl).trans (js_ite ((j_iconst q_29_125).trans <| j_ireturn q_29_126 qr_29) ((j_iload_n q_29_121 rfl).trans <| (j_goto (t := 126) q_29_122 rfl).trans <| j_ireturn q_29_126 qr_29))
-- 30: VitalTwin$Reader.wordOrName (II)I
theorem b_30_13 {E : js_E} {d : Nat} {σ : js_S} {x1 x2 x3 x4 x5 x6 : Int} {ux7 : js_v} (hd : 4 ≤ d) : js_J E d 30 13 [(2, 1), (0, x1), (0, x2), (0, x3), (0, x4), (0, x5), (0, x6), ux7] [] σ = (if js_w x6 < 106 then js_J E d 30 23 [(2, 1), (0, x1), (0, x2), (0, x3), (0, x4), (0, x5), (0, x6), ux7] [] σ else js_r E (0, 2) σ) :=
  (j_iload q_30_13 rfl).trans <| (j_ldc (v := (3, 1)) q_30_15 (js_Co qy_30 qc_8_115)).trans <| (j_strlen (n := 106) (js_clV q_30_17 (js_Mo qy_30 qm_8_117)) (by decide) (by decide +kernel) (Nat.le_of_ble_eq_true rfl) hd).trans <| (j_cmpgeB (t := 98) q_30_20 rfl ww_106).trans (js_ite (rfl) ((j_iconst q_30_98).trans <| j_ireturn q_30_99 qr_30))
theorem b_30_23 {E : js_E} {d : Nat} {σ : js_S} {x1 x2 x3 x4 x5 x6 : Int} {ux7 : js_v} (hd : 4 ≤ d) (hst_27 : 0 ≤ js_w x6 ∧ js_w x6 < 106) : js_J E d 30 23 [(2, 1), (0, x1), (0, x2), (0, x3), (0, x4), (0, x5), (0, x6), ux7] [] σ = (if js_w (js_sg 1 (js_w x6)) = 32 then (if js_w x5 = 0 then js_J E d 30 52 [(2, 1), (0, x1), (0, x2), (0, x3), (0, x4), (0, x5), (0, x6), (0, js_sg 1 (js_w x6))] [] σ else (if js_w x4 = js_w x2 then js_r E (0, x3) σ else js_J E d 30 52 [(2, 1), (0, x1), (0, x2), (0, x3), (0, x4), (0, x5), (0, x6), (0, js_sg 1 (js_w x6))] [] σ)) else (if js_w x5 = 0 then js_J E d 30 86 [(2, 1), (0, x1), (0, x2), (0, x3), (0, x4), (0, x5), (0, x6), (0, js_sg 1 (js_w x6))] [] σ else js_J E d 30 74 [(2, 1), (0, x1), (0, x2), (0, x3), (0, x4), (0, x5), (0, x6), (0, js_sg 1 (js_w x6))] [(0, x1 + x4), (2, 1)] σ)) :=
  (j_ldc (v := (3, 1)) q_30_23 (js_Co qy_30 qc_8_115)).trans <| (j_iload q_30_25 rfl).trans <| (j_strat (n := 106) (js_clV q_30_27 (js_Mo qy_30 qm_8_120)) (by decide) (by decide +kernel) (Nat.le_of_ble_eq_true rfl) hd hst_27).trans <| (j_istore (l2 := [(2, 1), (0, x1), (0, x2), (0, x3), (0, x4), (0, x5), (0, x6), (0, js_sg 1 (js_w x6))]) q_30_30 rfl (Nat.le_of_ble_eq_true rfl)).trans <| (j_iload q_30_32 rfl).trans <| (j_bi q_30_34 rfl).trans <| (j_cmpneB (t := 64) q_30_36 rfl ww_32).trans (js_ite ((j_iload q_30_39 rfl).trans <| (j_ifeq (t := 52) q_30_41 rfl).trans (js_ite (rfl) ((j_iload q_30_44 rfl).trans <| (j_iload_n q_30_46 rfl).trans <| (j_cmpne (t := 52) q_30_47 rfl).trans (js_ite ((j_iload_n q_30_50 rfl).trans <| j_ireturn q_30_51 qr_30) (rfl))))) ((j_iload q_30_64 rfl).trans <| (j_ifeq (t := 86) q_30_66 rfl).trans (js_ite (rfl) ((j_aload_n q_30_69 rfl).trans <| (j_iload_n q_30_70 rfl).trans <| (j_iload q_30_71 rfl).trans <| (j_iadd q_30_73).trans <| rfl))))
-- 129: VitalTwin.spell (IIIJ)V
theorem b_129_15 {E : js_E} {d : Nat} {σ : js_S} {x1 x2 x3 x4 x6 x7 : Int} (hd : 4 ≤ d) : js_J E d 129 15 [(2, 0), (0, x1), (0, x2), (0, x3), (1, x4), (9, 0), (0, x6), (0, x7)] [] σ = (if js_w x7 < js_w (x6 + 6) then (if js_w x7 < 186 then js_J E d 129 35 [(2, 0), (0, x1), (0, x2), (0, x3), (1, x4), (9, 0), (0, x6), (0, x7)] [] σ else js_J E d 129 64 [(2, 0), (0, x1), (0, x2), (0, x3), (1, x4), (9, 0), (0, x6), (0, x7)] [] σ) else js_J E d 129 64 [(2, 0), (0, x1), (0, x2), (0, x3), (1, x4), (9, 0), (0, x6), (0, x7)] [] σ) :=
  (j_iload q_129_15 rfl).trans <| (j_iload q_129_17 rfl).trans <| (j_bi q_129_19 rfl).trans <| (j_iadd q_129_21).trans <| (j_cmpge (t := 64) q_129_22 rfl).trans (js_ite ((j_iload q_129_25 rfl).trans <| (j_ldc (v := (3, 3)) q_129_27 (js_Co qy_129 qc_0_233)).trans <| (j_strlen (n := 186) (js_clV q_129_29 (js_Mo qy_129 qm_0_235)) (by decide) (by decide +kernel) (Nat.le_of_ble_eq_true rfl) hd).trans <| (j_cmpgeB (t := 64) q_129_32 rfl ww_186).trans (js_ite (rfl) (rfl))) (rfl))
theorem b_129_35 {E : js_E} {d : Nat} {σ : js_S} {x1 x2 x3 x4 x6 x7 : Int} (hd : 4 ≤ d) (hst_39 : 0 ≤ js_w x7 ∧ js_w x7 < 186) : js_J E d 129 35 [(2, 0), (0, x1), (0, x2), (0, x3), (1, x4), (9, 0), (0, x6), (0, x7)] [] σ = (if js_w (js_sg 3 (js_w x7)) = 32 then js_J E d 129 58 [(2, 0), (0, x1), (0, x2), (0, x3), (1, x4), (9, 0), (0, x6), (0, x7)] [] σ else js_J E d 129 47 [(2, 0), (0, x1), (0, x2), (0, x3), (1, x4), (9, 0), (0, x6), (0, x7)] [] σ) :=
  (j_ldc (v := (3, 3)) q_129_35 (js_Co qy_129 qc_0_233)).trans <| (j_iload q_129_37 rfl).trans <| (j_strat (n := 186) (js_clV q_129_39 (js_Mo qy_129 qm_0_240)) (by decide) (by decide +kernel) (Nat.le_of_ble_eq_true rfl) hd hst_39).trans <| (j_bi q_129_42 rfl).trans <| (j_cmpeqB (t := 58) q_129_44 rfl ww_32).trans (js_ite (rfl) (rfl))
theorem b_129_47 {E : js_E} {d : Nat} {σ : js_S} {x1 x2 x3 x4 x6 x7 : Int} (hd : 4 ≤ d) (hst_52 : 0 ≤ js_w x7 ∧ js_w x7 < 186) : js_J E d 129 47 [(2, 0), (0, x1), (0, x2), (0, x3), (1, x4), (9, 0), (0, x6), (0, x7)] [] σ = js_J E d 129 55 [(2, 0), (0, x1), (0, x2), (0, x3), (1, x4), (9, 0), (0, x6), (0, x7)] [(0, js_sg 3 (js_w x7)), (2, 0)] σ :=
  (j_aload_n q_129_47 rfl).trans <| (j_ldc (v := (3, 3)) q_129_48 (js_Co qy_129 qc_0_233)).trans <| (j_iload q_129_50 rfl).trans <| (j_strat (n := 186) (js_clV q_129_52 (js_Mo qy_129 qm_0_240)) (by decide) (by decide +kernel) (Nat.le_of_ble_eq_true rfl) hd hst_52).trans <| rfl
