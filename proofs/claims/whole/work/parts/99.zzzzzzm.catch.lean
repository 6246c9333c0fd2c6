/-! part 99.zzzzzzm: what is thrown is caught (printed by wip/whole/tools/genH.py) -/
theorem q_299_12 : js_I 299 12 = some (.astore_n 2, 1) := by decide +kernel
theorem q_299_13 : js_I 299 13 = some (.aload_n 0, 1) := by decide +kernel
theorem q_299_14 : js_I 299 14 = some (.getfield 24, 3) := by decide +kernel
theorem q_299_17 : js_I 299 17 = some (.getfield 63, 3) := by decide +kernel
theorem q_299_20 : js_I 299 20 = some (.istore_n 1, 1) := by decide +kernel
theorem q_300_12 : js_I 300 12 = some (.astore 4, 2) := by decide +kernel
theorem q_300_14 : js_I 300 14 = some (.iconst 1, 1) := by decide +kernel
theorem q_300_15 : js_I 300 15 = some (.ireturn, 1) := by decide +kernel
theorem q_301_12 : js_I 301 12 = some (.astore_n 3, 1) := by decide +kernel
theorem q_301_13 : js_I 301 13 = some (.iconst 1, 1) := by decide +kernel
theorem q_301_14 : js_I 301 14 = some (.ireturn, 1) := by decide +kernel
theorem q_301_15 : js_I 301 15 = some (.astore_n 3, 1) := by decide +kernel
theorem q_301_16 : js_I 301 16 = some (.iconst 2, 1) := by decide +kernel
theorem q_301_17 : js_I 301 17 = some (.ireturn, 1) := by decide +kernel
theorem q_302_11 : js_I 302 11 = some (.astore_n 2, 1) := by decide +kernel
theorem q_302_12 : js_I 302 12 = some (.iconst 1, 1) := by decide +kernel
theorem q_302_13 : js_I 302 13 = some (.ireturn, 1) := by decide +kernel
theorem q_303_12 : js_I 303 12 = some (.astore_n 3, 1) := by decide +kernel
theorem q_303_13 : js_I 303 13 = some (.iconst 1, 1) := by decide +kernel
theorem q_303_14 : js_I 303 14 = some (.ireturn, 1) := by decide +kernel
theorem q_304_13 : js_I 304 13 = some (.astore 4, 2) := by decide +kernel
theorem q_304_15 : js_I 304 15 = some (.iconst 1, 1) := by decide +kernel
theorem q_304_16 : js_I 304 16 = some (.ireturn, 1) := by decide +kernel
theorem q_305_12 : js_I 305 12 = some (.astore 4, 2) := by decide +kernel
theorem q_305_14 : js_I 305 14 = some (.iconst 1, 1) := by decide +kernel
theorem q_305_15 : js_I 305 15 = some (.ireturn, 1) := by decide +kernel
theorem q_306_12 : js_I 306 12 = some (.astore 4, 2) := by decide +kernel
theorem q_306_14 : js_I 306 14 = some (.iconst 1, 1) := by decide +kernel
theorem q_306_15 : js_I 306 15 = some (.ireturn, 1) := by decide +kernel
theorem qf_0_63 : ip_lk (vt_FL.getD 0 []) 63 = some (8, 6) := by decide +kernel
theorem b_299_12 {E : js_E} {d : Nat} {σ : js_S} {x1 z0 : Int} : js_J E d 299 12 [(2, 0), (0, x1), (9, 0)] [(2, z0)] σ = js_J E d 299 21 [(2, 0), (0, σ 1 6), (2, z0)] [] σ :=
  (j_astore_n (l2 := [(2, 0), (0, x1), (2, z0)]) q_299_12 rfl (Nat.le_of_ble_eq_true rfl)).trans <| (j_aload_n q_299_13 rfl).trans <| (j_get (ji := 0) (v := (2, 1)) q_299_14 (js_Fo qy_299 qf_0_24) js_o0 rfl rfl rfl rfl).trans <| (j_get (ji := 6) (v := (0, σ 1 6)) q_299_17 (js_Fo qy_299 qf_0_63) js_o1 rfl rfl rfl rfl).trans <| (j_istore_n (l2 := [(2, 0), (0, σ 1 6), (2, z0)]) q_299_20 rfl (Nat.le_of_ble_eq_true rfl)).trans <| rfl
theorem kc_299_6_16 {E : js_E} {d : Nat} {σ σ2 : js_S} {x1 c : Int} (hc : c = 0 ∨ c = 25) {w : Int} (hd : 1 ≤ d) (hz : js_J E (d - 1) 16 0 [(2, 6 + c), (9, 0)] [] σ = js_t E w σ2) (ho : js_desc E.1 σ2 w = some (0, 16, [])) : js_J E d 299 6 [(2, 0), (0, x1), (9, 0)] [(2, 6 + c)] σ = js_J E d 299 12 [(2, 0), (0, x1), (9, 0)] [(2, w)] σ2 :=
  j_callC (m := 1) (js_caV q_299_6 (js_Mo qy_299 qm_0_58)) (js_agV (av := []) (st := []) rfl rfl (js_o6b hc) rfl) rfl rfl (by rw [ql_16]; exact Nat.le_of_ble_eq_true rfl) (Nat.le_of_ble_eq_true rfl) hd rfl hz ho (by decide +kernel)
theorem b_300_12 {E : js_E} {d : Nat} {σ : js_S} {x1 x2 z0 : Int} : js_J E d 300 12 [(2, 0), (0, x1), (0, x2), (2, 136), (9, 0)] [(2, z0)] σ = js_r E (0, 1) σ :=
  (j_astore (l2 := [(2, 0), (0, x1), (0, x2), (2, 136), (2, z0)]) q_300_12 rfl (Nat.le_of_ble_eq_true rfl)).trans <| (j_iconst q_300_14).trans <| j_ireturn q_300_15 qr_300
theorem kc_300_5_18 {E : js_E} {d : Nat} {σ σ2 : js_S} {x1 x2 z1 z3 z4 : Int} {w : Int} (hd : 1 ≤ d) (hz : js_J E (d - 1) 172 0 [(2, 0), (0, z3), (0, z4), (9, 0)] [] σ = js_t E w σ2) (ho : js_desc E.1 σ2 w = some (0, 18, [])) : js_J E d 300 5 [(2, 0), (0, x1), (0, x2), (2, 136), (9, 0)] [(0, z4), (0, z3), (2, 0), (0, z1), (2, 136)] σ = js_J E d 300 12 [(2, 0), (0, x1), (0, x2), (2, 136), (9, 0)] [(2, w)] σ2 :=
  j_callC (m := 1) (js_caV q_300_5 (js_Mo qy_300 qm_19_7)) (js_agV (av := [(0, z3), (0, z4)]) (st := [(0, z1), (2, 136)]) rfl rfl js_o0 rfl) rfl rfl (by rw [ql_172]; exact Nat.le_of_ble_eq_true rfl) (Nat.le_of_ble_eq_true rfl) hd rfl hz ho (by decide +kernel)
theorem b_301_12 {E : js_E} {d : Nat} {σ : js_S} {x1 z0 : Int} : js_J E d 301 12 [(2, 0), (0, x1), (2, 136), (9, 0)] [(2, z0)] σ = js_r E (0, 1) σ :=
  (j_astore_n (l2 := [(2, 0), (0, x1), (2, 136), (2, z0)]) q_301_12 rfl (Nat.le_of_ble_eq_true rfl)).trans <| (j_iconst q_301_13).trans <| j_ireturn q_301_14 qr_301
theorem b_301_15 {E : js_E} {d : Nat} {σ : js_S} {x1 z0 : Int} : js_J E d 301 15 [(2, 0), (0, x1), (2, 136), (9, 0)] [(2, z0)] σ = js_r E (0, 2) σ :=
  (j_astore_n (l2 := [(2, 0), (0, x1), (2, 136), (2, z0)]) q_301_15 rfl (Nat.le_of_ble_eq_true rfl)).trans <| (j_iconst q_301_16).trans <| j_ireturn q_301_17 qr_301
theorem kc_301_4_17 {E : js_E} {d : Nat} {σ σ2 : js_S} {x1 z1 z3 : Int} {w : Int} (hd : 1 ≤ d) (hz : js_J E (d - 1) 173 0 [(2, 0), (0, z3)] [] σ = js_t E w σ2) (ho : js_desc E.1 σ2 w = some (0, 17, [])) : js_J E d 301 4 [(2, 0), (0, x1), (2, 136), (9, 0)] [(0, z3), (2, 0), (0, z1), (2, 136)] σ = js_J E d 301 12 [(2, 0), (0, x1), (2, 136), (9, 0)] [(2, w)] σ2 :=
  j_callC (m := 0) (js_caV q_301_4 (js_Mo qy_301 qm_19_15)) (js_agV (av := [(0, z3)]) (st := [(0, z1), (2, 136)]) rfl rfl js_o0 rfl) rfl rfl (by rw [ql_173]; exact Nat.le_of_ble_eq_true rfl) (Nat.le_of_ble_eq_true rfl) hd rfl hz ho (by decide +kernel)
theorem kc_301_4_16 {E : js_E} {d : Nat} {σ σ2 : js_S} {x1 z1 z3 : Int} {w : Int} (hd : 1 ≤ d) (hz : js_J E (d - 1) 173 0 [(2, 0), (0, z3)] [] σ = js_t E w σ2) (ho : js_desc E.1 σ2 w = some (0, 16, [])) : js_J E d 301 4 [(2, 0), (0, x1), (2, 136), (9, 0)] [(0, z3), (2, 0), (0, z1), (2, 136)] σ = js_J E d 301 15 [(2, 0), (0, x1), (2, 136), (9, 0)] [(2, w)] σ2 :=
  j_callC (m := 0) (js_caV q_301_4 (js_Mo qy_301 qm_19_15)) (js_agV (av := [(0, z3)]) (st := [(0, z1), (2, 136)]) rfl rfl js_o0 rfl) rfl rfl (by rw [ql_173]; exact Nat.le_of_ble_eq_true rfl) (Nat.le_of_ble_eq_true rfl) hd rfl hz ho (by decide +kernel)
theorem b_302_11 {E : js_E} {d : Nat} {σ : js_S} {z0 : Int} : js_J E d 302 11 [(2, 0), (2, 136), (9, 0)] [(2, z0)] σ = js_r E (0, 1) σ :=
  (j_astore_n (l2 := [(2, 0), (2, 136), (2, z0)]) q_302_11 rfl (Nat.le_of_ble_eq_true rfl)).trans <| (j_iconst q_302_12).trans <| j_ireturn q_302_13 qr_302
theorem kc_302_3_16 {E : js_E} {d : Nat} {σ σ2 : js_S} {z1 : Int} {w : Int} (hd : 1 ≤ d) (hz : js_J E (d - 1) 177 0 [(2, 0)] [] σ = js_t E w σ2) (ho : js_desc E.1 σ2 w = some (0, 16, [])) : js_J E d 302 3 [(2, 0), (2, 136), (9, 0)] [(2, 0), (0, z1), (2, 136)] σ = js_J E d 302 11 [(2, 0), (2, 136), (9, 0)] [(2, w)] σ2 :=
  j_callC (m := 0) (js_caV q_302_3 (js_Mo qy_302 qm_19_23)) (js_agV (av := []) (st := [(0, z1), (2, 136)]) rfl rfl js_o0 rfl) rfl rfl (by rw [ql_177]; exact Nat.le_of_ble_eq_true rfl) (Nat.le_of_ble_eq_true rfl) hd rfl hz ho (by decide +kernel)
theorem b_303_12 {E : js_E} {d : Nat} {σ : js_S} {x1 z0 : Int} : js_J E d 303 12 [(2, 0), (0, x1), (2, 136), (9, 0)] [(2, z0)] σ = js_r E (0, 1) σ :=
  (j_astore_n (l2 := [(2, 0), (0, x1), (2, 136), (2, z0)]) q_303_12 rfl (Nat.le_of_ble_eq_true rfl)).trans <| (j_iconst q_303_13).trans <| j_ireturn q_303_14 qr_303
theorem kc_303_4_18 {E : js_E} {d : Nat} {σ σ2 : js_S} {x1 z1 z3 : Int} {w : Int} (hd : 1 ≤ d) (hz : js_J E (d - 1) 178 0 [(2, 0), (0, z3)] [] σ = js_t E w σ2) (ho : js_desc E.1 σ2 w = some (0, 18, [])) : js_J E d 303 4 [(2, 0), (0, x1), (2, 136), (9, 0)] [(0, z3), (2, 0), (0, z1), (2, 136)] σ = js_J E d 303 12 [(2, 0), (0, x1), (2, 136), (9, 0)] [(2, w)] σ2 :=
  j_callC (m := 0) (js_caV q_303_4 (js_Mo qy_303 qm_19_27)) (js_agV (av := [(0, z3)]) (st := [(0, z1), (2, 136)]) rfl rfl js_o0 rfl) rfl rfl (by rw [ql_178]; exact Nat.le_of_ble_eq_true rfl) (Nat.le_of_ble_eq_true rfl) hd rfl hz ho (by decide +kernel)
theorem b_304_13 {E : js_E} {d : Nat} {σ : js_S} {x1 x2 z0 : Int} : js_J E d 304 13 [(2, 0), (0, x1), (0, x2), (2, 136), (9, 0)] [(2, z0)] σ = js_r E (0, 1) σ :=
  (j_astore (l2 := [(2, 0), (0, x1), (0, x2), (2, 136), (2, z0)]) q_304_13 rfl (Nat.le_of_ble_eq_true rfl)).trans <| (j_iconst q_304_15).trans <| j_ireturn q_304_16 qr_304
theorem kc_304_5_18 {E : js_E} {d : Nat} {σ σ2 : js_S} {x1 x2 z1 z3 z4 : Int} {w : Int} (hd : 1 ≤ d) (hz : js_J E (d - 1) 181 0 [(2, 0), (0, z3), (0, z4)] [] σ = js_t E w σ2) (ho : js_desc E.1 σ2 w = some (0, 18, [])) : js_J E d 304 5 [(2, 0), (0, x1), (0, x2), (2, 136), (9, 0)] [(0, z4), (0, z3), (2, 0), (0, z1), (2, 136)] σ = js_J E d 304 13 [(2, 0), (0, x1), (0, x2), (2, 136), (9, 0)] [(2, w)] σ2 :=
  j_callC (m := 0) (js_caV q_304_5 (js_Mo qy_304 qm_19_30)) (js_agV (av := [(0, z3), (0, z4)]) (st := [(0, z1), (2, 136)]) rfl rfl js_o0 rfl) rfl rfl (by rw [ql_181]; exact Nat.le_of_ble_eq_true rfl) (Nat.le_of_ble_eq_true rfl) hd rfl hz ho (by decide +kernel)
theorem b_305_12 {E : js_E} {d : Nat} {σ : js_S} {x1 x2 z0 : Int} : js_J E d 305 12 [(2, 0), (0, x1), (0, x2), (2, 136), (9, 0)] [(2, z0)] σ = js_r E (0, 1) σ :=
  (j_astore (l2 := [(2, 0), (0, x1), (0, x2), (2, 136), (2, z0)]) q_305_12 rfl (Nat.le_of_ble_eq_true rfl)).trans <| (j_iconst q_305_14).trans <| j_ireturn q_305_15 qr_305
theorem kc_305_5_18 {E : js_E} {d : Nat} {σ σ2 : js_S} {x1 x2 z1 z3 z4 : Int} {w : Int} (hd : 1 ≤ d) (hz : js_J E (d - 1) 183 0 [(2, 0), (0, z3), (0, z4)] [] σ = js_t E w σ2) (ho : js_desc E.1 σ2 w = some (0, 18, [])) : js_J E d 305 5 [(2, 0), (0, x1), (0, x2), (2, 136), (9, 0)] [(0, z4), (0, z3), (2, 0), (0, z1), (2, 136)] σ = js_J E d 305 12 [(2, 0), (0, x1), (0, x2), (2, 136), (9, 0)] [(2, w)] σ2 :=
  j_callC (m := 0) (js_caV q_305_5 (js_Mo qy_305 qm_19_34)) (js_agV (av := [(0, z3), (0, z4)]) (st := [(0, z1), (2, 136)]) rfl rfl js_o0 rfl) rfl rfl (by rw [ql_183]; exact Nat.le_of_ble_eq_true rfl) (Nat.le_of_ble_eq_true rfl) hd rfl hz ho (by decide +kernel)
theorem b_306_12 {E : js_E} {d : Nat} {σ : js_S} {x1 x2 z0 : Int} : js_J E d 306 12 [(2, 0), (0, x1), (0, x2), (2, 136), (9, 0)] [(2, z0)] σ = js_r E (0, 1) σ :=
  (j_astore (l2 := [(2, 0), (0, x1), (0, x2), (2, 136), (2, z0)]) q_306_12 rfl (Nat.le_of_ble_eq_true rfl)).trans <| (j_iconst q_306_14).trans <| j_ireturn q_306_15 qr_306
theorem kc_306_5_18 {E : js_E} {d : Nat} {σ σ2 : js_S} {x1 x2 z1 z3 z4 : Int} {w : Int} (hd : 1 ≤ d) (hz : js_J E (d - 1) 184 0 [(2, 0), (0, z3), (0, z4), (9, 0), (9, 0)] [] σ = js_t E w σ2) (ho : js_desc E.1 σ2 w = some (0, 18, [])) : js_J E d 306 5 [(2, 0), (0, x1), (0, x2), (2, 136), (9, 0)] [(0, z4), (0, z3), (2, 0), (0, z1), (2, 136)] σ = js_J E d 306 12 [(2, 0), (0, x1), (0, x2), (2, 136), (9, 0)] [(2, w)] σ2 :=
  j_callC (m := 2) (js_caV q_306_5 (js_Mo qy_306 qm_19_37)) (js_agV (av := [(0, z3), (0, z4)]) (st := [(0, z1), (2, 136)]) rfl rfl js_o0 rfl) rfl rfl (by rw [ql_184]; exact Nat.le_of_ble_eq_true rfl) (Nat.le_of_ble_eq_true rfl) hd rfl hz ho (by decide +kernel)
theorem b_299_21x {E : js_E} {d : Nat} {σ : js_S} {x1 : Int} {ux2 : js_v} : js_J E d 299 21 [(2, 0), (0, x1), ux2] [] σ = js_J E d 299 25 [(2, 0), (0, x1), ux2] [(2, 1)] σ :=
  (j_aload_n q_299_21 rfl).trans <| (j_get (ji := 0) (v := (2, 1)) q_299_22 (js_Fo qy_299 qf_0_24) js_o0 rfl rfl rfl rfl).trans <| rfl
theorem k_299_25x {E : js_E} {d : Nat} {σ σ2 : js_S} {x1 : Int} {ux2 : js_v} (hd : 1 ≤ d) (hz : js_J E (d - 1) 115 0 [(2, 1)] [] σ = js_r0 E σ2) : js_J E d 299 25 [(2, 0), (0, x1), ux2] [(2, 1)] σ = js_J E d 299 28 [(2, 0), (0, x1), ux2] [] σ2 :=
  j_call0 (m := 0) (js_caV q_299_25 (js_Mo qy_299 qm_0_67)) (js_agV (av := []) (st := []) rfl rfl js_o1 rfl) rfl rfl (by rw [ql_115]; exact Nat.le_of_ble_eq_true rfl) (Nat.le_of_ble_eq_true rfl) hd hz
theorem b_299_28x {E : js_E} {d : Nat} {σ : js_S} {x1 b c : Int} {ux2 : js_v} (hc : c = 0 ∨ c = 25) (h5 : σ 0 5 = 6 + c) (hb : b = 0 ∨ b = 25) (h4 : σ 0 4 = 6 + b) : js_J E d 299 28 [(2, 0), (0, x1), ux2] [] σ = (if js_w x1 = 0 then js_J E d 299 58 [(2, 0), (0, x1), (2, 6 + c)] [(2, 7 + c), (2, 56)] (js_up (js_up σ 0 5 (6 + b)) 0 4 (6 + c)) else js_J E d 299 61 [(2, 0), (0, x1), ux2] [] σ) :=
  (j_iload_n q_299_28 rfl).trans <| (j_ifne (t := 61) q_299_29 rfl).trans (js_ite ((j_aload_n q_299_32 rfl).trans <| (j_get (ji := 5) (v := (2, 6 + c)) q_299_33 (js_Fo qy_299 qf_0_34) js_o0 rfl rfl rfl (congrArg (Prod.mk 2) h5)).trans <| (j_astore_n (l2 := [(2, 0), (0, x1), (2, 6 + c)]) q_299_36 rfl (Nat.le_of_ble_eq_true rfl)).trans <| (j_aload_n q_299_37 rfl).trans <| (j_aload_n q_299_38 rfl).trans <| (j_get (ji := 4) (v := (2, 6 + b)) q_299_39 (js_Fo qy_299 qf_0_30) js_o0 rfl rfl rfl (congrArg (Prod.mk 2) h4)).trans <| (j_putR (ji := 5) q_299_42 (js_Fo qy_299 qf_0_34) rfl js_o0 rfl rfl rfl).trans <| (j_aload_n q_299_45 rfl).trans <| (j_aload_n q_299_46 rfl).trans <| (j_putR (ji := 4) q_299_47 (js_Fo qy_299 qf_0_30) rfl js_o0 rfl rfl rfl).trans <| (j_aload_n q_299_50 rfl).trans <| (j_get (ji := 1) (v := (2, 56)) q_299_51 (js_Fo qy_299 qf_0_46) js_o0 rfl rfl rfl rfl).trans <| (j_aload_n q_299_54 rfl).trans <| (j_get (ji := 0) (v := (2, 7 + c)) q_299_55 (js_Fo qy_299 qf_0_39) (js_o6b hc) rfl rfl rfl rfl).trans <| rfl) (rfl))
