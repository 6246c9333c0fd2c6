/-! part 99.zzzzzzzzb: one call of the law, by both (printed by wip/whole/tools/genloop.py) -/
section LSs
variable {E : js_E} {d : Nat} {n x4 : Int} {τ : js_S} {ux5 ux6 ux7 : js_v}
theorem ls_r (v : Int32) : -2147483648 ≤ v.toInt ∧ v.toInt < 2147483648 := ⟨Int32.le_toInt v, Int32.toInt_lt v⟩
/-- where the law stands behind a call -/
def LSq (E : js_E) (d : Nat) (n x4 : Int) (A : Option (Outcome × ip_W)) : Prop := ∃ (τ' : js_S) (u5 u6 u7 : js_v), A = js_J E d 309 1032 [(3, 100), (2, 0), (2, 83), (2, 136), (0, x4), u5, u6, u7] [] τ' ∧ LQ E (n + 1) τ' τ'
theorem ls_0 (h : LQ E n τ τ) (hn : 0 ≤ n ∧ n ≤ 511) (hd : 1300 ≤ d) (c1 : 0 ≤ js_w (x4 + 1) ∧ js_w (x4 + 1) < (E.2.1 : Int)) (c2 : 0 ≤ js_w (x4 + 2) ∧ js_w (x4 + 2) < (E.2.1 : Int)) (c3 : 0 ≤ js_w (x4 + 3) ∧ js_w (x4 + 3) < (E.2.1 : Int)) (c4 : 0 ≤ js_w (x4 + 4) ∧ js_w (x4 + 4) < (E.2.1 : Int)) : LSq E d n x4 (js_J E d 309 136 [(3, 100), (2, 0), (2, 83), (2, 136), (0, x4), ux5, ux6, ux7] [] τ) := by
  obtain ⟨τ1, τ2, σ2, ρ2, v, w, e1, e2, hv, r2, ew⟩ := law_two (E := E) (R := LQ E n) (R2 := LQ E (n + 1)) (fun σ ρ σ' ρ' q a b => lq_loc q a b) (fun σ ρ q => lo_feed (E := E) (d := d - 1) (e := d - 1) (a := (js_lor (js_lshl (js_w ((E.2.2 (js_w (x4 + 1)).toNat).toInt)) 32) (js_land (js_w ((E.2.2 (js_w (x4 + 2)).toNat).toInt)) 4294967295))) (b := (js_lor (js_lshl (js_w ((E.2.2 (js_w (x4 + 3)).toNat).toInt)) 32) (js_land (js_w ((E.2.2 (js_w (x4 + 4)).toNat).toInt)) 4294967295))) q hn (by omega) (by omega)) h
  refine ⟨jn σ2 ρ2, ux5, ux6, ux7, ?_, lq_jn r2⟩
  rw [b_309_136, if_pos c1, if_pos c2, if_pos c3, if_pos c4, k_309_181 (by omega) e1, b_309_184, if_pos c1, if_pos c2, if_pos c3, if_pos c4, k_309_229 (by omega) e2, b_309_232, if_pos hv]
  exact js_J_wd ew
theorem ls_1 (h : LQ E n τ τ) (hn : 0 ≤ n ∧ n ≤ 511) (hd : 1300 ≤ d) (c1 : 0 ≤ js_w (x4 + 1) ∧ js_w (x4 + 1) < (E.2.1 : Int)) (c2 : 0 ≤ js_w (x4 + 2) ∧ js_w (x4 + 2) < (E.2.1 : Int)) (c3 : 0 ≤ js_w (x4 + 3) ∧ js_w (x4 + 3) < (E.2.1 : Int)) (c4 : 0 ≤ js_w (x4 + 4) ∧ js_w (x4 + 4) < (E.2.1 : Int)) : LSq E d n x4 (js_J E d 309 237 [(3, 100), (2, 0), (2, 83), (2, 136), (0, x4), ux5, ux6, ux7] [] τ) := by
  obtain ⟨τ1, τ2, σ2, ρ2, v, w, e1, e2, hv, r2, ew⟩ := law_two (E := E) (R := LQ E n) (R2 := LQ E (n + 1)) (fun σ ρ σ' ρ' q a b => lq_loc q a b) (fun σ ρ q => lo_compile (E := E) (d := d - 1) (e := d - 1) q hn (by omega) (by omega)) h
  refine ⟨jn σ2 ρ2, ux5, ux6, ux7, ?_, lq_jn r2⟩
  rw [b_309_237, k_309_238 (by omega) e1, b_309_241, k_309_242 (by omega) e2, b_309_245, if_pos hv]
  exact js_J_wd ew
theorem ls_2 (h : LQ E n τ τ) (hn : 0 ≤ n ∧ n ≤ 511) (hd : 1300 ≤ d) (c1 : 0 ≤ js_w (x4 + 1) ∧ js_w (x4 + 1) < (E.2.1 : Int)) (c2 : 0 ≤ js_w (x4 + 2) ∧ js_w (x4 + 2) < (E.2.1 : Int)) (c3 : 0 ≤ js_w (x4 + 3) ∧ js_w (x4 + 3) < (E.2.1 : Int)) (c4 : 0 ≤ js_w (x4 + 4) ∧ js_w (x4 + 4) < (E.2.1 : Int)) : LSq E d n x4 (js_J E d 309 250 [(3, 100), (2, 0), (2, 83), (2, 136), (0, x4), ux5, ux6, ux7] [] τ) := by
  obtain ⟨τ1, τ2, σ2, ρ2, v, w, e1, e2, hv, r2, ew⟩ := law_two (E := E) (R := LQ E n) (R2 := LQ E (n + 1)) (fun σ ρ σ' ρ' q a b => lq_loc q a b) (fun σ ρ q => lo_symbol (E := E) (d := d - 1) (e := d - 1) (x1 := ((E.2.2 (js_w (x4 + 1)).toNat).toInt)) (x2 := ((E.2.2 (js_w (x4 + 2)).toNat).toInt)) q (ls_r _) (ls_r _) (by omega)) h
  refine ⟨jn σ2 ρ2, ux5, ux6, ux7, ?_, lq_jn r2⟩
  rw [b_309_250, if_pos c1, if_pos c2, k_309_263 (by omega) e1, b_309_266, if_pos c1, if_pos c2, k_309_279 (by omega) e2, b_309_282, if_pos hv]
  exact js_J_wd ew
theorem ls_3 (h : LQ E n τ τ) (hn : 0 ≤ n ∧ n ≤ 511) (hd : 1300 ≤ d) (c1 : 0 ≤ js_w (x4 + 1) ∧ js_w (x4 + 1) < (E.2.1 : Int)) (c2 : 0 ≤ js_w (x4 + 2) ∧ js_w (x4 + 2) < (E.2.1 : Int)) (c3 : 0 ≤ js_w (x4 + 3) ∧ js_w (x4 + 3) < (E.2.1 : Int)) (c4 : 0 ≤ js_w (x4 + 4) ∧ js_w (x4 + 4) < (E.2.1 : Int)) : LSq E d n x4 (js_J E d 309 287 [(3, 100), (2, 0), (2, 83), (2, 136), (0, x4), ux5, ux6, ux7] [] τ) := by
  obtain ⟨τ1, τ2, σ2, ρ2, v, w, e1, e2, hv, r2, ew⟩ := law_two (E := E) (R := LQ E n) (R2 := LQ E (n + 1)) (fun σ ρ σ' ρ' q a b => lq_loc q a b) (fun σ ρ q => lo_name (E := E) (d := d - 1) (e := d - 1) (x1 := ((E.2.2 (js_w (x4 + 1)).toNat).toInt)) (x2 := ((E.2.2 (js_w (x4 + 2)).toNat).toInt)) q (ls_r _) (ls_r _) (by omega)) h
  refine ⟨jn σ2 ρ2, ux5, ux6, ux7, ?_, lq_jn r2⟩
  rw [b_309_287, if_pos c1, if_pos c2, k_309_300 (by omega) e1, b_309_303, if_pos c1, if_pos c2, k_309_316 (by omega) e2, b_309_319, if_pos hv]
  exact js_J_wd ew
theorem ls_4 (h : LQ E n τ τ) (hn : 0 ≤ n ∧ n ≤ 511) (hd : 1300 ≤ d) (c1 : 0 ≤ js_w (x4 + 1) ∧ js_w (x4 + 1) < (E.2.1 : Int)) (c2 : 0 ≤ js_w (x4 + 2) ∧ js_w (x4 + 2) < (E.2.1 : Int)) (c3 : 0 ≤ js_w (x4 + 3) ∧ js_w (x4 + 3) < (E.2.1 : Int)) (c4 : 0 ≤ js_w (x4 + 4) ∧ js_w (x4 + 4) < (E.2.1 : Int)) : LSq E d n x4 (js_J E d 309 324 [(3, 100), (2, 0), (2, 83), (2, 136), (0, x4), ux5, ux6, ux7] [] τ) := by
  obtain ⟨τ1, τ2, σ2, ρ2, v, w, e1, e2, hv, r2, ew⟩ := law_two (E := E) (R := LQ E n) (R2 := LQ E (n + 1)) (fun σ ρ σ' ρ' q a b => lq_loc q a b) (fun σ ρ q => lo_code (E := E) (d := d - 1) (e := d - 1) (x1 := ((E.2.2 (js_w (x4 + 1)).toNat).toInt)) (x2 := ((E.2.2 (js_w (x4 + 2)).toNat).toInt)) q (ls_r _) (ls_r _) (by omega)) h
  refine ⟨jn σ2 ρ2, ux5, ux6, ux7, ?_, lq_jn r2⟩
  rw [b_309_324, if_pos c1, if_pos c2, k_309_337 (by omega) e1, b_309_340, if_pos c1, if_pos c2, k_309_353 (by omega) e2, b_309_356, if_pos hv]
  exact js_J_wd ew
theorem ls_6 (h : LQ E n τ τ) (hn : 0 ≤ n ∧ n ≤ 511) (hd : 1300 ≤ d) (c1 : 0 ≤ js_w (x4 + 1) ∧ js_w (x4 + 1) < (E.2.1 : Int)) (c2 : 0 ≤ js_w (x4 + 2) ∧ js_w (x4 + 2) < (E.2.1 : Int)) (c3 : 0 ≤ js_w (x4 + 3) ∧ js_w (x4 + 3) < (E.2.1 : Int)) (c4 : 0 ≤ js_w (x4 + 4) ∧ js_w (x4 + 4) < (E.2.1 : Int)) : LSq E d n x4 (js_J E d 309 428 [(3, 100), (2, 0), (2, 83), (2, 136), (0, x4), ux5, ux6, ux7] [] τ) := by
  obtain ⟨τ1, τ2, σ2, ρ2, v, w, e1, e2, hv, r2, ew⟩ := law_two (E := E) (R := LQ E n) (R2 := LQ E (n + 1)) (fun σ ρ σ' ρ' q a b => lq_loc q a b) (fun σ ρ q => lo_text (E := E) (d := d - 1) (e := d - 1) (z1 := ((E.2.2 (js_w (x4 + 1)).toNat).toInt)) (z2 := ((E.2.2 (js_w (x4 + 2)).toNat).toInt)) (z3 := ((E.2.2 (js_w (x4 + 3)).toNat).toInt)) q (ls_r _) (ls_r _) (ls_r _) (by omega) (by omega)) h
  refine ⟨jn σ2 ρ2, ux5, ux6, ux7, ?_, lq_jn r2⟩
  rw [b_309_428, if_pos c1, if_pos c2, if_pos c3, k_309_447 (by omega) e1, b_309_450, if_pos c1, if_pos c2, if_pos c3, k_309_469 (by omega) e2, b_309_472, if_pos hv]
  exact js_J_wd ew
theorem ls_7 (h : LQ E n τ τ) (hn : 0 ≤ n ∧ n ≤ 511) (hd : 1300 ≤ d) (c1 : 0 ≤ js_w (x4 + 1) ∧ js_w (x4 + 1) < (E.2.1 : Int)) (c2 : 0 ≤ js_w (x4 + 2) ∧ js_w (x4 + 2) < (E.2.1 : Int)) (c3 : 0 ≤ js_w (x4 + 3) ∧ js_w (x4 + 3) < (E.2.1 : Int)) (c4 : 0 ≤ js_w (x4 + 4) ∧ js_w (x4 + 4) < (E.2.1 : Int)) : LSq E d n x4 (js_J E d 309 477 [(3, 100), (2, 0), (2, 83), (2, 136), (0, x4), ux5, ux6, ux7] [] τ) := by
  obtain ⟨τ1, τ2, σ2, ρ2, v, w, e1, e2, hv, r2, ew⟩ := law_two (E := E) (R := LQ E n) (R2 := LQ E (n + 1)) (fun σ ρ σ' ρ' q a b => lq_loc q a b) (fun σ ρ q => lo_input (E := E) (d := d - 1) (e := d - 1) (x1 := ((E.2.2 (js_w (x4 + 1)).toNat).toInt)) (x2 := ((E.2.2 (js_w (x4 + 2)).toNat).toInt)) q (ls_r _) (ls_r _) (by omega) (by omega)) h
  refine ⟨jn σ2 ρ2, ux5, ux6, ux7, ?_, lq_jn r2⟩
  rw [b_309_477, if_pos c1, if_pos c2, k_309_490 (by omega) e1, b_309_493, if_pos c1, if_pos c2, k_309_506 (by omega) e2, b_309_509, if_pos hv]
  exact js_J_wd ew
theorem ls_12 (h : LQ E n τ τ) (hn : 0 ≤ n ∧ n ≤ 511) (hd : 1300 ≤ d) (c1 : 0 ≤ js_w (x4 + 1) ∧ js_w (x4 + 1) < (E.2.1 : Int)) (c2 : 0 ≤ js_w (x4 + 2) ∧ js_w (x4 + 2) < (E.2.1 : Int)) (c3 : 0 ≤ js_w (x4 + 3) ∧ js_w (x4 + 3) < (E.2.1 : Int)) (c4 : 0 ≤ js_w (x4 + 4) ∧ js_w (x4 + 4) < (E.2.1 : Int)) : LSq E d n x4 (js_J E d 309 738 [(3, 100), (2, 0), (2, 83), (2, 136), (0, x4), ux5, ux6, ux7] [] τ) := by
  obtain ⟨τ1, τ2, σ2, ρ2, v, w, e1, e2, hv, r2, ew⟩ := law_two (E := E) (R := LQ E n) (R2 := LQ E (n + 1)) (fun σ ρ σ' ρ' q a b => lq_loc q a b) (fun σ ρ q => lo_probe (E := E) (d := d - 1) (e := d - 1) (z1 := ((E.2.2 (js_w (x4 + 1)).toNat).toInt)) (z2 := ((E.2.2 (js_w (x4 + 2)).toNat).toInt)) (z3 := ((E.2.2 (js_w (x4 + 3)).toNat).toInt)) (z4 := ((E.2.2 (js_w (x4 + 4)).toNat).toInt)) q hn (ls_r _) (ls_r _) (ls_r _) (ls_r _) (by omega) (by omega)) h
  refine ⟨jn σ2 ρ2, ux5, ux6, ux7, ?_, lq_jn r2⟩
  rw [b_309_738, if_pos c1, if_pos c2, if_pos c3, if_pos c4, k_309_763 (by omega) e1, b_309_766, if_pos c1, if_pos c2, if_pos c3, if_pos c4, k_309_791 (by omega) e2, b_309_794, if_pos hv]
  exact js_J_wd ew
theorem ls_15 (h : LQ E n τ τ) (hn : 0 ≤ n ∧ n ≤ 511) (hd : 1300 ≤ d) (c1 : 0 ≤ js_w (x4 + 1) ∧ js_w (x4 + 1) < (E.2.1 : Int)) (c2 : 0 ≤ js_w (x4 + 2) ∧ js_w (x4 + 2) < (E.2.1 : Int)) (c3 : 0 ≤ js_w (x4 + 3) ∧ js_w (x4 + 3) < (E.2.1 : Int)) (c4 : 0 ≤ js_w (x4 + 4) ∧ js_w (x4 + 4) < (E.2.1 : Int)) : LSq E d n x4 (js_J E d 309 933 [(3, 100), (2, 0), (2, 83), (2, 136), (0, x4), ux5, ux6, ux7] [] τ) := by
  obtain ⟨τ1, τ2, σ2, ρ2, v, w, e1, e2, hv, r2, ew⟩ := law_two (E := E) (R := LQ E n) (R2 := LQ E (n + 1)) (fun σ ρ σ' ρ' q a b => lq_loc q a b) (fun σ ρ q => lo_flip (E := E) (d := d - 1) (e := d - 1) (x1 := ((E.2.2 (js_w (x4 + 1)).toNat).toInt)) (x2 := ((E.2.2 (js_w (x4 + 2)).toNat).toInt)) (x3 := ((E.2.2 (js_w (x4 + 3)).toNat).toInt)) (x4 := ((E.2.2 (js_w (x4 + 4)).toNat).toInt)) q (ls_r _) (ls_r _) (ls_r _) (ls_r _) (by omega) (by omega)) h
  refine ⟨jn σ2 ρ2, ux5, ux6, ux7, ?_, lq_jn r2⟩
  rw [b_309_933, if_pos c1, if_pos c2, if_pos c3, if_pos c4, k_309_958 (by omega) e1, b_309_961, if_pos c1, if_pos c2, if_pos c3, if_pos c4, k_309_986 (by omega) e2, b_309_989, if_pos hv]
  exact js_J_wd ew
theorem ls_16 (h : LQ E n τ τ) (hn : 0 ≤ n ∧ n ≤ 511) (hd : 1300 ≤ d) (c1 : 0 ≤ js_w (x4 + 1) ∧ js_w (x4 + 1) < (E.2.1 : Int)) (c2 : 0 ≤ js_w (x4 + 2) ∧ js_w (x4 + 2) < (E.2.1 : Int)) (c3 : 0 ≤ js_w (x4 + 3) ∧ js_w (x4 + 3) < (E.2.1 : Int)) (c4 : 0 ≤ js_w (x4 + 4) ∧ js_w (x4 + 4) < (E.2.1 : Int)) : LSq E d n x4 (js_J E d 309 994 [(3, 100), (2, 0), (2, 83), (2, 136), (0, x4), ux5, ux6, ux7] [] τ) := by
  obtain ⟨τ1, τ2, σ2, ρ2, v, w, e1, e2, hv, r2, ew⟩ := law_two (E := E) (R := LQ E n) (R2 := LQ E (n + 1)) (fun σ ρ σ' ρ' q a b => lq_loc q a b) (fun σ ρ q => lo_power (E := E) (d := d - 1) (e := d - 1) q hn.1 (by omega) (by omega)) h
  refine ⟨jn σ2 ρ2, ux5, ux6, ux7, ?_, lq_jn r2⟩
  rw [b_309_994, k_309_995 (by omega) e1, b_309_998, k_309_999 (by omega) e2, b_309_1002, if_pos hv]
  exact js_J_wd ew
theorem ls_17 (h : LQ E n τ τ) (hn : 0 ≤ n ∧ n ≤ 511) (hd : 1300 ≤ d) (c1 : 0 ≤ js_w (x4 + 1) ∧ js_w (x4 + 1) < (E.2.1 : Int)) (c2 : 0 ≤ js_w (x4 + 2) ∧ js_w (x4 + 2) < (E.2.1 : Int)) (c3 : 0 ≤ js_w (x4 + 3) ∧ js_w (x4 + 3) < (E.2.1 : Int)) (c4 : 0 ≤ js_w (x4 + 4) ∧ js_w (x4 + 4) < (E.2.1 : Int)) : LSq E d n x4 (js_J E d 309 1007 [(3, 100), (2, 0), (2, 83), (2, 136), (0, x4), ux5, ux6, ux7] [] τ) := by
  obtain ⟨τ1, τ2, σ2, ρ2, v, w, e1, e2, hv, r2, ew⟩ := law_two (E := E) (R := LQ E n) (R2 := LQ E (n + 1)) (fun σ ρ σ' ρ' q a b => lq_loc q a b) (fun σ ρ q => lo_count (E := E) (d := d - 1) (e := d - 1) (x1 := ((E.2.2 (js_w (x4 + 1)).toNat).toInt)) q (ls_r _) (by omega)) h
  refine ⟨jn σ2 ρ2, ux5, ux6, ux7, ?_, lq_jn r2⟩
  rw [b_309_1007, if_pos c1, k_309_1014 (by omega) e1, b_309_1017, if_pos c1, k_309_1024 (by omega) e2, b_309_1027, if_pos hv]
  exact js_J_wd ew
theorem ls_5 (h : LQ E n τ τ) (hn : 0 ≤ n ∧ n ≤ 511) (hd : 1300 ≤ d) (c1 : 0 ≤ js_w (x4 + 1) ∧ js_w (x4 + 1) < (E.2.1 : Int)) (c2 : 0 ≤ js_w (x4 + 2) ∧ js_w (x4 + 2) < (E.2.1 : Int)) (c3 : 0 ≤ js_w (x4 + 3) ∧ js_w (x4 + 3) < (E.2.1 : Int)) (c4 : 0 ≤ js_w (x4 + 4) ∧ js_w (x4 + 4) < (E.2.1 : Int)) : LSq E d n x4 (js_J E d 309 361 [(3, 100), (2, 0), (2, 83), (2, 136), (0, x4), ux5, ux6, ux7] [] τ) := by
  obtain ⟨τ1, τ2, σ2, ρ2, k, w, e1, e2, hk, hL, r2, ew⟩ := law_two2 (E := E) (t := 1) (L := fun w => js_l w) (R := LQ E n) (R2 := LQ E (n + 1)) (fun σ ρ σ' ρ' q a b => lq_loc q a b) (fun σ ρ q => lx_range (E := E) (d := d - 1) (e := d - 1) (x1 := ((E.2.2 (js_w (x4 + 1)).toNat).toInt)) (x2 := ((E.2.2 (js_w (x4 + 2)).toNat).toInt)) q (ls_r _) (ls_r _) (by omega)) h
  refine ⟨jn σ2 ρ2, (0, k), (1, w), (9, 0), ?_, lq_jn r2⟩
  have fin : js_J E d 309 425 [(3, 100), (2, 0), (2, 83), (2, 136), (0, x4), (0, k), (1, w), (9, 0)] [] τ2 = js_J E d 309 1032 [(3, 100), (2, 0), (2, 83), (2, 136), (0, x4), (0, k), (1, w), (9, 0)] [] (jn σ2 ρ2) := b_309_425.trans (js_J_wd ew)
  rw [b_309_361, if_pos c1, if_pos c2, k_309_375 (by omega) e1, b_309_378, if_pos c1, if_pos c2, k_309_393 (by omega) e2, b_309_396, k_309_399 (by omega) b_185_0, b_309_402, if_pos hk]
  by_cases q : js_w k = 0
  · rw [if_pos q, if_pos (show js_l (τ2 136 0) = js_l w from hL q), fin]
  · rw [if_neg q, fin]
theorem ls_8 (h : LQ E n τ τ) (hn : 0 ≤ n ∧ n ≤ 511) (hd : 1300 ≤ d) (c1 : 0 ≤ js_w (x4 + 1) ∧ js_w (x4 + 1) < (E.2.1 : Int)) (c2 : 0 ≤ js_w (x4 + 2) ∧ js_w (x4 + 2) < (E.2.1 : Int)) (c3 : 0 ≤ js_w (x4 + 3) ∧ js_w (x4 + 3) < (E.2.1 : Int)) (c4 : 0 ≤ js_w (x4 + 4) ∧ js_w (x4 + 4) < (E.2.1 : Int)) : LSq E d n x4 (js_J E d 309 514 [(3, 100), (2, 0), (2, 83), (2, 136), (0, x4), ux5, ux6, ux7] [] τ) := by
  obtain ⟨τ1, τ2, σ2, ρ2, k, w, e1, e2, hk, hL, r2, ew⟩ := law_two2 (E := E) (t := 0) (L := fun w => js_l (js_w w)) (R := LQ E n) (R2 := LQ E (n + 1)) (fun σ ρ σ' ρ' q a b => lq_loc q a b) (fun σ ρ q => lx_steps (E := E) (d := d - 1) (e := d - 1) (x1 := ((E.2.2 (js_w (x4 + 1)).toNat).toInt)) q (by omega) (ls_r _) (by omega) (by omega)) h
  refine ⟨jn σ2 ρ2, (0, k), (0, w), ux7, ?_, lq_jn r2⟩
  have fin : js_J E d 309 567 [(3, 100), (2, 0), (2, 83), (2, 136), (0, x4), (0, k), (0, w), ux7] [] τ2 = js_J E d 309 1032 [(3, 100), (2, 0), (2, 83), (2, 136), (0, x4), (0, k), (0, w), ux7] [] (jn σ2 ρ2) := b_309_567.trans (js_J_wd ew)
  rw [b_309_514, if_pos c1, k_309_522 (by omega) e1, b_309_525, if_pos c1, k_309_534 (by omega) e2, b_309_537, k_309_540 (by omega) b_185_0, b_309_543, if_pos hk]
  by_cases q : js_w k = 0
  · rw [if_pos q, if_pos (show js_l (τ2 136 0) = js_l (js_w w) from hL q), fin]
  · rw [if_neg q, fin]
theorem ls_9 (h : LQ E n τ τ) (hn : 0 ≤ n ∧ n ≤ 511) (hd : 1300 ≤ d) (c1 : 0 ≤ js_w (x4 + 1) ∧ js_w (x4 + 1) < (E.2.1 : Int)) (c2 : 0 ≤ js_w (x4 + 2) ∧ js_w (x4 + 2) < (E.2.1 : Int)) (c3 : 0 ≤ js_w (x4 + 3) ∧ js_w (x4 + 3) < (E.2.1 : Int)) (c4 : 0 ≤ js_w (x4 + 4) ∧ js_w (x4 + 4) < (E.2.1 : Int)) : LSq E d n x4 (js_J E d 309 570 [(3, 100), (2, 0), (2, 83), (2, 136), (0, x4), ux5, ux6, ux7] [] τ) := by
  obtain ⟨τ1, τ2, σ2, ρ2, k, w, e1, e2, hk, hL, r2, ew⟩ := law_two2 (E := E) (t := 0) (L := fun w => js_l (js_w w)) (R := LQ E n) (R2 := LQ E (n + 1)) (fun σ ρ σ' ρ' q a b => lq_loc q a b) (fun σ ρ q => lx_cycle (E := E) (d := d - 1) (e := d - 1) q (by omega) (by omega) (by omega)) h
  refine ⟨jn σ2 ρ2, (0, k), (0, w), ux7, ?_, lq_jn r2⟩
  have fin : js_J E d 309 611 [(3, 100), (2, 0), (2, 83), (2, 136), (0, x4), (0, k), (0, w), ux7] [] τ2 = js_J E d 309 1032 [(3, 100), (2, 0), (2, 83), (2, 136), (0, x4), (0, k), (0, w), ux7] [] (jn σ2 ρ2) := b_309_611.trans (js_J_wd ew)
  rw [b_309_570, k_309_572 (by omega) e1, b_309_575, k_309_578 (by omega) e2, b_309_581, k_309_584 (by omega) b_185_0, b_309_587, if_pos hk]
  by_cases q : js_w k = 0
  · rw [if_pos q, if_pos (show js_l (τ2 136 0) = js_l (js_w w) from hL q), fin]
  · rw [if_neg q, fin]
theorem ls_10 (h : LQ E n τ τ) (hn : 0 ≤ n ∧ n ≤ 511) (hd : 1300 ≤ d) (c1 : 0 ≤ js_w (x4 + 1) ∧ js_w (x4 + 1) < (E.2.1 : Int)) (c2 : 0 ≤ js_w (x4 + 2) ∧ js_w (x4 + 2) < (E.2.1 : Int)) (c3 : 0 ≤ js_w (x4 + 3) ∧ js_w (x4 + 3) < (E.2.1 : Int)) (c4 : 0 ≤ js_w (x4 + 4) ∧ js_w (x4 + 4) < (E.2.1 : Int)) : LSq E d n x4 (js_J E d 309 614 [(3, 100), (2, 0), (2, 83), (2, 136), (0, x4), ux5, ux6, ux7] [] τ) := by
  obtain ⟨τ1, τ2, σ2, ρ2, k, w, e1, e2, hk, hL, r2, ew⟩ := law_two2 (E := E) (t := 0) (L := fun w => js_l (js_w w)) (R := LQ E n) (R2 := LQ E (n + 1)) (fun σ ρ σ' ρ' q a b => lq_loc q a b) (fun σ ρ q => lx_output (E := E) (d := d - 1) (e := d - 1) (x1 := ((E.2.2 (js_w (x4 + 1)).toNat).toInt)) q (by omega) (ls_r _) (by omega) (by omega)) h
  refine ⟨jn σ2 ρ2, (0, k), (0, w), ux7, ?_, lq_jn r2⟩
  have fin : js_J E d 309 667 [(3, 100), (2, 0), (2, 83), (2, 136), (0, x4), (0, k), (0, w), ux7] [] τ2 = js_J E d 309 1032 [(3, 100), (2, 0), (2, 83), (2, 136), (0, x4), (0, k), (0, w), ux7] [] (jn σ2 ρ2) := b_309_667.trans (js_J_wd ew)
  rw [b_309_614, if_pos c1, k_309_622 (by omega) e1, b_309_625, if_pos c1, k_309_634 (by omega) e2, b_309_637, k_309_640 (by omega) b_185_0, b_309_643, if_pos hk]
  by_cases q : js_w k = 0
  · rw [if_pos q, if_pos (show js_l (τ2 136 0) = js_l (js_w w) from hL q), fin]
  · rw [if_neg q, fin]
theorem ls_11 (h : LQ E n τ τ) (hn : 0 ≤ n ∧ n ≤ 511) (hd : 1300 ≤ d) (c1 : 0 ≤ js_w (x4 + 1) ∧ js_w (x4 + 1) < (E.2.1 : Int)) (c2 : 0 ≤ js_w (x4 + 2) ∧ js_w (x4 + 2) < (E.2.1 : Int)) (c3 : 0 ≤ js_w (x4 + 3) ∧ js_w (x4 + 3) < (E.2.1 : Int)) (c4 : 0 ≤ js_w (x4 + 4) ∧ js_w (x4 + 4) < (E.2.1 : Int)) : LSq E d n x4 (js_J E d 309 670 [(3, 100), (2, 0), (2, 83), (2, 136), (0, x4), ux5, ux6, ux7] [] τ) := by
  obtain ⟨τ1, τ2, σ2, ρ2, k, w, e1, e2, hk, hL, r2, ew⟩ := law_two2 (E := E) (t := 0) (L := fun w => js_l (js_w w)) (R := LQ E n) (R2 := LQ E (n + 1)) (fun σ ρ σ' ρ' q a b => lq_loc q a b) (fun σ ρ q => lx_past (E := E) (d := d - 1) (e := d - 1) (x1 := ((E.2.2 (js_w (x4 + 1)).toNat).toInt)) (x2 := ((E.2.2 (js_w (x4 + 2)).toNat).toInt)) q (by omega) (ls_r _) (ls_r _) (by omega)) h
  refine ⟨jn σ2 ρ2, (0, k), (0, w), ux7, ?_, lq_jn r2⟩
  have fin : js_J E d 309 735 [(3, 100), (2, 0), (2, 83), (2, 136), (0, x4), (0, k), (0, w), ux7] [] τ2 = js_J E d 309 1032 [(3, 100), (2, 0), (2, 83), (2, 136), (0, x4), (0, k), (0, w), ux7] [] (jn σ2 ρ2) := b_309_735.trans (js_J_wd ew)
  rw [b_309_670, if_pos c1, if_pos c2, k_309_684 (by omega) e1, b_309_687, if_pos c1, if_pos c2, k_309_702 (by omega) e2, b_309_705, k_309_708 (by omega) b_185_0, b_309_711, if_pos hk]
  by_cases q : js_w k = 0
  · rw [if_pos q, if_pos (show js_l (τ2 136 0) = js_l (js_w w) from hL q), fin]
  · rw [if_neg q, fin]
theorem ls_13 (h : LQ E n τ τ) (hn : 0 ≤ n ∧ n ≤ 511) (hd : 1300 ≤ d) (c1 : 0 ≤ js_w (x4 + 1) ∧ js_w (x4 + 1) < (E.2.1 : Int)) (c2 : 0 ≤ js_w (x4 + 2) ∧ js_w (x4 + 2) < (E.2.1 : Int)) (c3 : 0 ≤ js_w (x4 + 3) ∧ js_w (x4 + 3) < (E.2.1 : Int)) (c4 : 0 ≤ js_w (x4 + 4) ∧ js_w (x4 + 4) < (E.2.1 : Int)) : LSq E d n x4 (js_J E d 309 799 [(3, 100), (2, 0), (2, 83), (2, 136), (0, x4), ux5, ux6, ux7] [] τ) := by
  obtain ⟨τ1, τ2, σ2, ρ2, k, w, e1, e2, hk, hL, r2, ew⟩ := law_two2 (E := E) (t := 1) (L := fun w => js_l w) (R := LQ E n) (R2 := LQ E (n + 1)) (fun σ ρ σ' ρ' q a b => lq_loc q a b) (fun σ ρ q => lx_cell (E := E) (d := d - 1) (e := d - 1) (x1 := ((E.2.2 (js_w (x4 + 1)).toNat).toInt)) (x2 := ((E.2.2 (js_w (x4 + 2)).toNat).toInt)) q (ls_r _) (ls_r _) (by omega)) h
  refine ⟨jn σ2 ρ2, (0, k), (1, w), (9, 0), ?_, lq_jn r2⟩
  have fin : js_J E d 309 863 [(3, 100), (2, 0), (2, 83), (2, 136), (0, x4), (0, k), (1, w), (9, 0)] [] τ2 = js_J E d 309 1032 [(3, 100), (2, 0), (2, 83), (2, 136), (0, x4), (0, k), (1, w), (9, 0)] [] (jn σ2 ρ2) := b_309_863.trans (js_J_wd ew)
  rw [b_309_799, if_pos c1, if_pos c2, k_309_813 (by omega) e1, b_309_816, if_pos c1, if_pos c2, k_309_831 (by omega) e2, b_309_834, k_309_837 (by omega) b_185_0, b_309_840, if_pos hk]
  by_cases q : js_w k = 0
  · rw [if_pos q, if_pos (show js_l (τ2 136 0) = js_l w from hL q), fin]
  · rw [if_neg q, fin]
theorem ls_14 (h : LQ E n τ τ) (hn : 0 ≤ n ∧ n ≤ 511) (hd : 1300 ≤ d) (c1 : 0 ≤ js_w (x4 + 1) ∧ js_w (x4 + 1) < (E.2.1 : Int)) (c2 : 0 ≤ js_w (x4 + 2) ∧ js_w (x4 + 2) < (E.2.1 : Int)) (c3 : 0 ≤ js_w (x4 + 3) ∧ js_w (x4 + 3) < (E.2.1 : Int)) (c4 : 0 ≤ js_w (x4 + 4) ∧ js_w (x4 + 4) < (E.2.1 : Int)) : LSq E d n x4 (js_J E d 309 866 [(3, 100), (2, 0), (2, 83), (2, 136), (0, x4), ux5, ux6, ux7] [] τ) := by
  obtain ⟨τ1, τ2, σ2, ρ2, k, w, e1, e2, hk, hL, r2, ew⟩ := law_two2 (E := E) (t := 1) (L := fun w => js_l w) (R := LQ E n) (R2 := LQ E (n + 1)) (fun σ ρ σ' ρ' q a b => lq_loc q a b) (fun σ ρ q => lx_register (E := E) (d := d - 1) (e := d - 1) (x1 := ((E.2.2 (js_w (x4 + 1)).toNat).toInt)) (x2 := ((E.2.2 (js_w (x4 + 2)).toNat).toInt)) q (ls_r _) (ls_r _) (by omega)) h
  refine ⟨jn σ2 ρ2, (0, k), (1, w), (9, 0), ?_, lq_jn r2⟩
  have fin : js_J E d 309 930 [(3, 100), (2, 0), (2, 83), (2, 136), (0, x4), (0, k), (1, w), (9, 0)] [] τ2 = js_J E d 309 1032 [(3, 100), (2, 0), (2, 83), (2, 136), (0, x4), (0, k), (1, w), (9, 0)] [] (jn σ2 ρ2) := b_309_930.trans (js_J_wd ew)
  rw [b_309_866, if_pos c1, if_pos c2, k_309_880 (by omega) e1, b_309_883, if_pos c1, if_pos c2, k_309_898 (by omega) e2, b_309_901, k_309_904 (by omega) b_185_0, b_309_907, if_pos hk]
  by_cases q : js_w k = 0
  · rw [if_pos q, if_pos (show js_l (τ2 136 0) = js_l w from hL q), fin]
  · rw [if_neg q, fin]
theorem law_step (h : LQ E n τ τ) (hn : 0 ≤ n ∧ n ≤ 511) (hx : 0 ≤ x4 ∧ x4 + 5 ≤ (E.2.1 : Int)) (hL : E.2.1 ≤ 2561) (hd : 1300 ≤ d) : ∃ (τ' : js_S) (u5 u6 u7 : js_v), js_J E d 309 33 [(3, 100), (2, 0), (2, 83), (2, 136), (0, x4), ux5, ux6, ux7] [] τ = js_J E d 309 33 [(3, 100), (2, 0), (2, 83), (2, 136), (0, x4 + 5), u5, u6, u7] [] τ' ∧ LQ E (n + 1) τ' τ' := by
  have w0 : js_w x4 = x4 := js_w_of (by omega) (by omega)
  have wl : js_w ((E.2.1 : Int) - 5) = (E.2.1 : Int) - 5 := js_w_of (by omega) (by omega)
  have c1 : 0 ≤ js_w (x4 + 1) ∧ js_w (x4 + 1) < (E.2.1 : Int) := by rw [js_w_of (x := x4 + 1) (by omega) (by omega)]; omega
  have c2 : 0 ≤ js_w (x4 + 2) ∧ js_w (x4 + 2) < (E.2.1 : Int) := by rw [js_w_of (x := x4 + 2) (by omega) (by omega)]; omega
  have c3 : 0 ≤ js_w (x4 + 3) ∧ js_w (x4 + 3) < (E.2.1 : Int) := by rw [js_w_of (x := x4 + 3) (by omega) (by omega)]; omega
  have c4 : 0 ≤ js_w (x4 + 4) ∧ js_w (x4 + 4) < (E.2.1 : Int) := by rw [js_w_of (x := x4 + 4) (by omega) (by omega)]; omega
  have go : LSq E d n x4 (js_J E d 309 49 [(3, 100), (2, 0), (2, 83), (2, 136), (0, x4), ux5, ux6, ux7] [(0, js_iand ((E.2.2 (js_w x4).toNat).toInt) 31)] τ) := by
    generalize js_iand ((E.2.2 (js_w x4).toNat).toInt) 31 = z0
    by_cases q0 : js_w z0 = 0
    · rw [s_309_49_0 q0]
      exact ls_0 h hn hd c1 c2 c3 c4
    by_cases q1 : js_w z0 = 1
    · rw [s_309_49_1 q1]
      exact ls_1 h hn hd c1 c2 c3 c4
    by_cases q2 : js_w z0 = 2
    · rw [s_309_49_2 q2]
      exact ls_2 h hn hd c1 c2 c3 c4
    by_cases q3 : js_w z0 = 3
    · rw [s_309_49_3 q3]
      exact ls_3 h hn hd c1 c2 c3 c4
    by_cases q4 : js_w z0 = 4
    · rw [s_309_49_4 q4]
      exact ls_4 h hn hd c1 c2 c3 c4
    by_cases q5 : js_w z0 = 5
    · rw [s_309_49_5 q5]
      exact ls_5 h hn hd c1 c2 c3 c4
    by_cases q6 : js_w z0 = 6
    · rw [s_309_49_6 q6]
      exact ls_6 h hn hd c1 c2 c3 c4
    by_cases q7 : js_w z0 = 7
    · rw [s_309_49_7 q7]
      exact ls_7 h hn hd c1 c2 c3 c4
    by_cases q8 : js_w z0 = 8
    · rw [s_309_49_8 q8]
      exact ls_8 h hn hd c1 c2 c3 c4
    by_cases q9 : js_w z0 = 9
    · rw [s_309_49_9 q9]
      exact ls_9 h hn hd c1 c2 c3 c4
    by_cases q10 : js_w z0 = 10
    · rw [s_309_49_10 q10]
      exact ls_10 h hn hd c1 c2 c3 c4
    by_cases q11 : js_w z0 = 11
    · rw [s_309_49_11 q11]
      exact ls_11 h hn hd c1 c2 c3 c4
    by_cases q12 : js_w z0 = 12
    · rw [s_309_49_12 q12]
      exact ls_12 h hn hd c1 c2 c3 c4
    by_cases q13 : js_w z0 = 13
    · rw [s_309_49_13 q13]
      exact ls_13 h hn hd c1 c2 c3 c4
    by_cases q14 : js_w z0 = 14
    · rw [s_309_49_14 q14]
      exact ls_14 h hn hd c1 c2 c3 c4
    by_cases q15 : js_w z0 = 15
    · rw [s_309_49_15 q15]
      exact ls_15 h hn hd c1 c2 c3 c4
    by_cases q16 : js_w z0 = 16
    · rw [s_309_49_16 q16]
      exact ls_16 h hn hd c1 c2 c3 c4
    by_cases q17 : js_w z0 = 17
    · rw [s_309_49_17 q17]
      exact ls_17 h hn hd c1 c2 c3 c4
    · rw [s_309_49_d (by omega)]
      exact ⟨τ, ux5, ux6, ux7, rfl, lq_mv h (by omega) (fun _ _ _ _ _ _ => rfl) ⟨Int.le_refl _, by omega⟩ ⟨Int.le_refl _, by omega⟩ (fun _ _ => rfl) (fun _ _ _ _ => rfl)⟩
  obtain ⟨τ', u5, u6, u7, e1, q⟩ := go
  exact ⟨τ', u5, u6, u7, by rw [b_309_33, wl, if_neg (show ¬ (E.2.1 : Int) - 5 < js_w x4 by rw [w0]; omega), if_pos (show 0 ≤ js_w x4 ∧ js_w x4 < (E.2.1 : Int) by rw [w0]; omega), e1, b_309_1032], q⟩
/-- the law's loop: it answers 1 -/
theorem law_loop (hL : E.2.1 ≤ 2561) (hd : 1300 ≤ d) : ∀ (g : Nat) (n : Int) (τ : js_S) (u5 u6 u7 : js_v), 0 ≤ n → n ≤ 512 → (E.2.1 : Int) ≤ 5 + 5 * n + 5 * (g : Int) → LQ E n τ τ → ∃ (τ' : js_S) (m : Int), m ≤ 512 ∧ js_J E d 309 33 [(3, 100), (2, 0), (2, 83), (2, 136), (0, 1 + 5 * n), u5, u6, u7] [] τ = js_r E (0, 1) τ' ∧ LQ E m τ' τ' := by
  have wl : js_w ((E.2.1 : Int) - 5) = (E.2.1 : Int) - 5 := js_w_of (by omega) (by omega)
  intro g
  induction g with
  | zero =>
    intro n τ u5 u6 u7 n0 n5 hg h
    refine ⟨τ, n, n5, ?_, h⟩
    rw [b_309_33, wl, js_w_of (x := 1 + 5 * n) (by omega) (by omega), if_pos (by omega)]
  | succ g ih =>
    intro n τ u5 u6 u7 n0 n5 hg h
    by_cases q : (E.2.1 : Int) - 5 < 1 + 5 * n
    · refine ⟨τ, n, n5, ?_, h⟩
      rw [b_309_33, wl, js_w_of (x := 1 + 5 * n) (by omega) (by omega), if_pos q]
    · obtain ⟨τ1, v5, v6, v7, e1, h1⟩ := law_step (E := E) (d := d) (x4 := 1 + 5 * n) (ux5 := u5) (ux6 := u6) (ux7 := u7) h (by omega) (by omega) hL hd
      obtain ⟨τ', m, hm, e2, h2⟩ := ih (n + 1) τ1 v5 v6 v7 (by omega) (by omega) (by push_cast at hg; omega) h1
      rw [show 1 + 5 * (n + 1) = 1 + 5 * n + 5 by omega] at e2
      exact ⟨τ', m, hm, by rw [e1, e2], h2⟩
theorem sy_c_le (f : Int → Int) : ∀ k : Nat, 0 ≤ sy_c f k ∧ sy_c f k ≤ k
  | 0 => ⟨Int.le_refl 0, Int.le_refl 0⟩
  | k + 1 => by
    have i := sy_c_le f k
    show 0 ≤ sy_c f k + (if 0 ≤ f k then 1 else 0) ∧ sy_c f k + (if 0 ≤ f k then 1 else 0) ≤ ((k + 1 : Nat) : Int)
    push_cast
    split <;> omega
theorem lq_room {m : Int} (h : LQ E m τ τ) (hm : m ≤ 512) : (τ (-1) 0).toNat ≤ 601024 ∧ (τ (-1) 1).toNat ≤ 7293000 := by
  obtain ⟨_, ⟨_, _, _, g6, g7⟩, _⟩ := h
  have a := sy_c_le (τ 19) 400
  have b := sy_c_le (τ 44) 400
  omega
end LSs
