/-! part 16: ip_OK of the claim's tables -/
theorem vt_lO : vt_oc.length = 310 := by decide +kernel
theorem vt_lJ : vt_ji.length = 310 := by decide +kernel
theorem vt_lP : vt_pr.length = 310 := by decide +kernel
theorem vt_lC : vt_cl.length = 19 := by decide +kernel
theorem vt_d {α : Type} {l : List α} {d : α} {y n : Nat} (hl : l.length = n) (h : n ≤ y) : l.getD y d = d := by
  rw [List.getD_eq_getElem?_getD, List.getElem?_eq_none (by omega)]
  rfl
theorem vt_O_of {y : Nat} (hy : y < 310) : vt_O y < 21 ∧ (vt_N y).cls = vt_c (vt_O y) := by
  have h := List.all_eq_true.mp vt_kO y (List.mem_range.mpr hy)
  simp only [Bool.and_eq_true, decide_eq_true_eq, beq_iff_eq] at h
  exact h
theorem vt_O_big {y : Nat} (hy : ¬ y < 310) : vt_O y = 99 := vt_d vt_lO (by omega)
theorem vt_ow {α : Type} {L : List (List (Nat × α))} (hL : L.length = 21) {y k : Nat} {v : α} (h : ip_lk (L.getD (vt_O y) []) k = some v) : vt_O y < 21 ∧ y < 310 ∧ (vt_N y).cls = vt_c (vt_O y) ∧ (k, v) ∈ L.getD (vt_O y) [] := by
  by_cases hy : y < 310
  · obtain ⟨h1, h2⟩ := vt_O_of hy
    exact ⟨h1, hy, h2, ip_lk_mem _ _ _ h⟩
  · rw [vt_O_big hy, vt_d hL (by omega)] at h
    simp [ip_lk] at h
theorem vt_ctc {ci : Nat} (h : ci < 19) : vt_cl[ci]? = some (vt_ct ci) := by
  have hl : ci < vt_cl.length := by rw [vt_lC]; exact h
  unfold vt_ct
  rw [List.getD_eq_getElem?_getD, List.getElem?_eq_getElem hl]
  rfl
theorem vt_ctd {ci : Nat} {r : vw_C} (h : vt_cl[ci]? = some r) : vt_ct ci = r := by
  unfold vt_ct
  rw [List.getD_eq_getElem?_getD, h]
  rfl
section VTK
variable {P : Nat → List Value → ip_W → Option (Option Value × ip_W)} {Ro : Nat → Option (Nat × Nat × (Nat → Int32))} {X : List Cond}
theorem vt_ok2 (y pc : Nat) (i : Instr) (n : Nat) (h : tI (vt_tb P Ro) y pc = some (i, n)) : decode (vt_B y) pc = .ok (i, n) ∧ (n = ip_ln i ∨ ip_sw i = true) := by
  have hm : (pc, (i, n)) ∈ (vt_pr.getD y (⟨#[]⟩, [])).2 := ip_lk_mem _ _ _ h
  have hc : vt_chk (vt_pr.getD y (⟨#[]⟩, [])) = true := vt_getD (P := fun q => vt_chk q = true) vt_all rfl y
  have h1 := List.all_eq_true.mp hc _ hm
  dsimp only at h1
  unfold vt_B
  split at h1
  · rename_i x hx
    simp only [Bool.and_eq_true, decide_eq_true_eq, Bool.or_eq_true, beq_iff_eq] at h1
    rw [hx, h1.1]
    exact ⟨rfl, h1.2⟩
  · cases h1
theorem vt_ok3 (y k ci j : Nat) (h : tF (vt_tb P Ro) y k = some (ci, j)) : ∃ (C : String) (T : u_T) (N : Nat), vt_cl[ci]? = some (C, T, N) ∧ j < N ∧ Cond.fieldLink (vt_N y).cls k (T j).1 (T j).2.1 (T j).2.2.1 ∈ vt_Ts X := by
  obtain ⟨ho, hy, hcls, hm⟩ := vt_ow (L := vt_FL) (by decide +kernel) h
  have h1 := List.all_eq_true.mp (List.all_eq_true.mp vt_kF _ (List.mem_range.mpr ho)) _ hm
  simp only [Bool.and_eq_true, decide_eq_true_eq] at h1
  refine ⟨(vt_ct ci).1, (vt_ct ci).2.1, (vt_ct ci).2.2, vt_ctc h1.1, h1.2, vt_iF ?_⟩
  rw [hcls]
  exact List.mem_flatMap.mpr ⟨vt_O y, List.mem_range.mpr ho, List.mem_map.mpr ⟨(k, (ci, j)), hm, rfl⟩⟩
theorem vt_ok4 (ci : Nat) (C : String) (T : u_T) (N : Nat) (h : vt_cl[ci]? = some (C, T, N)) : ip_Fok (vt_Ts X) C T N := by
  have hm : (C, T, N) ∈ vt_cl := List.mem_of_getElem? h
  have h1 := List.all_eq_true.mp vt_kC _ hm
  unfold vt_cchk at h1
  rw [Bool.and_eq_true] at h1
  refine ⟨fun w hw => vt_iU (List.mem_flatMap.mpr ⟨(C, T, N), hm, hw⟩), fun a ha b hb hab => ?_, fun k => (parseFieldDescriptor (T k).2.2.1).getD .int, fun k hk => ?_⟩
  · have h2 := List.all_eq_true.mp (List.all_eq_true.mp h1.1 a (List.mem_range.mpr ha)) b (List.mem_range.mpr hb)
    simp only [Bool.or_eq_true, beq_iff_eq, bne_iff_ne] at h2
    exact h2.resolve_left hab
  · have h2 := List.all_eq_true.mp h1.2 k (List.mem_range.mpr hk)
    cases hp : parseFieldDescriptor (T k).2.2.1 with
    | none => rw [hp] at h2; cases h2
    | some ty => simp [hp]
theorem vt_ok5 (ci j tc : Nat) (fin : Bool) (C : String) (T : u_T) (N : Nat) (h : tFt (vt_tb P Ro) ci j = some (tc, fin)) (hc : vt_cl[ci]? = some (C, T, N)) (hj : j < N) : (T j).2.2.2 = fin ∧ ∃ ty, parseFieldDescriptor (T j).2.2.1 = some ty ∧ ip_ty tc ty := by
  have h : vt_Ft ci j = some (tc, fin) := h
  unfold vt_Ft at h
  rw [hc] at h
  dsimp only at h
  rw [if_pos hj] at h
  split at h
  · rename_i hp
    cases h
    exact ⟨rfl, _, hp, Or.inl ⟨rfl, rfl⟩⟩
  · rename_i hp
    cases h
    exact ⟨rfl, _, hp, Or.inr (Or.inl ⟨rfl, rfl⟩)⟩
  · rename_i hp
    cases h
    exact ⟨rfl, _, hp, Or.inr (Or.inr (Or.inl ⟨rfl, rfl⟩))⟩
  · rename_i hp
    cases h
    exact ⟨rfl, _, hp, Or.inr (Or.inr (Or.inr ⟨rfl, Or.inl ⟨_, rfl⟩⟩))⟩
  · rename_i hp
    cases h
    exact ⟨rfl, _, hp, Or.inr (Or.inr (Or.inr ⟨rfl, Or.inr ⟨_, rfl⟩⟩))⟩
  · cases h
theorem vt_ok6 (y ci : Nat) (C : String) (T : u_T) (N : Nat) (h : tJ (vt_tb P Ro) y = some ci) (hc : vt_cl[ci]? = some (C, T, N)) : (vt_N y).name = "<init>" ∧ ∀ j, j < N → (T j).1 = (vt_N y).cls := by
  have h : vt_ji.getD y none = some ci := h
  by_cases hy : y < 310
  · have h1 := List.all_eq_true.mp vt_kJ y (List.mem_range.mpr hy)
    rw [h] at h1
    simp only [Bool.and_eq_true, beq_iff_eq, decide_eq_true_eq] at h1
    obtain ⟨⟨h1a, h1b⟩, h13⟩ := h1
    obtain ⟨ho, hcls⟩ := vt_O_of hy
    refine ⟨h1a, fun j hj => ?_⟩
    have hct := vt_ctd hc
    have h2 := List.all_eq_true.mp (List.all_eq_true.mp vt_kJ2 (vt_O y) (List.mem_range.mpr (by rw [← h1b]; exact h13))) j (by rw [← h1b, hct]; exact List.mem_range.mpr hj)
    rw [← h1b, hct] at h2
    simp only [beq_iff_eq] at h2
    rw [hcls, ← h1b]
    exact h2
  · rw [vt_d vt_lJ (by omega)] at h
    cases h
theorem vt_ok7 (y k : Nat) (v : Value) (h : tC (vt_tb P Ro) y k = some v) : ip_Cok (vt_Ts X) (vt_N y).cls k v := by
  obtain ⟨ho, hy, hcls, hm⟩ := vt_ow (L := vt_CL) (by decide +kernel) h
  have h1 := List.all_eq_true.mp (List.all_eq_true.mp vt_kV _ (List.mem_range.mpr ho)) _ hm
  have hw : ∀ x ∈ vt_wv (vt_O y) (k, v), x ∈ vt_Ts X := fun x hx => vt_iV (List.mem_flatMap.mpr ⟨vt_O y, List.mem_range.mpr ho, List.mem_flatMap.mpr ⟨(k, v), hm, hx⟩⟩)
  rw [hcls]
  cases v with
  | int x => exact Or.inl ⟨x, rfl, hw _ List.mem_cons_self⟩
  | long x => exact Or.inr (Or.inl ⟨x, rfl, hw _ List.mem_cons_self⟩)
  | retAddr j => exact Or.inr (Or.inr ⟨j, rfl⟩)
  | _ => cases h1
theorem vt_lm {y pc : Nat} {i : Instr} {n : Nat} (h : tI (vt_tb P Ro) y pc = some (i, n)) : y < 310 ∧ vt_lchk y = true ∧ (pc, (i, n)) ∈ (vt_pr.getD y (⟨#[]⟩, [])).2 := by
  have hm : (pc, (i, n)) ∈ (vt_pr.getD y (⟨#[]⟩, [])).2 := ip_lk_mem _ _ _ h
  by_cases hy : y < 310
  · exact ⟨hy, List.all_eq_true.mp vt_kL y (List.mem_range.mpr hy), hm⟩
  · rw [vt_d vt_lP (by omega)] at hm
    cases hm
theorem vt_ok8 (y pc k n : Nat) (h : tI (vt_tb P Ro) y pc = some (.ldc k, n) ∨ tI (vt_tb P Ro) y pc = some (.ldc_w k, n)) (x : Int64) : tC (vt_tb P Ro) y k ≠ some (.long x) := by
  intro hx
  have hx : ip_lk (vt_CL.getD (vt_O y) []) k = some (.long x) := hx
  rcases h with h | h
  all_goals
    obtain ⟨hy, hc, hm⟩ := vt_lm h
    have h1 := List.all_eq_true.mp hc _ hm
    dsimp only at h1
    rw [hx] at h1
    cases h1
theorem vt_ok9 (y pc k n : Nat) (h : tI (vt_tb P Ro) y pc = some (.ldc2_w k, n)) : ∃ x, tC (vt_tb P Ro) y k = some (.long x) ∧ Cond.constantLong (vt_N y).cls k x ∈ vt_Ts X := by
  obtain ⟨hy, hc, hm⟩ := vt_lm h
  have h1 := List.all_eq_true.mp hc _ hm
  dsimp only at h1
  split at h1
  · rename_i x hx
    have hx : tC (vt_tb P Ro) y k = some (.long x) := hx
    refine ⟨x, hx, ?_⟩
    rcases vt_ok7 (X := X) y k _ hx with ⟨z, hz, -⟩ | ⟨z, hz, hw⟩ | ⟨j, hz⟩
    · cases hz
    · cases hz
      exact hw
    · cases hz
  · cases h1
theorem vt_ok12 (y pc k n : Nat) (h : tI (vt_tb P Ro) y pc = some (.anewarray k, n)) : Cond.classLink (vt_N y).cls k "VitalTwin$Symbol" ∈ vt_Ts X := by
  obtain ⟨hy, hc, hm⟩ := vt_lm h
  have h1 := List.all_eq_true.mp hc _ hm
  dsimp only at h1
  have h2 : (vt_O y, k) ∈ vt_AN := List.contains_iff_mem.mp h1
  rw [(vt_O_of hy).2]
  exact vt_iA (List.mem_append_right _ (List.mem_map.mpr ⟨(vt_O y, k), h2, rfl⟩))
theorem vt_ok10 (b : Nat) (sc : Nat → Nat) (y k ci : Nat) (fs : List Value) (h : tN (vt_tb P Ro) y k = some (ci, fs)) : ∃ (C : String) (T : u_T) (N : Nat) (ty : Nat → FieldType), vt_cl[ci]? = some (C, T, N) ∧ Cond.classLink (vt_N y).cls k C ∈ vt_Ts X ∧ Cond.instantiable C N ∈ vt_Ts X ∧ Cond.initialized C ∈ vt_Ts X ∧ N = fs.length ∧ (∀ k, k < N → parseFieldDescriptor (T k).2.2.1 = some (ty k)) ∧ ∀ j, j < N → defaultValue (ty j) = vp_V (fs.map (ip_v b sc)) j := by
  obtain ⟨ho, hy, hcls, hm⟩ := vt_ow (L := vt_NL) (by decide +kernel) h
  have h1 := List.all_eq_true.mp (List.all_eq_true.mp vt_kN _ (List.mem_range.mpr ho)) _ hm
  unfold vt_nchk at h1
  simp only [Bool.and_eq_true, decide_eq_true_eq, beq_iff_eq] at h1
  obtain ⟨⟨⟨h2, h3⟩, h4⟩, h5⟩ := h1
  have hw : ∀ x ∈ ([.classLink (vt_c (vt_O y)) k (vt_ct ci).1, .instantiable (vt_ct ci).1 (vt_ct ci).2.2, .initialized (vt_ct ci).1] : List Cond), x ∈ vt_Ts X := fun x hx => vt_iN (List.mem_flatMap.mpr ⟨vt_O y, List.mem_range.mpr ho, List.mem_flatMap.mpr ⟨(k, (ci, fs)), hm, hx⟩⟩)
  have hmap : fs.map (ip_v b sc) = fs := by
    have h7 : fs.map (ip_v b sc) = fs.map id := List.map_congr_left (fun v hv => by
      have h6 := List.all_eq_true.mp h4 v hv
      cases v <;> first | rfl | cases h6)
    rw [h7, List.map_id]
  have hcl := vt_ctc h2
  obtain ⟨-, -, ty0, hty0⟩ := vt_ok4 (X := X) ci (vt_ct ci).1 (vt_ct ci).2.1 (vt_ct ci).2.2 hcl
  refine ⟨(vt_ct ci).1, (vt_ct ci).2.1, (vt_ct ci).2.2, fun k => (parseFieldDescriptor ((vt_ct ci).2.1 k).2.2.1).getD .int, hcl, by rw [hcls]; exact hw _ List.mem_cons_self, hw _ (List.mem_cons_of_mem _ List.mem_cons_self), hw _ (List.mem_cons_of_mem _ (List.mem_cons_of_mem _ List.mem_cons_self)), h3.symm, fun k hk => by simp [hty0 k hk], fun j hj => ?_⟩
  rw [hmap]
  have h6 := List.all_eq_true.mp h5 j (List.mem_range.mpr (by rw [h3]; exact hj))
  simpa using h6
theorem vt_zok {z n : Nat} (h : vt_zchk z n = true) : ip_Zok (vt_tb P Ro) (vt_Ts X) vt_N vt_B vt_R z n := by
  unfold vt_zchk at h
  simp only [Bool.and_eq_true, decide_eq_true_eq] at h
  obtain ⟨⟨⟨⟨⟨h1, h2⟩, h3⟩, h4⟩, h5⟩, h6⟩ := h
  refine ⟨?_, h2, h3, h4, h5, ?_⟩
  · have hw : vt_wk z ∈ vt_Ts X := vt_iK (List.mem_map.mpr ⟨z, List.mem_range.mpr h1, rfl⟩)
    unfold vt_wk at hw
    split at hw
    · rename_i he
      exact Or.inl ⟨he, hw⟩
    · exact Or.inr hw
  show ip_rc (vt_rc.getD z 0) (vt_R z)
  split at h6
  all_goals rename_i hR
  · exact Or.inl ⟨by simpa using h6, hR⟩
  · exact Or.inr (Or.inl ⟨by simpa using h6, hR⟩)
  · exact Or.inr (Or.inr (Or.inl ⟨by simpa using h6, hR⟩))
  · exact Or.inr (Or.inr (Or.inr (Or.inl ⟨by simpa using h6, hR⟩)))
  · exact Or.inr (Or.inr (Or.inr (Or.inr ⟨by simpa using h6, _, hR, Or.inl ⟨_, rfl⟩⟩)))
  · exact Or.inr (Or.inr (Or.inr (Or.inr ⟨by simpa using h6, _, hR, Or.inr ⟨_, rfl⟩⟩)))
  · cases h6
theorem vt_ok15 (y k z n kc ci : Nat) (h : tM (vt_tb P Ro) y k = some (z, n, kc, ci)) : ip_Mok (vt_tb P Ro) (vt_Ts X) vt_cl vt_N vt_B vt_R y k z n kc ci := by
  obtain ⟨ho, hy, hcls, hm⟩ := vt_ow (L := vt_ML) (by decide +kernel) h
  have h1 := List.all_eq_true.mp (List.all_eq_true.mp vt_kM _ (List.mem_range.mpr ho)) _ hm
  unfold vt_mchk at h1
  dsimp only at h1
  have hw : ∀ x ∈ vt_wc (vt_O y) (k, (z, n, kc, ci)), x ∈ vt_Ts X := fun x hx => vt_iM (List.mem_flatMap.mpr ⟨vt_O y, List.mem_range.mpr ho, List.mem_flatMap.mpr ⟨_, hm, hx⟩⟩)
  unfold vt_wc at hw
  dsimp only at hw
  refine ⟨fun hk => ?_, fun hk => ?_, fun hk => ?_, fun hk => ?_⟩
  · subst hk
    rw [if_pos (by decide)] at h1
    simp only [Bool.and_eq_true] at h1
    rw [if_pos rfl] at hw
    rw [hcls]
    exact ⟨vt_zok h1.1.1, hw _ List.mem_cons_self, hw _ (List.mem_cons_of_mem _ List.mem_cons_self), hw _ (List.mem_cons_of_mem _ (List.mem_cons_of_mem _ List.mem_cons_self))⟩
  · subst hk
    rw [if_pos (by decide)] at h1
    simp only [Bool.and_eq_true] at h1
    have h2 : ci < 19 := by simpa using h1.1.2
    rw [if_neg (by decide), if_pos rfl] at hw
    rw [hcls]
    exact ⟨vt_zok h1.1.1, hw _ List.mem_cons_self, hw _ (List.mem_cons_of_mem _ List.mem_cons_self), vt_ct ci, vt_ctc h2, hw _ (List.mem_cons_of_mem _ (List.mem_cons_of_mem _ List.mem_cons_self))⟩
  · subst hk
    rw [if_pos (by decide)] at h1
    simp only [Bool.and_eq_true] at h1
    have h2 : ((vt_N z).name = "<init>" ∧ vt_R z = none) ∧ vt_hl.getD z [] = [] := by simpa using h1.2
    rw [if_neg (by decide), if_neg (by decide), if_pos rfl] at hw
    rw [hcls]
    refine ⟨vt_zok h1.1.1, ?_, hw _ (List.mem_cons_of_mem _ List.mem_cons_self), h2.1.1, h2.1.2, ?_⟩
    case refine_2 =>
      have hlt : z < 309 := by
        have h8 := h1.1.1
        unfold vt_zchk at h8
        simp only [Bool.and_eq_true, decide_eq_true_eq] at h8
        exact h8.1.1.1.1.1
      have hw2 : vt_wk z ∈ vt_Ts X := vt_iK (List.mem_map.mpr ⟨z, List.mem_range.mpr hlt, rfl⟩)
      unfold vt_wk at hw2
      rw [if_pos (by rw [h2.2]; rfl)] at hw2
      exact hw2
    have h3 := hw _ List.mem_cons_self
    unfold vt_ln at h3
    split at h3
    · exact Or.inr ⟨_, h3⟩
    · exact Or.inl h3
  · subst hk
    rw [if_neg (by decide), if_neg (by decide), if_neg (by decide), if_pos rfl] at hw
    rw [hcls]
    exact ⟨hw _ List.mem_cons_self, hw _ (List.mem_cons_of_mem _ List.mem_cons_self), hw _ (List.mem_cons_of_mem _ (List.mem_cons_of_mem _ List.mem_cons_self))⟩
/-- THE TABLES ARE RIGHT -/
theorem vt_OK (hX : ∀ w ∈ X, ip_gw w = true) (b : Nat) (sc : Nat → Nat) : ip_OK (vt_tb P Ro) (vt_Ts X) vt_cl b sc vt_N vt_B vt_R :=
  ⟨vt_good hX, vt_ok2, vt_ok3, vt_ok4, vt_ok5, vt_ok6, vt_ok7, vt_ok8, vt_ok9, vt_ok10 b sc,
    ⟨vt_iA (by decide +kernel), vt_iA (by decide +kernel), vt_iA (by decide +kernel), vt_iA (by decide +kernel)⟩, vt_ok12, vt_iA (by decide +kernel), ⟨vt_ct 11, vt_ctc (by decide), rfl⟩, vt_ok15⟩
end VTK
