/-! part 23: from the law's entry to the pure run (numbers printed by wip/whole/tools/gen22.py) -/
theorem ip_gw_any {w : Cond} (h : ip_gw w = true) {s : State} {A : Array Value} (hs : w.before A s = true) : ∀ a : Array Value, w.before a s = true := by
  intro a
  unfold ip_gw at h
  split at h
  · exact va_tabs rfl rfl hs
  · exact va_AO.use (va_AO.of hs)
  · exact va_tabs rfl rfl hs
  · exact va_tabs rfl rfl hs
  · exact word_at (U := s) (State.WarmedH.refl s) (good_of_word h) hs
def vt_fl : List Cond := flatC (Jvm.Cond.and given_1 narrow_1)
def vt_tm (i : Nat) : Term := .string (vt_sD i).1 (vt_sD i).2.1
def vt_tv (i : Nat) : Term := .field (vt_tm i) "java/lang/String" "value" "[B"
def vt_el (i j : Nat) : Cond := .eq (.elem (vt_tv i) (.int (Int32.ofNat j))) (.int ((vt_sby.getD i []).getD j 0))
def vt_nd (i : Nat) : List Cond := [.exactly (vt_tm i) "java/lang/String", .eq (.field (vt_tm i) "java/lang/String" "coder" "B") (.int 0), .arrayOf (vt_tv i) .byte, .eq (.length (vt_tv i)) (.int (Int32.ofNat (vt_sll.getD i 0)))] ++ (List.range (vt_sll.getD i 0)).map (vt_el i)
def vt_ps : List Nat := [166, 56, 190, 219, 412, 447, 476, 496, 526, 566, 599]
theorem vt_nk : (List.range 11).all (fun i => decide ((vt_fl.drop (vt_ps.getD i 0)).take (vt_nd i).length = vt_nd i)) = true := by decide +kernel
def vt_isne (w : Cond) : Bool := match w with
  | .not (.eq _ _) => true
  | _ => false
def vt_fn : List Cond := vt_fl.filter vt_isne
theorem vt_nek : (List.range 11).all (fun i => (List.range 11).all (fun j => decide (i = j) || (vt_fn.contains (.not (.eq (vt_tm i) (vt_tm j))) || vt_fn.contains (.not (.eq (vt_tm j) (vt_tm i)))))) = true := by decide +kernel
theorem vt_srk : (List.range 11).all (fun i => decide (Cond.stringRef (vt_sD i).1 (vt_sD i).2.1 (vt_sD i).2.2 ∈ tables_1)) = true := by decide +kernel
theorem vt_slk : (List.range 11).all (fun i => decide (vt_sll.getD i 0 < 2 ^ 31)) = true := by decide +kernel
theorem vt_mk : decide ((Cond.isRef (.static Bundle.tN "UNASSIGNED_STACK" Bundle.steD)) ∈ vt_fl ∧ (Cond.isRef (.static Bundle.tN "SUPPRESSED_SENTINEL" Bundle.listD)) ∈ vt_fl ∧ (Cond.not (.castable "java/lang/IllegalStateException" "java/lang/IllegalArgumentException")) ∈ vt_fl) = true := by decide +kernel
theorem vt_tk3 : decide ((Cond.laysStatic Bundle.tN "UNASSIGNED_STACK" Bundle.steD) ∈ tables_1 ∧ (Cond.laysStatic Bundle.tN "SUPPRESSED_SENTINEL" Bundle.listD) ∈ tables_1 ∧ (Cond.initialized Bundle.tN) ∈ tables_1) = true := by decide +kernel
theorem vt_mk2 : decide ((Cond.eq (.static "java/lang/String" "COMPACT_STRINGS" "Z") (.int 1)) ∈ vt_fl ∧ (Cond.isRef (.static "jdk/internal/util/Preconditions" "SIOOBE_FORMATTER" "Ljava/util/function/BiFunction;")) ∈ vt_fl) = true := by decide +kernel
theorem vt_tk4 : decide ((Cond.laysStatic "java/lang/String" "COMPACT_STRINGS" "Z") ∈ tables_1 ∧ (Cond.initialized "java/lang/String") ∈ tables_1 ∧ (Cond.laysStatic "jdk/internal/util/Preconditions" "SIOOBE_FORMATTER" "Ljava/util/function/BiFunction;") ∈ tables_1 ∧ (Cond.initialized "jdk/internal/util/Preconditions") ∈ tables_1) = true := by decide +kernel
theorem vt_ik : (List.range 19).all (fun ci => vt_wN.contains (.instantiable (vt_ct ci).1 (if ci < 16 then (vt_ct ci).2.2 else 6))) = true := by decide +kernel
section VTS
variable {p : Program} {e : Env} {s : State} {m : MethodId} {below : List Frame} {meth : Method} {c : Code} {bs L : Nat} {xs : Nat → Int32}
theorem vt_known (hts : ip_TK vt_W s) : ∃ (D : va_G) (aC : Nat → ClassId), va_K D vt_cl (ip_T aC) s := by
  have h0 : ∀ ci : Nat, ∃ q : ClassId × (Nat → Nat), ∀ r : vw_C, vt_cl[ci]? = some r → u_Kn s r.1 r.2.1 r.2.2 q.1 q.2 := by
    intro ci
    by_cases hci : ci < 19
    · have hr := vt_ctc hci
      have h1 := List.all_eq_true.mp vt_ik ci (List.mem_range.mpr hci)
      have hi := hts _ (vt_iN (List.contains_iff_mem.mp h1)) #[]
      obtain ⟨cC, iS, hK⟩ := u_known (C := (vt_ct ci).1) (T := (vt_ct ci).2.1) (N := (vt_ct ci).2.2) (fun w hw => hts w hw #[]) (fun w hw => vt_iU (List.mem_flatMap.mpr ⟨_, List.mem_of_getElem? hr, hw⟩)) hi
      refine ⟨(cC, iS), fun r h => ?_⟩
      cases hr.symm.trans h
      exact hK
    · refine ⟨(0, fun _ => 0), fun r h => ?_⟩
      rw [List.getElem?_eq_none (by rw [vt_lC]; omega)] at h
      cases h
  obtain ⟨F, hF⟩ := Classical.axiomOfChoice h0
  have hA : ∀ ty : FieldType, Cond.arrayClass ty ∈ vt_W → ∃ cA : ClassId, ArrOfT s cA ty ∧ s.vm.findClass ("[" ++ ty.toString) = some cA := by
    intro ty h
    obtain ⟨c, k, comp, h1, h2, h3⟩ := Cond.arrayClass_spec (hts _ h #[])
    exact ⟨c, fun n z => ⟨fun k h => (by cases h), k, h2, comp, h3⟩, h1⟩
  obtain ⟨c0, g0, k0⟩ := hA .int (vt_iA (by decide +kernel))
  obtain ⟨c1, g1, k1⟩ := hA .byte (vt_iA (by decide +kernel))
  obtain ⟨c2, g2, k2⟩ := hA .long (vt_iA (by decide +kernel))
  obtain ⟨c3, g3, k3⟩ := hA .boolean (vt_iA (by decide +kernel))
  obtain ⟨comp, c4, k4, q1, q2, q3, q4, q5⟩ := Cond.arrayOver_spec (hts _ (vt_iA (w := .arrayOver (.object "VitalTwin$Symbol")) (by decide +kernel)) #[])
  refine ⟨(fun ci => (F ci).1, fun ci => (F ci).2), fun k => if k = 0 then c0 else if k = 1 then c1 else if k = 2 then c2 else if k = 3 then c3 else c4, fun ci r h => hF ci r h, fun k q hk => ?_⟩
  match k, hk with
  | 0, hk => cases hk; exact ⟨g0, k0⟩
  | 1, hk => cases hk; exact ⟨g1, k1⟩
  | 2, hk => cases hk; exact ⟨g2, k2⟩
  | 3, hk => cases hk; exact ⟨g3, k3⟩
  | 4, hk => cases hk; exact ⟨fun n z => ⟨fun k h => (by cases h), k4, q3, comp, q4⟩, k4, comp, q3, q4, q1, q5⟩
  | k + 5, hk => cases hk
theorem vt_env (hT : ∀ w ∈ lw_tbl, w.before #[Value.ref bs] s = true) (hX : va_X bs L xs s s.heap) (hbs : bs < s.heap.size) (hg : (Jvm.Cond.and given_1 narrow_1).before #[Value.ref bs] s = true) (hL : L ≤ 2561) : ∃ (sc adV : Nat → Nat), sc 100 = bs ∧ vt_Ev s.heap.size sc adV L xs s := by
  have hfl : ∀ w ∈ vt_fl, w.before #[Value.ref bs] s = true := flat_of_before _ hg
  have ht1 : ∀ w ∈ tables_1, w.before #[Value.ref bs] s = true := fun w hw => hT w (List.mem_append_right _ hw)
  have hA : ∀ a : Nat, a < s.heap.size → ¬ s.heap.size ≤ a := fun a h => by omega
  have hmk := of_decide_eq_true vt_mk
  have htk := of_decide_eq_true vt_tk3
  have hmk2 := of_decide_eq_true vt_mk2
  have htk2 := of_decide_eq_true vt_tk4
  have hnd : ∀ i : Nat, i < 11 → ∀ w ∈ vt_nd i, w.before #[Value.ref bs] s = true := by
    intro i hi w hw
    have h1 := of_decide_eq_true (List.all_eq_true.mp vt_nk i (List.mem_range.mpr hi))
    rw [← h1] at hw
    exact hfl w (List.mem_of_mem_drop (List.mem_of_mem_take hw))
  have hel : ∀ i : Nat, i < 11 → ∀ j : Nat, j < vt_sll.getD i 0 → (vt_el i j).before #[Value.ref bs] s = true := fun i hi j hj => hnd i hi _ (List.mem_append_right _ (List.mem_map.mpr ⟨j, List.mem_range.mpr hj, rfl⟩))
  have hne : ∀ i j : Nat, i < 11 → j < 11 → i ≠ j → (Cond.not (Cond.eq (vt_tm i) (vt_tm j))).before #[Value.ref bs] s = true ∨ (Cond.not (Cond.eq (vt_tm j) (vt_tm i))).before #[Value.ref bs] s = true := by
    intro i j hi hj hij
    have h1 := List.all_eq_true.mp (List.all_eq_true.mp vt_nek i (List.mem_range.mpr hi)) j (List.mem_range.mpr hj)
    simp only [Bool.or_eq_true, decide_eq_true_eq] at h1
    rcases h1 with h1 | h1 | h1
    · exact absurd h1 hij
    · exact Or.inl (hfl _ (List.mem_filter.mp (List.contains_iff_mem.mp h1)).1)
    · exact Or.inr (hfl _ (List.mem_filter.mp (List.contains_iff_mem.mp h1)).1)
  obtain ⟨adK, adV, hS, hev⟩ := vk_Sof (args := #[Value.ref bs]) (s := s) (N := 11) (tm := vt_tm) (len := vt_sll) (byt := vt_sby) (A := fun q => s.heap.size ≤ q)
    (fun i hi => of_decide_eq_true (List.all_eq_true.mp vt_slk i (List.mem_range.mpr hi)))
    (fun i hi => hnd i hi _ List.mem_cons_self)
    (fun i hi => hnd i hi _ (List.mem_cons_of_mem _ List.mem_cons_self))
    (fun i hi => hnd i hi _ (List.mem_cons_of_mem _ (List.mem_cons_of_mem _ List.mem_cons_self)))
    (fun i hi => hnd i hi _ (List.mem_cons_of_mem _ (List.mem_cons_of_mem _ (List.mem_cons_of_mem _ List.mem_cons_self))))
    hel hne hA
  have hsc : ∀ i : Nat, i < 11 → (if i = 100 then bs else adK i) = adK i := fun i hi => if_neg (by omega)
  refine ⟨fun i => if i = 100 then bs else adK i, adV, rfl, va_Zqof (ht1 _ htk.1) (ht1 _ htk.2.2) (hfl _ hmk.1) hA, va_Zqof (ht1 _ htk.2.1) (ht1 _ htk.2.2) (hfl _ hmk.2.1) hA, ?_, fun i hi => ?_, ⟨⟨fun i hi => ?_, fun i j hi hj h => ?_⟩, va_Zof (ht1 _ htk2.1) (ht1 _ htk2.2.1) (va_eqt (hfl _ hmk2.1)) hA, va_Zqof (ht1 _ htk2.2.2.1) (ht1 _ htk2.2.2.2) (hfl _ hmk2.2) hA⟩, fun cA cB h1 h2 => ?_, fun a => ?_, fun a => ?_⟩
  · obtain ⟨scr, q1, q2, q3, q4, q5⟩ := hX
    exact ⟨scr, q1, q2, q3, by omega, by rw [q4], q5, hA _ hbs⟩
  · show vk_R _ _ _ (if i = 100 then bs else adK i) s
    rw [hsc i hi]
    refine vk_R.of (A := #[Value.ref bs]) (ht1 _ (of_decide_eq_true (List.all_eq_true.mp vt_srk i (List.mem_range.mpr hi)))) (hev i hi)
  · show va_O _ (if i = 100 then bs else adK i) _ _ _ ∧ va_OF _ _ _ _ (if i = 100 then bs else adK i) _ _ _ ∧ va_OF _ _ _ _ (if i = 100 then bs else adK i) _ _ _ ∧ _
    rw [hsc i hi]
    exact hS.1 i hi
  · have h : (if i = 100 then bs else adK i) = (if j = 100 then bs else adK j) := h
    rw [hsc i hi, hsc j hj] at h
    exact hS.2 i j hi hj h
  · have h := hfl _ hmk.2.2
    simp [Cond.before, Cond.holds, Cond.value, h1, h2] at h
    exact h
  · obtain ⟨c, k, i, f, a', cell, hc, hi, hst, ha, hcell, hs, hcls, hlt, hty⟩ := Cond.laysStatic_spec (ht1 _ htk.1)
    exact Cond.laysStatic_of hc hi hst ha hcell hs hcls hlt hty
  · obtain ⟨c, k, i, f, a', cell, hc, hi, hst, ha, hcell, hs, hcls, hlt, hty⟩ := Cond.laysStatic_spec (ht1 _ htk.2.1)
    exact Cond.laysStatic_of hc hi hst ha hcell hs hcls hlt hty
/-- FROM THE PURE RUN OF THE LAW TO THE CLAIM'S WALK -/
theorem vt_start (l : Launch) (hfl : l.flags = pinnedFlags ++ [noTraceFlag]) (hL : L ≤ 2561) (C0 : lw_At p s m meth c bs L xs) (hname : meth.name = "law") (hexc : c.exceptionTable.isEmpty = true) {f d : Nat} {w2 : ip_W} (hd : d ≤ 1750)
    (hrun : ip_ex (vt_tb vt_P (vt_Ro L xs)) f d 309 0 [(0, .retAddr 100)] [] (0, 0, fun _ => none) = some (.returned (some (.int 1)), w2)) (hw1 : w2.1 ≤ 601024) (hw2 : w2.2.1 ≤ 7293000) :
    W p l e room_1 s m #[Value.ref bs] below meth c s.heap [] 0 0 (lw_Z below #[Value.ref bs] s) (entryFrame m ([Value.ref bs] : List Value).toArray 8) := by
  obtain ⟨hx, hcode, hret, hml, hown, hT, hX, hbs, hlocks, hgv⟩ := C0
  have hTK : ip_TK vt_W s := fun w hw a => ip_gw_any (vt_good (X := vt_X) (fun w hw => List.all_eq_true.mp vt_gX w hw) w hw) (hT w (vt_Wok w hw)) a
  obtain ⟨D, aC, hK⟩ := vt_known hTK
  obtain ⟨sc, adV, hsc, hEv⟩ := vt_env hT hX hbs hgv hL
  have hCx : ip_Cx (vt_tb vt_P (vt_Ro L xs)) vt_W (vt_Ev s.heap.size sc adV L xs) D vt_cl aC s.heap.size vt_N vt_B 309 p s m meth c := by
    refine ⟨hx, hcode, hml, ?_, hlocks, ?_, hname, hown, hTK, hEv, hK, Nat.le_refl _⟩
    · rw [hret]
      exact Or.inr (Or.inr (Or.inl ⟨rfl, rfl⟩))
    · have h1 : c.exceptionTable = #[] := Array.isEmpty_iff.mp hexc
      rw [h1]
      rfl
  have hV := ip_sound (l := l) (vt_OK (P := vt_P) (Ro := vt_Ro L xs) (fun w hw => List.all_eq_true.mp vt_gX w hw) s.heap.size sc) vt_Ek (vt_HY (adV := adV) hfl) f d 309 0 _ _ _ _ _ hrun p e room_1 s m #[Value.ref bs] below meth c 0 0 hCx (by show d ≤ 2048; omega) (by show 48 * d ≤ 84000; omega) (Nat.le_refl _) (Nat.le_refl _) (by show w2.1 ≤ 0 + 601024; omega) (by show w2.2.1 ≤ 0 + 7293000; omega)
  have hl := lv_entry [Value.ref bs] (n := 8) (Nat.le_of_ble_eq_true rfl)
  rw [lg_entry_eq]
  intro T hT0 X0
  have hG0 : ip_G D vt_cl aC s.heap.size sc (0, 0, fun _ => none) s.heap := ⟨rfl, fun k x h => by cases h⟩
  have hl2 : lv_has (lg_sl [Value.ref bs] ++ List.replicate (8 - (lg_sl [Value.ref bs]).length) Slot.unset).toArray (tL (vt_tb vt_P (vt_Ro L xs)) 309) (ip_l s.heap.size sc [(0, .retAddr 100)]) := by
    have e1 : ip_l s.heap.size sc [(0, .retAddr 100)] = lv_args 0 [Value.ref bs] := by
      show [(0, Value.ref (sc 100))] = _
      rw [hsc]
      rfl
    rw [e1]
    exact hl
  obtain ⟨t, a1, q1, q2, q3, ⟨Lo, q4, q5⟩, q6, q7⟩ := hV s.heap [] _ hG0 va_S.rf hl2 T hT0 X0
  refine ⟨t, a1, _, q1, q2, rfl, ⟨_, rfl⟩, q3, q4.weaken (fun y hy hlt => absurd (q5 y hy) (Nat.not_le.mpr hlt)) hw1 hw2⟩
end VTS
