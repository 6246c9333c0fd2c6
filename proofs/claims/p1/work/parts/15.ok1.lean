/-! part 15: what must hold of the tables, holds -/
def vt_ct (ci : Nat) : vw_C := vt_cl.getD ci ("", vt_T [], 0)
def vt_nst : List (Nat × Nat × String) := [(0, 18, "VitalTwin"), (4, 11, "VitalTwin"), (7, 11, "VitalTwin")]
def vt_c (o : Nat) : String := vt_cn.getD o ""
def vt_wF : List Cond := (List.range 21).flatMap fun o => (vt_FL.getD o []).map fun q => Cond.fieldLink (vt_c o) q.1 ((vt_ct q.2.1).2.1 q.2.2).1 ((vt_ct q.2.1).2.1 q.2.2).2.1 ((vt_ct q.2.1).2.1 q.2.2).2.2.1
def vt_wU : List Cond := vt_cl.flatMap fun r => u_ws r.1 r.2.1 r.2.2
def vt_wk (z : Nat) : Cond := if (vt_hl.getD z []).isEmpty = true then Cond.code (vt_N z) (vt_B z) (vt_ml.getD z 0) (vt_R z) else Cond.codeWith (vt_N z) (vt_B z) (vt_ml.getD z 0) (vt_R z) (vt_hl.getD z [])
def vt_wK : List Cond := (List.range 309).map vt_wk
def vt_ln (o k : Nat) (y : MethodName) : Cond := match vt_nst.find? (fun q => q.1 == o && q.2.1 == k) with
  | some q => .methodLinkNest (vt_c o) k y q.2.2
  | none => .methodLink (vt_c o) k y
def vt_wc (o : Nat) (q : Nat × (Nat × Nat × Nat × Nat)) : List Cond :=
  if q.2.2.2.1 = 0 then [.methodLink (vt_c o) q.1 (vt_N q.2.1), .static (vt_N q.2.1), .initialized (vt_N q.2.1).cls]
  else if q.2.2.2.1 = 1 then [.methodLink (vt_c o) q.1 (vt_N q.2.1), .instanceMethod (vt_N q.2.1), .selects (vt_ct q.2.2.2.2).1 (vt_N q.2.1) (vt_N q.2.1)]
  else if q.2.2.2.1 = 2 then [vt_ln o q.1 (vt_N q.2.1), .instanceMethod (vt_N q.2.1)]
  else if q.2.2.2.1 = 3 then [.methodLink (vt_c o) q.1 Lib.objectInit, .instanceMethod Lib.objectInit, .code Lib.objectInit ⟨#[0xb1]⟩ 1 none]
  else []
def vt_wM : List Cond := (List.range 21).flatMap fun o => (vt_ML.getD o []).flatMap (vt_wc o)
def vt_wN : List Cond := (List.range 21).flatMap fun o => (vt_NL.getD o []).flatMap fun q => [.classLink (vt_c o) q.1 (vt_ct q.2.1).1, .instantiable (vt_ct q.2.1).1 (vt_ct q.2.1).2.2, .initialized (vt_ct q.2.1).1]
def vt_wv (o : Nat) (q : Nat × Value) : List Cond := match q.2 with
  | .int x => [.constant (vt_c o) q.1 x]
  | .long x => [.constantLong (vt_c o) q.1 x]
  | _ => []
def vt_wV : List Cond := (List.range 21).flatMap fun o => (vt_CL.getD o []).flatMap (vt_wv o)
def vt_wA : List Cond := [.arrayClass .int, .arrayClass .byte, .arrayClass .long, .arrayClass .boolean, .arrayOver (.object "VitalTwin$Symbol")] ++ vt_AN.map fun q => .classLink (vt_c q.1) q.2 "VitalTwin$Symbol"
/-- the words that all methods need, and more ones -/
def vt_Ts (X : List Cond) : List Cond := vt_wF ++ (vt_wU ++ (vt_wK ++ (vt_wM ++ (vt_wN ++ (vt_wV ++ (vt_wA ++ X))))))
theorem vt_gF : vt_wF.all ip_gw = true := by decide +kernel
theorem vt_gU : vt_wU.all ip_gw = true := by decide +kernel
theorem vt_gK : vt_wK.all ip_gw = true := by decide +kernel
theorem vt_gM : vt_wM.all ip_gw = true := by decide +kernel
theorem vt_gN : vt_wN.all ip_gw = true := by decide +kernel
theorem vt_gV : vt_wV.all ip_gw = true := by decide +kernel
theorem vt_gA : vt_wA.all ip_gw = true := by decide +kernel
theorem vt_good {X : List Cond} (hX : ∀ w ∈ X, ip_gw w = true) : ∀ w ∈ vt_Ts X, ip_gw w = true := by
  intro w hw
  unfold vt_Ts at hw
  simp only [List.mem_append] at hw
  rcases hw with h | h | h | h | h | h | h | h
  · exact List.all_eq_true.mp vt_gF w h
  · exact List.all_eq_true.mp vt_gU w h
  · exact List.all_eq_true.mp vt_gK w h
  · exact List.all_eq_true.mp vt_gM w h
  · exact List.all_eq_true.mp vt_gN w h
  · exact List.all_eq_true.mp vt_gV w h
  · exact List.all_eq_true.mp vt_gA w h
  · exact hX w h
theorem vt_iF {X : List Cond} {w : Cond} (h : w ∈ vt_wF) : w ∈ vt_Ts X := List.mem_append_left _ h
theorem vt_iU {X : List Cond} {w : Cond} (h : w ∈ vt_wU) : w ∈ vt_Ts X := List.mem_append_right _ (List.mem_append_left _ h)
theorem vt_iK {X : List Cond} {w : Cond} (h : w ∈ vt_wK) : w ∈ vt_Ts X := List.mem_append_right _ (List.mem_append_right _ (List.mem_append_left _ h))
theorem vt_iM {X : List Cond} {w : Cond} (h : w ∈ vt_wM) : w ∈ vt_Ts X := List.mem_append_right _ (List.mem_append_right _ (List.mem_append_right _ (List.mem_append_left _ h)))
theorem vt_iN {X : List Cond} {w : Cond} (h : w ∈ vt_wN) : w ∈ vt_Ts X := List.mem_append_right _ (List.mem_append_right _ (List.mem_append_right _ (List.mem_append_right _ (List.mem_append_left _ h))))
theorem vt_iV {X : List Cond} {w : Cond} (h : w ∈ vt_wV) : w ∈ vt_Ts X := List.mem_append_right _ (List.mem_append_right _ (List.mem_append_right _ (List.mem_append_right _ (List.mem_append_right _ (List.mem_append_left _ h)))))
theorem vt_iA {X : List Cond} {w : Cond} (h : w ∈ vt_wA) : w ∈ vt_Ts X := List.mem_append_right _ (List.mem_append_right _ (List.mem_append_right _ (List.mem_append_right _ (List.mem_append_right _ (List.mem_append_right _ (List.mem_append_left _ h))))))
theorem vt_iX {X : List Cond} {w : Cond} (h : w ∈ X) : w ∈ vt_Ts X := List.mem_append_right _ (List.mem_append_right _ (List.mem_append_right _ (List.mem_append_right _ (List.mem_append_right _ (List.mem_append_right _ (List.mem_append_right _ h))))))
/-- checks by number -/
theorem vt_kO : (List.range 310).all (fun y => decide (vt_O y < 21) && ((vt_N y).cls == vt_c (vt_O y))) = true := by decide +kernel
theorem vt_kF : (List.range 21).all (fun o => (vt_FL.getD o []).all (fun q => decide (q.2.1 < 19) && decide (q.2.2 < (vt_ct q.2.1).2.2))) = true := by decide +kernel
def vt_cchk (r : vw_C) : Bool := (List.range r.2.2).all (fun a => (List.range r.2.2).all (fun b => a == b || ((r.2.1 a).2.1 != (r.2.1 b).2.1))) && (List.range r.2.2).all (fun k => (parseFieldDescriptor (r.2.1 k).2.2.1).isSome)
theorem vt_kC : vt_cl.all vt_cchk = true := by decide +kernel
theorem vt_kJ : (List.range 310).all (fun y => match vt_ji.getD y none with
  | none => true
  | some ci => ((vt_N y).name == "<init>") && (ci == vt_O y) && decide (ci < 13)) = true := by decide +kernel
theorem vt_kJ2 : (List.range 13).all (fun o => (List.range (vt_ct o).2.2).all (fun j => ((vt_ct o).2.1 j).1 == vt_c o)) = true := by decide +kernel
theorem vt_kV : (List.range 21).all (fun o => (vt_CL.getD o []).all (fun q => match q.2 with
  | .int _ => true
  | .long _ => true
  | .retAddr _ => true
  | _ => false)) = true := by decide +kernel
def vt_lchk (y : Nat) : Bool := (vt_pr.getD y (⟨#[]⟩, [])).2.all (fun r => match r.2.1 with
  | .ldc k => (match ip_lk (vt_CL.getD (vt_O y) []) k with
    | some (.long _) => false
    | _ => true)
  | .ldc_w k => (match ip_lk (vt_CL.getD (vt_O y) []) k with
    | some (.long _) => false
    | _ => true)
  | .ldc2_w k => (match ip_lk (vt_CL.getD (vt_O y) []) k with
    | some (.long _) => true
    | _ => false)
  | .anewarray k => vt_AN.contains (vt_O y, k)
  | _ => true)
theorem vt_kL : (List.range 310).all vt_lchk = true := by decide +kernel
def vt_nchk (q : Nat × (Nat × List Value)) : Bool := decide (q.2.1 < 19) && (q.2.2.length == (vt_ct q.2.1).2.2) && q.2.2.all (fun v => match v with
  | .int _ => true
  | .long _ => true
  | .null => true
  | _ => false) && (List.range q.2.2.length).all (fun j => decide (defaultValue ((parseFieldDescriptor ((vt_ct q.2.1).2.1 j).2.2.1).getD .int) = vp_V q.2.2 j))
theorem vt_kN : (List.range 21).all (fun o => (vt_NL.getD o []).all vt_nchk) = true := by decide +kernel
def vt_zchk (z n : Nat) : Bool := decide (z < 309) && decide (vt_ml.getD z 0 ≤ 29) && plainFor (vt_N z) && decide ((vt_N z).cls ≠ "java/lang/invoke/MethodHandle" ∧ (vt_N z).cls ≠ "java/lang/invoke/VarHandle") && decide ((parseMethodDescriptor (vt_N z).desc).map (fun d => d.parameters.length) = some n) && (match vt_R z with
  | none => vt_rc.getD z 0 == 0
  | some .int => vt_rc.getD z 0 == 1
  | some .boolean => vt_rc.getD z 0 == 2
  | some .long => vt_rc.getD z 0 == 3
  | some (.object _) => vt_rc.getD z 0 == 4
  | some (.array _) => vt_rc.getD z 0 == 4
  | _ => false)
def vt_mchk (q : Nat × (Nat × Nat × Nat × Nat)) : Bool := if q.2.2.2.1 < 3 then vt_zchk q.2.1 q.2.2.1 && (q.2.2.2.1 != 1 || decide (q.2.2.2.2 < 19)) && (q.2.2.2.1 != 2 || ((vt_N q.2.1).name == "<init>" && decide (vt_R q.2.1 = none) && (vt_hl.getD q.2.1 []).isEmpty)) else true
theorem vt_kM : (List.range 21).all (fun o => (vt_ML.getD o []).all vt_mchk) = true := by decide +kernel

theorem vt_a0 : ∀ q ∈ vt_pr_0, vt_chk q = true := List.forall_mem_cons.mpr ⟨vt_o0, List.forall_mem_cons.mpr ⟨vt_o1, List.forall_mem_cons.mpr ⟨vt_o2, List.forall_mem_cons.mpr ⟨vt_o3, List.forall_mem_cons.mpr ⟨vt_o4, List.forall_mem_cons.mpr ⟨vt_o5, List.forall_mem_cons.mpr ⟨vt_o6, List.forall_mem_cons.mpr ⟨vt_o7, List.forall_mem_cons.mpr ⟨vt_o8, List.forall_mem_cons.mpr ⟨vt_o9, List.forall_mem_cons.mpr ⟨vt_o10, List.forall_mem_cons.mpr ⟨vt_o11, List.forall_mem_cons.mpr ⟨vt_o12, List.forall_mem_cons.mpr ⟨vt_o13, List.forall_mem_cons.mpr ⟨vt_o14, List.forall_mem_cons.mpr ⟨vt_o15, List.forall_mem_cons.mpr ⟨vt_o16, List.forall_mem_cons.mpr ⟨vt_o17, List.forall_mem_cons.mpr ⟨vt_o18, List.forall_mem_cons.mpr ⟨vt_o19, List.forall_mem_cons.mpr ⟨vt_o20, List.forall_mem_cons.mpr ⟨vt_o21, List.forall_mem_cons.mpr ⟨vt_o22, List.forall_mem_cons.mpr ⟨vt_o23, List.forall_mem_cons.mpr ⟨vt_o24, List.forall_mem_cons.mpr ⟨vt_o25, List.forall_mem_cons.mpr ⟨vt_o26, List.forall_mem_cons.mpr ⟨vt_o27, List.forall_mem_cons.mpr ⟨vt_o28, List.forall_mem_cons.mpr ⟨vt_o29, List.forall_mem_cons.mpr ⟨vt_o30, List.forall_mem_cons.mpr ⟨vt_o31, List.forall_mem_cons.mpr ⟨vt_o32, List.forall_mem_cons.mpr ⟨vt_o33, List.forall_mem_cons.mpr ⟨vt_o34, List.forall_mem_cons.mpr ⟨vt_o35, List.forall_mem_cons.mpr ⟨vt_o36, List.forall_mem_cons.mpr ⟨vt_o37, List.forall_mem_cons.mpr ⟨vt_o38, List.forall_mem_cons.mpr ⟨vt_o39, List.forall_mem_cons.mpr ⟨vt_o40, List.forall_mem_cons.mpr ⟨vt_o41, List.forall_mem_cons.mpr ⟨vt_o42, List.forall_mem_cons.mpr ⟨vt_o43, List.forall_mem_cons.mpr ⟨vt_o44, List.forall_mem_cons.mpr ⟨vt_o45, List.forall_mem_cons.mpr ⟨vt_o46, List.forall_mem_cons.mpr ⟨vt_o47, List.forall_mem_cons.mpr ⟨vt_o48, List.forall_mem_cons.mpr ⟨vt_o49, (fun _ h => absurd h List.not_mem_nil)⟩⟩⟩⟩⟩⟩⟩⟩⟩⟩⟩⟩⟩⟩⟩⟩⟩⟩⟩⟩⟩⟩⟩⟩⟩⟩⟩⟩⟩⟩⟩⟩⟩⟩⟩⟩⟩⟩⟩⟩⟩⟩⟩⟩⟩⟩⟩⟩⟩⟩
theorem vt_a1 : ∀ q ∈ vt_pr_1, vt_chk q = true := List.forall_mem_cons.mpr ⟨vt_o50, List.forall_mem_cons.mpr ⟨vt_o51, List.forall_mem_cons.mpr ⟨vt_o52, List.forall_mem_cons.mpr ⟨vt_o53, List.forall_mem_cons.mpr ⟨vt_o54, List.forall_mem_cons.mpr ⟨vt_o55, List.forall_mem_cons.mpr ⟨vt_o56, List.forall_mem_cons.mpr ⟨vt_o57, List.forall_mem_cons.mpr ⟨vt_o58, List.forall_mem_cons.mpr ⟨vt_o59, List.forall_mem_cons.mpr ⟨vt_o60, List.forall_mem_cons.mpr ⟨vt_o61, List.forall_mem_cons.mpr ⟨vt_o62, List.forall_mem_cons.mpr ⟨vt_o63, List.forall_mem_cons.mpr ⟨vt_o64, List.forall_mem_cons.mpr ⟨vt_o65, List.forall_mem_cons.mpr ⟨vt_o66, List.forall_mem_cons.mpr ⟨vt_o67, List.forall_mem_cons.mpr ⟨vt_o68, List.forall_mem_cons.mpr ⟨vt_o69, List.forall_mem_cons.mpr ⟨vt_o70, List.forall_mem_cons.mpr ⟨vt_o71, List.forall_mem_cons.mpr ⟨vt_o72, List.forall_mem_cons.mpr ⟨vt_o73, List.forall_mem_cons.mpr ⟨vt_o74, List.forall_mem_cons.mpr ⟨vt_o75, List.forall_mem_cons.mpr ⟨vt_o76, List.forall_mem_cons.mpr ⟨vt_o77, List.forall_mem_cons.mpr ⟨vt_o78, List.forall_mem_cons.mpr ⟨vt_o79, List.forall_mem_cons.mpr ⟨vt_o80, List.forall_mem_cons.mpr ⟨vt_o81, List.forall_mem_cons.mpr ⟨vt_o82, List.forall_mem_cons.mpr ⟨vt_o83, List.forall_mem_cons.mpr ⟨vt_o84, List.forall_mem_cons.mpr ⟨vt_o85, List.forall_mem_cons.mpr ⟨vt_o86, List.forall_mem_cons.mpr ⟨vt_o87, List.forall_mem_cons.mpr ⟨vt_o88, List.forall_mem_cons.mpr ⟨vt_o89, List.forall_mem_cons.mpr ⟨vt_o90, List.forall_mem_cons.mpr ⟨vt_o91, List.forall_mem_cons.mpr ⟨vt_o92, List.forall_mem_cons.mpr ⟨vt_o93, List.forall_mem_cons.mpr ⟨vt_o94, List.forall_mem_cons.mpr ⟨vt_o95, List.forall_mem_cons.mpr ⟨vt_o96, List.forall_mem_cons.mpr ⟨vt_o97, List.forall_mem_cons.mpr ⟨vt_o98, List.forall_mem_cons.mpr ⟨vt_o99, (fun _ h => absurd h List.not_mem_nil)⟩⟩⟩⟩⟩⟩⟩⟩⟩⟩⟩⟩⟩⟩⟩⟩⟩⟩⟩⟩⟩⟩⟩⟩⟩⟩⟩⟩⟩⟩⟩⟩⟩⟩⟩⟩⟩⟩⟩⟩⟩⟩⟩⟩⟩⟩⟩⟩⟩⟩
theorem vt_a2 : ∀ q ∈ vt_pr_2, vt_chk q = true := List.forall_mem_cons.mpr ⟨vt_o100, List.forall_mem_cons.mpr ⟨vt_o101, List.forall_mem_cons.mpr ⟨vt_o102, List.forall_mem_cons.mpr ⟨vt_o103, List.forall_mem_cons.mpr ⟨vt_o104, List.forall_mem_cons.mpr ⟨vt_o105, List.forall_mem_cons.mpr ⟨vt_o106, List.forall_mem_cons.mpr ⟨vt_o107, List.forall_mem_cons.mpr ⟨vt_o108, List.forall_mem_cons.mpr ⟨vt_o109, List.forall_mem_cons.mpr ⟨vt_o110, List.forall_mem_cons.mpr ⟨vt_o111, List.forall_mem_cons.mpr ⟨vt_o112, List.forall_mem_cons.mpr ⟨vt_o113, List.forall_mem_cons.mpr ⟨vt_o114, List.forall_mem_cons.mpr ⟨vt_o115, List.forall_mem_cons.mpr ⟨vt_o116, List.forall_mem_cons.mpr ⟨vt_o117, List.forall_mem_cons.mpr ⟨vt_o118, List.forall_mem_cons.mpr ⟨vt_o119, List.forall_mem_cons.mpr ⟨vt_o120, List.forall_mem_cons.mpr ⟨vt_o121, List.forall_mem_cons.mpr ⟨vt_o122, List.forall_mem_cons.mpr ⟨vt_o123, List.forall_mem_cons.mpr ⟨vt_o124, List.forall_mem_cons.mpr ⟨vt_o125, List.forall_mem_cons.mpr ⟨vt_o126, List.forall_mem_cons.mpr ⟨vt_o127, List.forall_mem_cons.mpr ⟨vt_o128, List.forall_mem_cons.mpr ⟨vt_o129, List.forall_mem_cons.mpr ⟨vt_o130, List.forall_mem_cons.mpr ⟨vt_o131, List.forall_mem_cons.mpr ⟨vt_o132, List.forall_mem_cons.mpr ⟨vt_o133, List.forall_mem_cons.mpr ⟨vt_o134, List.forall_mem_cons.mpr ⟨vt_o135, List.forall_mem_cons.mpr ⟨vt_o136, List.forall_mem_cons.mpr ⟨vt_o137, List.forall_mem_cons.mpr ⟨vt_o138, List.forall_mem_cons.mpr ⟨vt_o139, List.forall_mem_cons.mpr ⟨vt_o140, List.forall_mem_cons.mpr ⟨vt_o141, List.forall_mem_cons.mpr ⟨vt_o142, List.forall_mem_cons.mpr ⟨vt_o143, List.forall_mem_cons.mpr ⟨vt_o144, List.forall_mem_cons.mpr ⟨vt_o145, List.forall_mem_cons.mpr ⟨vt_o146, List.forall_mem_cons.mpr ⟨vt_o147, List.forall_mem_cons.mpr ⟨vt_o148, List.forall_mem_cons.mpr ⟨vt_o149, (fun _ h => absurd h List.not_mem_nil)⟩⟩⟩⟩⟩⟩⟩⟩⟩⟩⟩⟩⟩⟩⟩⟩⟩⟩⟩⟩⟩⟩⟩⟩⟩⟩⟩⟩⟩⟩⟩⟩⟩⟩⟩⟩⟩⟩⟩⟩⟩⟩⟩⟩⟩⟩⟩⟩⟩⟩
theorem vt_a3 : ∀ q ∈ vt_pr_3, vt_chk q = true := List.forall_mem_cons.mpr ⟨vt_o150, List.forall_mem_cons.mpr ⟨vt_o151, List.forall_mem_cons.mpr ⟨vt_o152, List.forall_mem_cons.mpr ⟨vt_o153, List.forall_mem_cons.mpr ⟨vt_o154, List.forall_mem_cons.mpr ⟨vt_o155, List.forall_mem_cons.mpr ⟨vt_o156, List.forall_mem_cons.mpr ⟨vt_o157, List.forall_mem_cons.mpr ⟨vt_o158, List.forall_mem_cons.mpr ⟨vt_o159, List.forall_mem_cons.mpr ⟨vt_o160, List.forall_mem_cons.mpr ⟨vt_o161, List.forall_mem_cons.mpr ⟨vt_o162, List.forall_mem_cons.mpr ⟨vt_o163, List.forall_mem_cons.mpr ⟨vt_o164, List.forall_mem_cons.mpr ⟨vt_o165, List.forall_mem_cons.mpr ⟨vt_o166, List.forall_mem_cons.mpr ⟨vt_o167, List.forall_mem_cons.mpr ⟨vt_o168, List.forall_mem_cons.mpr ⟨vt_o169, List.forall_mem_cons.mpr ⟨vt_o170, List.forall_mem_cons.mpr ⟨vt_o171, List.forall_mem_cons.mpr ⟨vt_o172, List.forall_mem_cons.mpr ⟨vt_o173, List.forall_mem_cons.mpr ⟨vt_o174, List.forall_mem_cons.mpr ⟨vt_o175, List.forall_mem_cons.mpr ⟨vt_o176, List.forall_mem_cons.mpr ⟨vt_o177, List.forall_mem_cons.mpr ⟨vt_o178, List.forall_mem_cons.mpr ⟨vt_o179, List.forall_mem_cons.mpr ⟨vt_o180, List.forall_mem_cons.mpr ⟨vt_o181, List.forall_mem_cons.mpr ⟨vt_o182, List.forall_mem_cons.mpr ⟨vt_o183, List.forall_mem_cons.mpr ⟨vt_o184, List.forall_mem_cons.mpr ⟨vt_o185, List.forall_mem_cons.mpr ⟨vt_o186, List.forall_mem_cons.mpr ⟨vt_o187, List.forall_mem_cons.mpr ⟨vt_o188, List.forall_mem_cons.mpr ⟨vt_o189, List.forall_mem_cons.mpr ⟨vt_o190, List.forall_mem_cons.mpr ⟨vt_o191, List.forall_mem_cons.mpr ⟨vt_o192, List.forall_mem_cons.mpr ⟨vt_o193, List.forall_mem_cons.mpr ⟨vt_o194, List.forall_mem_cons.mpr ⟨vt_o195, List.forall_mem_cons.mpr ⟨vt_o196, List.forall_mem_cons.mpr ⟨vt_o197, List.forall_mem_cons.mpr ⟨vt_o198, List.forall_mem_cons.mpr ⟨vt_o199, (fun _ h => absurd h List.not_mem_nil)⟩⟩⟩⟩⟩⟩⟩⟩⟩⟩⟩⟩⟩⟩⟩⟩⟩⟩⟩⟩⟩⟩⟩⟩⟩⟩⟩⟩⟩⟩⟩⟩⟩⟩⟩⟩⟩⟩⟩⟩⟩⟩⟩⟩⟩⟩⟩⟩⟩⟩
theorem vt_a4 : ∀ q ∈ vt_pr_4, vt_chk q = true := List.forall_mem_cons.mpr ⟨vt_o200, List.forall_mem_cons.mpr ⟨vt_o201, List.forall_mem_cons.mpr ⟨vt_o202, List.forall_mem_cons.mpr ⟨vt_o203, List.forall_mem_cons.mpr ⟨vt_o204, List.forall_mem_cons.mpr ⟨vt_o205, List.forall_mem_cons.mpr ⟨vt_o206, List.forall_mem_cons.mpr ⟨vt_o207, List.forall_mem_cons.mpr ⟨vt_o208, List.forall_mem_cons.mpr ⟨vt_o209, List.forall_mem_cons.mpr ⟨vt_o210, List.forall_mem_cons.mpr ⟨vt_o211, List.forall_mem_cons.mpr ⟨vt_o212, List.forall_mem_cons.mpr ⟨vt_o213, List.forall_mem_cons.mpr ⟨vt_o214, List.forall_mem_cons.mpr ⟨vt_o215, List.forall_mem_cons.mpr ⟨vt_o216, List.forall_mem_cons.mpr ⟨vt_o217, List.forall_mem_cons.mpr ⟨vt_o218, List.forall_mem_cons.mpr ⟨vt_o219, List.forall_mem_cons.mpr ⟨vt_o220, List.forall_mem_cons.mpr ⟨vt_o221, List.forall_mem_cons.mpr ⟨vt_o222, List.forall_mem_cons.mpr ⟨vt_o223, List.forall_mem_cons.mpr ⟨vt_o224, List.forall_mem_cons.mpr ⟨vt_o225, List.forall_mem_cons.mpr ⟨vt_o226, List.forall_mem_cons.mpr ⟨vt_o227, List.forall_mem_cons.mpr ⟨vt_o228, List.forall_mem_cons.mpr ⟨vt_o229, List.forall_mem_cons.mpr ⟨vt_o230, List.forall_mem_cons.mpr ⟨vt_o231, List.forall_mem_cons.mpr ⟨vt_o232, List.forall_mem_cons.mpr ⟨vt_o233, List.forall_mem_cons.mpr ⟨vt_o234, List.forall_mem_cons.mpr ⟨vt_o235, List.forall_mem_cons.mpr ⟨vt_o236, List.forall_mem_cons.mpr ⟨vt_o237, List.forall_mem_cons.mpr ⟨vt_o238, List.forall_mem_cons.mpr ⟨vt_o239, List.forall_mem_cons.mpr ⟨vt_o240, List.forall_mem_cons.mpr ⟨vt_o241, List.forall_mem_cons.mpr ⟨vt_o242, List.forall_mem_cons.mpr ⟨vt_o243, List.forall_mem_cons.mpr ⟨vt_o244, List.forall_mem_cons.mpr ⟨vt_o245, List.forall_mem_cons.mpr ⟨vt_o246, List.forall_mem_cons.mpr ⟨vt_o247, List.forall_mem_cons.mpr ⟨vt_o248, List.forall_mem_cons.mpr ⟨vt_o249, (fun _ h => absurd h List.not_mem_nil)⟩⟩⟩⟩⟩⟩⟩⟩⟩⟩⟩⟩⟩⟩⟩⟩⟩⟩⟩⟩⟩⟩⟩⟩⟩⟩⟩⟩⟩⟩⟩⟩⟩⟩⟩⟩⟩⟩⟩⟩⟩⟩⟩⟩⟩⟩⟩⟩⟩⟩
theorem vt_a5 : ∀ q ∈ vt_pr_5, vt_chk q = true := List.forall_mem_cons.mpr ⟨vt_o250, List.forall_mem_cons.mpr ⟨vt_o251, List.forall_mem_cons.mpr ⟨vt_o252, List.forall_mem_cons.mpr ⟨vt_o253, List.forall_mem_cons.mpr ⟨vt_o254, List.forall_mem_cons.mpr ⟨vt_o255, List.forall_mem_cons.mpr ⟨vt_o256, List.forall_mem_cons.mpr ⟨vt_o257, List.forall_mem_cons.mpr ⟨vt_o258, List.forall_mem_cons.mpr ⟨vt_o259, List.forall_mem_cons.mpr ⟨vt_o260, List.forall_mem_cons.mpr ⟨vt_o261, List.forall_mem_cons.mpr ⟨vt_o262, List.forall_mem_cons.mpr ⟨vt_o263, List.forall_mem_cons.mpr ⟨vt_o264, List.forall_mem_cons.mpr ⟨vt_o265, List.forall_mem_cons.mpr ⟨vt_o266, List.forall_mem_cons.mpr ⟨vt_o267, List.forall_mem_cons.mpr ⟨vt_o268, List.forall_mem_cons.mpr ⟨vt_o269, List.forall_mem_cons.mpr ⟨vt_o270, List.forall_mem_cons.mpr ⟨vt_o271, List.forall_mem_cons.mpr ⟨vt_o272, List.forall_mem_cons.mpr ⟨vt_o273, List.forall_mem_cons.mpr ⟨vt_o274, List.forall_mem_cons.mpr ⟨vt_o275, List.forall_mem_cons.mpr ⟨vt_o276, List.forall_mem_cons.mpr ⟨vt_o277, List.forall_mem_cons.mpr ⟨vt_o278, List.forall_mem_cons.mpr ⟨vt_o279, List.forall_mem_cons.mpr ⟨vt_o280, List.forall_mem_cons.mpr ⟨vt_o281, List.forall_mem_cons.mpr ⟨vt_o282, List.forall_mem_cons.mpr ⟨vt_o283, List.forall_mem_cons.mpr ⟨vt_o284, List.forall_mem_cons.mpr ⟨vt_o285, List.forall_mem_cons.mpr ⟨vt_o286, List.forall_mem_cons.mpr ⟨vt_o287, List.forall_mem_cons.mpr ⟨vt_o288, List.forall_mem_cons.mpr ⟨vt_o289, List.forall_mem_cons.mpr ⟨vt_o290, List.forall_mem_cons.mpr ⟨vt_o291, List.forall_mem_cons.mpr ⟨vt_o292, List.forall_mem_cons.mpr ⟨vt_o293, List.forall_mem_cons.mpr ⟨vt_o294, List.forall_mem_cons.mpr ⟨vt_o295, List.forall_mem_cons.mpr ⟨vt_o296, List.forall_mem_cons.mpr ⟨vt_o297, List.forall_mem_cons.mpr ⟨vt_o298, List.forall_mem_cons.mpr ⟨vt_o299, (fun _ h => absurd h List.not_mem_nil)⟩⟩⟩⟩⟩⟩⟩⟩⟩⟩⟩⟩⟩⟩⟩⟩⟩⟩⟩⟩⟩⟩⟩⟩⟩⟩⟩⟩⟩⟩⟩⟩⟩⟩⟩⟩⟩⟩⟩⟩⟩⟩⟩⟩⟩⟩⟩⟩⟩⟩
theorem vt_a6 : ∀ q ∈ vt_pr_6, vt_chk q = true := List.forall_mem_cons.mpr ⟨vt_o300, List.forall_mem_cons.mpr ⟨vt_o301, List.forall_mem_cons.mpr ⟨vt_o302, List.forall_mem_cons.mpr ⟨vt_o303, List.forall_mem_cons.mpr ⟨vt_o304, List.forall_mem_cons.mpr ⟨vt_o305, List.forall_mem_cons.mpr ⟨vt_o306, List.forall_mem_cons.mpr ⟨vt_o307, List.forall_mem_cons.mpr ⟨vt_o308, List.forall_mem_cons.mpr ⟨vt_o309, (fun _ h => absurd h List.not_mem_nil)⟩⟩⟩⟩⟩⟩⟩⟩⟩⟩
theorem vt_all : ∀ q ∈ vt_pr, vt_chk q = true := (List.forall_mem_append.mpr ⟨vt_a0, (List.forall_mem_append.mpr ⟨vt_a1, (List.forall_mem_append.mpr ⟨vt_a2, (List.forall_mem_append.mpr ⟨vt_a3, (List.forall_mem_append.mpr ⟨vt_a4, (List.forall_mem_append.mpr ⟨vt_a5, vt_a6⟩)⟩)⟩)⟩)⟩)⟩)
