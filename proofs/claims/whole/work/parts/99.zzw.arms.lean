/-! part 99.zzw: the arms of a case: what is known of them -/
/-- as sg_R, but the node q may get its next one -/
def gp_R (N m q : Int) (ρ ρ' : js_S) : Prop := ∀ a i : Int, ¬ (a = 83 ∧ (5 ≤ i ∧ i ≤ 11 ∨ 27 ≤ i ∧ i ≤ 33 ∨ 42 ≤ i ∧ i ≤ 44)) → ¬ (100 ≤ a ∧ a ≤ 107 ∧ N ≤ i) → ¬ (86 ≤ a ∧ a ≤ 97 ∧ m ≤ i) → ¬ (a = 98 ∧ 20 * m ≤ i) → a ≠ 99 → ¬ (a = 107 ∧ i = q ∧ 0 ≤ q) → ρ' a i = ρ a i
theorem gp_sg {N m : Int} {ρ ρ' : js_S} (h : gp_R N m (-1) ρ ρ') : sg_R N m ρ ρ' := fun a i g1 g2 g3 g4 g5 => h a i g1 g2 g3 g4 g5 (by omega)
theorem rf_gp {N m q : Int} {ρ ρ' : js_S} (h : gp_R N m q ρ ρ') : rf_R ρ ρ' := fun a i g1 g2 => h a i (by omega) (by omega) (by omega) (by omega) (by omega) (by omega)
/-- arms, and what stands behind their else, were read by both; q is the arm before, m the else's BLOCK -/
def ca_R (E : js_E) (b F : Int) (B U : Int → Int) (X : Int → Prop) (Q0 : List Int) (q Lx : Int) (σ ρ : js_S) (j : Nat) (σ' ρ' : js_S) (j' : Nat) (Ez Lz n m : Int) (s : tr_T) : Prop := (rd_R σ' ρ' j' ∧ j ≤ j' ∧ ρ' 83 10 = ρ 83 10 ∧ sf_R b (σ (8 + b) 6) (σ (8 + b) 10) (σ (23 + b) 15) (ρ 83 11) σ σ' ∧ gp_R (ρ 83 33) (ρ 83 11) q ρ ρ' ∧ ρ 83 33 ≤ ρ' 83 33 ∧ ρ' 83 33 + j ≤ ρ 83 33 + j' ∧ ρ 83 11 ≤ ρ' 83 11 ∧ (0 ≤ q → ρ' 107 q = n)) ∧ xr_L b σ ρ σ' ρ' ∧ ((σ' (23 + b) 15 = σ (23 + b) 15 ∧ σ' (8 + b) 10 = σ (8 + b) 10 ∧ σ' (8 + b) 6 = σ (8 + b) 6 + st_ln s) ∧ (max Lz (σ' (8 + b) 7) = max Lx (min 400000 (σ (8 + b) 7 + st_cn B s)) ∧ (0 ≤ Lz ∧ Lz ≤ 400000) ∧ 0 ≤ σ' (8 + b) 7 ∧ σ' (8 + b) 7 ≤ 400000) ∧ σ' (8 + b) 11 = max (σ (8 + b) 11) (st_mt s (σ (8 + b) 10))) ∧ (∃ Q1 : List Int, jw (fun i => σ' (10 + b) i) (Q1 ++ Q0) (σ' (8 + b) 6) Ez ∧ (∀ x : Int, x ∈ Q1 → σ (8 + b) 6 ≤ x) ∧ (σ' (8 + b) 6 ≤ 8192 → st_cd (cq_P σ' b (σ (8 + b) 8) (σ' (8 + b) 6) (fun x => x ∈ Q1)) s (σ (8 + b) 10) (σ (8 + b) 6) (σ' (8 + b) 6))) ∧ (st_nd ρ' s (ρ 83 33) (ρ' 83 33) n m ∧ (xt_k s = 25 ∨ xt_k s = 93) ∧ (st_w s ∧ st_G ρ' F s) ∧ (st_ln s ≤ 5000 * ((j' : Int) - j) ∧ 0 ≤ st_cn B s ∧ st_mt s (σ (8 + b) 10) ≤ 1024 ∧ st_dp s ≤ zz_b b σ ρ + 8) ∧ am_P (σ (17 + b) (σ (8 + b) 10 - 1)) (σ (18 + b) (σ (8 + b) 10 - 1)) s) ∧ ux_R E b F B U X σ' ρ'
/-- no more arms, no else -/
theorem ca_nil {E : js_E} {b F : Int} {B U : Int → Int} {X : Int → Prop} {Q0 : List Int} {q Lx Ex : Int} {σ ρ : js_S} {j : Nat} (hx : ux_R E b F B U X σ ρ) (hn : xn_R b σ ρ j) (hR : rd_R σ ρ j) (hL : 0 ≤ Lx ∧ Lx ≤ 400000) (hq : 0 ≤ q → ρ 107 q = -1) (hj : jw (fun i => σ (10 + b) i) Q0 (σ (8 + b) 6) Ex) (hzz : 0 ≤ zz_b b σ ρ) : ca_R E b F B U X Q0 q Lx σ ρ j σ ρ j Ex Lx (-1) (-1) (tr_n 93 0 0 0 0 0 0 .leaf .leaf) := by
  unfold xn_R at hn
  have z1 : st_ln (tr_n 93 0 0 0 0 0 0 .leaf .leaf) = 0 := st_ln93
  have z2 : st_cn B (tr_n 93 0 0 0 0 0 0 .leaf .leaf) = 0 := st_cn93
  have z3 : st_mt (tr_n 93 0 0 0 0 0 0 .leaf .leaf) (σ (8 + b) 10) = 0 := st_mt93
  refine ⟨⟨hR, Nat.le_refl _, rfl, sf_R_refl, fun _ _ _ _ _ _ _ _ => rfl, Int.le_refl _, Int.le_refl _, Int.le_refl _, hq⟩, ⟨0, by decide, by decide, by omega, by omega⟩, ⟨⟨rfl, rfl, by rw [z1]; omega⟩, ⟨by rw [z2]; omega, hL, hn.2.1.1, hn.2.1.2⟩, by rw [z3]; omega⟩, ⟨[], hj, fun x h => (by cases h), fun _ => ?_⟩, ⟨?_, Or.inr rfl, ⟨?_, ?_⟩, ⟨by rw [z1]; omega, by rw [z2]; exact Int.le_refl _, by rw [z3]; decide, st_dz (x := 8) rfl (by omega)⟩, am_93⟩, hx⟩
  · rw [st_cd93]
    trivial
  · rw [st_nd93]
    exact ⟨rfl, rfl⟩
  · rw [st_w93]
    exact ⟨Or.inl rfl, trivial⟩
  · unfold st_G
    rw [st_g93]
    trivial
/-- else BLOCK behind the arms -/
theorem ca_else {E : js_E} {b F : Int} {B U : Int → Int} {X : Int → Prop} {Q0 : List Int} {q Lx Ex mm : Int} {σ ρ σ1 ρ1 σ' ρ' : js_S} {j j' : Nat} {r : tr_T} (hb : b = 0 ∨ b = 25) (hg : ∀ i : Int, 0 ≤ i → i < ρ 83 11 → 137 ≤ σ (19 + b) i) (hL : 0 ≤ Lx ∧ Lx ≤ 400000) (hq : 0 ≤ q → ρ 107 q = -1) (hq2 : q < ρ 83 33) (hj : jw (fun i => σ (10 + b) i) Q0 (σ (8 + b) 6) Ex) (f1 : tk_fr σ σ1) (t1 : ∀ a i : Int, ¬ (a = 83 ∧ 5 ≤ i ∧ i ≤ 9) → ρ1 a i = ρ a i) (h7 : 0 ≤ σ' (8 + b) 7 ∧ σ' (8 + b) 7 ≤ 400000) (H : bl_R E b F B U X 0 σ1 ρ1 (j + 1) σ' ρ' j' mm r) : ca_R E b F B U X Q0 q Lx σ ρ j σ' ρ' j' Ex Lx (-1) mm (tr_n 93 0 0 0 0 0 0 r .leaf) := by
  obtain ⟨⟨r1, q1, dp1, sf1, sg1, m1, m1', w1⟩, hL1, ⟨⟨y15, y10, y6, y7, y11⟩, yc⟩, ⟨nd, ⟨rk, rw1, rG⟩, ⟨tl, tcn, tmt⟩, _, hz2⟩, hux⟩ := H
  have v : ∀ k : Int, σ1 (8 + b) k = σ (8 + b) k := fun k => f1 _ _ (by omega) (by omega)
  have v15 : σ1 (23 + b) 15 = σ (23 + b) 15 := f1 _ _ (by omega) (by omega)
  have u33 : ρ1 83 33 = ρ 83 33 := t1 _ _ (by omega)
  have u11 : ρ1 83 11 = ρ 83 11 := t1 _ _ (by omega)
  have u10 : ρ1 83 10 = ρ 83 10 := t1 _ _ (by omega)
  have u44 : ρ1 83 44 = ρ 83 44 := t1 _ _ (by omega)
  rw [v 6, v 10, v15, u11] at sf1
  rw [u33, u11] at sg1
  rw [v 6] at y6
  rw [v 10] at y10 y11 tmt
  rw [v 11] at y11
  rw [v 7] at y7
  rw [v 8, v 10, v 6] at yc
  rw [u33] at m1 m1' nd
  rw [u11] at w1
  push_cast at m1' tl
  have lr := st_ln_0 r
  have sfA : sf_R b (σ (8 + b) 6) (σ (8 + b) 10) (σ (23 + b) 15) (ρ 83 11) σ σ' := sf_R_trans (sf_R_ef hb hg (ef_R_tk f1)) sf1 (Int.le_refl _) (Int.le_refl _) (Int.le_refl _) (Int.le_refl _)
  refine ⟨⟨r1, by omega, by omega, sfA, fun a i g1 g2 g3 g4 g5 _ => ?_, m1, by omega, w1, fun h => ?_⟩, ?_, ⟨⟨by omega, y10, by rw [st_ln93]; exact y6⟩, ⟨by rw [st_cn93, y7], hL, h7⟩, by rw [st_mt93]; exact y11⟩, ⟨[], ?_, fun x h => (by cases h), fun hs => ?_⟩, ⟨?_, Or.inr rfl, ⟨?_, ?_⟩, ⟨by rw [st_ln93]; omega, by rw [st_cn93]; exact tcn, by rw [st_mt93]; exact tmt, st_dz (x := st_dp r) rfl (by
    unfold zz_b at hz2 ⊢
    omega)⟩, am_93⟩, hux⟩
  · rw [sg1 a i g1 g2 g3 g4 g5, t1 a i (by omega)]
  · rw [sg1 107 q (by omega) (by omega) (by omega) (by omega) (by omega), t1 107 q (by omega)]
    exact hq h
  · obtain ⟨x, a1, a2, a3, a4⟩ := hL1
    exact ⟨x, a1, a2, by rw [a3, u44], by rw [a4, v]⟩
  · show jw (fun i => σ' (10 + b) i) Q0 (σ' (8 + b) 6) Ex
    refine jw_up Q0 (jw_of Q0 _ _ (fun i hi => ?_) hj) (by omega)
    exact sf_code hb sfA (by omega) (by omega) hi
  · rw [st_cd93]
    exact st_cd_z r _ _ _ _ rk rw1 (st_cd_of r _ _ _ (fun i I g1 g2 hI => cq_ci hI (fun h => by cases h)) (yc hs))
  · rw [st_nd93]
    exact ⟨rfl, nd⟩
  · rw [st_w93]
    exact ⟨rk, rw1⟩
  · unfold st_G
    rw [st_g93]
    exact rG
/-- the chain of the jumps of an ARM's head -/
theorem ar_jw {b u t : Int} {σ ρ σ' ρ' : js_S} {j j' : Nat} {sk v1 v2 two : Int} (h : ar_R b u t σ ρ j σ' ρ' j' sk v1 v2 two) (hp : 0 ≤ σ (8 + b) 6) : ∃ Qs : List Int, jw (fun i => σ' (10 + b) i) Qs (σ' (8 + b) 6) sk ∧ (∀ x : Int, x ∈ Qs ↔ x = σ (8 + b) 6 + 4 ∨ two = 1 ∧ x = σ (8 + b) 6 + 9) := by
  obtain ⟨_, _, ⟨_, hsk⟩, hor⟩ := h
  rcases hor with ⟨t0, _, h6, _, hc⟩ | ⟨t1, h6, _, hc⟩
  · refine ⟨[σ (8 + b) 6 + 4], ⟨by omega, by omega, fun h8 => ?_⟩, fun x => ⟨fun h => Or.inl (List.mem_singleton.mp h), fun h => ?_⟩⟩
    · obtain ⟨_, _, _, _, k, _⟩ := hc (by omega)
      have k5 := k.2.2.2.2
      rw [if_pos rfl] at k5
      have e0 : σ (8 + b) 6 + 1 + 1 + 1 + 1 = σ (8 + b) 6 + 4 := by omega
      rw [e0] at k5
      exact k5.1
    · rcases h with h | h
      · exact List.mem_singleton.mpr h
      · omega
  · refine ⟨[σ (8 + b) 6 + 9, σ (8 + b) 6 + 4], ⟨by omega, by omega, fun h8 => ?_⟩, fun x => ⟨fun h => ?_, fun h => ?_⟩⟩
    · obtain ⟨⟨_, _, _, _, k, _⟩, ⟨_, _, _, _, k2, _⟩⟩ := hc (by omega)
      have k5 := k.2.2.2.2
      rw [if_pos rfl] at k5
      have e0 : σ (8 + b) 6 + 1 + 1 + 1 + 1 = σ (8 + b) 6 + 4 := by omega
      rw [e0] at k5
      have k25 := k2.2.2.2.2
      rw [if_pos rfl] at k25
      have e1 : σ (8 + b) 6 + 5 + 1 + 1 + 1 + 1 = σ (8 + b) 6 + 9 := by omega
      rw [e1] at k25
      exact ⟨k25.1, by omega, fun _ => k5.1⟩
    · cases h with
      | head => exact Or.inr ⟨t1, rfl⟩
      | tail _ h => exact Or.inl (List.mem_singleton.mp h)
    · rcases h with h | h
      · rw [h]
        exact List.mem_cons_of_mem _ (List.mem_singleton.mpr rfl)
      · rw [h.2]
        exact List.mem_cons_self ..
section SU
variable {E : js_E} {d : Nat} {b : Int}
/-- the class behind the BLOCK of an ARM -/
theorem ca_C {σ1 : js_S} {ty tm Ex Lx nx sk bf : Int} {Qs : List Int} (hb : b = 0 ∨ b = 25) (hz : cz_R σ1 b) (hs : σ1 (8 + b) 6 ≤ 50000000) (hL : 0 ≤ Lx ∧ Lx ≤ 400000) (hj : jw (fun i => σ1 (10 + b) i) Qs (σ1 (8 + b) 6) sk) (hbf : 0 ≤ bf ∧ bf ≤ 400000) (hd : 8 ≤ d) : ∃ σ4 : js_S, js_J E d 99 160 [(2, 22 + b), (0, ty), (0, tm), (0, Ex), (0, Lx), (0, nx), (0, sk), (0, bf)] [] σ1 = js_J E d 99 99 [(2, 22 + b), (0, ty), (0, tm), (0, σ1 (8 + b) 6), (0, max Lx (min 400000 (σ1 (8 + b) 7 + 1))), (0, nx + 1), (0, sk), (0, bf)] [] σ4 ∧ (σ4 (8 + b) 6 = σ1 (8 + b) 6 + 1 ∧ σ4 (8 + b) 7 = bf) ∧ (∀ a i : Int, ¬ (a = 8 + b ∧ (i = 6 ∨ i = 7)) → ¬ (9 + b ≤ a ∧ a ≤ 14 + b ∧ i = σ1 (8 + b) 6) → ¬ (a = 10 + b ∧ i ∈ Qs) → σ4 a i = σ1 a i) ∧ (σ1 (8 + b) 6 < 8192 → ∀ x : Int, x ∈ Qs → σ4 (10 + b) x = σ1 (8 + b) 6 + 1) ∧ (σ1 (8 + b) 6 < 8192 → σ4 (9 + b) (σ1 (8 + b) 6) = 24 ∧ σ4 (10 + b) (σ1 (8 + b) 6) = Ex ∧ σ4 (11 + b) (σ1 (8 + b) 6) = 0 ∧ σ4 (12 + b) (σ1 (8 + b) 6) = 1 ∧ σ4 (13 + b) (σ1 (8 + b) 6) = 0 ∧ σ4 (14 + b) (σ1 (8 + b) 6) = 0) := by
  obtain ⟨σ2, e2, n2⟩ := c_add (E := E) (d := d - 1) (σ := σ1) (op := 24) (x := Ex) hb hz (by omega)
  have O2 := n2.2.2.2
  have q7 : σ2 (8 + b) 7 = min 400000 (σ1 (8 + b) 7 + 1) := n2.2.1
  have q6 := n2.1
  have g36 : js_up σ2 (8 + b) 7 bf (8 + b) 6 = σ1 (8 + b) 6 + 1 := by rw [js_up_ni _ (by decide), q6]
  have g37 : js_up σ2 (8 + b) 7 bf (8 + b) 7 = bf := js_up_same _ _ _ _
  have hz' := hz
  unfold cz_R at hz
  have hz3 : cz_R (js_up σ2 (8 + b) 7 bf) b := by
    unfold cz_R
    rw [g36, g37]
    omega
  have hj3 : jw (fun i => js_up σ2 (8 + b) 7 bf (10 + b) i) Qs (js_up σ2 (8 + b) 7 bf (8 + b) 6) sk := by
    rw [g36]
    refine jw_up Qs (jw_of Qs _ _ (fun i hi => ?_) hj) (by omega)
    show js_up σ2 (8 + b) 7 bf (10 + b) i = σ1 (10 + b) i
    rw [js_up_na _ (by omega), O2 _ _ (by omega) (by omega)]
  obtain ⟨σ4, e4, l2, l1⟩ := c_landAll (E := E) (d := d - 1) (Q := Qs) hb (by omega) hz3 hj3
  have mx : (if js_w Lx < js_w (σ2 (8 + b) 7) then σ2 (8 + b) 7 else Lx) = max Lx (min 400000 (σ1 (8 + b) 7 + 1)) := by
    rw [q7, js_w_of (x := Lx) (by omega) (by omega), js_w_of (x := min 400000 (σ1 (8 + b) 7 + 1)) (by omega) (by omega)]
    split <;> omega
  have nv : ∀ a : Int, σ1 (8 + b) 6 < 8192 → ¬ (a = 10 + b ∧ σ1 (8 + b) 6 ∈ Qs) := fun a h hh => by
    have := jw_in Qs _ _ _ hj (by omega) hh.2
    omega
  refine ⟨σ4, ?_, ⟨?_, ?_⟩, fun a i g1 g2 g3 => ?_, fun h x hx => ?_, fun h => ?_⟩
  · rw [b_99_160 hb, k_99_167 hb (by omega) e2, b_99_170 (by omega) hb, mx, k_99_200 hb (by omega) e4, b_99_203]
  · rw [l2 _ _ (fun hh => by omega), g36]
  · rw [l2 _ _ (fun hh => by omega), g37]
  · rw [l2 _ _ g3, js_up_ne _ (by omega), O2 _ _ g1 g2]
  · rw [l1 (by rw [g36]; omega) x hx, g36]
  · obtain ⟨a1, a2, a3, a4, a5, a6⟩ := n2.2.2.1 h
    have o : ∀ a : Int, 9 + b ≤ a → a ≤ 14 + b → σ4 a (σ1 (8 + b) 6) = σ2 a (σ1 (8 + b) 6) := fun a g1 g2 => by rw [l2 _ _ (nv a h), js_up_na _ (by omega)]
    exact ⟨(o _ (by omega) (by omega)).trans a1, (o _ (by omega) (by omega)).trans a2, (o _ (by omega) (by omega)).trans a3, (o _ (by omega) (by omega)).trans a4, (o _ (by omega) (by omega)).trans a5, (o _ (by omega) (by omega)).trans a6⟩
end SU
