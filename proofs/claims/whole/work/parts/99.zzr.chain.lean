/-! part 99.zzr: the chain of an if: what is known of it -/
/-- as sg_R, but the node q may get its successor -/
def gq_R (N m q : Int) (ρ ρ' : js_S) : Prop := ∀ a i : Int, ¬ (a = 83 ∧ (5 ≤ i ∧ i ≤ 11 ∨ 27 ≤ i ∧ i ≤ 33 ∨ 42 ≤ i ∧ i ≤ 44)) → ¬ (100 ≤ a ∧ a ≤ 107 ∧ N ≤ i) → ¬ (86 ≤ a ∧ a ≤ 97 ∧ m ≤ i) → ¬ (a = 98 ∧ 20 * m ≤ i) → a ≠ 99 → ¬ (a = 104 ∧ i = q ∧ 0 ≤ q) → ρ' a i = ρ a i
theorem gq_sg {N m : Int} {ρ ρ' : js_S} (h : gq_R N m (-1) ρ ρ') : sg_R N m ρ ρ' := fun a i g1 g2 g3 g4 g5 => h a i g1 g2 g3 g4 g5 (by omega)
theorem rf_gq {N m q : Int} {ρ ρ' : js_S} (h : gq_R N m q ρ ρ') : rf_R ρ ρ' := fun a i g1 g2 => h a i (by omega) (by omega) (by omega) (by omega) (by omega) (by omega)
/-- what stands behind else, or a whole if, was read by both; q is the node before, k what it says of its else -/
def re_R (E : js_E) (b F : Int) (B U : Int → Int) (X : Int → Prop) (Q0 : List Int) (q Lx : Int) (σ ρ : js_S) (j : Nat) (σ' ρ' : js_S) (j' : Nat) (Ez Lz n k : Int) (s : tr_T) : Prop := (rd_R σ' ρ' j' ∧ j < j' ∧ ρ' 83 10 = ρ 83 10 ∧ sf_R b (σ (8 + b) 6) (σ (8 + b) 10) (σ (23 + b) 15) (ρ 83 11) σ σ' ∧ gq_R (ρ 83 33) (ρ 83 11) q ρ ρ' ∧ ρ 83 33 ≤ ρ' 83 33 ∧ ρ' 83 33 + j ≤ ρ 83 33 + j' ∧ ρ 83 11 ≤ ρ' 83 11 ∧ (0 ≤ q → ρ' 104 q = n)) ∧ xr_L b σ ρ σ' ρ' ∧ ((σ' (23 + b) 15 = σ (23 + b) 15 ∧ σ' (8 + b) 10 = σ (8 + b) 10 ∧ σ' (8 + b) 6 = σ (8 + b) 6 + st_ln s) ∧ (max Lz (σ' (8 + b) 7) = max Lx (min 400000 (σ (8 + b) 7 + st_cn B s)) ∧ (0 ≤ Lz ∧ Lz ≤ 400000) ∧ 0 ≤ σ' (8 + b) 7 ∧ σ' (8 + b) 7 ≤ 400000) ∧ σ' (8 + b) 11 = max (σ (8 + b) 11) (st_mt s (σ (8 + b) 10))) ∧ (∃ Q1 : List Int, jw (fun i => σ' (10 + b) i) (Q1 ++ Q0) (σ' (8 + b) 6) Ez ∧ (∀ x : Int, x ∈ Q1 → σ (8 + b) 6 ≤ x) ∧ (σ' (8 + b) 6 ≤ 8192 → st_cd (cq_P σ' b (σ (8 + b) 8) (σ' (8 + b) 6) (fun x => x ∈ Q1)) s (σ (8 + b) 10) (σ (8 + b) 6) (σ' (8 + b) 6))) ∧ (st_nd ρ' s (ρ 83 33) (ρ' 83 33) n 0 ∧ (k = 1 ∧ (s = .leaf ∨ xt_k s = 90) ∨ k = 2 ∧ xt_k s = 26) ∧ (st_w s ∧ st_G ρ' F s) ∧ (st_ln s ≤ 5000 * ((j' : Int) - j) ∧ 0 ≤ st_cn B s ∧ st_mt s (σ (8 + b) 10) ≤ 1024 ∧ st_dp s ≤ zz_b b σ ρ + 3 + 2 * k) ∧ (k = 2 → ρ 83 33 ≤ n ∧ n < ρ' 83 33 ∧ ρ' 107 n = -1)) ∧ ux_R E b F B U X σ' ρ'
theorem sf_88 {b n t p m : Int} {σ σ' : js_S} (hb : b = 0 ∨ b = 25) (h : sf_R b n t p m σ σ') : σ' (8 + b) 8 = σ (8 + b) 8 := h.2.1 _ _ (by omega) (by omega) (by unfold sf_D ef_D; omega)
theorem sf_code {b n t p m a i : Int} {σ σ' : js_S} (hb : b = 0 ∨ b = 25) (h : sf_R b n t p m σ σ') (h1 : 9 + b ≤ a) (h2 : a ≤ 14 + b) (h3 : i < n) : σ' a i = σ a i := h.2.1 _ _ (by omega) (by omega) (by unfold sf_D ef_D; omega)
theorem ef_71 {b n t p : Int} {σ σ' : js_S} (hb : b = 0 ∨ b = 25) (h : ef_R b n t p σ σ') : σ' (7 + b) 1 = σ (7 + b) 1 := h _ _ (by unfold ef_D; omega)
theorem ef_19 {b n t p x : Int} {σ σ' : js_S} (hb : b = 0 ∨ b = 25) (h : ef_R b n t p σ σ') : σ' (19 + b) x = σ (19 + b) x := h _ _ (by unfold ef_D; omega)
theorem ef_row {b n t p a x : Int} {σ σ' : js_S} (hb : b = 0 ∨ b = 25) (h : ef_R b n t p σ σ') (ha : 137 ≤ a) : σ' a x = σ a x := h _ _ (by unfold ef_D; omega)
theorem ic_m1 {a x y z : Int} : max (max a (max x y)) z = max a (max x (max y z)) := by omega
theorem ic_m2 {x y z : Int} (h1 : x ≤ 1024) (h2 : y ≤ 1024) (h3 : z ≤ 1024) : max x (max y z) ≤ 1024 := by omega
theorem ic_m3 {a x y : Int} : max (max a x) y = max a (max x y) := by omega
theorem ic_m4 {x y : Int} (h1 : 0 ≤ x) (h2 : x ≤ 17) (h3 : 0 ≤ y) (h4 : y ≤ 17) : 0 ≤ max x y ∧ max x y ≤ 17 := by omega
theorem ic_m5 {x y z : Int} (h1 : 0 ≤ x) (h2 : 0 ≤ y) (h3 : 0 ≤ z) : 0 ≤ x + 1 + max (y + 1) z := by omega
theorem ic_n1 {Lx Ly Lz bf b0 b1 b2 b5 cl cr cs : Int} (h0 : 0 ≤ b0) (h00 : b0 ≤ 400000) (hl : 0 ≤ cl) (hr : 0 ≤ cr) (hs : 0 ≤ cs) (e1 : bf = min 400000 (b0 + cl + 1)) (e2 : b1 = min 400000 (bf + cr)) (e3 : b2 = min 400000 (b1 + 1)) (e4 : Ly = max Lx b2) (e5 : max Lz b5 = max Ly (min 400000 (bf + cs))) : max Lz b5 = max Lx (min 400000 (b0 + (cl + 1 + max (cr + 1) cs))) := by
  rw [e5, e4]
  clear e5 e4
  omega
def bn_P (Lz b5 Lx b0 c : Int) : Prop := max Lz b5 = max Lx (min 400000 (b0 + c))
/-- with an else -/
theorem ic_els {E : js_E} {b F : Int} {B U : Int → Int} {X : Int → Prop} {Q0 : List Int} {x2 Ex Lx Ly Lz Ez nr k bf nc mm : Int} {σ ρ σ1 ρ1 σ4 ρ4 σ5 ρ5 : js_S} {j j1 j5 : Nat} {l r s : tr_T} (hb : b = 0 ∨ b = 25) (hn : 0 ≤ ρ 83 33) (hbn : bn_P Lz (σ5 (8 + b) 7) Lx (σ (8 + b) 7) (st_cn B (tr_n 26 0 0 k 0 0 0 l (tr_n 92 0 0 k 0 0 0 r s)))) (hx2 : x2 < ρ 83 33) (H : ih_R E b F B U X σ ρ j σ1 ρ1 j1 bf nc mm l r) (k6 : σ4 (8 + b) 6 = σ1 (8 + b) 6 + 1) (kO : ∀ i : Int, i ≠ 6 → i ≠ 7 → σ4 (8 + b) i = σ1 (8 + b) i) (k15 : σ4 (23 + b) 15 = σ1 (23 + b) 15) (F14 : ef_R b (σ (8 + b) 6) (σ (8 + b) 10) (σ (23 + b) 15) σ1 σ4) (kc : ∀ a i : Int, 9 + b ≤ a → a ≤ 14 + b → i < σ1 (8 + b) 6 → ¬ (a = 10 + b ∧ i = σ (8 + b) 6 + xt_ln l) → σ4 a i = σ1 a i) (kj : σ (8 + b) 6 + xt_ln l < 8192 → σ4 (10 + b) (σ (8 + b) 6 + xt_ln l) = σ1 (8 + b) 6 + 1) (kv : σ1 (8 + b) 6 < 8192 → σ4 (9 + b) (σ1 (8 + b) 6) = 24 ∧ σ4 (10 + b) (σ1 (8 + b) 6) = Ex ∧ σ4 (11 + b) (σ1 (8 + b) 6) = 0 ∧ σ4 (12 + b) (σ1 (8 + b) 6) = 1 ∧ σ4 (13 + b) (σ1 (8 + b) 6) = 0 ∧ σ4 (14 + b) (σ1 (8 + b) 6) = 0) (h14 : ∀ a i : Int, ¬ (a = 83 ∧ 5 ≤ i ∧ i ≤ 9) → ¬ (a = 104 ∧ i = x2 ∧ 0 ≤ x2) → ¬ (a = 106 ∧ i = ρ1 83 33 - 1) → ρ4 a i = ρ1 a i) (h106 : ρ4 106 (ρ1 83 33 - 1) = k) (h104 : 0 ≤ x2 → ρ4 104 x2 = ρ1 83 33 - 1) (hk : k = 1 ∨ k = 2) (R : re_R E b F B U X (σ1 (8 + b) 6 :: Q0) (ρ1 83 33 - 1) Ly σ4 ρ4 (j1 + 1) σ5 ρ5 j5 Ez Lz nr k s) : re_R E b F B U X Q0 x2 Lx σ ρ j σ5 ρ5 j5 Ez Lz (ρ1 83 33 - 1) 2 (tr_n 26 0 0 k 0 0 0 l (tr_n 92 0 0 k 0 0 0 r s)) := by
  obtain ⟨⟨_, q1, dp1, sf1, sg1, m1, m1', w1⟩, hL1, ⟨y15, y10, y6, _⟩, yc, ⟨n100, n106, n102, n103, n104, n107⟩, ⟨nd1, nd2⟩, ⟨te, tw, tG⟩, ⟨rk, rw1, rG⟩, ⟨tl, tcn, rcn, tmt, rmt, hz1, hz2⟩, _, hux1⟩ := id H
  obtain ⟨⟨r5, q5, dp5, sf5, gq5, m5, m5', w5, a5⟩, hL5, ⟨⟨z15, z10, z6⟩, ⟨_, zb1, zb2⟩, _⟩, ⟨Q1, jq, Qge, qc⟩, ⟨nd5, kk5, ⟨sw, sG⟩, ⟨sl, scn, smt, sdp⟩, _⟩, hux5⟩ := id R
  have ll := xt_ln_0 l
  have lr := st_ln_0 r
  have ls := st_ln_0 s
  have kpos : 0 < k := by omega
  have e33 : ρ4 83 33 = ρ1 83 33 := h14 _ _ (by omega) (by omega) (by omega)
  have e11 : ρ4 83 11 = ρ1 83 11 := h14 _ _ (by omega) (by omega) (by omega)
  have e10 : ρ4 83 10 = ρ1 83 10 := h14 _ _ (by omega) (by omega) (by omega)
  have e44 : ρ4 83 44 = ρ1 83 44 := h14 _ _ (by omega) (by omega) (by omega)
  have k8 := kO 8 (by decide) (by decide)
  have k10 := kO 10 (by decide) (by decide)
  have k11 := kO 11 (by decide) (by decide)
  have k12 := kO 12 (by decide) (by decide)
  have v8 : σ1 (8 + b) 8 = σ (8 + b) 8 := sf_88 hb sf1
  rw [e33] at nd5 gq5 m5 m5'
  rw [e11] at gq5 w5
  rw [k8, v8, k10, y10] at qc
  rw [k10, y10] at smt
  push_cast at m5' sl q5
  have hn33 := hn
  have f5 : ∀ a i : Int, 100 ≤ a → a ≤ 107 → ρ 83 33 ≤ i → i < ρ1 83 33 - 1 → ρ5 a i = ρ1 a i := fun a i g1 g2 g3 g4 => by rw [gq5 a i (by omega) (by omega) (by omega) (by omega) (by omega) (by omega), h14 a i (by omega) (by omega) (by omega)]
  have fn : ∀ a : Int, 100 ≤ a → a ≤ 107 → a ≠ 104 → a ≠ 106 → ρ5 a (ρ1 83 33 - 1) = ρ1 a (ρ1 83 33 - 1) := fun a g1 g2 g3 g4 => by rw [gq5 a _ (by omega) (by omega) (by omega) (by omega) (by omega) (by omega), h14 a _ (by omega) (by omega) (by omega)]
  have fz : ∀ a i : Int, 86 ≤ a → a ≤ 97 → 0 ≤ i → i < ρ1 83 11 → ρ5 a i = ρ1 a i := fun a i g1 g2 g3 g4 => by rw [gq5 a i (by omega) (by omega) (by omega) (by omega) (by omega) (by omega), h14 a i (by omega) (by omega) (by omega)]
  have s14 : sf_R b (σ (8 + b) 6) (σ (8 + b) 10) (σ (23 + b) 15) (ρ 83 11) σ1 σ4 := sf_R_ef hb (fun i g1 g2 => xs_ge hux1.1 i g1 (by omega)) F14
  have sfA : sf_R b (σ (8 + b) 6) (σ (8 + b) 10) (σ (23 + b) 15) (ρ 83 11) σ σ5 := sf_R_trans (sf_R_trans sf1 s14 (Int.le_refl _) (Int.le_refl _) (Int.le_refl _) (Int.le_refl _)) sf5 (by omega) (by omega) (by omega) (by omega)
  have hg4 : hg_R σ4 b := hg_ef hb (xs_hg hux1.1) F14
  have s741 : σ4 (7 + b) 1 = ρ1 83 11 := by
    rw [ef_71 hb F14]
    exact hux1.1.1.2.2.2.2.1
  have sf45 : sf_R b (σ4 (8 + b) 6) (σ4 (8 + b) 10) (σ4 (23 + b) 15) (σ4 (7 + b) 1) σ4 σ5 := by rw [s741, ← e11]; exact sf5
  refine ⟨⟨r5, by omega, by omega, sfA, ?_, by omega, by omega, by omega, fun h => ?_⟩, ?_, ⟨⟨by omega, by omega, ?_⟩, ⟨?_, zb1, zb2⟩, ?_⟩, ⟨Q1 ++ [σ1 (8 + b) 6], ?_, ?_, fun hs => ?_⟩, ⟨?_, Or.inr ⟨rfl, rfl⟩, ⟨?_, ?_⟩, ⟨?_, ?_, ?_, st_dz (x := 2 + max (xt_dp l) (max (st_dp r) (if k = 2 then st_dp s - 2 else st_dp s))) rfl (by
    have a3 : st_dp s ≤ 2 * (400 - σ4 (23 + b) 15) + 6 * (65 - ρ4 83 10) + 3 + 2 * k := sdp
    unfold zz_b at hz1 hz2 ⊢
    split <;> omega)⟩, fun _ => ⟨by omega, by omega, ?_⟩⟩, hux5⟩
  · intro a i g1 g2 g3 g4 g5 g6
    rw [gq5 a i (by omega) (by omega) (by omega) (by omega) g5 (by omega), h14 a i (by omega) g6 (by omega), sg1 a i g1 g2 g3 g4 g5]
  · rw [gq5 104 x2 (by omega) (by omega) (by omega) (by omega) (by omega) (by omega)]
    exact h104 h
  · obtain ⟨x, a1, a2, a3, a4⟩ := hL1
    obtain ⟨y, c1, c2, c3, c4⟩ := hL5
    have xy := ic_m4 a1 a2 c1 c2
    refine ⟨max x y, xy.1, xy.2, ?_, ?_⟩
    · rw [c3, e44, a3]
      exact ic_m3
    · rw [c4, k12, a4]
      exact ic_m3
  · rw [st_ln26, st_ln92, if_pos kpos]
    omega
  · exact hbn
  · have z11 := R.2.2.1.2.2
    have y11 := H.2.2.1.2.2.2.2.2
    rw [k10, y10] at z11
    rw [st_mt26, st_mt92, z11, k11, y11]
    exact ic_m1
  · rw [List.append_assoc]
    exact jq
  · intro x hx0
    rcases List.mem_append.mp hx0 with h | h
    · have := Qge x h
      omega
    · have : x = σ1 (8 + b) 6 := List.mem_singleton.mp h
      omega
  · have k4 := yc (by omega)
    obtain ⟨ka, kb, kd⟩ := k4
    have o4 : ∀ (i : Int) (I : xt_I), i < σ1 (8 + b) 6 → i ≠ σ (8 + b) 6 + xt_ln l → ci_P σ1 b (σ (8 + b) 8) i I → ci_P σ4 b (σ (8 + b) 8) i I := fun i I g1 g2 hI => ci_P_of hI (fun a h1 h2 => kc a i h1 h2 g1 (by omega)) (by rw [ef_71 hb F14]; exact Int.le_refl _) (fun x h1 h2 => ef_19 hb F14) (fun x y h1 h2 h3 => ef_row hb F14 (xs_hg hux1.1 x h1 h2))
    have nQ : ∀ i : Int, i < σ1 (8 + b) 6 → ¬ i ∈ Q1 ++ [σ1 (8 + b) 6] := fun i g h => by
      rcases List.mem_append.mp h with h | h
      · have := Qge i h
        omega
      · have : i = σ1 (8 + b) 6 := List.mem_singleton.mp h
        omega
    have up : ∀ (i : Int) (I : xt_I), i < σ1 (8 + b) 6 → ci_P σ4 b (σ (8 + b) 8) i I → cq_P σ5 b (σ (8 + b) 8) (σ5 (8 + b) 6) (fun x => x ∈ Q1 ++ [σ1 (8 + b) 6]) i I := fun i I g hI => cq_ci (ci_sf hb sf45 (by omega) hI) (nQ i g)
    have jz : ci_P σ4 b (σ (8 + b) 8) (σ (8 + b) 6 + xt_ln l) (25, 0, σ (8 + b) 6 + xt_ln l + 1 + st_ln r + 1, 0, 0, 1, 0) := by
      obtain ⟨i1, i2, i3, i4, i5⟩ := kb
      rw [if_pos rfl] at i5
      refine ⟨(kc _ _ (by omega) (by omega) (by omega) (by omega)).trans i1, (kc _ _ (by omega) (by omega) (by omega) (by omega)).trans i2, (kc _ _ (by omega) (by omega) (by omega) (by omega)).trans i3, (kc _ _ (by omega) (by omega) (by omega) (by omega)).trans i4, ?_⟩
      rw [if_pos rfl]
      refine ⟨?_, (kc _ _ (by omega) (by omega) (by omega) (by omega)).trans i5.2⟩
      have := kj (by omega)
      show σ4 (10 + b) (σ (8 + b) 6 + xt_ln l) = σ (8 + b) 6 + xt_ln l + 1 + st_ln r + 1
      omega
    have ev : σ (8 + b) 6 + xt_ln l + 1 + st_ln r = σ1 (8 + b) 6 := by omega
    obtain ⟨v9, v10, v11, v12, v13, v14⟩ := kv (by omega)
    have jv : cq_P σ5 b (σ (8 + b) 8) (σ5 (8 + b) 6) (fun x => x ∈ Q1 ++ [σ1 (8 + b) 6]) (σ1 (8 + b) 6) (24, 0, σ5 (8 + b) 6, 0, 0, 1, 0) := by
      have o : ∀ a : Int, 9 + b ≤ a → a ≤ 14 + b → σ5 a (σ1 (8 + b) 6) = σ4 a (σ1 (8 + b) 6) := fun a h1 h2 => sf_code hb sf45 h1 h2 (by omega)
      exact Or.inr ⟨List.mem_append.mpr (Or.inr (List.mem_singleton.mpr rfl)), rfl, (o _ (by omega) (by omega)).trans v9, (o _ (by omega) (by omega)).trans v11, (o _ (by omega) (by omega)).trans v12, (o _ (by omega) (by omega)).trans v13, (o _ (by omega) (by omega)).trans v14⟩
    rw [st_cd26, st_cd92, if_pos kpos]
    have exl : xt_l (tr_n 92 0 0 k 0 0 0 r s) = r := rfl
    rw [exl]
    refine ⟨xt_cd_of l _ _ (fun i I g1 g2 hI => up i I (by omega) (o4 i I (by omega) (by omega) hI)) ka, up _ _ (by omega) jz, st_cd_of r _ _ _ (fun i I g1 g2 hI => up i I (by omega) (o4 i I (by omega) (by omega) hI)) kd, fun _ => by rw [ev]; exact jv, ?_⟩
    have qc' := qc hs
    have e4 : σ (8 + b) 6 + xt_ln l + 1 + st_ln r + 1 = σ4 (8 + b) 6 := by omega
    rw [e4]
    exact st_cd_of s _ _ _ (fun i I g1 g2 hI => cq_Q hI ⟨fun h => List.mem_append.mpr (Or.inl h), fun h => by
      rcases List.mem_append.mp h with h | h
      · exact h
      · have : i = σ1 (8 + b) 6 := List.mem_singleton.mp h
        omega⟩) qc'
  · rw [st_nd26, st_nd92, fn 100 (by decide) (by decide) (by decide) (by decide), fn 102 (by decide) (by decide) (by decide) (by decide), fn 103 (by decide) (by decide) (by decide) (by decide), n102, n103]
    have g6 : ρ5 106 (ρ1 83 33 - 1) = k := by rw [gq5 106 _ (by omega) (by omega) (by omega) (by omega) (by omega) (by omega)]; exact h106
    refine ⟨⟨by omega, by omega⟩, by omega, n100, g6, rfl, xt_nd_of l _ _ _ (fun a i g1 g2 g3 g4 => f5 a i g1 (by omega) g3 g4) (fun i g1 g2 _ => f5 107 i (by decide) (by decide) g1 g2) nd1, ⟨by omega, by omega⟩, by omega, st_nd_of r _ _ _ _ _ _ (Int.le_refl _) (Int.le_refl _) (fun a i g1 g2 g3 g4 => f5 a i g1 (by omega) g3 g4) (fun i g1 g2 _ => f5 107 i (by decide) (by decide) g1 g2) nd2, ?_⟩
    rw [a5 (by omega)]
    have e1 : ρ1 83 33 - 1 + 1 = ρ1 83 33 := by omega
    rw [e1]
    exact nd5
  · rw [st_w26, st_w92]
    exact ⟨te, tw, rfl, rfl, rk, rw1, Or.inr kk5, sw⟩
  · unfold st_G
    rw [st_g26, st_g92]
    have l5 := xr_L_up hL5
    rw [e44] at l5
    exact ⟨xt_G_of tG (by omega) fz l5, st_G_of rG (by omega) fz l5, sG⟩
  · rw [st_ln26, st_ln92, if_pos kpos]
    omega
  · rw [st_cn26, st_cn92, if_pos kpos]
    exact ic_m5 tcn rcn scn
  · rw [st_mt26, st_mt92]
    exact ic_m2 tmt rmt smt
  · rw [fn 107 (by decide) (by decide) (by decide) (by decide)]
    exact n107
