/-! part 99.zzx: an ARM and those behind it -/
theorem cs_n1 {Lx Lz b0 b1 b2 b5 W cr cs : Int} (h0 : 0 ≤ b0) (h00 : b0 ≤ 400000) (hW : W = 5 ∨ W = 10) (hr : 0 ≤ cr) (hs : 0 ≤ cs) (e1 : b1 = min 400000 (b0 + W)) (e2 : b2 = min 400000 (b1 + cr)) (e5 : max Lz b5 = max (max Lx (min 400000 (b2 + 1))) (min 400000 (b1 + cs))) : max Lz b5 = max Lx (min 400000 (b0 + (W + max (cr + 1) cs))) := by
  rw [e5]
  clear e5
  omega
theorem cs_m1 {a x y : Int} : max (max a x) y = max a (max x y) := by omega
/-- the rows of an ARM's head: W of them; those in Qs are the jumps -/
theorem cs_hd {b u t p W z v1 v2 two kl kh : Int} {σ1 σ5 : js_S} {Qs : List Int} {Q : Int → Prop} {zz : Int} {blk : Int} (hb : b = 0 ∨ b = 25) (htt : two = 0 ∨ two = 1) (hW : W = if two = 1 then 10 else 5) (hQ : ∀ x : Int, x ∈ Qs ↔ x = p + 4 ∨ two = 1 ∧ x = p + 9) (hz : z = p + W + blk + 1) (hc : (two = 0 ∧ cl_P (ci_P σ1 b u) [(0, 0, v1, 0, 0, v1, v1), (3, 0, 0, 0, 0, 1, 0), (1, 2, t, 0, 0, kl, kh), (17, 0, 0, 0, 0, 0, 1), (25, 0, -1, 0, 0, 1, 0)] p) ∨ (two = 1 ∧ cl_P (ci_P σ1 b u) [(0, 0, v1, 0, 0, v1, v1), (3, 0, 0, 0, 0, 1, 0), (1, 2, t, 0, 0, kl, kh), (16, 0, 0, 0, 0, 0, 1), (25, 0, -1, 0, 0, 1, 0)] p ∧ cl_P (ci_P σ1 b u) [(0, 0, v2, 0, 0, v2, v2), (3, 0, 0, 0, 0, 1, 0), (1, 2, t, 0, 0, kl, kh), (14, 0, 0, 0, 0, 0, 1), (25, 0, p + 4, 0, 0, 1, 0)] (p + 5))) (up : ∀ (i : Int) (I : xt_I), i < p + W → ¬ i ∈ Qs → ci_P σ1 b u i I → cq_P σ5 b u zz Q i I) (uj : ∀ (i y : Int), i ∈ Qs → ci_P σ1 b u i (25, 0, y, 0, 0, 1, 0) → cq_P σ5 b u zz Q i (25, 0, z, 0, 0, 1, 0)) : cq_P σ5 b u zz Q p (0, 0, v1, 0, 0, v1, v1) ∧ cq_P σ5 b u zz Q (p + 1) (3, 0, 0, 0, 0, 1, 0) ∧ cq_P σ5 b u zz Q (p + 2) (1, 2, t, 0, 0, kl, kh) ∧ cq_P σ5 b u zz Q (p + 3) (if two = 1 then 16 else 17, 0, 0, 0, 0, 0, 1) ∧ cq_P σ5 b u zz Q (p + 4) (25, 0, z, 0, 0, 1, 0) ∧ (two = 1 → cq_P σ5 b u zz Q (p + 5) (0, 0, v2, 0, 0, v2, v2) ∧ cq_P σ5 b u zz Q (p + 5 + 1) (3, 0, 0, 0, 0, 1, 0) ∧ cq_P σ5 b u zz Q (p + 5 + 2) (1, 2, t, 0, 0, kl, kh) ∧ cq_P σ5 b u zz Q (p + 5 + 3) (14, 0, 0, 0, 0, 0, 1) ∧ cq_P σ5 b u zz Q (p + 5 + 4) (25, 0, z, 0, 0, 1, 0)) := by
  have nq : ∀ i : Int, i ≠ p + 4 → i ≠ p + 9 → ¬ i ∈ Qs := fun i g1 g2 h => by
    rcases (hQ i).mp h with h | h
    · exact g1 h
    · exact g2 h.2
  have up' : ∀ (i i' : Int) (I : xt_I), i = i' → i < p + W → i ≠ p + 4 → i ≠ p + 9 → ci_P σ1 b u i I → cq_P σ5 b u zz Q i' I := fun i i' I h g1 g2 g3 hI => by
    rw [← h]
    exact up i I g1 (nq i g2 g3) hI
  have uj' : ∀ (i i' y : Int), i = i' → i' ∈ Qs → ci_P σ1 b u i (25, 0, y, 0, 0, 1, 0) → cq_P σ5 b u zz Q i' (25, 0, z, 0, 0, 1, 0) := fun i i' y h g hI => by
    rw [h] at hI
    exact uj i' y g hI
  rcases hc with ⟨t0, a0, a1, a2, a3, a4, _⟩ | ⟨t1, ⟨a0, a1, a2, a3, a4, _⟩, ⟨c0, c1, c2, c3, c4, _⟩⟩
  · rw [if_neg (show ¬ two = 1 by omega)] at hW ⊢
    exact ⟨up' _ _ _ rfl (by omega) (by omega) (by omega) a0, up' _ _ _ rfl (by omega) (by omega) (by omega) a1, up' _ _ _ (by omega) (by omega) (by omega) (by omega) a2, up' _ _ _ (by omega) (by omega) (by omega) (by omega) a3, uj' _ _ _ (by omega) ((hQ _).mpr (Or.inl rfl)) a4, fun h => by omega⟩
  · rw [if_pos t1] at hW ⊢
    exact ⟨up' _ _ _ rfl (by omega) (by omega) (by omega) a0, up' _ _ _ rfl (by omega) (by omega) (by omega) a1, up' _ _ _ (by omega) (by omega) (by omega) (by omega) a2, up' _ _ _ (by omega) (by omega) (by omega) (by omega) a3, uj' _ _ _ (by omega) ((hQ _).mpr (Or.inl rfl)) a4, fun _ => ⟨up' _ _ _ rfl (by omega) (by omega) (by omega) c0, up' _ _ _ rfl (by omega) (by omega) (by omega) c1, up' _ _ _ (by omega) (by omega) (by omega) (by omega) c2, up' _ _ _ (by omega) (by omega) (by omega) (by omega) c3, uj' _ _ _ (by omega) ((hQ _).mpr (Or.inr ⟨t1, by omega⟩)) c4⟩⟩
theorem sf_17 {b n t p m a i : Int} {σ σ' : js_S} (hb : b = 0 ∨ b = 25) (h : sf_R b n t p m σ σ') (h1 : 17 + b ≤ a) (h2 : a ≤ 18 + b) (h3 : i < t) : σ' a i = σ a i := h.2.1 _ _ (by omega) (by omega) (by unfold sf_D ef_D; omega)
theorem ef_17 {b n t p a i : Int} {σ σ' : js_S} (hb : b = 0 ∨ b = 25) (h : ef_R b n t p σ σ') (h1 : 17 + b ≤ a) (h2 : a ≤ 18 + b) (h3 : i < t) : σ' a i = σ a i := h _ _ (by unfold ef_D; omega)
/-- an ARM with those behind it -/
theorem ca_step {E : js_E} {b F : Int} {B U : Int → Int} {X : Int → Prop} {Q0 Qs : List Int} {x4 Ex Lx Ly Lz Ez nr m mm sk v1 v2 two tm W : Int} {σ ρ σ1 ρ1 σ2 ρ2 ρ3 σ4 ρ4 σ5 ρ5 : js_S} {j j1 j2 j5 : Nat} {r s : tr_T} (hb : b = 0 ∨ b = 25) (hn : 0 ≤ ρ 83 33) (hp : 0 ≤ σ (8 + b) 6) (h71 : σ (7 + b) 1 = ρ 83 11) (hgs : ∀ i : Int, 0 ≤ i → i < ρ 83 11 → 137 ≤ σ (19 + b) i) (hW : W = if two = 1 then 10 else 5) (hbn : bn_P Lz (σ5 (8 + b) 7) Lx (σ (8 + b) 7) (st_cn B (tr_n 25 two v1 v2 0 (σ (17 + b) tm) (σ (18 + b) tm) r s))) (hx4 : x4 < ρ 83 33) (htm : σ (8 + b) 10 = tm + 1) (A : ar_R b (σ (8 + b) 8) tm σ ρ j σ1 ρ1 j1 sk v1 v2 two) (hQ : ∀ x : Int, x ∈ Qs ↔ x = σ (8 + b) 6 + 4 ∨ two = 1 ∧ x = σ (8 + b) 6 + 9) (H : bl_R E b F B U X 0 σ1 ρ1 j1 σ2 ρ2 j2 mm r) (hw : nw_R ρ2 ρ3 25 two v1 v2 mm 0 0) (h34 : ∀ a i : Int, ¬ (a = 107 ∧ i = x4 ∧ 0 ≤ x4) → ρ4 a i = ρ3 a i) (h107 : 0 ≤ x4 → ρ4 107 x4 = ρ2 83 33) (k6 : σ4 (8 + b) 6 = σ2 (8 + b) 6 + 1) (kO : ∀ a i : Int, ¬ (a = 8 + b ∧ (i = 6 ∨ i = 7)) → ¬ (9 + b ≤ a ∧ a ≤ 14 + b ∧ i = σ2 (8 + b) 6) → ¬ (a = 10 + b ∧ i ∈ Qs) → σ4 a i = σ2 a i) (kq : σ2 (8 + b) 6 < 8192 → ∀ x : Int, x ∈ Qs → σ4 (10 + b) x = σ2 (8 + b) 6 + 1) (kv : σ2 (8 + b) 6 < 8192 → σ4 (9 + b) (σ2 (8 + b) 6) = 24 ∧ σ4 (10 + b) (σ2 (8 + b) 6) = Ex ∧ σ4 (11 + b) (σ2 (8 + b) 6) = 0 ∧ σ4 (12 + b) (σ2 (8 + b) 6) = 1 ∧ σ4 (13 + b) (σ2 (8 + b) 6) = 0 ∧ σ4 (14 + b) (σ2 (8 + b) 6) = 0) (R : ca_R E b F B U X (σ2 (8 + b) 6 :: Q0) (ρ2 83 33) Ly σ4 ρ4 j2 σ5 ρ5 j5 Ez Lz nr m s) : ca_R E b F B U X Q0 x4 Lx σ ρ j σ5 ρ5 j5 Ez Lz (ρ2 83 33) m (tr_n 25 two v1 v2 0 (σ (17 + b) tm) (σ (18 + b) tm) r s) := by
  obtain ⟨⟨ra, qa, tfa, Fa⟩, ⟨ga, ka, ka15⟩, ⟨hvv, _⟩, hor⟩ := A
  obtain ⟨⟨rb, qb, dpb, sfb, sgb, mb, mb', wb⟩, hLb, ⟨⟨y15, y10, y6, _, _⟩, yc⟩, ⟨ndb, ⟨rk, rw1, rG⟩, ⟨tl, tcn, tmt⟩, _, hz2⟩, huxb⟩ := id H
  obtain ⟨⟨r5, q5, dp5, sf5, gp5, m5, m5', w5, a5⟩, hL5, ⟨⟨z15, z10, z6⟩, ⟨_, zb1, zb2⟩, _⟩, ⟨Q1, jq, Qge, qc⟩, ⟨nd5, kk5, ⟨sw, sG⟩, ⟨sl, scn, smt, sdp⟩, am5⟩, hux5⟩ := id R
  have lr := st_ln_0 r
  have ls := st_ln_0 s
  have two01 : two = 0 ∨ two = 1 := by
    rcases hor with h | h
    · exact Or.inl h.1
    · exact Or.inr h.1
  have W1 : W = 5 ∨ W = 10 := by
    rw [hW]
    split
    · exact Or.inr rfl
    · exact Or.inl rfl
  have a6 : σ1 (8 + b) 6 = σ (8 + b) 6 + W := by
    rcases hor with h | h
    · rw [hW, if_neg (show ¬ two = 1 by have := h.1; omega)]
      exact h.2.2.1
    · rw [hW, if_pos h.1]
      exact h.2.1
  have hcc : σ1 (8 + b) 6 ≤ 8192 → (two = 0 ∧ cl_P (ci_P σ1 b (σ (8 + b) 8)) [(0, 0, v1, 0, 0, v1, v1), (3, 0, 0, 0, 0, 1, 0), (1, 2, tm, 0, 0, σ (17 + b) tm, σ (18 + b) tm), (17, 0, 0, 0, 0, 0, 1), (25, 0, -1, 0, 0, 1, 0)] (σ (8 + b) 6)) ∨ (two = 1 ∧ cl_P (ci_P σ1 b (σ (8 + b) 8)) [(0, 0, v1, 0, 0, v1, v1), (3, 0, 0, 0, 0, 1, 0), (1, 2, tm, 0, 0, σ (17 + b) tm, σ (18 + b) tm), (16, 0, 0, 0, 0, 0, 1), (25, 0, -1, 0, 0, 1, 0)] (σ (8 + b) 6) ∧ cl_P (ci_P σ1 b (σ (8 + b) 8)) [(0, 0, v2, 0, 0, v2, v2), (3, 0, 0, 0, 0, 1, 0), (1, 2, tm, 0, 0, σ (17 + b) tm, σ (18 + b) tm), (14, 0, 0, 0, 0, 0, 1), (25, 0, σ (8 + b) 6 + 4, 0, 0, 1, 0)] (σ (8 + b) 6 + 5)) := fun h => by
    rcases hor with g | g
    · exact Or.inl ⟨g.1, g.2.2.2.2 h⟩
    · exact Or.inr ⟨g.1, (g.2.2.2 h).1, (g.2.2.2 h).2⟩
  clear hor
  have e1_8 : ∀ k : Int, k ≠ 6 → k ≠ 7 → σ1 (8 + b) k = σ (8 + b) k := ka
  have e2_8 : σ2 (8 + b) 8 = σ1 (8 + b) 8 := sf_88 hb sfb
  have k4_8 : ∀ k : Int, k ≠ 6 → k ≠ 7 → σ4 (8 + b) k = σ2 (8 + b) k := fun k g1 g2 => kO _ _ (by omega) (by omega) (fun hh => by omega)
  have k10 := k4_8 10 (by decide) (by decide)
  have k15 : σ4 (23 + b) 15 = σ2 (23 + b) 15 := kO _ _ (by omega) (by omega) (fun hh => by omega)
  have a10 := ka 10 (by decide) (by decide)
  have u33 : ρ1 83 33 = ρ 83 33 := tfa _ _ (by omega)
  have u11 : ρ1 83 11 = ρ 83 11 := tfa _ _ (by omega)
  have u10 : ρ1 83 10 = ρ 83 10 := tfa _ _ (by omega)
  have u44 : ρ1 83 44 = ρ 83 44 := tfa _ _ (by omega)
  have hwO := hw.2.2.2.2.2.2
  have hw1 := hw.1
  have e33 : ρ4 83 33 = ρ2 83 33 + 1 := by rw [h34 _ _ (by omega)]; exact hw1
  have e11 : ρ4 83 11 = ρ2 83 11 := by rw [h34 _ _ (by omega), hwO _ _ (by omega) (by omega)]
  have e10 : ρ4 83 10 = ρ2 83 10 := by rw [h34 _ _ (by omega), hwO _ _ (by omega) (by omega)]
  have e44 : ρ4 83 44 = ρ2 83 44 := by rw [h34 _ _ (by omega), hwO _ _ (by omega) (by omega)]
  have v48 : σ4 (8 + b) 8 = σ (8 + b) 8 := by rw [k4_8 8 (by decide) (by decide), e2_8, ka 8 (by decide) (by decide)]
  have v410 : σ4 (8 + b) 10 = σ (8 + b) 10 := by rw [k10, y10, a10]
  rw [e33] at nd5 gp5 m5 m5'
  rw [e11] at gp5 w5
  rw [v48, v410] at qc
  rw [v410] at smt am5
  rw [u33] at sgb mb mb' ndb
  rw [u11] at sgb wb
  rw [a10] at tmt
  have f17 : ∀ a : Int, 17 + b ≤ a → a ≤ 18 + b → σ4 a tm = σ a tm := fun a g1 g2 => by rw [kO _ _ (by omega) (by omega) (fun hh => by omega), sf_17 hb sfb g1 g2 (by omega), ef_17 hb Fa g1 g2 (by omega)]
  have etm : σ (8 + b) 10 - 1 = tm := by omega
  rw [etm, f17 _ (by omega) (by omega), f17 _ (by omega) (by omega)] at am5
  have F24 : ef_R b (σ (8 + b) 6) (σ (8 + b) 10) (σ (23 + b) 15) σ2 σ4 := fun a i g => kO a i (fun hh => g (ef_D8 ⟨hh.1, by omega⟩)) (fun hh => g (ef_D9 ⟨hh.1, hh.2.1, by omega⟩)) (fun hh => g (ef_D9 ⟨by omega, by omega, by have := (hQ i).mp hh.2; omega⟩))
  have sf02 : sf_R b (σ (8 + b) 6) (σ (8 + b) 10) (σ (23 + b) 15) (ρ 83 11) σ σ2 := sf_R_trans (sf_R_ef hb hgs Fa) sfb (by omega) (by omega) (by omega) (by omega)
  have sfA : sf_R b (σ (8 + b) 6) (σ (8 + b) 10) (σ (23 + b) 15) (ρ 83 11) σ σ5 := sf_R_trans (sf_R_trans sf02 (sf_R_ef hb (fun i g1 g2 => xs_ge huxb.1 i g1 (by omega)) F24) (Int.le_refl _) (Int.le_refl _) (Int.le_refl _) (Int.le_refl _)) sf5 (by omega) (by omega) (by omega) (by omega)
  have f5 : ∀ a i : Int, 100 ≤ a → a ≤ 107 → ρ 83 33 ≤ i → i < ρ2 83 33 → ρ5 a i = ρ2 a i := fun a i g1 g2 g3 g4 => by rw [gp5 a i (by omega) (by omega) (by omega) (by omega) (by omega) (by omega), h34 a i (by omega), hwO a i (by omega) (by omega)]
  have fn : ∀ a : Int, 100 ≤ a → a ≤ 106 → ρ5 a (ρ2 83 33) = ρ3 a (ρ2 83 33) := fun a g1 g2 => by rw [gp5 a _ (by omega) (by omega) (by omega) (by omega) (by omega) (by omega), h34 a _ (by omega)]
  have fz : ∀ a i : Int, 86 ≤ a → a ≤ 97 → 0 ≤ i → i < ρ2 83 11 → ρ5 a i = ρ2 a i := fun a i g1 g2 g3 g4 => by rw [gp5 a i (by omega) (by omega) (by omega) (by omega) (by omega) (by omega), h34 a i (by omega), hwO a i (by omega) (by omega)]
  have s741 : σ4 (7 + b) 1 = ρ2 83 11 := by
    rw [ef_71 hb F24]
    exact huxb.1.1.2.2.2.2.1
  have sf45 : sf_R b (σ4 (8 + b) 6) (σ4 (8 + b) 10) (σ4 (23 + b) 15) (σ4 (7 + b) 1) σ4 σ5 := by rw [s741, ← e11]; exact sf5
  have hzz : max (st_dp r) (st_dp s) ≤ zz_b b σ ρ + 8 := by
    have b1 : ρ1 83 10 = ρ 83 10 := tfa _ _ (by omega)
    have b2 : σ4 (23 + b) 15 = σ2 (23 + b) 15 := kO _ _ (by omega) (by omega) (by omega)
    have b3 : ρ4 83 10 = ρ2 83 10 := by rw [h34 _ _ (by omega), hw.2.2.2.2.2.2 _ _ (by omega) (by omega)]
    unfold zz_b at hz2 sdp ⊢
    omega
  refine ⟨⟨r5, by omega, by omega, sfA, ?_, by omega, by omega, by omega, fun h => ?_⟩, ?_, ⟨⟨by omega, by omega, ?_⟩, ⟨hbn, zb1, zb2⟩, ?_⟩, ⟨Q1 ++ [σ2 (8 + b) 6], ?_, ?_, fun hs => ?_⟩, ⟨?_, Or.inl rfl, ⟨?_, ?_⟩, ⟨?_, ?_, ?_, st_dz (x := max (st_dp r) (st_dp s)) rfl hzz⟩, ?_⟩, hux5⟩
  · intro a i g1 g2 g3 g4 g5 g6
    rw [gp5 a i (by omega) (by omega) (by omega) (by omega) g5 (by omega), h34 a i g6, hwO a i (by omega) (by omega), sgb a i g1 g2 g3 g4 g5, tfa a i (by omega)]
  · rw [gp5 107 x4 (by omega) (by omega) (by omega) (by omega) (by omega) (by omega)]
    exact h107 h
  · obtain ⟨x, c1, c2, c3, c4⟩ := hLb
    obtain ⟨y, d1, d2, d3, d4⟩ := hL5
    have xy := ic_m4 c1 c2 d1 d2
    refine ⟨max x y, xy.1, xy.2, ?_, ?_⟩
    · rw [d3, e44, c3, u44]
      exact cs_m1
    · rw [d4, k4_8 12 (by decide) (by decide), c4, ka 12 (by decide) (by decide)]
      exact cs_m1
  · rw [st_ln25, ← hW]
    omega
  · have z11 := R.2.2.1.2.2
    have y11 := H.2.2.1.1.2.2.2.2
    rw [v410, k4_8 11 (by decide) (by decide)] at z11
    rw [a10, ka 11 (by decide) (by decide)] at y11
    rw [st_mt25, z11, y11]
    exact cs_m1
  · rw [List.append_assoc]
    exact jq
  · intro x hx0
    rcases List.mem_append.mp hx0 with h | h
    · have := Qge x h
      omega
    · have : x = σ2 (8 + b) 6 := List.mem_singleton.mp h
      omega
  · have hg2 : hg_R σ2 b := xs_hg huxb.1
    have s71 : σ1 (7 + b) 1 ≤ ρ1 83 11 := by
      rw [ef_71 hb Fa, h71, u11]
      exact Int.le_refl _
    have nQ : ∀ i : Int, i < σ2 (8 + b) 6 → ¬ i ∈ Q1 ++ [σ2 (8 + b) 6] := fun i g h => by
      rcases List.mem_append.mp h with h | h
      · have := Qge i h
        omega
      · have : i = σ2 (8 + b) 6 := List.mem_singleton.mp h
        omega
    have o4 : ∀ (i : Int) (I : xt_I), i < σ2 (8 + b) 6 → ¬ i ∈ Qs → ci_P σ2 b (σ (8 + b) 8) i I → ci_P σ4 b (σ (8 + b) 8) i I := fun i I g1 g2 hI => ci_P_of hI (fun a h1 h2 => kO a i (by omega) (by omega) (fun hh => g2 hh.2)) (by rw [ef_71 hb F24]; exact Int.le_refl _) (fun x h1 h2 => ef_19 hb F24) (fun x y h1 h2 h3 => ef_row hb F24 (hg2 x h1 h2))
    have up5 : ∀ (i : Int) (I : xt_I), i < σ2 (8 + b) 6 → ci_P σ4 b (σ (8 + b) 8) i I → cq_P σ5 b (σ (8 + b) 8) (σ5 (8 + b) 6) (fun x => x ∈ Q1 ++ [σ2 (8 + b) 6]) i I := fun i I g hI => cq_ci (ci_sf hb sf45 (by omega) hI) (nQ i g)
    have sf12 : sf_R b (σ1 (8 + b) 6) (σ1 (8 + b) 10) (σ1 (23 + b) 15) (σ1 (7 + b) 1) σ1 σ2 := sf_R_mono sfb (Int.le_refl _) (Int.le_refl _) (Int.le_refl _) s71
    have hd := cs_hd (σ1 := σ1) (σ5 := σ5) (t := tm) (W := W) (z := σ (8 + b) 6 + W + st_ln r + 1) (blk := st_ln r) (Q := fun x => x ∈ Q1 ++ [σ2 (8 + b) 6]) (zz := σ5 (8 + b) 6) hb two01 hW hQ rfl (hcc (by omega)) (fun i I g1 g2 hI => up5 i I (by omega) (o4 i I (by omega) g2 (ci_sf hb sf12 (by omega) hI))) (fun i y g hI => by
      have gi := (hQ i).mp g
      have gi2 : i < σ1 (8 + b) 6 := by
        rcases gi with gi | gi
        · omega
        · rw [hW, if_pos gi.1] at a6
          omega
      have k2 := ci_sf hb sf12 gi2 hI
      refine up5 i _ (by omega) ?_
      obtain ⟨i1, i2, i3, i4, i5⟩ := k2
      rw [if_pos rfl] at i5
      have o : ∀ a : Int, 9 + b ≤ a → a ≤ 14 + b → a ≠ 10 + b → σ4 a i = σ2 a i := fun a g1 g2 g3 => kO a i (by omega) (by omega) (by omega)
      refine ⟨(o _ (by omega) (by omega) (by omega)).trans i1, (o _ (by omega) (by omega) (by omega)).trans i2, (o _ (by omega) (by omega) (by omega)).trans i3, (o _ (by omega) (by omega) (by omega)).trans i4, ?_⟩
      rw [if_pos rfl]
      refine ⟨?_, (o _ (by omega) (by omega) (by omega)).trans i5.2⟩
      have := kq (by omega) i g
      show σ4 (10 + b) i = σ (8 + b) 6 + W + st_ln r + 1
      omega)
    obtain ⟨h0, h1, h2, h3, h4, h5⟩ := hd
    obtain ⟨v9, v10, v11, v12, v13, v14⟩ := kv (by omega)
    have jv : cq_P σ5 b (σ (8 + b) 8) (σ5 (8 + b) 6) (fun x => x ∈ Q1 ++ [σ2 (8 + b) 6]) (σ2 (8 + b) 6) (24, 0, σ5 (8 + b) 6, 0, 0, 1, 0) := by
      have o : ∀ a : Int, 9 + b ≤ a → a ≤ 14 + b → σ5 a (σ2 (8 + b) 6) = σ4 a (σ2 (8 + b) 6) := fun a g1 g2 => sf_code hb sf45 g1 g2 (by omega)
      exact Or.inr ⟨List.mem_append.mpr (Or.inr (List.mem_singleton.mpr rfl)), rfl, (o _ (by omega) (by omega)).trans v9, (o _ (by omega) (by omega)).trans v11, (o _ (by omega) (by omega)).trans v12, (o _ (by omega) (by omega)).trans v13, (o _ (by omega) (by omega)).trans v14⟩
    have kd := yc (by omega)
    rw [ka 8 (by decide) (by decide), a10, a6] at kd
    have qc' := qc hs
    have e2 : σ (8 + b) 6 + W + st_ln r = σ2 (8 + b) 6 := by omega
    have e4 : σ2 (8 + b) 6 + 1 = σ4 (8 + b) 6 := by omega
    rw [st_cd25, ← hW, etm]
    refine ⟨h0, h1, h2, h3, h4, h5, st_cd_of r _ _ _ (fun i I g1 g2 hI => up5 i I (by omega) (o4 i I (by omega) (fun hh => by
      rcases (hQ i).mp hh with gi | gi
      · omega
      · rw [hW, if_pos gi.1] at g1
        omega) hI)) kd, ?_, ?_⟩
    · rw [e2]
      exact jv
    · rw [e2, e4]
      exact st_cd_of s _ _ _ (fun i I g1 g2 hI => cq_Q hI ⟨fun h => List.mem_append.mpr (Or.inl h), fun h => by
        rcases List.mem_append.mp h with h | h
        · exact h
        · have : i = σ2 (8 + b) 6 := List.mem_singleton.mp h
          omega⟩) qc'
  · rw [st_nd25, fn 100 (by decide) (by decide), fn 101 (by decide) (by decide), fn 102 (by decide) (by decide), fn 105 (by decide) (by decide), fn 106 (by decide) (by decide), a5 (by omega), hw.2.2.1]
    exact ⟨⟨by omega, by omega⟩, by omega, hw.2.1.1, hw.2.1.2.1, hw.2.1.2.2.1, hw.2.1.2.2.2, st_nd_of r _ _ _ _ _ _ (Int.le_refl _) (Int.le_refl _) (fun a i g1 g2 g3 g4 => f5 a i g1 (by omega) g3 g4) (fun i g1 g2 _ => f5 107 i (by decide) (by decide) g1 g2) ndb, nd5⟩
  · rw [st_w25]
    exact ⟨⟨two01, hvv⟩, rk, rw1, kk5, sw⟩
  · unfold st_G
    rw [st_g25]
    have l5 := xr_L_up hL5
    rw [e44] at l5
    exact ⟨st_G_of rG (by omega) fz l5, sG⟩
  · rw [st_ln25, ← hW]
    omega
  · rw [st_cn25, ← hW]
    have g0 : 0 ≤ max (st_cn B r + 1) (st_cn B s) := Int.le_trans scn (Int.le_max_right _ _)
    omega
  · rw [st_mt25]
    exact Int.max_le.mpr ⟨tmt, smt⟩
  · rw [etm]
    exact am_25 rfl rfl am5
