/-! part 99.zzs: the pieces of an if's chain -/
theorem tkq {σ ρ : js_S} {j : Nat} {k : Int} (hR : rd_R σ ρ j) (hk : tk_V k) : js_w (σ 1 1) = tk_m k ↔ ρ 83 5 = k := by
  obtain ⟨hV, c, _⟩ := rd_V hR
  have m := tk_m_in hV
  rw [c, js_w_of (by omega) (by omega)]
  exact tk_m_inj hV hk
theorem ic_m6 {a x y : Int} (h : 0 ≤ a) : max a (max x y) = max a (max x (max y 0)) := by omega
/-- an if without an else -/
theorem ic_end {E : js_E} {b F : Int} {B U : Int → Int} {X : Int → Prop} {Q0 : List Int} {x2 Ex Lx bf nc mm : Int} {σ ρ σ1 ρ1 σ4 ρ4 : js_S} {j j1 : Nat} {l r : tr_T} (hb : b = 0 ∨ b = 25) (hn : 0 ≤ ρ 83 33) (hLx : 0 ≤ Lx ∧ Lx ≤ 400000) (hbn : bn_P Lx (σ4 (8 + b) 7) Lx (σ (8 + b) 7) (st_cn B (tr_n 26 0 0 0 0 0 0 l (tr_n 92 0 0 0 0 0 0 r .leaf)))) (hx2 : x2 < ρ 83 33) (hp : 0 ≤ σ (8 + b) 6) (h11 : 0 ≤ σ (8 + b) 11) (hq : jw (fun i => σ (10 + b) i) Q0 (σ (8 + b) 6) Ex) (H : ih_R E b F B U X σ ρ j σ1 ρ1 j1 bf nc mm l r) (l1 : σ (8 + b) 6 + xt_ln l < 8192 → σ4 (10 + b) (σ (8 + b) 6 + xt_ln l) = σ1 (8 + b) 6) (l2 : ∀ a i : Int, ¬ (a = 10 + b ∧ i = σ (8 + b) 6 + xt_ln l) → σ4 a i = σ1 a i) (h14 : ∀ a i : Int, ¬ (a = 104 ∧ i = x2 ∧ 0 ≤ x2) → ρ4 a i = ρ1 a i) (h104 : 0 ≤ x2 → ρ4 104 x2 = ρ1 83 33 - 1) : re_R E b F B U X Q0 x2 Lx σ ρ j σ4 ρ4 j1 Ex Lx (ρ1 83 33 - 1) 2 (tr_n 26 0 0 0 0 0 0 l (tr_n 92 0 0 0 0 0 0 r .leaf)) := by
  obtain ⟨⟨r1, q1, dp1, sf1, sg1, m1, m1', w1⟩, hL1, ⟨y15, y10, y6, _⟩, yc, ⟨n100, n106, n102, n103, n104, n107⟩, ⟨nd1, nd2⟩, ⟨te, tw, tG⟩, ⟨rk, rw1, rG⟩, ⟨tl, tcn, rcn, tmt, rmt, hz1, hz2⟩, hn1, hux1⟩ := id H
  have ll := xt_ln_0 l
  have lr := st_ln_0 r
  have b7 := hn1.2.1
  clear hn1
  have e33 : ρ4 83 33 = ρ1 83 33 := h14 _ _ (by omega)
  have e11 : ρ4 83 11 = ρ1 83 11 := h14 _ _ (by omega)
  have e10 : ρ4 83 10 = ρ1 83 10 := h14 _ _ (by omega)
  have e44 : ρ4 83 44 = ρ1 83 44 := h14 _ _ (by omega)
  have k8 : ∀ k : Int, σ4 (8 + b) k = σ1 (8 + b) k := fun k => l2 _ _ (by omega)
  have k86 := k8 6
  have F14 : ef_R b (σ (8 + b) 6) (σ (8 + b) 10) (σ (23 + b) 15) σ1 σ4 := fun a i g => l2 a i (fun hh => g (ef_D9 ⟨by omega, by omega, by omega⟩))
  have sfA : sf_R b (σ (8 + b) 6) (σ (8 + b) 10) (σ (23 + b) 15) (ρ 83 11) σ σ4 := sf_R_trans sf1 (sf_R_ef hb (fun i g1 g2 => xs_ge hux1.1 i g1 (by omega)) F14) (Int.le_refl _) (Int.le_refl _) (Int.le_refl _) (Int.le_refl _)
  have G14 : eg_R 0 ρ1 ρ4 := fun a i g1 g2 => h14 a i (by omega)
  have f5 : ∀ a i : Int, 100 ≤ a → a ≤ 107 → ρ 83 33 ≤ i → ρ4 a i = ρ1 a i := fun a i g1 g2 g3 => h14 a i (by omega)
  refine ⟨⟨?_, by omega, by omega, sfA, ?_, by omega, by omega, by omega, h104⟩, ?_, ⟨⟨?_, by rw [k8]; exact y10, ?_⟩, ⟨hbn, hLx, by rw [k8]; exact b7.1, by rw [k8]; exact b7.2⟩, ?_⟩, ⟨[], ?_, ?_, fun hs => ?_⟩, ⟨?_, Or.inr ⟨rfl, rfl⟩, ⟨?_, ?_⟩, ⟨?_, ?_, ?_, st_dz (x := 2 + max (xt_dp l) (max (st_dp r) 8)) rfl (by
    have a3 := xt_dp_6 l
    omega)⟩, fun _ => ⟨by omega, by omega, ?_⟩⟩, ux_ef hb hux1 F14 G14⟩
  · exact rd_R_of r1 (fun i _ => l2 _ _ (by omega)) (fun a i _ _ => l2 _ _ (by omega)) (fun i _ _ => h14 _ _ (by omega)) (fun i => h14 _ _ (by omega))
  · intro a i g1 g2 g3 g4 g5 g6
    rw [h14 a i g6, sg1 a i g1 g2 g3 g4 g5]
  · obtain ⟨x, a1, a2, a3, a4⟩ := hL1
    exact ⟨x, a1, a2, by rw [e44]; exact a3, by rw [k8]; exact a4⟩
  · rw [l2 _ _ (by omega)]
    exact y15
  · rw [st_ln26, st_ln92, if_neg (by decide)]
    show σ4 (8 + b) 6 = σ (8 + b) 6 + (xt_ln l + 1 + (st_ln r + 0 + 0))
    omega
  · have y11 := H.2.2.1.2.2.2.2.2
    rw [st_mt26, st_mt92, k8, y11]
    show max (σ (8 + b) 11) (max (xt_mt l (σ (8 + b) 10)) (st_mt r (σ (8 + b) 10))) = max (σ (8 + b) 11) (max (xt_mt l (σ (8 + b) 10)) (max (st_mt r (σ (8 + b) 10)) 0))
    exact ic_m6 h11
  · show jw (fun i => σ4 (10 + b) i) Q0 (σ4 (8 + b) 6) Ex
    refine jw_up Q0 (jw_of Q0 _ _ (fun i hi => ?_) hq) (by omega)
    show σ4 (10 + b) i = σ (10 + b) i
    rw [l2 _ _ (by omega), sf_code hb sf1 (by omega) (by omega) hi]
  · intro x hx0
    cases hx0
  · obtain ⟨ka, kb, kd⟩ := yc (by omega)
    have o4 : ∀ (i : Int) (I : xt_I), i ≠ σ (8 + b) 6 + xt_ln l → ci_P σ1 b (σ (8 + b) 8) i I → cq_P σ4 b (σ (8 + b) 8) (σ4 (8 + b) 6) (fun x => x ∈ ([] : List Int)) i I := fun i I g2 hI => cq_ci (ci_P_of hI (fun a h1 h2 => l2 a i (by omega)) (by rw [ef_71 hb F14]; exact Int.le_refl _) (fun x h1 h2 => ef_19 hb F14) (fun x y h1 h2 h3 => ef_row hb F14 (xs_hg hux1.1 x h1 h2))) (fun h => by cases h)
    have jz : ci_P σ4 b (σ (8 + b) 8) (σ (8 + b) 6 + xt_ln l) (25, 0, σ (8 + b) 6 + xt_ln l + 1 + st_ln r + 0, 0, 0, 1, 0) := by
      obtain ⟨i1, i2, i3, i4, i5⟩ := kb
      rw [if_pos rfl] at i5
      refine ⟨(l2 _ _ (by omega)).trans i1, (l2 _ _ (by omega)).trans i2, (l2 _ _ (by omega)).trans i3, (l2 _ _ (by omega)).trans i4, ?_⟩
      rw [if_pos rfl]
      refine ⟨?_, (l2 _ _ (by omega)).trans i5.2⟩
      have := l1 (by omega)
      show σ4 (10 + b) (σ (8 + b) 6 + xt_ln l) = σ (8 + b) 6 + xt_ln l + 1 + st_ln r + 0
      omega
    rw [st_cd26, st_cd92, if_neg (by decide)]
    have exl : xt_l (tr_n 92 0 0 0 0 0 0 r .leaf) = r := rfl
    rw [exl]
    exact ⟨xt_cd_of l _ _ (fun i I g1 g2 hI => o4 i I (by omega) hI) ka, cq_ci jz (fun h => by cases h), st_cd_of r _ _ _ (fun i I g1 g2 hI => o4 i I (by omega) hI) kd, fun h => absurd h (by decide), trivial⟩
  · rw [st_nd26, st_nd92, f5 100 _ (by decide) (by decide) (by omega), f5 102 _ (by decide) (by decide) (by omega), f5 103 _ (by decide) (by decide) (by omega), f5 104 _ (by decide) (by decide) (by omega), f5 106 _ (by decide) (by decide) (by omega), n102, n103]
    exact ⟨⟨by omega, by omega⟩, by omega, n100, n106, rfl, xt_nd_of l _ _ _ (fun a i g1 g2 g3 g4 => f5 a i g1 (by omega) g3) (fun i g1 g2 _ => f5 107 i (by decide) (by decide) g1) nd1, ⟨by omega, by omega⟩, by omega, st_nd_of r _ _ _ _ _ _ (Int.le_refl _) (Int.le_refl _) (fun a i g1 g2 g3 g4 => f5 a i g1 (by omega) g3) (fun i g1 g2 _ => f5 107 i (by decide) (by decide) g1) nd2, n104⟩
  · rw [st_w26, st_w92]
    exact ⟨te, tw, rfl, rfl, rk, rw1, Or.inl ⟨rfl, rfl⟩, trivial⟩
  · unfold st_G
    rw [st_g26, st_g92]
    have l4 : ρ1 83 44 ≤ ρ4 83 44 := by rw [e44]; exact Int.le_refl _
    exact ⟨xt_G_of tG (by omega) (fun a i g1 g2 _ _ => h14 a i (by omega)) l4, st_G_of rG (by omega) (fun a i g1 g2 _ _ => h14 a i (by omega)) l4, trivial⟩
  · rw [st_ln26, st_ln92, if_neg (by decide)]
    show xt_ln l + 1 + (st_ln r + 0 + 0) ≤ _
    omega
  · rw [st_cn26, st_cn92, if_neg (by decide)]
    show 0 ≤ xt_cn B l + 1 + max (st_cn B r + 0) 0
    omega
  · rw [st_mt26, st_mt92]
    exact ic_m2 tmt rmt (show (0 : Int) ≤ 1024 by decide)
  · rw [f5 107 _ (by decide) (by decide) (by omega)]
    exact n107
/-- the BLOCK behind else -/
theorem re_bl {E : js_E} {b F : Int} {B U : Int → Int} {X : Int → Prop} {Q : List Int} {n Ly Ez mm : Int} {σ ρ σ' ρ' : js_S} {j j' : Nat} {r : tr_T} (hb : b = 0 ∨ b = 25) (hn0 : 0 ≤ n) (hn : n < ρ 83 33) (hLy : 0 ≤ Ly ∧ Ly ≤ 400000) (h7 : 0 ≤ σ' (8 + b) 7 ∧ σ' (8 + b) 7 ≤ 400000) (hq : jw (fun i => σ (10 + b) i) Q (σ (8 + b) 6) Ez) (H : bl_R E b F B U X 0 σ ρ j σ' ρ' j' mm r) : re_R E b F B U X Q n Ly σ ρ j σ' (js_up ρ' 104 n mm) j' Ez Ly mm 1 r := by
  obtain ⟨⟨r1, q1, dp1, sf1, sg1, m1, m1', w1⟩, hL, ⟨⟨y15, y10, y6, y7, y11⟩, yc⟩, ⟨nd, ⟨rk, rw1, rG⟩, ⟨tl, tcn, tmt⟩, _, hz2⟩, hux⟩ := H
  have lr := st_ln_0 r
  have u : ∀ a i : Int, ¬ (a = 104 ∧ i = n) → js_up ρ' 104 n mm a i = ρ' a i := fun a i g => js_up_ne _ g
  refine ⟨⟨?_, q1, ?_, sf1, ?_, ?_, ?_, ?_, fun _ => js_up_same _ _ _ _⟩, ?_, ⟨⟨y15, y10, y6⟩, ⟨by rw [y7], hLy, h7⟩, y11⟩, ⟨[], ?_, ?_, fun hs => ?_⟩, ⟨?_, Or.inl ⟨rfl, rk⟩, ⟨rw1, ?_⟩, ⟨by omega, tcn, tmt, by omega⟩, fun h => absurd h (by decide)⟩, ux_ef (N := 0) hb hux (ef_R_refl b 0 0 0 σ') (fun a i g1 g2 => u a i (by omega))⟩
  · exact rd_R_of r1 (fun _ _ => rfl) (fun _ _ _ _ => rfl) (fun i _ _ => u _ _ (by omega)) (fun i => u _ _ (by omega))
  · rw [u _ _ (by omega), dp1]
    omega
  · intro a i g1 g2 g3 g4 g5 g6
    rw [u a i (by omega), sg1 a i g1 g2 g3 g4 g5]
  · rw [u _ _ (by omega)]
    exact m1
  · rw [u _ _ (by omega)]
    omega
  · rw [u _ _ (by omega)]
    exact w1
  · obtain ⟨x, a1, a2, a3, a4⟩ := hL
    exact ⟨x, a1, a2, by rw [u _ _ (by omega)]; exact a3, a4⟩
  · show jw (fun i => σ' (10 + b) i) Q (σ' (8 + b) 6) Ez
    refine jw_up Q (jw_of Q _ _ (fun i hi => ?_) hq) (by omega)
    exact sf_code hb sf1 (by omega) (by omega) hi
  · intro x hx0
    cases hx0
  · exact st_cd_z r _ _ _ _ rk rw1 (st_cd_of r _ _ _ (fun i I g1 g2 hI => cq_ci hI (fun h => by cases h)) (yc hs))
  · rw [u _ _ (by omega)]
    exact st_nd_of r _ _ _ _ _ _ (Int.le_refl _) (Int.le_refl _) (fun a i g1 g2 g3 g4 => u _ _ (by omega)) (fun i g1 g2 _ => u _ _ (by omega)) nd
  · exact st_G_of rG (by rw [u _ _ (by omega)]; exact Int.le_refl _) (fun a i g1 g2 _ _ => u _ _ (by omega)) (by rw [u _ _ (by omega)]; exact Int.le_refl _)
section SO
variable {E : js_E} {d e : Nat} {b : Int}
/-- the class behind a BLOCK with an else -/
theorem ie_C {σ1 ρ1 : js_S} {j1 : Nat} {Ex Lx nx sk bf : Int} {u7 : js_v} (hb : b = 0 ∨ b = 25) (hz : cz_R σ1 b) (hs : σ1 (8 + b) 6 ≤ 50000000) (hR : rd_R σ1 ρ1 j1) (hq : ρ1 83 5 = 308) (hL : 0 ≤ Lx ∧ Lx ≤ 400000) (hsk : 0 ≤ sk ∧ sk < σ1 (8 + b) 6) (hbf : 0 ≤ bf ∧ bf ≤ 400000) (hd : 8 ≤ d) : ∃ σ4 : js_S, js_J E d 104 82 [(2, 22 + b), (0, Ex), (0, Lx), (0, 1), (0, nx), (0, sk), (0, bf), u7] [] σ1 = js_J E d 104 155 [(2, 22 + b), (0, σ1 (8 + b) 6), (0, max Lx (min 400000 (σ1 (8 + b) 7 + 1))), (0, 1), (0, nx), (0, sk), (0, bf), (0, 1)] [] σ4 ∧ rd_R σ4 (rx_next ρ1) (j1 + 1) ∧ (σ4 (8 + b) 6 = σ1 (8 + b) 6 + 1 ∧ σ4 (8 + b) 7 = bf ∧ (∀ i : Int, i ≠ 6 → i ≠ 7 → σ4 (8 + b) i = σ1 (8 + b) i) ∧ σ4 (23 + b) 15 = σ1 (23 + b) 15) ∧ (∀ n t p : Int, n ≤ sk → ef_R b n t p σ1 σ4) ∧ (∀ a i : Int, 9 + b ≤ a → a ≤ 14 + b → i < σ1 (8 + b) 6 → ¬ (a = 10 + b ∧ i = sk) → σ4 a i = σ1 a i) ∧ (sk < 8192 → σ4 (10 + b) sk = σ1 (8 + b) 6 + 1) ∧ (σ1 (8 + b) 6 < 8192 → σ4 (9 + b) (σ1 (8 + b) 6) = 24 ∧ σ4 (10 + b) (σ1 (8 + b) 6) = Ex ∧ σ4 (11 + b) (σ1 (8 + b) 6) = 0 ∧ σ4 (12 + b) (σ1 (8 + b) 6) = 1 ∧ σ4 (13 + b) (σ1 (8 + b) 6) = 0 ∧ σ4 (14 + b) (σ1 (8 + b) 6) = 0) := by
  have t308 : tk_m 308 = 208 := by decide
  have c1 : js_w (σ1 1 1) = 208 := by rw [← t308]; exact (tkq hR (by unfold tk_V; omega)).mpr hq
  obtain ⟨σ2, e2, n2⟩ := c_add (E := E) (d := d - 1) (σ := σ1) (op := 24) (x := Ex) hb hz (by omega)
  have O2 := n2.2.2.2
  have R2 : rd_R (js_up σ2 (8 + b) 7 bf) ρ1 j1 := rd_R_of hR (fun i _ => by rw [js_up_na _ (by omega), O2 _ _ (by omega) (by omega)]) (fun a i _ _ => by rw [js_up_na _ (by omega), O2 _ _ (by omega) (by omega)]) (fun _ _ _ => rfl) (fun _ => rfl)
  obtain ⟨σ3, j3, e3, R3, f3, _, hj3⟩ := y_next (E := E) (d := d - 1) R2
  have hj3' := hj3 (by omega)
  subst hj3'
  clear hj3
  have q7 : σ2 (8 + b) 7 = min 400000 (σ1 (8 + b) 7 + 1) := n2.2.1
  have q6 := n2.1
  have g36 : σ3 (8 + b) 6 = σ1 (8 + b) 6 + 1 := by rw [f3 _ _ (by omega) (by omega), js_up_ni _ (by decide), q6]
  have g37 : σ3 (8 + b) 7 = bf := by rw [f3 _ _ (by omega) (by omega), js_up_same]
  unfold cz_R at hz
  have hz3 : cz_R σ3 b := by
    unfold cz_R
    rw [g36, g37]
    omega
  obtain ⟨σ4, e4, l1, l2⟩ := c_land (E := E) (d := d - 1) (σ := σ3) (x := sk) hb hz3 hsk.1 (by omega) (by omega)
  have o3 : ∀ a i : Int, ¬ (a = 1 ∧ (i = 1 ∨ i = 2 ∨ i = 3 ∨ i = 11)) → a ≠ 2 → ¬ (a = 8 + b ∧ i = 7) → σ3 a i = σ2 a i := fun a i g1 g2 g3 => by rw [f3 a i (by omega) g2, js_up_ne _ g3]
  have mx : (if js_w Lx < js_w (σ2 (8 + b) 7) then σ2 (8 + b) 7 else Lx) = max Lx (min 400000 (σ1 (8 + b) 7 + 1)) := by
    rw [q7, js_w_of (x := Lx) (by omega) (by omega), js_w_of (x := min 400000 (σ1 (8 + b) 7 + 1)) (by omega) (by omega)]
    split <;> omega
  refine ⟨σ4, ?_, ?_, ⟨?_, ?_, fun i g1 g2 => ?_, ?_⟩, fun n t p hn a i g => ?_, fun a i g1 g2 g3 g4 => ?_, fun h => ?_, fun h => ?_⟩
  · rw [b_104_82 hb, c1, if_pos (show (208 : Int) = 208 from rfl), b_104_100 hb, if_neg (show ¬ js_w 1 = 0 by decide), k_104_114 hb (by omega) e2, b_104_117 (by omega) hb, mx, k_104_143 (by omega) e3, b_104_146 hb, k_104_152 hb (by omega) e4]
  · exact rd_R_of R3 (fun i _ => l2 _ _ (by omega)) (fun a i _ _ => l2 _ _ (by omega)) (fun _ _ _ => rfl) (fun _ => rfl)
  · rw [l2 _ _ (by omega), g36]
  · rw [l2 _ _ (by omega), g37]
  · rw [l2 _ _ (by omega), o3 _ _ (by omega) (by omega) (by omega), O2 _ _ (by omega) (by omega)]
  · rw [l2 _ _ (by omega), o3 _ _ (by omega) (by omega) (by omega), O2 _ _ (by omega) (by omega)]
  · rw [l2 _ _ (fun hh => g (ef_D9 ⟨by omega, by omega, by omega⟩)), o3 _ _ (fun hh => g (ef_D1 ⟨hh.1, by omega⟩)) (fun hh => g (ef_D2 hh)) (fun hh => g (ef_D8 ⟨hh.1, by omega⟩)), O2 _ _ (fun hh => g (ef_D8 ⟨hh.1, by omega⟩)) (fun hh => g (ef_D9 ⟨hh.1, hh.2.1, by omega⟩))]
  · rw [l2 _ _ g4, o3 _ _ (by omega) (by omega) (by omega), O2 _ _ (by omega) (by omega)]
  · rw [l1 h, g36]
  · obtain ⟨a1, a2, a3, a4, a5, a6⟩ := n2.2.2.1 h
    have o : ∀ a : Int, 9 + b ≤ a → a ≤ 14 + b → σ4 a (σ1 (8 + b) 6) = σ2 a (σ1 (8 + b) 6) := fun a g1 g2 => by rw [l2 _ _ (by omega), o3 _ _ (by omega) (by omega) (by omega)]
    exact ⟨(o _ (by omega) (by omega)).trans a1, (o _ (by omega) (by omega)).trans a2, (o _ (by omega) (by omega)).trans a3, (o _ (by omega) (by omega)).trans a4, (o _ (by omega) (by omega)).trans a5, (o _ (by omega) (by omega)).trans a6⟩
/-- the reference behind the node of an if -/
theorem ie_R {ρ1 : js_S} {x1 x2 nc n : Int} {w5 : js_v} (h9 : ρ1 83 9 = 0) (hx : -1 ≤ x2 ∧ x2 < 66000) : ∃ ρ2 : js_S, js_J E e 241 55 [(2, 83), (0, x1), (0, x2), (0, 1), (0, nc), w5] [(0, n)] ρ1 = js_J E e 241 84 [(2, 83), (0, if x2 < 0 then n else x1), (0, x2), (0, 1), (0, nc), (0, n)] [] ρ2 ∧ (∀ a i : Int, ¬ (a = 104 ∧ i = x2 ∧ 0 ≤ x2) → ρ2 a i = ρ1 a i) ∧ (0 ≤ x2 → ρ2 104 x2 = n) := by
  rw [b_241_55, h9, if_neg (show ¬ 0 < js_w 0 by decide), js_w_of (x := x2) (by omega) (by omega)]
  by_cases q : x2 < 0
  · refine ⟨ρ1, ?_, fun _ _ _ => rfl, fun h => absurd h (by omega)⟩
    rw [if_pos q, if_pos q]
  · refine ⟨js_up ρ1 104 x2 n, ?_, fun a i g => js_up_ne _ (by omega), fun _ => js_up_same _ _ _ _⟩
    rw [if_neg q, if_pos (by omega), if_neg q]
end SO
