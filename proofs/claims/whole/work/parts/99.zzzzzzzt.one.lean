/-! part 99.zzzzzzzt: one of the 64 FLIPS, by both -/
section PI
variable {E : js_E} {d e : Nat} {Fu : Int → Int → Int → Prop} {ac zc b N x1 x2 x3 x4 x5 x7 W : Int} {T : Nat} {σ1 σA σP ρ0 : js_S}
/-- the class's store within the loop -/
def pc_R (N : Int) (σ1 σP σ : js_S) : Prop := (∀ a i : Int, ¬ (65 ≤ a ∧ a ≤ 78) → a ≠ 80 → σ a i = σ1 a i) ∧ sr_Q N 14 7 σ σP
theorem y_pit (hb : b = 0 ∨ b = 25) (hp : psR E Fu ac zc b N T σ1 ρ0) (hg : gv_R T σ1 ρ0) (c1 : cq_R N 66 0 σ1 ρ0) (c2 : cq_R N 69 1 σ1 ρ0) (hA : js_J E (d - 1) 142 0 [(2, 56), (2, 65), (9, 0), (9, 0), (9, 0)] [] σ1 = js_r0 E σA) (hP : c_it E (d - 1) b x3.toNat σA σP) (hR : ∃ ρP0 : js_S, rn_R Fu ac zc N 7 σP ρP0 ∧ wc_P Fu ac zc N ρP0 ∧ ρP0 83 51 ≤ 100000 ∧ ρP0 83 49 ≤ 8192) (h64 : ρ0 83 64 = 1) (hW : ρ0 83 47 = W) (hO : ou_o ρ0 T = W) (hWN : W ≤ N) (h82 : 0 ≤ ρ0 83 82 ∧ ρ0 83 82 < 2000000000) (h7 : x7 = pe_B ρ0) (h1 : x1 = 0 ∨ x1 = 1) (h2 : -2 ≤ x2 ∧ x2 < N) (h3 : 0 ≤ x3 ∧ x3 < 2147483648) (h4 : 0 ≤ x4 ∧ x4 ≤ 4) (hd : 60 ≤ d) (he : 70 ≤ e) {σ ρ : js_S} {n i : Int} {u11 u12 u13 : js_v} (hi : 0 ≤ i ∧ i < 64) (hc : pc_R N σ1 σP σ) (hr : pi_R x7 W ρ0 ρ) (hbs : bs_R T σ ρ) : ∃ (σ' ρ' : js_S) (n' : Int) (v11 v12 v13 : js_v), (n ≤ n' ∧ n' ≤ n + 1) ∧ js_J E d 139 169 [(2, 56), (0, x1), (0, x2), (0, x3), (0, x4), (0, x5), (0, n), (0, i)] [] σ = js_J E d 139 169 [(2, 56), (0, x1), (0, x2), (0, x3), (0, x4), (0, x5), (0, n'), (0, i + 1)] [] σ' ∧ js_J E e 288 183 [(2, 83), (0, x1), (0, x2), (0, x3), (0, x4), (0, ρ0 83 82), (0, ρ0 83 83), (0, x7), (0, 1), (0, n), (0, i), u11, u12, u13] [] ρ = js_J E e 288 183 [(2, 83), (0, x1), (0, x2), (0, x3), (0, x4), (0, ρ0 83 82), (0, ρ0 83 83), (0, x7), (0, 1), (0, n'), (0, i + 1), v11, v12, v13] [] ρ' ∧ pc_R N σ1 σP σ' ∧ pi_R x7 W ρ0 ρ' ∧ bs_R T σ' ρ' := by
  have hpr := hp.1.2
  have hN := hpr.1.2.1
  have h48 : ρ0 83 48 = N := hpr.1.2.2.1
  have hN7 : σ1 (7 + b) 2 = N := hpr.1.2.2.2
  have wi : js_w i = i := js_w_of (by omega) (by omega)
  have hr' := hr
  obtain ⟨⟨⟨i77, i79, i80, i81, i85⟩, i82, i83⟩, ⟨k1, ⟨k2, k3⟩, k4, k5⟩, fr, f126, sv, f133⟩ := hr'
  obtain ⟨cf, cs⟩ := hc
  -- the reference plans a FLIP
  obtain ⟨ρa, ea, ⟨a127, a128, a129, a130, a85⟩, af⟩ := r_285 (E := E) (e := e - 1) (ρ := ρ) (N := N) (x1 := x1) (x2 := x2) (i := i) (x3 := x3) (by rw [fr _ _ (by omega) (by omega) (by omega)]; exact h64) (by rw [fr _ _ (by omega) (by omega) (by omega)]; exact h48) (by omega) i77 i81 i85 h1 h2 hi h3 (by omega)
  have axx : ∀ j : Int, ¬ (j = 0 ∨ 77 ≤ j) → ρa 83 j = ρ0 83 j := fun j q => by rw [af _ _ (by omega) (by omega), fr _ _ (by omega) (by omega) (by omega)]
  have ayy : ∀ a j : Int, 84 ≤ a → a ≤ 119 → ρa a j = ρ0 a j := fun a j q1 q2 => by rw [af _ _ (by omega) (by omega), fr _ _ (by omega) (by omega) (by omega)]
  have pa : psR E Fu ac zc b N T σ1 ρa := psR_g hb hp (fun _ _ _ => rfl) rfl axx ayy
  have ga : gv_R T σ1 ρa := gv_g hg (fun _ => rfl) (fun a j q => by rw [af _ _ (by omega) (by omega), fr _ _ (by omega) (by omega) (by omega)])
  have ca : ∀ x0 c : Int, cq_R N x0 c σ1 ρ → cq_R N x0 c σ1 ρa := fun x0 c q => ⟨by rw [af _ _ (by omega) (by omega)]; exact q.1, by rw [af _ _ (by omega) (by omega)]; exact q.2.1, fun k q1 q2 => by rw [af _ _ (by omega) (by omega)]; exact q.2.2 k q1 q2⟩
  have a82 : ρa 83 82 = ρ0 83 82 := by rw [af _ _ (by omega) (by omega), i82]
  have a83 : ρa 83 83 = ρ0 83 83 := by rw [af _ _ (by omega) (by omega), i83]
  obtain ⟨σA', eA, sA, _, c⟩ := y_pgo (E := E) (d := d - 1) (e := e - 1) (x3 := x3) hb pa ga (ca _ _ (cq_g (Or.inl rfl) (by omega) c1 hr)) (ca _ _ (cq_g (Or.inr rfl) (by omega) c2 hr)) (by rw [af _ _ (by omega) (by omega)]; exact i77) (Or.inr ⟨a85, a130⟩) (by rw [a82]; exact h82) h3 (by omega) (by omega)
  have wA : js_wd E.1 σA = js_wd E.1 σA' := js_r0_inj (by rw [← hA, ← eA])
  rcases c with ⟨σP', ρP, t1, t2, t3, t4, t5, t6⟩ | ⟨m, σE, ρ3, hm, _, t1, _⟩
  case inr => exact (c_it_en _ _ _ _ _ _ wA hP t1 (by omega)).elim
  have wP := c_it_wd _ _ _ _ _ wA hP t1
  obtain ⟨ρP0, z1, z2, z3⟩ := hR
  have pP : psR E Fu ac zc b N T σP' ρP := psR_fr hb pa (sc_Ft sA t2) t3
  have rP : rn_R Fu ac zc N 7 σP ρP := rn_W wP z1 t4 z2 pP.2.1.1 z3 ⟨pP.1.2.2.1.2.2.1.2.1, pP.1.2.2.1.1.2.1⟩
  -- the class copies the fork
  obtain ⟨σ2, e2, g2, s2⟩ := c_copy (E := E) (d := d - 1) (N := N) (σ := σ) (r := 7) (q := 14) (Or.inr (Or.inl rfl)) (Or.inr (Or.inr rfl)) (by decide) hN (by omega)
  have e2' : js_J E (d - 1) 140 0 [(2, 65), (2, 72), (0, N)] [] σ = js_r0 E σ2 := e2
  have r2 : rn_R Fu ac zc N 7 σ2 ρP := rn_Q s2 (rn_Q cs rP)
  have p2 : psR E Fu ac zc b N T σ2 ρP := psR_g hb hp (fun a j q => by rw [g2 _ _ (by omega), cf _ _ (by omega) (by omega)]) (by rw [g2 _ _ (by omega), cf _ _ (by omega) (by omega)]) (fun j q => by rw [t3 _ _ (by omega) (by omega), axx j q]) (fun a j q1 q2 => by rw [t3 _ _ (by omega) (by omega), ayy a j q1 q2])
  have t130 : ρP 130 0 = x3 := by rw [t3 _ _ (by omega) (by omega), a130]
  have t85 : ρP 83 85 = 1 := by rw [t3 _ _ (by omega) (by omega), a85]
  obtain ⟨σ3, ρ3, e3, f3, s3, m3, p3, r3⟩ := y_turn (E := E) (d := d - 1) (e := e - 1 - 1 - 1) hb (c := x1) (x := x2) p2 r2 t85 (by rw [t130, t5]) h1 (by rw [t3 _ _ (by omega) (by omega), a127]) (by rw [t3 _ _ (by omega) (by omega), a128]) h2 (by omega)
  rw [t3 129 0 (by omega) (by omega), a129] at e3
  have m82 : ρ3 83 82 = ρ0 83 82 := by rw [m3 _ _ (by omega) (by omega), t3 _ _ (by omega) (by omega), a82]
  obtain ⟨m, σE, ρ4, hm, c5, s5, pe, e5⟩ := y_pfl (E := E) (d := d - 1 - 1) (e := e - 1) hb (by omega) (by omega) (σ := σ3) (ρ := ρ3) (ρ00 := ρP) p3 r3 (by rw [m3 _ _ (by omega) (by omega)]; exact t85) (by rw [m3 _ _ (by omega) (by omega), m3 _ _ (by omega) (by omega), t130, t5]) f3 (by rw [m3 _ _ (by omega) (by omega)]) (by rw [m82]; exact h82)
  have x162 : js_J E (d - 1) 162 0 [(2, 65), (2, 7 + b), (9, 0)] [] σ3 = js_r0 E σE := by
    have q := b_162_0 (E := E) (d := d - 1) (σ := σ3) (b := b) (r := 7)
    exact q.trans (c_162 (E := E) (d := d - 1) (b := b) (by omega) m 0 σ3 σE (by omega) (rn_65 r3) c5)
  have ox : ∀ j : Int, ¬ (j = 0 ∨ 77 ≤ j) → ρ3 83 j = ρ0 83 j := fun j q => by rw [m3 _ _ (by omega) (by omega), t3 _ _ (by omega) (by omega), axx j q]
  have oy : ∀ a j : Int, 84 ≤ a → a ≤ 119 → ρ3 a j = ρ0 a j := fun a j q1 q2 => by rw [m3 _ _ (by omega) (by omega), t3 _ _ (by omega) (by omega), ayy a j q1 q2]
  have oo : ou_o ρ3 T = W := by rw [ou_o_eq oy T, hO]
  have pb : pe_B ρ3 = x7 := by
    rw [h7]
    unfold pe_B
    rw [m82]
  have cE : ∀ a j : Int, ¬ (65 ≤ a ∧ a ≤ 71) → σE a j = σ a j := fun a j q => by rw [s5 _ _ (by omega), s3 _ _ (by omega), g2 _ _ (by omega)]
  have rE : ∀ a j : Int, 125 ≤ a → ¬ (127 ≤ a ∧ a ≤ 130) → ρ3 a j = ρ a j := fun a j q1 q2 => by rw [m3 _ _ (by omega) (by omega), t3 _ _ (by omega) (by omega), af _ _ (by omega) (by omega)]
  have oR : ou_o ρ T = W := by rw [ou_o_eq (fun a j q1 q2 => fr a j (by omega) (by omega) (by omega)) T, hO]
  have bE : bs_R T σE ρ3 := fun j j0 j1 => by
    rw [oo] at j1
    rw [cE _ _ (by omega), rE _ _ (by omega) (by omega)]
    exact hbs j j0 (by rw [oR]; exact j1)
  have pE : psR E Fu ac zc b N T σE ρ3 := psR_fr hb p3 s5 (fun _ _ _ _ => rfl)
  obtain ⟨o, f, ho, e6, e7⟩ := y_cmp (E := E) (d := d - 1) (e := e) (x1 := x1) (x2 := x2) (x3 := x3) (x4 := x4) (x5 := ρ0 83 82) (x6 := ρ0 83 83) (x7 := x7) (x8 := 1) (x9 := n) (x10 := i) (u11 := u11) (u12 := u12) (u13 := u13) hb pE pe (by rw [ox _ (by omega), hW, oo]) (by rw [oo]; exact hWN) (by rw [m82]; exact h82) (by rw [m3 _ _ (by omega) (by omega), t3 _ _ (by omega) (by omega), af _ _ (by omega) (by omega)]; exact i81) pb.symm bE (by omega)
  obtain ⟨ρ5, e8, q1, ⟨⟨q2, q3⟩, q4, q5⟩, ⟨⟨v1, v2, v3, v4⟩, v5, v6, v7, _⟩, qf⟩ := r_rest (E := E) (e := e - 1) (z1 := ρ0 83 82) (z2 := ρ0 83 83) (ρ0 := ρ4) (by omega)
  have p4f := pe_fr pe
  rw [oo, pb] at p4f
  have wo : js_w o = o := js_w_of (by omega) (by omega)
  have w4 : js_w x4 = x4 := js_w_of (by omega) (by omega)
  have b7 : ∀ τ : js_S, (∀ j : Int, τ 56 j = σ1 56 j) → τ 56 1 = 7 + b := fun τ q => by rw [q]; exact hp.1.1
  have s56 : σ 56 1 = 7 + b := by rw [cf _ _ (by omega) (by omega)]; exact hp.1.1
  have s72 : σ (7 + b) 2 = N := by rw [cf _ _ (by omega) (by omega)]; exact hN7
  have x146 : js_J E (d - 1) 146 0 [(2, 65), (0, x1)] [] σ2 = js_r E (2, 66 + 3 * x1) σ2 := by
    have q := b_146_0 (E := E) (d := d - 1) (σ := σ2) (x1 := x1) (r := 7) (Or.inr (Or.inl rfl))
    refine q.trans ?_
    rcases h1 with y | y
    · rw [y, if_pos (show js_w 0 = 0 from rfl)]
      rfl
    · rw [y, if_neg (show ¬ js_w 1 = 0 by decide)]
      rfl
  have isC : ∃ oz : Int, js_isC E.1 (66 + 3 * x1) oz := by
    rcases h1 with y | y
    · rw [y]
      exact ⟨1, js_c1 (r := 7) (Or.inr (Or.inl rfl))⟩
    · rw [y]
      exact ⟨58659, js_c2 (r := 7) (Or.inr (Or.inl rfl))⟩
  obtain ⟨oz, isC⟩ := isC
  have s356 : σ3 56 1 = 7 + b := by rw [s3 _ _ (by omega), g2 _ _ (by omega)]; exact s56
  have ec : js_J E d 139 169 [(2, 56), (0, x1), (0, x2), (0, x3), (0, x4), (0, x5), (0, n), (0, i)] [] σ = js_J E d 139 223 [(2, 56), (0, x1), (0, x2), (0, x3), (0, x4), (0, x5), (0, n), (0, i)] [(0, o)] σE := by
    rw [b_139_169 hb s56, wi, if_pos hi.2, s72, k_139_191 (by omega) e2', b_139_194, k_139_199 (by omega) x146, b_139_202, k_139_205 isC (by omega) e3, b_139_208 hb s356, k_139_216 (by omega) x162, b_139_219, k_139_220 (by omega) e6]
  have er : js_J E e 288 183 [(2, 83), (0, x1), (0, x2), (0, x3), (0, x4), (0, ρ0 83 82), (0, ρ0 83 83), (0, x7), (0, 1), (0, n), (0, i), u11, u12, u13] [] ρ = js_J E e 288 281 [(2, 83), (0, x1), (0, x2), (0, x3), (0, x4), (0, ρ0 83 82), (0, ρ0 83 83), (0, x7), (0, 1), (0, n), (0, i), (0, o), (0, f), (0, ρ3 83 47)] [] ρ4 := by
    rw [b_288_183, wi, if_pos hi.2, if_neg (show ¬ js_w 1 = 0 by decide), k_288_201 (by omega) ea, b_288_204, k_288_206 (by omega) (t6.trans e5), e7]
  have en : ∀ z : Int, js_J E e 288 295 [(2, 83), (0, x1), (0, x2), (0, x3), (0, x4), (0, ρ0 83 82), (0, ρ0 83 83), (0, x7), (0, 1), (0, n), (0, i), (0, o), (0, f), (0, ρ3 83 47)] [(0, z), (0, n)] ρ4 = js_J E e 288 183 [(2, 83), (0, x1), (0, x2), (0, x3), (0, x4), (0, ρ0 83 82), (0, ρ0 83 83), (0, x7), (0, 1), (0, n + z), (0, i + 1), (0, o), (0, f), (0, ρ3 83 47)] [] ρ5 := fun z => by
    rw [b_288_295, k_288_303 (by omega) e8, b_288_306]
  have PC : pc_R N σ1 σP σE := by
    refine ⟨fun a j q1 q2 => by rw [cE _ _ (by omega), cf _ _ q1 q2], ?_⟩
    obtain ⟨d1, d2, d3, d4⟩ := cs
    refine ⟨fun j j0 j1 => by rw [cE _ _ (by omega)]; exact d1 j j0 j1, fun j j0 j1 => ?_, fun j j0 j1 => ?_, fun j j0 j1 => ?_⟩
    · rw [cE _ _ (by omega), cE _ _ (by omega)]
      exact d2 j j0 j1
    · rw [cE _ _ (by omega), cE _ _ (by omega)]
      exact d3 j j0 j1
    · rw [cE _ _ (by omega), cE _ _ (by omega)]
      exact d4 j j0 j1
  have q131 : ∀ j : Int, ρ4 131 j = ρ 131 j := fun j => by rw [p4f _ _ (by omega) (by omega) (by omega), rE _ _ (by omega) (by omega)]
  obtain ⟨sv1, ⟨sv2, sv3⟩, sv4, sv5⟩ := sv
  have o5 : ∀ a j : Int, ¬ (a = 83 ∧ 77 ≤ j ∧ j ≤ 85) → ¬ (120 ≤ a ∧ a ≤ 124) → ¬ (a = 126 ∧ x7 ≤ j ∧ j < x7 + W) → ρ5 a j = ρ3 a j := fun a j y1 y2 y3 => by rw [qf _ _ (by omega) (by omega) (by omega), p4f _ _ y1 y2 y3]
  have PI : pi_R x7 W ρ0 ρ5 := by
    refine ⟨⟨⟨v1, v2, v3, v5, v4⟩, v6, v7⟩, ⟨fun j j0 j1 => by rw [q1 j j0 j1, q131, sv1 j j0 j1], ⟨by rw [q2, q131, sv2], by rw [q3, q131, sv3]⟩, by rw [q4, q131, sv4], by rw [q5, q131, sv5]⟩, fun a j y1 y2 y3 => ?_, fun j y => ?_, ⟨fun j j0 j1 => ?_, ⟨?_, ?_⟩, ?_, ?_⟩, fun j j0 j1 => ?_⟩
    · rw [o5 _ _ (by omega) y2 (by omega), m3 _ _ (by omega) (by omega), t3 _ _ (by omega) (by omega), af _ _ (by omega) (by omega), fr _ _ y1 y2 y3]
    · rw [o5 _ _ (by omega) (by omega) (by omega), rE _ _ (by omega) (by omega), f126 j y]
    · rw [o5 _ _ (by omega) (by omega) (by omega), rE _ _ (by omega) (by omega), sv1 j j0 j1]
    · rw [o5 _ _ (by omega) (by omega) (by omega), rE _ _ (by omega) (by omega), sv2]
    · rw [o5 _ _ (by omega) (by omega) (by omega), rE _ _ (by omega) (by omega), sv3]
    · rw [o5 _ _ (by omega) (by omega) (by omega), rE _ _ (by omega) (by omega), sv4]
    · rw [o5 _ _ (by omega) (by omega) (by omega), rE _ _ (by omega) (by omega), sv5]
    · rw [o5 _ _ (by omega) (by omega) (by omega), rE _ _ (by omega) (by omega), f133 j j0 j1]
  have BS : bs_R T σE ρ5 := fun j j0 j1 => by
    rw [ou_o_eq (ρ := ρ3) (fun a j q1 q2 => o5 a j (by omega) (by omega) (by omega)) T, oo] at j1
    rw [o5 _ _ (by omega) (by omega) (by omega)]
    exact bE j j0 (by rw [oo]; exact j1)
  by_cases t : o = x4
  · exact ⟨σE, ρ5, n + 1, _, _, _, by omega, by rw [ec, b_139_223, wo, w4, if_pos t, b_139_231], by rw [er, b_288_281, wo, w4, if_pos t, en], PC, PI, BS⟩
  · exact ⟨σE, ρ5, n, _, _, _, by omega, by rw [ec, b_139_223, wo, w4, if_neg t, b_139_231], by rw [er, b_288_281, wo, w4, if_neg t, en, Int.add_zero], PC, PI, BS⟩
end PI
