/-! part 99.zzzzzzzx: one of the 64 FLIPS where the Run is over before it (the reference alone) -/
theorem js_r0z {E : js_E} {o : Int} {σ τ : js_S} (ho : 0 ≤ o ∧ o ≤ 4) (h : js_r E (0, o) σ = js_r E (0, 0) τ) : o = 0 := by
  unfold js_r at h
  simp only [Option.some.injEq, Prod.mk.injEq, Outcome.returned.injEq] at h
  have a := h.1
  simp only [js_V, Value.int.injEq] at a
  have b := js_w_eq2 a
  rw [js_w_of (x := o) (by omega) (by omega), show js_w 0 = 0 from rfl] at b
  exact b
section PX
variable {E : js_E} {d e : Nat} {Fu : Int → Int → Int → Prop} {ac zc b N x1 x2 x3 x4 x7 W : Int} {T m0 : Nat} {σ1 σA σE ρ0 : js_S}
/-- the outs of the Run as the reference keeps them, against the class's CELLs -/
def bb_E (T : Nat) (σ ρ0 ρ : js_S) : Prop := ∀ s j : Int, 0 ≤ s → s < T → ρ0 86 s = 2 → 0 ≤ j → j < ρ0 91 s → js_w (ρ 132 (ou_o ρ0 s.toNat + j)) = js_l (σ 68 (ρ0 90 s + j))
theorem y_pitB (hb : b = 0 ∨ b = 25) (hp : psR E Fu ac zc b N T σ1 ρ0) (hg : gv_R T σ1 ρ0) (c1 : cq_R N 66 0 σ1 ρ0) (c2 : cq_R N 69 1 σ1 ρ0) (hA : js_J E (d - 1) 142 0 [(2, 56), (2, 65), (9, 0), (9, 0), (9, 0)] [] σ1 = js_r0 E σA) (hE : c_en E (d - 1) b m0 σA σE) (hm0 : (m0 : Int) < x3) (h4E : σE 65 2 = 4) (h64 : ρ0 83 64 = 1) (hW : ρ0 83 47 = W) (hO : ou_o ρ0 T = W) (hWN : W ≤ N) (h82 : 0 ≤ ρ0 83 82 ∧ ρ0 83 82 < 2000000000) (h7 : x7 = pe_B ρ0) (h1 : x1 = 0 ∨ x1 = 1) (h2 : -2 ≤ x2 ∧ x2 < N) (h3 : 0 ≤ x3 ∧ x3 < 2147483648) (h4 : 0 ≤ x4 ∧ x4 ≤ 4) (hd : 60 ≤ d) (he : 70 ≤ e) {ρ : js_S} {n i : Int} {u11 u12 u13 : js_v} (hi : 0 ≤ i ∧ i < 64) (hr : pi_R x7 W ρ0 ρ) (hbs : bb_E T σE ρ0 ρ) : ∃ (ρ' : js_S) (v11 v12 v13 : js_v), js_J E e 288 183 [(2, 83), (0, x1), (0, x2), (0, x3), (0, x4), (0, ρ0 83 82), (0, ρ0 83 83), (0, x7), (0, 1), (0, n), (0, i), u11, u12, u13] [] ρ = js_J E e 288 183 [(2, 83), (0, x1), (0, x2), (0, x3), (0, x4), (0, ρ0 83 82), (0, ρ0 83 83), (0, x7), (0, 1), (0, n + if x4 = 0 then 1 else 0), (0, i + 1), v11, v12, v13] [] ρ' ∧ pi_R x7 W ρ0 ρ' ∧ bb_E T σE ρ0 ρ' := by
  have hpr := hp.1.2
  have hN := hpr.1.2.1
  have h48 : ρ0 83 48 = N := hpr.1.2.2.1
  have hN7 : σ1 (7 + b) 2 = N := hpr.1.2.2.2
  have wi : js_w i = i := js_w_of (by omega) (by omega)
  have hr' := hr
  obtain ⟨⟨⟨i77, i79, i80, i81, i85⟩, i82, i83⟩, ⟨k1, ⟨k2, k3⟩, k4, k5⟩, fr, f126, sv, f133⟩ := hr'
  -- the reference plans a FLIP
  obtain ⟨ρa, ea, ⟨a127, a128, a129, a130, a85⟩, af⟩ := r_285 (E := E) (e := e - 1) (ρ := ρ) (N := N) (x1 := x1) (x2 := x2) (i := i) (x3 := x3) (by rw [fr _ _ (by omega) (by omega) (by omega)]; exact h64) (by rw [fr _ _ (by omega) (by omega) (by omega)]; exact h48) (by omega) i77 i81 i85 h1 h2 hi h3 (by omega)
  have axx : ∀ j : Int, ¬ (j = 0 ∨ 77 ≤ j) → ρa 83 j = ρ0 83 j := fun j q => by rw [af _ _ (by omega) (by omega), fr _ _ (by omega) (by omega) (by omega)]
  have ayy : ∀ a j : Int, 84 ≤ a → a ≤ 119 → ρa a j = ρ0 a j := fun a j q1 q2 => by rw [af _ _ (by omega) (by omega), fr _ _ (by omega) (by omega) (by omega)]
  have pa : psR E Fu ac zc b N T σ1 ρa := psR_g hb hp (fun _ _ _ => rfl) rfl axx ayy
  have ga : gv_R T σ1 ρa := gv_g hg (fun _ => rfl) (fun a j q => by rw [af _ _ (by omega) (by omega), fr _ _ (by omega) (by omega) (by omega)])
  have ca : ∀ x0 c : Int, cq_R N x0 c σ1 ρ → cq_R N x0 c σ1 ρa := fun x0 c q => ⟨by rw [af _ _ (by omega) (by omega)]; exact q.1, by rw [af _ _ (by omega) (by omega)]; exact q.2.1, fun k q1 q2 => by rw [af _ _ (by omega) (by omega)]; exact q.2.2 k q1 q2⟩
  have a82 : ρa 83 82 = ρ0 83 82 := by rw [af _ _ (by omega) (by omega), i82]
  have a83 : ρa 83 83 = ρ0 83 83 := by rw [af _ _ (by omega) (by omega), i83]
  obtain ⟨σA', eA, sA, _, c⟩ := y_pgo (E := E) (d := d - 1) (e := e - 1) (x3 := x3) hb pa ga (ca _ _ (cq_g (Or.inl rfl) (by omega) c1 hr)) (ca _ _ (cq_g (Or.inr rfl) (by omega) c2 hr)) (by rw [af _ _ (by omega) (by omega)]; exact i77) (Or.inr ⟨a85, a130⟩) (by rw [a82]; exact h82) h3 (by omega) (by omega)
  have wA : js_wd E.1 σA = js_wd E.1 σA' := js_r0_inj (by rw [← hA, ← eA])
  rcases c with ⟨σP', ρP, t1, _⟩ | ⟨m, σF, ρ4, hm, _, t1, t2, pe, t6⟩
  case inl => exact (c_it_en _ _ _ _ _ _ wA.symm t1 hE (by omega)).elim
  have wE := c_en_wd _ _ _ _ _ _ wA hE t1
  have oo : ou_o ρa T = W := by rw [ou_o_eq ayy T, hO]
  have pb : pe_B ρa = x7 := by
    rw [h7]
    unfold pe_B
    rw [a82]
  have k65 := (wd_65 wE).2.2.1
  obtain ⟨σX, hX⟩ : ∃ σX : js_S, σX = (fun a i => if a = 80 then ρa 132 i else σF a i) := ⟨_, rfl⟩
  have X8 : ∀ j : Int, σX 80 j = ρa 132 j := fun j => by rw [hX]; exact if_pos rfl
  have Xo : ∀ a j : Int, a ≠ 80 → σX a j = σF a j := fun a j q => by rw [hX]; exact if_neg q
  have pX : psR E Fu ac zc b N T σX ρa := psR_g hb pa (fun a j q => by rw [Xo _ _ (by omega), t2 _ _ (by omega), sA _ _ (by omega)]) (by rw [Xo _ _ (by decide), t2 _ _ (by omega), sA _ _ (by omega)]) (fun _ _ => rfl) (fun _ _ _ _ => rfl)
  have peX : peR T N σX ρa ρ4 := by
    obtain ⟨ρ', K, f, ⟨k0, kK⟩, cq, c⟩ := pe
    exact ⟨ρ', K, f, ⟨by rw [Xo _ _ (by decide)]; exact k0, by rw [Xo _ _ (by decide)]; exact kK⟩, ⟨by rw [Xo _ _ (by decide)]; exact cq.1, by rw [Xo _ _ (by decide)]; exact cq.2.1, fun k q1 q2 => by rw [Xo _ _ (by decide)]; exact cq.2.2 k q1 q2⟩, c⟩
  have x4v : σX 65 2 = 4 := by
    obtain ⟨ρ', K, f, ⟨k0, kK⟩, cq, c⟩ := pe
    have hK : 1 ≤ K ∧ K ≤ 4 := by
      rcases c with ⟨q1, q2, _⟩ | ⟨q1, _⟩ <;> omega
    rw [h4E, kK, js_w_of (x := K) (by omega) (by omega), show js_w 4 = 4 from rfl] at k65
    rw [Xo _ _ (by decide), kK, ← k65]
  obtain ⟨o, f, ho, e6, e7⟩ := y_cmp (E := E) (d := d - 1) (e := e) (x1 := x1) (x2 := x2) (x3 := x3) (x4 := x4) (x5 := ρ0 83 82) (x6 := ρ0 83 83) (x7 := x7) (x8 := 1) (x9 := n) (x10 := i) (u11 := u11) (u12 := u12) (u13 := u13) hb pX peX (by rw [axx _ (by omega), hW, oo]) (by rw [oo]; exact hWN) (by rw [a82]; exact h82) (by rw [af _ _ (by omega) (by omega)]; exact i81) pb.symm (fun j j0 j1 => by rw [X8]) (by omega)
  have o0 : o = 0 := by
    rcases c_cmp (E := E) (d := d - 1) hb pX.1.2 pX.1.1 (by rw [oo]; omega) x4v (by omega) with ⟨⟨s, j, q1, q2, q3, q4, q5, q6⟩, _⟩ | ⟨_, ec⟩
    · refine (q6 ?_).elim
      rw [ayy _ _ (by omega) (by omega)] at q3 q5
      have w := hbs s j q1 q2 q3 q4 q5
      have p := hpr.2.2.2.2.2 s q1 q2 (by omega)
      unfold cm_E
      rw [X8, Xo _ _ (by decide), js_l_w, ou_o_eq ayy, ayy _ _ (by omega) (by omega), af _ _ (by omega) (by omega), w]
      exact ((wd_68 wE (by omega)).1).symm
    · exact js_r0z ho (e6.symm.trans ec)
  obtain ⟨ρ5, e8, q1, ⟨⟨q2, q3⟩, q4, q5⟩, ⟨⟨v1, v2, v3, v4⟩, v5, v6, v7, _⟩, qf⟩ := r_rest (E := E) (e := e - 1) (z1 := ρ0 83 82) (z2 := ρ0 83 83) (ρ0 := ρ4) (by omega)
  have p4f := pe_fr pe
  rw [oo, pb] at p4f
  have w4 : js_w x4 = x4 := js_w_of (by omega) (by omega)
  have er : js_J E e 288 183 [(2, 83), (0, x1), (0, x2), (0, x3), (0, x4), (0, ρ0 83 82), (0, ρ0 83 83), (0, x7), (0, 1), (0, n), (0, i), u11, u12, u13] [] ρ = js_J E e 288 281 [(2, 83), (0, x1), (0, x2), (0, x3), (0, x4), (0, ρ0 83 82), (0, ρ0 83 83), (0, x7), (0, 1), (0, n), (0, i), (0, 0), (0, f), (0, ρa 83 47)] [] ρ4 := by
    rw [b_288_183, wi, if_pos hi.2, if_neg (show ¬ js_w 1 = 0 by decide), k_288_201 (by omega) ea, b_288_204, k_288_206 (by omega) t6, e7, o0]
  have en : ∀ z : Int, js_J E e 288 295 [(2, 83), (0, x1), (0, x2), (0, x3), (0, x4), (0, ρ0 83 82), (0, ρ0 83 83), (0, x7), (0, 1), (0, n), (0, i), (0, 0), (0, f), (0, ρa 83 47)] [(0, z), (0, n)] ρ4 = js_J E e 288 183 [(2, 83), (0, x1), (0, x2), (0, x3), (0, x4), (0, ρ0 83 82), (0, ρ0 83 83), (0, x7), (0, 1), (0, n + z), (0, i + 1), (0, 0), (0, f), (0, ρa 83 47)] [] ρ5 := fun z => by
    rw [b_288_295, k_288_303 (by omega) e8, b_288_306]
  have rE : ∀ a j : Int, 125 ≤ a → ¬ (127 ≤ a ∧ a ≤ 130) → ρa a j = ρ a j := fun a j q1 q2 => by rw [af _ _ (by omega) (by omega)]
  have q131 : ∀ j : Int, ρ4 131 j = ρ 131 j := fun j => by rw [p4f _ _ (by omega) (by omega) (by omega), rE _ _ (by omega) (by omega)]
  obtain ⟨sv1, ⟨sv2, sv3⟩, sv4, sv5⟩ := sv
  have o5 : ∀ a j : Int, ¬ (a = 83 ∧ 77 ≤ j ∧ j ≤ 85) → ¬ (120 ≤ a ∧ a ≤ 124) → ¬ (a = 126 ∧ x7 ≤ j ∧ j < x7 + W) → ρ5 a j = ρa a j := fun a j y1 y2 y3 => by rw [qf _ _ (by omega) (by omega) (by omega), p4f _ _ y1 y2 y3]
  have PI : pi_R x7 W ρ0 ρ5 := by
    refine ⟨⟨⟨v1, v2, v3, v5, v4⟩, v6, v7⟩, ⟨fun j j0 j1 => by rw [q1 j j0 j1, q131, sv1 j j0 j1], ⟨by rw [q2, q131, sv2], by rw [q3, q131, sv3]⟩, by rw [q4, q131, sv4], by rw [q5, q131, sv5]⟩, fun a j y1 y2 y3 => ?_, fun j y => ?_, ⟨fun j j0 j1 => ?_, ⟨?_, ?_⟩, ?_, ?_⟩, fun j j0 j1 => ?_⟩
    · rw [o5 _ _ (by omega) y2 (by omega), af _ _ (by omega) (by omega), fr _ _ y1 y2 y3]
    · rw [o5 _ _ (by omega) (by omega) (by omega), rE _ _ (by omega) (by omega), f126 j y]
    · rw [o5 _ _ (by omega) (by omega) (by omega), rE _ _ (by omega) (by omega), sv1 j j0 j1]
    · rw [o5 _ _ (by omega) (by omega) (by omega), rE _ _ (by omega) (by omega), sv2]
    · rw [o5 _ _ (by omega) (by omega) (by omega), rE _ _ (by omega) (by omega), sv3]
    · rw [o5 _ _ (by omega) (by omega) (by omega), rE _ _ (by omega) (by omega), sv4]
    · rw [o5 _ _ (by omega) (by omega) (by omega), rE _ _ (by omega) (by omega), sv5]
    · rw [o5 _ _ (by omega) (by omega) (by omega), rE _ _ (by omega) (by omega), f133 j j0 j1]
  have BS : bb_E T σE ρ0 ρ5 := fun s j s0 s1 s2 j0 j1 => by
    rw [o5 _ _ (by omega) (by omega) (by omega), rE _ _ (by omega) (by omega)]
    exact hbs s j s0 s1 s2 j0 j1
  by_cases t : x4 = 0
  · exact ⟨ρ5, _, _, _, by rw [er, b_288_281, w4, if_pos ((show js_w 0 = 0 from rfl).trans t.symm), if_pos t, en], PI, BS⟩
  · exact ⟨ρ5, _, _, _, by rw [er, b_288_281, w4, if_neg (show ¬ js_w 0 = x4 from fun q => t (q.symm.trans rfl)), if_neg t, en], PI, BS⟩
/-- all 64 of them -/
theorem y_pitsB (hb : b = 0 ∨ b = 25) (hp : psR E Fu ac zc b N T σ1 ρ0) (hg : gv_R T σ1 ρ0) (c1 : cq_R N 66 0 σ1 ρ0) (c2 : cq_R N 69 1 σ1 ρ0) (hA : js_J E (d - 1) 142 0 [(2, 56), (2, 65), (9, 0), (9, 0), (9, 0)] [] σ1 = js_r0 E σA) (hE : c_en E (d - 1) b m0 σA σE) (hm0 : (m0 : Int) < x3) (h4E : σE 65 2 = 4) (h64 : ρ0 83 64 = 1) (hW : ρ0 83 47 = W) (hO : ou_o ρ0 T = W) (hWN : W ≤ N) (h82 : 0 ≤ ρ0 83 82 ∧ ρ0 83 82 < 2000000000) (h7 : x7 = pe_B ρ0) (h1 : x1 = 0 ∨ x1 = 1) (h2 : -2 ≤ x2 ∧ x2 < N) (h3 : 0 ≤ x3 ∧ x3 < 2147483648) (h4 : 0 ≤ x4 ∧ x4 ≤ 4) (hd : 60 ≤ d) (he : 70 ≤ e) : ∀ (g k : Nat) (ρ : js_S) (u11 u12 u13 : js_v), g + k = 64 → pi_R x7 W ρ0 ρ → bb_E T σE ρ0 ρ → ∃ (ρ' : js_S) (v11 v12 v13 : js_v), js_J E e 288 183 [(2, 83), (0, x1), (0, x2), (0, x3), (0, x4), (0, ρ0 83 82), (0, ρ0 83 83), (0, x7), (0, 1), (0, if x4 = 0 then (k : Int) else 0), (0, (k : Int)), u11, u12, u13] [] ρ = js_J E e 288 312 [(2, 83), (0, x1), (0, x2), (0, x3), (0, x4), (0, ρ0 83 82), (0, ρ0 83 83), (0, x7), (0, 1), (0, if x4 = 0 then 64 else 0), (0, 64), v11, v12, v13] [] ρ' ∧ pi_R x7 W ρ0 ρ' := by
  intro g
  induction g with
  | zero =>
    intro k ρ u11 u12 u13 hk hr hbs
    have ek : (k : Int) = 64 := by omega
    exact ⟨ρ, u11, u12, u13, by rw [ek, b_288_183, if_neg (show ¬ js_w 64 < 64 by decide)], hr⟩
  | succ g ih =>
    intro k ρ u11 u12 u13 hk hr hbs
    obtain ⟨ρ', v11, v12, v13, e2, a2, a3⟩ := y_pitB (n := if x4 = 0 then (k : Int) else 0) (i := (k : Int)) (u11 := u11) (u12 := u12) (u13 := u13) hb hp hg c1 c2 hA hE hm0 h4E h64 hW hO hWN h82 h7 h1 h2 h3 h4 hd he (by omega) hr hbs
    obtain ⟨ρ'', w11, w12, w13, f2, b2⟩ := ih (k + 1) ρ' v11 v12 v13 (by omega) a2 a3
    have en : (if x4 = 0 then (k : Int) else 0) + (if x4 = 0 then (1 : Int) else 0) = if x4 = 0 then ((k + 1 : Nat) : Int) else 0 := by
      by_cases t : x4 = 0
      · rw [if_pos t, if_pos t, if_pos t]
        push_cast
        rfl
      · rw [if_neg t, if_neg t, if_neg t]
        rfl
    rw [en, show (k : Int) + 1 = ((k + 1 : Nat) : Int) by push_cast; rfl] at e2
    exact ⟨ρ'', w11, w12, w13, e2.trans f2, b2⟩
end PX
