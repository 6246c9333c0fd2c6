/-! part 99.zzzzzzzya: probe by both, the Run alive at the FLIP's STEP -/
section PA
variable {E : js_E} {d e : Nat} {Fu : Int → Int → Int → Prop} {ac zc b N x1 x2 x3 x4 : Int} {T W : Nat} {ρ0 ρs σ1 σA σP ρP : js_S}
theorem y_proA (hb : b = 0 ∨ b = 25) (hp : psR E Fu ac zc b N T σ1 ρ0) (hg : gv_R T σ1 ρ0) (c1 : cq_R N 66 0 σ1 ρ0) (c2 : cq_R N 69 1 σ1 ρ0) (hs : ∀ a i : Int, a ≠ 131 → a ≠ 133 → ρs a i = ρ0 a i) (sv : sv_R ρ0 ρs) (h133 : ∀ j : Int, 0 ≤ j → j < W → ρs 133 j = ρ0 126 (pe_B ρ0 + j)) (hW : ρ0 83 47 = W) (hO : ou_o ρ0 T = W) (hWN : (W : Int) ≤ N) (hW4 : W ≤ 4096) (h7 : 0 ≤ pe_B ρ0 ∧ pe_B ρ0 + W ≤ 65536) (hA : js_J E (d - 1) 142 0 [(2, 56), (2, 65), (9, 0), (9, 0), (9, 0)] [] σ1 = js_r0 E σA) (sA : sc_F 7 σ1 σA) (lA : σA 65 0 = 1 ∨ σA 65 0 = 2) (hP : c_it E (d - 1) b x3.toNat σA σP) (sP : sc_F 7 σA σP) (rP : sr_F ρs ρP) (hR : rn_R Fu ac zc N 7 σP ρP) (h79 : ρP 83 79 = x3) (e278 : js_J E (e - 1) 278 0 [(2, 83)] [] ρs = js_J E (e - 1) 278 11 [(2, 83)] [] ρP) (h64 : ρ0 83 64 = 1) (h81 : ρ0 83 81 = 0) (h85 : ρ0 83 85 = 0) (h82 : 0 ≤ ρ0 83 82 ∧ ρ0 83 82 < 2000000000) (h1 : x1 = 0 ∨ x1 = 1) (h2 : -2 ≤ x2 ∧ x2 < N) (h3 : 0 ≤ x3 ∧ x3 < 2147483648) (h4 : 0 ≤ x4 ∧ x4 ≤ 4) (hd : 70 ≤ d) (he : 80 ≤ e) : ∃ (σ' ρ' : js_S) (v : Int), js_J E d 139 29 [(2, 56), (0, x1), (0, x2), (0, x3), (0, x4), (0, 0), (9, 0), (9, 0)] [] σA = js_r E (0, v) σ' ∧ js_J E e 288 117 [(2, 83), (0, x1), (0, x2), (0, x3), (0, x4), (0, ρ0 83 82), (0, ρ0 83 83), (0, pe_B ρ0), (0, (W : Int)), (9, 0), (9, 0), (9, 0), (9, 0), (9, 0)] [(2, 83)] ρs = js_r E (0, v) ρ' ∧ (∀ a i : Int, ¬ (65 ≤ a ∧ a ≤ 78) → a ≠ 80 → σ' a i = σ1 a i) ∧ pz_R ρ0 ρ' := by
  have hN := hp.1.2.1.2.1
  have ps : psR E Fu ac zc b N T σ1 ρs := psR_g hb hp (fun _ _ _ => rfl) rfl (fun i q => hs _ _ (by decide) (by decide)) (fun a i q1 q2 => hs _ _ (by omega) (by omega))
  have pP : psR E Fu ac zc b N T σP ρP := psR_fr hb ps (sc_Ft sA sP) rP
  have b79 := rn_79 pP hR
  have A56 : σA 56 1 = 7 + b := by rw [sA _ _ (by omega)]; exact hp.1.1
  have P56 : σP 56 1 = 7 + b := pP.1.1
  have PN : σP (7 + b) 2 = N := pP.1.2.1.2.2.2
  have l65 := rn_65 hR
  have n65 : ¬ js_w (σP 65 0) = 0 := by rcases l65 with q | q <;> rw [q] <;> decide
  have i1 := c9_it (E := E) (d := d) (x1 := x1) (x2 := x2) (x3 := x3) (x4 := x4) hb (by omega) h3.2 x3.toNat 0 σA σP (by omega) (by omega) (by omega) A56 lA hP
  rw [show (0 : Int) + (x3.toNat : Int) = x3 by omega] at i1
  obtain ⟨σ2, e2, g2, s2⟩ := c_copy (E := E) (d := d - 1) (N := N) (σ := σP) (r := 14) (q := 7) (Or.inr (Or.inr rfl)) (Or.inr (Or.inl rfl)) (by decide) hN (by omega)
  have e2' : js_J E (d - 1) 140 0 [(2, 72), (2, 65), (0, N)] [] σP = js_r0 E σ2 := e2
  have o2 : ∀ a i : Int, ¬ (72 ≤ a ∧ a ≤ 78) → σ2 a i = σP a i := fun a i q => g2 a i (by omega)
  have r2 : rn_R Fu ac zc N 7 σ2 ρP := rn_Q (r := 7) (q := 7) (σ := σP) ⟨fun i _ _ => o2 _ _ (by omega), fun i _ _ => ⟨o2 _ _ (by omega), o2 _ _ (by omega)⟩, fun i _ _ => ⟨o2 _ _ (by omega), o2 _ _ (by omega)⟩, fun i _ _ => ⟨o2 _ _ (by omega), o2 _ _ (by omega)⟩⟩ hR
  have p2 : psR E Fu ac zc b N T σ2 ρP := psR_g hb pP (fun a i q => o2 a i (by omega)) (o2 _ _ (by omega)) (fun _ _ => rfl) (fun _ _ _ _ => rfl)
  have P82 : ρP 83 82 = ρ0 83 82 := by rw [rP _ _ (by omega) (by omega), hs _ _ (by decide) (by decide)]
  have P85 : ρP 83 85 = 0 := by rw [rP _ _ (by omega) (by omega), hs _ _ (by decide) (by decide), h85]
  obtain ⟨m, σE, ρ3, hm, c5, s5, pe, e5⟩ := y_prun (E := E) (d := d - 1 - 1) (e := e - 1) hb (by omega) (by omega) (200000 - ρP 83 79).toNat σ2 ρP (by omega) p2 r2 (Or.inl P85) (by rw [P82]; exact h82)
  have x162 : js_J E (d - 1) 162 0 [(2, 65), (2, 7 + b), (9, 0)] [] σ2 = js_r0 E σE := by
    have q := b_162_0 (E := E) (d := d - 1) (σ := σ2) (b := b) (r := 7)
    exact q.trans (c_162 (E := E) (d := d - 1) (b := b) (by omega) m 0 σ2 σE (by omega) (rn_65 r2) c5)
  have S56 : σ2 56 1 = 7 + b := p2.1.1
  have ec : js_J E d 139 29 [(2, 56), (0, x1), (0, x2), (0, x3), (0, x4), (0, 0), (9, 0), (9, 0)] [] σA = js_J E d 139 120 [(2, 56), (0, x1), (0, x2), (0, x3), (0, x4), (0, 1), (9, 0), (9, 0)] [] σE := by
    rw [i1, c9_out hb P56 (by omega) h3.2 (Or.inl (by omega)) h3.1, b_139_69, if_neg n65, b_139_84 hb P56, if_neg (show ¬ js_w 1 = 0 by decide), PN, k_139_106 (by omega) e2', b_139_109 hb S56, k_139_117 (by omega) x162]
  have pes : peR T N σE ρs ρ3 := pe_t rP pe
  obtain ⟨ρr, er, hr, h132⟩ := r_tail (E := E) (e := e) (x1 := x1) (x2 := x2) (x3 := x3) (x4 := x4) (x7 := pe_B ρ0) (x8 := (W : Int)) hs sv h133 pes hW hO hW4 h7 rfl h81 (by omega)
  have er' := (k_288_117 (E := E) (d := e) (x1 := x1) (x2 := x2) (x3 := x3) (x4 := x4) (x5 := ρ0 83 82) (x6 := ρ0 83 83) (x7 := pe_B ρ0) (x8 := (W : Int)) (by omega) (e278.trans e5)).trans er
  have fE : ∀ a i : Int, ¬ (65 ≤ a ∧ a ≤ 78) → σE a i = σ1 a i := fun a i q => by rw [s5 _ _ (by omega), o2 _ _ (by omega), sP _ _ (by omega), sA _ _ (by omega)]
  by_cases k4 : σE 65 2 = 4
  · rw [if_pos k4] at er'
    have oP : ou_o ρP T = W := by rw [ou_o_eq (ρ := ρ0) (fun a i q1 q2 => by rw [rP _ _ (by omega) (by omega), hs _ _ (by omega) (by omega)]) T, hO]
    have pbP : pe_B ρP = pe_B ρ0 := by
      unfold pe_B
      rw [P82]
    obtain ⟨σ3, e3, f3, b3⟩ := y_base (E := E) (d := d - 1) hb (psR_fr hb p2 s5 (fun _ _ _ _ => rfl)) pe k4 (by rw [oP]; exact hWN) (by rw [P82]; exact h82) (by omega)
    rw [oP, pbP] at b3
    have oR : ou_o ρr T = W := by rw [ou_o_eq (fun a j q1 q2 => hr.2.2.1 a j (by omega) (by omega) (by omega)) T, hO]
    have bs : bs_R T σ3 ρr := fun j j0 j1 => by
      rw [oR] at j1
      rw [b3 j j0 j1, h132 j j0 j1]
    have o7 : ∀ a i : Int, 72 ≤ a → a ≤ 78 → σ3 a i = σ2 a i := fun a i q1 q2 => by rw [f3 _ _ (by omega), s5 _ _ (by omega)]
    have pc : pc_R N σ1 σP σ3 := ⟨fun a i q1 q2 => by rw [f3 _ _ q2, fE _ _ q1], fun i i0 i1 => by rw [o7 _ _ (by omega) (by omega)]; exact s2.1 i i0 i1, fun i i0 i1 => by rw [o7 _ _ (by omega) (by omega), o7 _ _ (by omega) (by omega)]; exact s2.2.1 i i0 i1, fun i i0 i1 => by rw [o7 _ _ (by omega) (by omega), o7 _ _ (by omega) (by omega)]; exact s2.2.2.1 i i0 i1, fun i i0 i1 => by rw [o7 _ _ (by omega) (by omega), o7 _ _ (by omega) (by omega)]; exact s2.2.2.2 i i0 i1⟩
    obtain ⟨σ9, ρ9, n9, v11, v12, v13, y1, y2, y3, y4⟩ := y_pits (E := E) (d := d) (e := e) (x1 := x1) (x2 := x2) (x3 := x3) (x4 := x4) (x5 := 1) (x7 := pe_B ρ0) (W := W) hb hp hg c1 c2 hA hP ⟨ρP, hR, pP.2.1.1, pP.1.2.2.1.2.2.1.2.1, pP.1.2.2.1.1.2.1⟩ h64 hW hO hWN h82 rfl h1 h2 h3 h4 (by omega) (by omega) 64 0 σ3 ρr 0 (9, 0) (9, 0) (9, 0) rfl pc hr bs
    obtain ⟨ρz, z1, z2⟩ := r_pend (E := E) (e := e) (x1 := x1) (x2 := x2) (x3 := x3) (x4 := x4) (x5 := ρ0 83 82) (x6 := ρ0 83 83) (x8 := 1) (x9 := n9) (x10 := 64) (u11 := v11) (u12 := v12) (u13 := v13) hW hW4 h7 y4
    rw [if_neg (show ¬ js_w 1 = 0 by decide)] at z1
    refine ⟨σ9, ρz, n9, ?_, er'.trans (y2.trans z1), y3.1, z2⟩
    rw [ec, b_139_120, k4, if_pos (show js_w 4 = 4 from rfl), if_neg (show ¬ js_w 1 = 0 by decide), k_139_160 (by omega) e3, b_139_163]
    exact y1
  · rw [if_neg k4] at er'
    obtain ⟨ρz, z1, z2⟩ := r_pend (E := E) (e := e) (x1 := x1) (x2 := x2) (x3 := x3) (x4 := x4) (x5 := ρ0 83 82) (x6 := ρ0 83 83) (x8 := 0) (x9 := 0) (x10 := 0) (u11 := (9, 0)) (u12 := (9, 0)) (u13 := (9, 0)) hW hW4 h7 hr
    rw [if_pos (show js_w 0 = 0 from rfl)] at z1
    have w4 : ¬ js_w (σE 65 2) = 4 := by
      obtain ⟨_, K, _, ⟨_, kK⟩, _, c⟩ := pe
      have hK : 1 ≤ K ∧ K ≤ 4 := by
        rcases c with ⟨q1, q2, _⟩ | ⟨q1, _⟩ <;> omega
      rw [kK, js_w_of (x := K) (by omega) (by omega)]
      omega
    refine ⟨σE, ρz, -1, by rw [ec, b_139_120, if_neg w4], ?_, fun a i q1 _ => fE a i q1, z2⟩
    exact er'.trans (by rw [b_288_183, if_pos (show js_w 0 < 64 by decide), if_pos (show js_w 0 = 0 from rfl), z1])
end PA
