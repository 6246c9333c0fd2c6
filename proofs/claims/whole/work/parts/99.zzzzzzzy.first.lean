/-! part 99.zzzzzzzy: probe by both, behind the checks, up to the FLIP's STEP -/
section PY
variable {E : js_E} {d e : Nat} {Fu : Int → Int → Int → Prop} {ac zc b N x1 x2 x3 x4 : Int} {T : Nat} {σ ρ0 : js_S}
theorem y_pro0 (hb : b = 0 ∨ b = 25) (hA : mh_A E Fu ac zc b N T σ ρ0) (h0 : mh_0 N σ ρ0) (h85 : ρ0 83 85 = 0) (h82 : 0 ≤ ρ0 83 82 ∧ ρ0 83 82 < 2000000000) (h3 : 0 ≤ x3 ∧ x3 < 2147483648) (hd : 70 ≤ d) (he : 80 ≤ e) : ∃ (W : Nat) (ρs σ1 σA : js_S), (ρ0 83 47 = W ∧ ou_o ρ0 T = W ∧ (W : Int) ≤ N ∧ W ≤ 4096 ∧ 0 ≤ pe_B ρ0 ∧ pe_B ρ0 + W ≤ 65536) ∧ (psR E Fu ac zc b N T σ1 ρ0 ∧ gv_R T σ1 ρ0 ∧ cq_R N 66 0 σ1 ρ0 ∧ cq_R N 69 1 σ1 ρ0) ∧ ((∀ a i : Int, a ≠ 131 → a ≠ 133 → ρs a i = ρ0 a i) ∧ sv_R ρ0 ρs ∧ ∀ j : Int, 0 ≤ j → j < W → ρs 133 j = ρ0 126 (pe_B ρ0 + j)) ∧ (∀ a i : Int, ¬ (65 ≤ a ∧ a ≤ 71) → σ1 a i = σ a i) ∧ js_J E (d - 1) 142 0 [(2, 56), (2, 65), (9, 0), (9, 0), (9, 0)] [] σ1 = js_r0 E σA ∧ sc_F 7 σ1 σA ∧ (σA 65 0 = 1 ∨ σA 65 0 = 2) ∧ js_J E d 139 0 [(2, 56), (0, x1), (0, x2), (0, x3), (0, x4), (9, 0), (9, 0), (9, 0)] [] σ = js_J E d 139 29 [(2, 56), (0, x1), (0, x2), (0, x3), (0, x4), (0, 0), (9, 0), (9, 0)] [] σA ∧ js_J E e 288 78 [(2, 83), (0, x1), (0, x2), (0, x3), (0, x4), (0, ρ0 83 82), (0, ρ0 83 83), (0, pe_B ρ0), (9, 0), (9, 0), (9, 0), (9, 0), (9, 0), (9, 0)] [(2, 83)] ρ0 = js_J E e 288 117 [(2, 83), (0, x1), (0, x2), (0, x3), (0, x4), (0, ρ0 83 82), (0, ρ0 83 83), (0, pe_B ρ0), (0, (W : Int)), (9, 0), (9, 0), (9, 0), (9, 0), (9, 0)] [(2, 83)] ρs ∧ ((∃ σP ρP : js_S, c_it E (d - 1) b x3.toNat σA σP ∧ sc_F 7 σA σP ∧ sr_F ρs ρP ∧ rn_R Fu ac zc N 7 σP ρP ∧ ρP 83 79 = x3 ∧ js_J E (e - 1) 278 0 [(2, 83)] [] ρs = js_J E (e - 1) 278 11 [(2, 83)] [] ρP) ∨ (∃ (m : Nat) (σE ρ3 : js_S), (m : Int) < x3 ∧ m < 200000 ∧ c_en E (d - 1) b m σA σE ∧ sc_F 7 σA σE ∧ peR T N σE ρs ρ3 ∧ js_J E (e - 1) 278 0 [(2, 83)] [] ρs = js_r0 E ρ3)) := by
  obtain ⟨⟨h56, hpr, hw, hst, hg⟩, ⟨ho, ho0, hoN, _⟩, _⟩ := hA
  have hN := hpr.1.2.1
  have hN7 : σ (7 + b) 2 = N := hpr.1.2.2.2
  obtain ⟨W, hWn⟩ : ∃ W : Nat, ou_o ρ0 T = W := ⟨(ou_o ρ0 T).toNat, by omega⟩
  have hW : ρ0 83 47 = (W : Int) := by rw [← ho, hWn]
  have w82 : js_w (ρ0 83 82) = ρ0 83 82 := js_w_of (by omega) (by omega)
  have tm : (ρ0 83 82).tmod 16 = ρ0 83 82 % 16 := Int.tmod_eq_emod_of_nonneg (by omega)
  have B0 : 0 ≤ pe_B ρ0 := by
    unfold pe_B
    rw [w82, tm]
    omega
  have B1 := pe_B_in ρ0 B0
  have hp : psR E Fu ac zc b N T σ ρ0 := ⟨⟨h56, hpr⟩, ⟨hw, hst⟩, by omega⟩
  obtain ⟨ρs, er0, hs, sv, h133⟩ := r_front (E := E) (e := e) (x1 := x1) (x2 := x2) (x3 := x3) (x4 := x4) (x5 := ρ0 83 82) (x6 := ρ0 83 83) (x7 := pe_B ρ0) (ρ0 := ρ0) (W := W) hW (by omega) (by omega) (by omega)
  obtain ⟨σ1, e1, g1, s1⟩ := c_copy (E := E) (d := d - 1) (N := N) (σ := σ) (r := 7) (q := 0) (Or.inr (Or.inl rfl)) (Or.inl rfl) (by decide) hN (by omega)
  have e1' : js_J E (d - 1) 140 0 [(2, 65), (2, 58), (0, N)] [] σ = js_r0 E σ1 := e1
  have q1 := cq_Qs (ρ := ρ0) s1 h0.2.1 h0.2.2
  have p1 : psR E Fu ac zc b N T σ1 ρ0 := psR_g hb hp (fun a i q => g1 a i (by omega)) (g1 _ _ (by omega)) (fun _ _ => rfl) (fun _ _ _ _ => rfl)
  have gv1 : gv_R T σ1 ρ0 := gv_g hg (fun i => g1 _ _ (by omega)) (fun _ _ _ => rfl)
  have ps : psR E Fu ac zc b N T σ1 ρs := psR_g hb p1 (fun _ _ _ => rfl) rfl (fun i q => hs _ _ (by decide) (by decide)) (fun a i q1 q2 => hs _ _ (by omega) (by omega))
  have gs : gv_R T σ1 ρs := gv_g gv1 (fun _ => rfl) (fun a i q => hs a i (by omega) (by omega))
  have cs : ∀ x0 c : Int, cq_R N x0 c σ1 ρ0 → cq_R N x0 c σ1 ρs := fun x0 c q => ⟨by rw [hs _ _ (by decide) (by decide)]; exact q.1, by rw [hs _ _ (by decide) (by decide)]; exact q.2.1, fun k k0 k1 => by rw [hs _ _ (by decide) (by decide)]; exact q.2.2 k k0 k1⟩
  obtain ⟨σA, eA, sA, lA, c⟩ := y_pgo (E := E) (d := d - 1) (e := e - 1) (x3 := x3) hb ps gs (cs 66 0 q1.1) (cs 69 1 q1.2) (by rw [hs _ _ (by decide) (by decide)]; exact h0.1.2.1) (Or.inl (by rw [hs _ _ (by decide) (by decide)]; exact h85)) (by rw [hs _ _ (by decide) (by decide)]; exact h82) h3 (by omega) (by omega)
  refine ⟨W, ρs, σ1, σA, ⟨hW, hWn, by omega, by omega, B0, by omega⟩, ⟨p1, gv1, q1.1, q1.2⟩, ⟨hs, sv, h133⟩, fun a i q => g1 a i (by omega), eA, sA, lA, ?_, er0, c⟩
  rw [b_139_0 hb h56, hN7, k_139_15 (by omega) e1', b_139_18, k_139_23 (by omega) eA, b_139_26]
end PY
