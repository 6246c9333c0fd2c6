/-! part 99.zzzzzzzv: the outs of the Run without a FLIP, kept by the class -/
theorem wd_126 {M : Int} {σ τ : js_S} (h : js_wd M σ = js_wd M τ) {k : Int} (hk : 0 ≤ k) : js_w (σ 126 k) = js_w (τ 126 k) := by
  have h3 := congrFun (wd_obj h) 126
  have e : ∀ ν : js_S, js_cell M ν 126 = some (.inl (0, 65536, .inl (fun i : Nat => Int32.ofInt (ν 126 (i : Int))))) := fun ν => rfl
  rw [e, e] at h3
  simp only [Option.some.injEq, Sum.inl.injEq, Prod.mk.injEq, true_and] at h3
  have a := congrFun h3 k.toNat
  have ek : ((k.toNat : Nat) : Int) = k := by omega
  rw [ek] at a
  exact js_w_eq2 a
section YB2
variable {E : js_E} {d : Nat} {Fu : Int → Int → Int → Prop} {ac zc b N : Int} {T : Nat} {σ ρ ρ3 : js_S}
theorem y_base (hb : b = 0 ∨ b = 25) (hp : psR E Fu ac zc b N T σ ρ) (hpe : peR T N σ ρ ρ3) (h4 : σ 65 2 = 4) (hN : ou_o ρ T ≤ N) (h82 : 0 ≤ ρ 83 82 ∧ ρ 83 82 < 2000000000) (hd : 10 ≤ d) : ∃ σ' : js_S, js_J E d 163 0 [(2, 56), (2, 65), (2, 80), (0, 0), (9, 0), (9, 0), (9, 0), (9, 0)] [] σ = js_r0 E σ' ∧ (∀ a i : Int, a ≠ 80 → σ' a i = σ a i) ∧ ∀ j : Int, 0 ≤ j → j < ou_o ρ T → js_w (σ' 80 j) = js_w (ρ3 126 (pe_B ρ + j)) := by
  obtain ⟨ρ', K, f, ⟨_, kK⟩, cq, c⟩ := hpe
  rcases c with ⟨_, _, _⟩ | ⟨_, _, ρ4, m1, m2, e4⟩
  · omega
  have oo : ∀ k : Nat, ou_o ρ' k = ou_o ρ k := fun k => ou_o_e2 k (fun i _ _ => ⟨f _ _ (by omega) (by omega), f _ _ (by omega) (by omega)⟩)
  have pb : pe_B ρ' = pe_B ρ := by
    unfold pe_B
    rw [f 83 82 (by omega) (by omega)]
  have p' : psR E Fu ac zc b N T σ ρ' := psR_fr hb hp (fun _ _ _ => rfl) f
  obtain ⟨⟨h56, hpr⟩, _, hou⟩ := p'
  have hN0 := hpr.1.2.1
  have op := ou_of hpr
  rw [oo] at hou
  have w82 : js_w (ρ 83 82) = ρ 83 82 := js_w_of (by omega) (by omega)
  have tm : (ρ 83 82).tmod 16 = ρ 83 82 % 16 := Int.tmod_eq_emod_of_nonneg (by omega)
  have B0 : 0 ≤ pe_B ρ := by
    unfold pe_B
    rw [w82, tm]
    omega
  have B1 := pe_B_in ρ B0
  obtain ⟨σ5, ρ5, w5, f1, f2, f3⟩ := yo_out (E := E) (d := d) (e := 5) (r := 7) (D := 80) (nD := E.1) hb (Or.inr (Or.inl rfl)) hpr h56 cq (Or.inl rfl) (fun τ => js_o80) (by omega) (by omega) (S := 0) (R := pe_B ρ) ⟨by omega, by rw [oo]; omega⟩ ⟨by omega, by rw [oo]; omega⟩ T 0 σ ρ' (9, 0) (9, 0) (9, 0) (by omega) ⟨fun _ _ _ => rfl, fun _ _ _ => rfl, fun j j0 j1 => by
    have z : ou_o ρ' 0 = 0 := rfl
    omega⟩
  obtain ⟨ρ6, w6, n1, n2, n3⟩ := r_emS (E := E) (e := 5) (T := T) (ρ0 := ρ') (R := pe_B ρ) op ⟨by omega, by rw [oo]; omega⟩ T 0 ρ' (9, 0) rfl (fun _ _ _ => rfl) (fun s s1 s2 => by omega)
  have fin : ∀ (τ : js_S) (x1 x2 : Int) (u : js_v), js_J E 5 275 106 [(2, 83), (0, x1), (0, x2), u] [(2, 83)] τ = js_r0 E (th_S τ) := fun τ x1 x2 u => by
    have e74 : js_J E (5 - 1) 274 0 [(2, 83)] [] τ = js_r0 E (th_S τ) := b_274_0
    rw [k_275_106 (by omega) e74, b_275_109]
  have wd := js_r0_inj ((fin _ _ _ _).symm.trans (f2.symm.trans (n1.trans (fin _ _ _ _))))
  obtain ⟨g1, _, g3⟩ := f3
  refine ⟨σ5, ?_, fun a i q => g1 a i (by omega), fun j j0 j1 => ?_⟩
  · have q := b_163_0 (E := E) (d := d) (σ := σ) (x2 := 80) (x3 := 0) (q := 7)
    exact q.trans f1
  · have a := g3 j j0 (by rw [oo]; exact j1)
    rw [Int.zero_add] at a
    have w := wd_126 wd (k := pe_B ρ + j) (by omega)
    rw [th_o (by omega) (by omega), th_o (by omega) (by omega), js_up_na _ (by decide), js_up_na _ (by decide)] at w
    obtain ⟨s, i, a1, a2, a3, a4, a5, a6⟩ := ou_dec (ρ := ρ') T j j0 (by rw [oo]; exact j1)
    have v6 := n3 s a1 a2 a3 i a4 a5
    have v4 := m2 s a1 a2 a3 i a4 a5
    rw [pb] at v4
    rw [Int.add_assoc, ← a6] at v6 v4
    rw [a, w, v6, e4, th_o (by omega) (by omega), js_up_na _ (by decide), v4]
end YB2
