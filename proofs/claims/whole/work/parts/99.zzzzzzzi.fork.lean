/-! part 99.zzzzzzzi: the class's fork and each run of the reference up to it: the same world, so the same relation -/
section FK
variable {E : js_E} {N : Int} {Fu : Int → Int → Int → Prop} {ac zc : Int} {σ τ ρ ρ1 : js_S}
theorem ms_rng {bk : Int → Int} (hw : wc_P Fu ac zc N ρ) : ∀ (n : Nat) (p l : Int), ms_P Fu ac zc bk n p l → (0 ≤ p ∧ p < ρ 83 49) ∧ ∀ k : Int, 0 ≤ k → k < n → 0 ≤ bk k ∧ bk k < ρ 83 49
  | 0, p, l, h => ⟨(hw.2 p h.2.1 h.2.2).1, fun k k1 k2 => by omega⟩
  | n + 1, p, l, h => by
    obtain ⟨⟨a, z, hf, p1, p2⟩, _, l2, _, h2⟩ := h
    have ih := ms_rng hw n _ _ h2
    refine ⟨(hw.1 a z l hf p p1 p2).1, fun k k1 k2 => ?_⟩
    by_cases q : k = n
    · rw [q]
      exact ih.1
    · exact ih.2 k k1 (by push_cast at k2; omega)
theorem js_l_eq {x y : Int} (h : Int64.ofInt x = Int64.ofInt y) : js_l x = js_l y := by
  unfold js_l
  rw [h]
theorem js_w_eq2 {x y : Int} (h : Int32.ofInt x = Int32.ofInt y) : js_w x = js_w y := by
  unfold js_w
  rw [h]
theorem wd_obj {M : Int} (h : js_wd M σ = js_wd M τ) : js_cell M σ = js_cell M τ := by
  unfold js_wd at h
  exact (Prod.mk.inj (Prod.mk.inj h).2).2
theorem wd_65 {M : Int} (h : js_wd M σ = js_wd M τ) : js_w (σ 65 0) = js_w (τ 65 0) ∧ js_w (σ 65 1) = js_w (τ 65 1) ∧ js_w (σ 65 2) = js_w (τ 65 2) ∧ js_w (σ 65 3) = js_w (τ 65 3) := by
  have h3 := congrFun (wd_obj h) 65
  have e : ∀ ν : js_S, js_cell M ν 65 = some (.inr (9, [.int (Int32.ofInt (ν 65 0)), .int (Int32.ofInt (ν 65 1)), .int (Int32.ofInt (ν 65 2)), .int (Int32.ofInt (ν 65 3)), .ref 66, .ref 69])) := fun ν => rfl
  rw [e, e] at h3
  simp only [Option.some.injEq, Sum.inr.injEq, Prod.mk.injEq, List.cons.injEq, Value.int.injEq, true_and, and_true] at h3
  exact ⟨js_w_eq2 h3.1, js_w_eq2 h3.2.1, js_w_eq2 h3.2.2.1, js_w_eq2 h3.2.2.2⟩
theorem wd_66 {M : Int} (h : js_wd M σ = js_wd M τ) : js_l (σ 66 0) = js_l (τ 66 0) ∧ js_l (σ 66 1) = js_l (τ 66 1) ∧ js_w (σ 66 2) = js_w (τ 66 2) ∧ js_w (σ 66 3) = js_w (τ 66 3) := by
  have h3 := congrFun (wd_obj h) 66
  have e : ∀ ν : js_S, js_cell M ν 66 = some (.inr (3, [.long (Int64.ofInt (ν 66 0)), .long (Int64.ofInt (ν 66 1)), .int (Int32.ofInt (ν 66 2)), .int (Int32.ofInt (ν 66 3)), .long (Int64.ofInt 1), .ref 68, .ref 67])) := fun ν => rfl
  rw [e, e] at h3
  simp only [Option.some.injEq, Sum.inr.injEq, Prod.mk.injEq, List.cons.injEq, Value.int.injEq, Value.long.injEq, true_and, and_true] at h3
  exact ⟨js_l_eq h3.1, js_l_eq h3.2.1, js_w_eq2 h3.2.2.1, js_w_eq2 h3.2.2.2⟩
theorem wd_69 {M : Int} (h : js_wd M σ = js_wd M τ) : js_l (σ 69 0) = js_l (τ 69 0) ∧ js_l (σ 69 1) = js_l (τ 69 1) ∧ js_w (σ 69 2) = js_w (τ 69 2) ∧ js_w (σ 69 3) = js_w (τ 69 3) := by
  have h3 := congrFun (wd_obj h) 69
  have e : ∀ ν : js_S, js_cell M ν 69 = some (.inr (3, [.long (Int64.ofInt (ν 69 0)), .long (Int64.ofInt (ν 69 1)), .int (Int32.ofInt (ν 69 2)), .int (Int32.ofInt (ν 69 3)), .long (Int64.ofInt 58659), .ref 71, .ref 70])) := fun ν => rfl
  rw [e, e] at h3
  simp only [Option.some.injEq, Sum.inr.injEq, Prod.mk.injEq, List.cons.injEq, Value.int.injEq, Value.long.injEq, true_and, and_true] at h3
  exact ⟨js_l_eq h3.1, js_l_eq h3.2.1, js_w_eq2 h3.2.2.1, js_w_eq2 h3.2.2.2⟩
theorem wd_67 {M : Int} (h : js_wd M σ = js_wd M τ) {k : Int} (hk : 0 ≤ k) : js_w (σ 67 k) = js_w (τ 67 k) ∧ js_w (σ 70 k) = js_w (τ 70 k) := by
  have h3 := congrFun (wd_obj h) 67
  have h4 := congrFun (wd_obj h) 70
  have e : ∀ ν : js_S, js_cell M ν 67 = some (.inl (0, 16, .inl (fun i : Nat => Int32.ofInt (ν 67 (i : Int))))) := fun ν => rfl
  have e' : ∀ ν : js_S, js_cell M ν 70 = some (.inl (0, 16, .inl (fun i : Nat => Int32.ofInt (ν 70 (i : Int))))) := fun ν => rfl
  rw [e, e] at h3
  rw [e', e'] at h4
  simp only [Option.some.injEq, Sum.inl.injEq, Prod.mk.injEq, true_and] at h3 h4
  have a := congrFun h3 k.toNat
  have b := congrFun h4 k.toNat
  have ek : ((k.toNat : Nat) : Int) = k := by omega
  rw [ek] at a b
  exact ⟨js_w_eq2 a, js_w_eq2 b⟩
theorem wd_68 {M : Int} (h : js_wd M σ = js_wd M τ) {k : Int} (hk : 0 ≤ k) : js_l (σ 68 k) = js_l (τ 68 k) ∧ js_l (σ 71 k) = js_l (τ 71 k) := by
  have h3 := congrFun (wd_obj h) 68
  have h4 := congrFun (wd_obj h) 71
  have e : ∀ ν : js_S, js_cell M ν 68 = some (.inl (2, M.toNat, .inr (.inl (fun i : Nat => Int64.ofInt (ν 68 (i : Int)))))) := fun ν => rfl
  have e' : ∀ ν : js_S, js_cell M ν 71 = some (.inl (2, M.toNat, .inr (.inl (fun i : Nat => Int64.ofInt (ν 71 (i : Int)))))) := fun ν => rfl
  rw [e, e] at h3
  rw [e', e'] at h4
  simp only [Option.some.injEq, Sum.inl.injEq, Sum.inr.injEq, Prod.mk.injEq, true_and] at h3 h4
  have a := congrFun h3 k.toNat
  have b := congrFun h4 k.toNat
  have ek : ((k.toNat : Nat) : Int) = k := by omega
  rw [ek] at a b
  exact ⟨js_l_eq a, js_l_eq b⟩
theorem w_small {x y : Int} (h : js_w x = js_w y) (hx : 0 ≤ x ∧ x < 2147483648) (hy : 0 ≤ y ∧ y < 2147483648) : x = y := by
  rw [js_w_of (by omega) (by omega), js_w_of (by omega) (by omega)] at h
  exact h
/-- another store of the same world -/
theorem rn_W (hw : js_wd E.1 σ = js_wd E.1 τ) (h1 : rn_R Fu ac zc N 7 σ ρ1) (h2 : rn_R Fu ac zc N 7 τ ρ) (w1 : wc_P Fu ac zc N ρ1) (w2 : wc_P Fu ac zc N ρ) (s1 : ρ1 83 51 ≤ 100000 ∧ ρ1 83 49 ≤ 8192) (s2 : ρ 83 51 ≤ 100000 ∧ ρ 83 49 ≤ 8192) : rn_R Fu ac zc N 7 σ ρ := by
  obtain ⟨⟨b1, b2⟩, ⟨c1, c2, c3, c4, c5⟩, ⟨d1, d2⟩, m1, m2, m3, n, l, m4, m5⟩ := h1
  obtain ⟨⟨B1, B2⟩, ⟨C1, C2, C3, C4, C5⟩, ⟨D1, D2⟩, M1, M2, M3, n', l', M4, M5⟩ := h2
  obtain ⟨a0, a1, a2, a3⟩ := wd_65 hw
  have f66 := wd_66 hw
  have f69 := wd_69 hw
  have e7 : (58 + 7 : Int) = 65 := rfl
  have e9 : (59 + 7 : Int) = 66 := rfl
  have e2 : (62 + 7 : Int) = 69 := rfl
  rw [e7] at b1 c1 c2 c3 c5 B1 C1 C2 C3 C5
  rw [e9] at d1 D1
  rw [e2] at d2 D2
  have v0 : σ 65 0 = τ 65 0 := w_small a0 (by omega) (by omega)
  have v1 : σ 65 1 = τ 65 1 := w_small a1 (by omega) (by omega)
  have v3 : σ 65 3 = τ 65 3 := w_small a3 (by omega) (by omega)
  have ph : ρ1 83 77 = ρ 83 77 := by omega
  have r1 := ms_rng w1 n _ _ m5
  have r2 := ms_rng w2 n' _ _ M5
  have lv := ms_lv n _ _ m5
  have lv' := ms_lv n' _ _ M5
  rw [ph] at m1 m2 m3 m4 m5 r1
  have q1 : js_l (σ 66 0) = js_l (ρ 121 0) ∧ js_l (σ 66 1) = js_l (ρ 122 0) := ⟨f66.1.trans D1.1, f66.2.1.trans D1.2.1⟩
  have q2 : js_l (σ 69 0) = js_l (ρ 121 1) ∧ js_l (σ 69 1) = js_l (ρ 122 1) := ⟨f69.1.trans D2.1, f69.2.1.trans D2.2.1⟩
  refine ⟨⟨by rw [e7, v0]; exact B1, B2⟩, ⟨by rw [e7, v1]; exact C1, by rw [e7, v3]; exact C2, by rw [e7, v3]; exact C3, C4, by rw [e7, v3]; exact C5⟩, ⟨⟨q1.1, q1.2, fun k k1 k2 => (wd_68 hw k1).1.trans (D1.2.2 k k1 k2)⟩, ⟨q2.1, q2.2, fun k k1 k2 => (wd_68 hw k1).2.trans (D2.2.2 k k1 k2)⟩⟩, ?_⟩
  have cnt : ρ1 124 (ρ 83 77 - 1) = ρ 124 (ρ 83 77 - 1) → ∀ k : Int, 0 ≤ k → k < ρ 124 (ρ 83 77 - 1) → (0 ≤ ρ1 123 (32 * (ρ 83 77 - 1) + k) ∧ ρ1 123 (32 * (ρ 83 77 - 1) + k) < 8192) ∧ 0 ≤ ρ 123 (32 * (ρ 83 77 - 1) + k) ∧ ρ 123 (32 * (ρ 83 77 - 1) + k) < 8192 := fun g k k1 k2 => by
    have x := r1.2 k k1 (by omega)
    have y := r2.2 k k1 (by omega)
    exact ⟨⟨x.1, by omega⟩, y.1, by omega⟩
  rcases B2 with b | b
  · rw [b] at m1 m2 m3 m4 M1 M2 M3 M4 cnt ⊢
    have x0 : (56 + 7 + 3 * 1 : Int) = 66 := rfl
    rw [x0] at m1 m2 m3 M1 M2 M3 ⊢
    have p1 : σ 66 2 = τ 66 2 := w_small f66.2.2.1 (by omega) (by omega)
    have p2 : σ 66 3 = τ 66 3 := w_small f66.2.2.2 (by omega) (by omega)
    have cc : ρ1 124 (1 - 1) = ρ 124 (1 - 1) := by omega
    refine ⟨by rw [p1]; exact M1, by rw [p2]; exact M2, fun k k1 k2 => ?_, n', l', M4, by rw [b] at M5; exact M5⟩
    have g := cnt cc k k1 k2
    have x := m3 k k1 (by omega)
    have y := M3 k k1 k2
    rw [← y]
    exact w_small (wd_67 hw k1).1 (by show 0 ≤ σ (66 + 1) k ∧ σ (66 + 1) k < 2147483648; omega) (by show 0 ≤ τ (66 + 1) k ∧ τ (66 + 1) k < 2147483648; omega)
  · rw [b] at m1 m2 m3 m4 M1 M2 M3 M4 cnt ⊢
    have x0 : (56 + 7 + 3 * 2 : Int) = 69 := rfl
    rw [x0] at m1 m2 m3 M1 M2 M3 ⊢
    have p1 : σ 69 2 = τ 69 2 := w_small f69.2.2.1 (by omega) (by omega)
    have p2 : σ 69 3 = τ 69 3 := w_small f69.2.2.2 (by omega) (by omega)
    have cc : ρ1 124 (2 - 1) = ρ 124 (2 - 1) := by omega
    refine ⟨by rw [p1]; exact M1, by rw [p2]; exact M2, fun k k1 k2 => ?_, n', l', M4, by rw [b] at M5; exact M5⟩
    have g := cnt cc k k1 k2
    have x := m3 k k1 (by omega)
    have y := M3 k k1 k2
    rw [← y]
    exact w_small (wd_67 hw k1).2 (by show 0 ≤ σ (69 + 1) k ∧ σ (69 + 1) k < 2147483648; omega) (by show 0 ≤ τ (69 + 1) k ∧ τ (69 + 1) k < 2147483648; omega)
end FK
