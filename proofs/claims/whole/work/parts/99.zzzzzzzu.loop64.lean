/-! part 99.zzzzzzzu: the 64 FLIPS, by both -/
section PU
variable {E : js_E} {d e : Nat} {Fu : Int → Int → Int → Prop} {ac zc b N x1 x2 x3 x4 x5 x7 W : Int} {T : Nat} {σ1 σA σP ρ0 : js_S}
theorem y_pits (hb : b = 0 ∨ b = 25) (hp : psR E Fu ac zc b N T σ1 ρ0) (hg : gv_R T σ1 ρ0) (c1 : cq_R N 66 0 σ1 ρ0) (c2 : cq_R N 69 1 σ1 ρ0) (hA : js_J E (d - 1) 142 0 [(2, 56), (2, 65), (9, 0), (9, 0), (9, 0)] [] σ1 = js_r0 E σA) (hP : c_it E (d - 1) b x3.toNat σA σP) (hR : ∃ ρP0 : js_S, rn_R Fu ac zc N 7 σP ρP0 ∧ wc_P Fu ac zc N ρP0 ∧ ρP0 83 51 ≤ 100000 ∧ ρP0 83 49 ≤ 8192) (h64 : ρ0 83 64 = 1) (hW : ρ0 83 47 = W) (hO : ou_o ρ0 T = W) (hWN : W ≤ N) (h82 : 0 ≤ ρ0 83 82 ∧ ρ0 83 82 < 2000000000) (h7 : x7 = pe_B ρ0) (h1 : x1 = 0 ∨ x1 = 1) (h2 : -2 ≤ x2 ∧ x2 < N) (h3 : 0 ≤ x3 ∧ x3 < 2147483648) (h4 : 0 ≤ x4 ∧ x4 ≤ 4) (hd : 60 ≤ d) (he : 70 ≤ e) : ∀ (g k : Nat) (σ ρ : js_S) (n : Int) (u11 u12 u13 : js_v), g + k = 64 → pc_R N σ1 σP σ → pi_R x7 W ρ0 ρ → bs_R T σ ρ → ∃ (σ' ρ' : js_S) (n' : Int) (v11 v12 v13 : js_v), js_J E d 139 169 [(2, 56), (0, x1), (0, x2), (0, x3), (0, x4), (0, x5), (0, n), (0, (k : Int))] [] σ = js_r E (0, n') σ' ∧ js_J E e 288 183 [(2, 83), (0, x1), (0, x2), (0, x3), (0, x4), (0, ρ0 83 82), (0, ρ0 83 83), (0, x7), (0, 1), (0, n), (0, (k : Int)), u11, u12, u13] [] ρ = js_J E e 288 312 [(2, 83), (0, x1), (0, x2), (0, x3), (0, x4), (0, ρ0 83 82), (0, ρ0 83 83), (0, x7), (0, 1), (0, n'), (0, 64), v11, v12, v13] [] ρ' ∧ pc_R N σ1 σP σ' ∧ pi_R x7 W ρ0 ρ' := by
  intro g
  induction g with
  | zero =>
    intro k σ ρ n u11 u12 u13 hk hc hr hbs
    have ek : (k : Int) = 64 := by omega
    have s56 : σ 56 1 = 7 + b := by rw [hc.1 _ _ (by omega) (by omega)]; exact hp.1.1
    exact ⟨σ, ρ, n, u11, u12, u13, by rw [ek, b_139_169 hb s56, if_neg (by decide)], by rw [ek, b_288_183, if_neg (by decide)], hc, hr⟩
  | succ g ih =>
    intro k σ ρ n u11 u12 u13 hk hc hr hbs
    obtain ⟨σ', ρ', n', v11, v12, v13, _, e1, e2, a1, a2, a3⟩ := y_pit (x5 := x5) (n := n) (i := (k : Int)) (u11 := u11) (u12 := u12) (u13 := u13) hb hp hg c1 c2 hA hP hR h64 hW hO hWN h82 h7 h1 h2 h3 h4 hd he (by omega) hc hr hbs
    obtain ⟨σ'', ρ'', n'', w11, w12, w13, f1, f2, b1, b2⟩ := ih (k + 1) σ' ρ' n' v11 v12 v13 (by omega) a1 a2 a3
    rw [show ((k + 1 : Nat) : Int) = (k : Int) + 1 by push_cast; rfl] at f1 f2
    exact ⟨σ'', ρ'', n'', w11, w12, w13, by rw [e1, f1], by rw [e2, f2], b1, b2⟩
end PU
/-- the reference behind a probe: as ahead of it, but for what is free -/
def pz_R (ρ0 ρ : js_S) : Prop := ((ρ 83 77 = 0 ∧ ρ 83 79 = 0 ∧ ρ 83 80 = 0 ∧ ρ 83 81 = 0 ∧ ρ 83 85 = 0) ∧ ρ 83 82 = ρ0 83 82 ∧ ρ 83 83 = ρ0 83 83) ∧ ((∀ i : Int, 0 ≤ i → i < 8192 → ρ 120 i = ρ0 120 i) ∧ (ρ 121 0 = ρ0 121 0 ∧ ρ 121 1 = ρ0 121 1) ∧ ρ 122 0 = ρ0 122 0 ∧ ρ 122 1 = ρ0 122 1) ∧ ∀ a i : Int, ¬ (a = 83 ∧ (i = 0 ∨ 77 ≤ i ∧ i ≤ 85)) → ¬ (120 ≤ a ∧ a ≤ 124) → ¬ (127 ≤ a ∧ a ≤ 133) → ρ a i = ρ0 a i
/-- its last loop -/
theorem r_pend {E : js_E} {e : Nat} {x1 x2 x3 x4 x5 x6 x7 x8 x9 x10 : Int} {u11 u12 u13 : js_v} {W : Nat} {ρ0 ρ : js_S} (hW : ρ0 83 47 = W) (hW4 : W ≤ 4096) (h7 : 0 ≤ x7 ∧ x7 + W ≤ 65536) (hr : pi_R x7 W ρ0 ρ) : ∃ ρ' : js_S, js_J E e 288 312 [(2, 83), (0, x1), (0, x2), (0, x3), (0, x4), (0, x5), (0, x6), (0, x7), (0, x8), (0, x9), (0, x10), u11, u12, u13] [] ρ = (if js_w x8 = 0 then js_r E (0, -1) ρ' else js_r E (0, x9) ρ') ∧ pz_R ρ0 ρ' := by
  obtain ⟨h1, ⟨k1, ⟨k2, k3⟩, k4, k5⟩, fr, f126, sv, f133⟩ := hr
  obtain ⟨ρ', e1, g1, g2⟩ := r_o126 (E := E) (e := e) (x1 := x1) (x2 := x2) (x3 := x3) (x4 := x4) (x5 := x5) (x6 := x6) (x7 := x7) (x8 := x8) (x9 := x9) (u11 := u11) (u12 := u12) (u13 := u13) (ρ0 := ρ) (W := W) (by rw [fr _ _ (by omega) (by omega) (by omega)]; exact hW) hW4 h7 W 0 ρ rfl (fun _ _ _ => rfl) (fun j j0 j1 => by push_cast at j1; omega)
  have o : ∀ a i : Int, a ≠ 126 → ρ' a i = ρ a i := fun a i q => g1 a i (by omega)
  refine ⟨ρ', by rw [b_288_312]; exact e1, ?_, ⟨fun i i0 i1 => by rw [o _ _ (by decide)]; exact k1 i i0 i1, ⟨by rw [o _ _ (by decide)]; exact k2, by rw [o _ _ (by decide)]; exact k3⟩, by rw [o _ _ (by decide)]; exact k4, by rw [o _ _ (by decide)]; exact k5⟩, fun a i y1 y2 y3 => ?_⟩
  · rw [o _ _ (by decide), o _ _ (by decide), o _ _ (by decide), o _ _ (by decide), o _ _ (by decide), o _ _ (by decide), o _ _ (by decide)]
    exact h1
  · by_cases q : a = 126
    · rw [q]
      by_cases w : x7 ≤ i ∧ i < x7 + W
      · have g := g2 (i - x7) (by omega) (by omega)
        rw [show x7 + (i - x7) = i by omega] at g
        rw [g, f133 _ (by omega) (by omega), show x7 + (i - x7) = i by omega]
      · rw [g1 _ _ (by omega), f126 _ w]
    · rw [o _ _ q, fr _ _ y1 y2 (by omega)]
section PZ
variable {E : js_E} {Fu : Int → Int → Int → Prop} {ac zc b N n : Int} {T : Nat} {σ ρ σ' ρ' : js_S}
theorem pz_lq (h : LQ E n σ ρ) (hP : lq_P E b σ ρ) (l1 : σ 56 2 = 1) (l2 : ρ 83 64 = 1) (hn : ρ 83 82 ≤ n) (hN : lq_N T ρ) (hG : lq_G ρ) (hA : mh_A E Fu ac zc b N T σ ρ) (h0 : mh_0 N σ ρ) (h85 : ρ 83 85 = 0) (s : ∀ a i : Int, ¬ (65 ≤ a ∧ a ≤ 78) → a ≠ 80 → σ' a i = σ a i) (hz : pz_R ρ ρ') (h81 : ρ 83 81 = 0) : LQ E (n + 1) σ' ρ' := by
  obtain ⟨⟨⟨z77, z79, z80, z81, z85⟩, z82, z83⟩, ⟨k1, ⟨k2, k3⟩, k4, k5⟩, fr⟩ := hz
  have hb := hP.1
  have hA' := hA
  obtain ⟨⟨_, hpr, _⟩, _, ⟨a1, a2, a3, m, hm⟩, ko⟩ := hA'
  have m0 : m = 0 := by
    have := hm.1.2.2
    omega
  have hm8 : σ 56 8 = 0 := by
    have := hm.1.2.1
    omega
  have oo : ou_o ρ' T = ou_o ρ T := ou_o_eq (fun a i q1 q2 => fr a i (by omega) (by omega) (by omega)) T
  have hA2 : mh_A E Fu ac zc b N T σ' ρ' := by
    refine mh_mk hb hA (fun a i q => s a i (by omega) (by omega)) (s _ _ (by omega) (by omega)) (fun i q => fr _ _ (by omega) (by omega) (by omega)) (fun a i q => fr a i (by omega) (by omega) (by omega)) ⟨by rw [s _ _ (by omega) (by omega), z81, a1.1, h81], by rw [z81]; decide, by rw [z81]; decide⟩ ⟨by rw [s _ _ (by omega) (by omega), z82]; exact a2.1, by rw [z82]; exact a2.2⟩ (by rw [s _ _ (by omega) (by omega), z83]; exact a3) ⟨0, ⟨by decide, by rw [s _ _ (by omega) (by omega), hm8]; rfl, by rw [z85]; rfl⟩, fun k q1 q2 => by push_cast at q2; omega⟩ (fun m q1 q2 q3 j j0 j1 => ?_)
    rw [z82] at q2 q3
    rw [oo] at j1 ⊢
    rw [s _ _ (by omega) (by omega), fr _ _ (by omega) (by omega) (by omega)]
    exact ko m q1 q2 q3 j j0 j1
  have hN4 := hpr.1.2.1
  obtain ⟨⟨b1, b2, b3, b4⟩, c1, c2⟩ := h0
  have h02 : mh_0 N σ' ρ' := by
    refine ⟨⟨by rw [s _ _ (by omega) (by omega)]; exact b1, z77, by rw [s _ _ (by omega) (by omega)]; exact b3, z79⟩, ⟨by rw [s _ _ (by omega) (by omega), k2]; exact c1.1, by rw [s _ _ (by omega) (by omega), k4]; exact c1.2.1, fun k q1 q2 => ?_⟩, ⟨by rw [s _ _ (by omega) (by omega), k3]; exact c2.1, by rw [s _ _ (by omega) (by omega), k5]; exact c2.2.1, fun k q1 q2 => ?_⟩⟩
    · rw [s _ _ (by omega) (by omega), k1 _ (by omega) (by omega)]
      exact c1.2.2 k q1 q2
    · rw [s _ _ (by omega) (by omega), k1 _ (by omega) (by omega)]
      exact c2.2.2 k q1 q2
  exact lq_set h hP l1 l2 hN hG ⟨hA2, Or.inl h02⟩ (fun a i q => s a i (by omega) (by omega)) (s _ _ (by omega) (by omega)) (fun i q => fr _ _ (by omega) (by omega) (by omega)) (fun a i q1 q2 => fr a i (by omega) (by omega) (by omega)) (by rw [z82]; omega)
end PZ
