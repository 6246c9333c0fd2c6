/-! part 99.zzzzzzzr: the outcome of one FLIP, by both -/
/-- the outs of the Run without a FLIP, kept by both -/
def bs_R (T : Nat) (σ ρ : js_S) : Prop := ∀ j : Int, 0 ≤ j → j < ou_o ρ T → js_w (σ 80 j) = js_w (ρ 132 j)
theorem ou_dec {ρ : js_S} : ∀ (k : Nat) (j : Int), 0 ≤ j → j < ou_o ρ k → ∃ s i : Int, 0 ≤ s ∧ s < k ∧ ρ 86 s = 2 ∧ 0 ≤ i ∧ i < ρ 91 s ∧ j = ou_o ρ s.toNat + i
  | 0, j, h0, h1 => by
    have z : ou_o ρ 0 = 0 := rfl
    omega
  | k + 1, j, h0, h1 => by
    by_cases c : j < ou_o ρ k
    · obtain ⟨s, i, a1, a2, a3⟩ := ou_dec k j h0 c
      exact ⟨s, i, a1, by push_cast; omega, a3⟩
    · have z : ou_o ρ (k + 1) = ou_o ρ k + (if ρ 86 k = 2 then ρ 91 k else 0) := rfl
      by_cases q : ρ 86 k = 2
      · rw [if_pos q] at z
        exact ⟨k, j - ou_o ρ k, by omega, by push_cast; omega, q, by omega, by omega, by rw [Int.toNat_natCast]; omega⟩
      · rw [if_neg q] at z
        omega
theorem ou_in {T : Nat} {ρ : js_S} (hp : ou_P T ρ) {s i : Int} (h0 : 0 ≤ s) (h1 : s < T) (h2 : ρ 86 s = 2) (h3 : 0 ≤ i) (h4 : i < ρ 91 s) : 0 ≤ ou_o ρ s.toNat + i ∧ ou_o ρ s.toNat + i < ou_o ρ T := by
  have u := ou_o_up (ρ := ρ) (M := T) (fun s a1 a2 a3 => (hp.2.2 s a1 a2 a3).1.1)
  have u0 := u 0 s.toNat (by omega)
  have u1 := u (T - (s.toNat + 1)) (s.toNat + 1) (by omega)
  rw [show T - (s.toNat + 1) + (s.toNat + 1) = T by omega] at u1
  have z : ou_o ρ (s.toNat + 1) = ou_o ρ s.toNat + (if ρ 86 ((s.toNat : Nat) : Int) = 2 then ρ 91 ((s.toNat : Nat) : Int) else 0) := rfl
  rw [show ((s.toNat : Nat) : Int) = s by omega, if_pos h2] at z
  omega
section YC
variable {E : js_E} {d e : Nat} {Fu : Int → Int → Int → Prop} {ac zc b N x1 x2 x3 x4 x5 x6 x7 x8 x9 x10 : Int} {T : Nat} {σ ρ ρ4 : js_S} {u11 u12 u13 : js_v}
/-- from 221's end on -/
theorem r_281 {W : Nat} {K f : Int} (hW : ρ4 83 47 = W) (hW4 : W ≤ 4096) : js_J E e 288 221 [(2, 83), (0, x1), (0, x2), (0, x3), (0, x4), (0, x5), (0, x6), (0, x7), (0, x8), (0, x9), (0, x10), (0, K), (0, f), (0, (W : Int))] [] ρ4 = (if js_w K = 0 then (if js_w f = 0 then js_J E e 288 281 [(2, 83), (0, x1), (0, x2), (0, x3), (0, x4), (0, x5), (0, x6), (0, x7), (0, x8), (0, x9), (0, x10), (0, 4), (0, f), (0, (W : Int))] [] ρ4 else js_J E e 288 281 [(2, 83), (0, x1), (0, x2), (0, x3), (0, x4), (0, x5), (0, x6), (0, x7), (0, x8), (0, x9), (0, x10), (0, K), (0, f), (0, (W : Int))] [] ρ4) else js_J E e 288 281 [(2, 83), (0, x1), (0, x2), (0, x3), (0, x4), (0, x5), (0, x6), (0, x7), (0, x8), (0, x9), (0, x10), (0, K), (0, f), (0, (W : Int))] [] ρ4) := by
  rw [b_288_221, hW, if_neg (by omega)]
theorem y_cmp (hb : b = 0 ∨ b = 25) (hp : psR E Fu ac zc b N T σ ρ) (hpe : peR T N σ ρ ρ4) (hW : ρ 83 47 = ou_o ρ T) (hN : ou_o ρ T ≤ N) (h82 : 0 ≤ ρ 83 82 ∧ ρ 83 82 < 2000000000) (h81 : ρ 83 81 = 0) (h7 : x7 = pe_B ρ) (hbs : bs_R T σ ρ) (hd : 4 ≤ d) : ∃ o f : Int, (0 ≤ o ∧ o ≤ 4) ∧ js_J E d 165 0 [(2, 56), (9, 0), (9, 0), (9, 0), (9, 0)] [] σ = js_r E (0, o) σ ∧ js_J E e 288 209 [(2, 83), (0, x1), (0, x2), (0, x3), (0, x4), (0, x5), (0, x6), (0, x7), (0, x8), (0, x9), (0, x10), u11, u12, u13] [] ρ4 = js_J E e 288 281 [(2, 83), (0, x1), (0, x2), (0, x3), (0, x4), (0, x5), (0, x6), (0, x7), (0, x8), (0, x9), (0, x10), (0, o), (0, f), (0, ρ 83 47)] [] ρ4 := by
  obtain ⟨⟨h56, hpr⟩, _, hou⟩ := hp
  have hN0 := hpr.1.2.1
  have op := ou_of hpr
  have u0 := (ou_o_up (ρ := ρ) (M := T) (fun s a1 a2 a3 => (op.2.2 s a1 a2 a3).1.1) T 0 (by omega)).2
  have z0 : ou_o ρ 0 = 0 := rfl
  rw [z0, Nat.add_zero] at u0
  obtain ⟨W, hWn⟩ : ∃ W : Nat, ou_o ρ T = W := ⟨(ou_o ρ T).toNat, by omega⟩
  have w82 : js_w (ρ 83 82) = ρ 83 82 := js_w_of (by omega) (by omega)
  have tm : (ρ 83 82).tmod 16 = ρ 83 82 % 16 := Int.tmod_eq_emod_of_nonneg (by omega)
  have B0 : 0 ≤ pe_B ρ := by
    unfold pe_B
    rw [w82, tm]
    omega
  have B1 := pe_B_in ρ B0
  obtain ⟨ρ', K, f0, ⟨k0, kK⟩, cq, c⟩ := hpe
  rcases c with ⟨K1, K3, e4⟩ | ⟨K4, hg, ρ5, m1, m2, e4⟩
  · have q47 : ρ4 83 47 = (W : Int) := by rw [e4, th_o (by omega) (by omega), js_up_ni _ (by decide), f0 _ _ (by omega) (by omega), hW, hWn]
    have q81 : ρ4 83 81 = K := by rw [e4, th_o (by omega) (by omega), js_up_same]
    obtain ⟨f, _, _, g3⟩ := r_oeq (E := E) (e := e) (x1 := x1) (x2 := x2) (x3 := x3) (x4 := x4) (x5 := x5) (x6 := x6) (x7 := x7) (x8 := x8) (x9 := x9) (x10 := x10) (x11 := K) (ρ := ρ4) q47 (by omega) (by omega) W 0 1 rfl (Or.inr rfl)
    have wK : js_w K = K := js_w_of (by omega) (by omega)
    refine ⟨K, f, by omega, by rw [b_165_0, kK, wK, if_neg (by omega)], ?_⟩
    rw [b_288_209, q81, hW, hWn]
    exact g3.trans (by rw [r_281 q47 (by omega), wK, if_neg (by omega)])
  · have q47 : ρ4 83 47 = (W : Int) := by rw [e4, th_o (by omega) (by omega), js_up_ni _ (by decide), m1 _ _ (by omega), f0 _ _ (by omega) (by omega), hW, hWn]
    have q81 : ρ4 83 81 = 0 := by rw [e4, th_o (by omega) (by omega), js_up_ni _ (by decide), m1 _ _ (by omega), f0 _ _ (by omega) (by omega), h81]
    have o132 : ∀ j : Int, ρ4 132 j = ρ 132 j := fun j => by rw [e4, th_o (by omega) (by omega), js_up_na _ (by decide), m1 _ _ (by omega), f0 _ _ (by omega) (by omega)]
    have o126 : ∀ j : Int, ρ4 126 j = ρ5 126 j := fun j => by rw [e4, th_o (by omega) (by omega), js_up_na _ (by decide)]
    have pb : pe_B ρ' = pe_B ρ := by
      unfold pe_B
      rw [f0 83 82 (by omega) (by omega)]
    have oo : ∀ k : Nat, ou_o ρ' k = ou_o ρ k := fun k => ou_o_e2 k (fun i _ _ => ⟨f0 _ _ (by omega) (by omega), f0 _ _ (by omega) (by omega)⟩)
    have key : ∀ s i : Int, 0 ≤ s → s < T → ρ 86 s = 2 → 0 ≤ i → i < ρ 91 s → (cm_E σ ρ s i ↔ js_w (ρ4 126 (x7 + (ou_o ρ s.toNat + i))) = js_w (ρ4 132 (ou_o ρ s.toNat + i))) := fun s i s0 s1 s2 i0 i1 => by
      have p := hpr.2.2.2.2.2 s s0 s1 (by omega)
      have s2' : ρ' 86 s = 2 := by rw [f0 _ _ (by omega) (by omega)]; exact s2
      have i1' : i < ρ' 91 s := by rw [f0 _ _ (by omega) (by omega)]; exact i1
      have r := hg s s0 s1 s2' i i0 i1'
      have v := m2 s s0 s1 s2' i i0 i1'
      have e90 : ρ' 90 s = ρ 90 s := f0 _ _ (by omega) (by omega)
      have e88 : ρ' 88 s = ρ 88 s := f0 _ _ (by omega) (by omega)
      have e89 : ρ' 89 s = ρ 89 s := f0 _ _ (by omega) (by omega)
      rw [pb, oo, e90] at v
      rw [e88, e89, e90] at r
      have cl := cq.2.2 (ρ 90 s + i) (by omega) (by omega)
      rw [show (66 : Int) + 2 = 68 from rfl, show 4096 * (0 : Int) + (ρ 90 s + i) = ρ 90 s + i by omega] at cl
      have ii := ou_in op s0 s1 s2 i0 i1
      have bb := hbs (ou_o ρ s.toNat + i) ii.1 ii.2
      have wv : js_w (ρ' 120 (ρ 90 s + i)) = js_l (ρ' 120 (ρ 90 s + i)) := js_w_l0 rfl (by omega) (by omega)
      unfold cm_E
      rw [cl, js_l_w, bb, o126, o132, h7, ← Int.add_assoc, v, wv]
    obtain ⟨f, f1, g2, g3⟩ := r_oeq (E := E) (e := e) (x1 := x1) (x2 := x2) (x3 := x3) (x4 := x4) (x5 := x5) (x6 := x6) (x7 := x7) (x8 := x8) (x9 := x9) (x10 := x10) (x11 := 0) (ρ := ρ4) q47 (by omega) (by omega) W 0 1 rfl (Or.inr rfl)
    have z4 : σ 65 2 = 4 := by rw [kK, K4]
    have st : js_J E e 288 209 [(2, 83), (0, x1), (0, x2), (0, x3), (0, x4), (0, x5), (0, x6), (0, x7), (0, x8), (0, x9), (0, x10), u11, u12, u13] [] ρ4 = (if js_w f = 0 then js_J E e 288 281 [(2, 83), (0, x1), (0, x2), (0, x3), (0, x4), (0, x5), (0, x6), (0, x7), (0, x8), (0, x9), (0, x10), (0, 4), (0, f), (0, (W : Int))] [] ρ4 else js_J E e 288 281 [(2, 83), (0, x1), (0, x2), (0, x3), (0, x4), (0, x5), (0, x6), (0, x7), (0, x8), (0, x9), (0, x10), (0, 0), (0, f), (0, (W : Int))] [] ρ4) := by
      rw [b_288_209, q81]
      exact g3.trans (by rw [r_281 q47 (by omega), if_pos (show js_w 0 = 0 from rfl)])
    rcases c_cmp (E := E) (d := d) hb hpr h56 (by omega) z4 hd with ⟨⟨s, i, a1, a2, a3, a4, a5, a6⟩, ec⟩ | ⟨al, ec⟩
    · have nf : f = 0 := by
        rcases f1 with q | q
        · exact q
        · have ii := ou_in op a1 a2 a3 a4 a5
          exact (a6 ((key s i a1 a2 a3 a4 a5).2 ((g2.1 q).2 _ (by omega) (by omega)))).elim
      exact ⟨4, f, by omega, ec, by rw [st, nf, if_pos (by decide), hW, hWn]⟩
    · have nf : f = 1 := g2.2 ⟨rfl, fun j j0 j1 => by
        obtain ⟨s, i, a1, a2, a3, a4, a5, a6⟩ := ou_dec (ρ := ρ) T j (by omega) (by omega)
        rw [a6]
        exact (key s i a1 a2 a3 a4 a5).1 (al s i a1 a2 a3 a4 a5)⟩
      exact ⟨0, f, by omega, ec, by rw [st, nf, if_neg (by decide), hW, hWn]⟩
end YC
