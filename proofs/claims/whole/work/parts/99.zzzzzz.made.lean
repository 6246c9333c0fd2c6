/-! part 99.zzzzzz: what was made can be loaded -/
theorem in_po {ρ : js_S} : ∀ n : Nat, in_o ρ n = po_k ρ 1 n
  | 0 => rfl
  | n + 1 => by
    show in_o ρ n + _ = po_k ρ 1 n + _
    rw [in_po n]
theorem ou_po {ρ : js_S} : ∀ n : Nat, ou_o ρ n = po_k ρ 2 n
  | 0 => rfl
  | n + 1 => by
    show ou_o ρ n + _ = po_k ρ 2 n + _
    rw [ou_po n]
theorem po_k_le {ρ : js_S} {M : Nat} {k : Int} (hk : 1 ≤ k ∧ k ≤ 3) (h : ∀ i : Int, 0 ≤ i → i < M → 1 ≤ ρ 86 i ∧ ρ 86 i ≤ 3 → 0 ≤ ρ 91 i) : ∀ n : Nat, n ≤ M → 0 ≤ po_k ρ k n ∧ po_k ρ k n ≤ po_a ρ n
  | 0, _ => ⟨Int.le_refl _, Int.le_refl _⟩
  | n + 1, hn => by
    have ih := po_k_le hk h n (by omega)
    have e1 : po_k ρ k (n + 1) = po_k ρ k n + (if ρ 86 n = k then ρ 91 n else 0) := rfl
    have e2 : po_a ρ (n + 1) = po_a ρ n + (if 1 ≤ ρ 86 n ∧ ρ 86 n ≤ 3 then ρ 91 n else 0) := rfl
    rw [e1, e2]
    by_cases q : 1 ≤ ρ 86 n ∧ ρ 86 n ≤ 3
    · have a := h n (by omega) (by omega) q
      rw [if_pos q]
      by_cases q2 : ρ 86 n = k
      · rw [if_pos q2]
        omega
      · rw [if_neg q2]
        omega
    · rw [if_neg q, if_neg (show ¬ ρ 86 n = k by omega)]
      omega
/-- all that a load asks -/
def ml_P (E : js_E) (Fu : Int → Int → Int → Prop) (ac zc b N : Int) (T : Nat) (σ ρ : js_S) : Prop := pr_R E b T N σ ρ ∧ wc_P Fu ac zc N ρ ∧ (ac ≤ ρ 83 50 ∧ ρ 83 50 < zc) ∧ (ou_o ρ T = ρ 83 47 ∧ 0 ≤ ou_o ρ T ∧ ou_o ρ T ≤ N ∧ 16 * E.1 < 2147483648) ∧ in_o ρ T ≤ 4096 ∧ pd_P T ρ ∧ ∀ s : Int, 0 ≤ s → s < T → ρ 86 s = 1 → ρ 88 s ≤ ρ 89 s
section MM
variable {E : js_E} {b w : Int} {B : Int → Int} {Bf : Int → Int → Int} {U : Int → Int} {fb fr : Int → tr_T} {r : tr_T} {σ ρ σ' ρ' ρf : js_S} {j M : Nat}
theorem y_made (h : pg_R E b B Bf U fb fr r σ ρ j) (hM : ρ 83 11 = M) (hj : j ≤ 8193) (hY : ym_R E b ρ σ' ρ') (hmf : mf_R B fb fr r M ρ ρf) (hρ : ρ' = js_up ρf 83 51 w) (hE : E.1 ≤ 4096) : ml_P E (wv_F ρ fb fr M) (fn_p ρ fb fr M) (fn_p ρ fb fr M + st_ln r + 1) b (ρ' 83 48) M σ' ρ' := by
  obtain ⟨hp, hc⟩ := pg_mp h hM hj
  obtain ⟨⟨y9, y0, y4, y11, y71⟩, ⟨⟨s0, s1, s2⟩, ⟨n0, n1, n2⟩, st, ⟨b0, b1, b2⟩, t5, t6⟩, hsym, hcode⟩ := hY
  have o : ∀ a i : Int, ¬ (a = 83 ∧ i = 51) → ρ' a i = ρf a i := fun a i g => by rw [hρ, js_up_ne _ g]
  have y : ∀ a i : Int, 84 ≤ a → a ≤ 109 → a ≠ 90 → a ≠ 95 → ρ' a i = ρ a i := fun a i g1 g2 g3 g4 => by rw [o a i (by omega), hmf.1 a i (by omega) g3 g4 (by omega) (by omega)]
  have v48 : ρ' 83 48 = un_c ρ fb fr M + lo_c ρ (-1) M + max 0 (st_mt r 0) := by rw [o _ _ (by omega)]; exact hmf.2.1.2.1
  have v50 : ρ' 83 50 = fn_p ρ fb fr M := by rw [o _ _ (by omega)]; exact hmf.2.1.2.2.1
  have v47 : ρ' 83 47 = po_k ρ 2 M := by rw [o _ _ (by omega)]; exact hmf.2.1.2.2.2.2
  have v49 : ρf 83 49 ≤ 8192 := by rw [← o 83 49 (by omega)]; exact s1
  have r0 := st_ln_0 r
  have hlen : ∀ i : Int, 0 ≤ i → i < M → 1 ≤ ρ 86 i ∧ ρ 86 i ≤ 3 → 0 ≤ ρ 91 i := fun i i1 i2 i3 => by
    have := (wv_ln hp (x := i) ⟨i1, i2, Or.inl i3⟩).1
    omega
  obtain ⟨us, l0, u0⟩ := wv_u hp
  have uM := us M 0 (by omega)
  rw [Nat.add_zero] at uM
  have eu : un_c ρ fb fr 0 = po_a ρ M := by
    show po_a ρ (ρ 83 11).toNat = _
    rw [hM, show ((M : Int)).toNat = M by omega]
  have lM := l0 (-1) M (by omega)
  have pN : po_a ρ M ≤ ρ' 83 48 := by rw [v48]; omega
  have k1 := po_k_le (k := 1) (by decide) hlen M (Nat.le_refl _)
  have k2 := po_k_le (k := 2) (by decide) hlen M (Nat.le_refl _)
  have io : ∀ n : Nat, in_o ρ' n = in_o ρ n := by
    intro n
    induction n with
    | zero => rfl
    | succ n ih =>
      show in_o ρ' n + (if ρ' 86 n = 1 then ρ' 91 n else 0) = in_o ρ n + (if ρ 86 n = 1 then ρ 91 n else 0)
      rw [ih, y 86 _ (by decide) (by decide) (by decide) (by decide), y 91 _ (by decide) (by decide) (by decide) (by decide)]
  have oo : ∀ n : Nat, ou_o ρ' n = ou_o ρ n := by
    intro n
    induction n with
    | zero => rfl
    | succ n ih =>
      show ou_o ρ' n + (if ρ' 86 n = 2 then ρ' 91 n else 0) = ou_o ρ n + (if ρ 86 n = 2 then ρ 91 n else 0)
      rw [ih, y 86 _ (by decide) (by decide) (by decide) (by decide), y 91 _ (by decide) (by decide) (by decide) (by decide)]
  have v90 : ∀ x : Int, 0 ≤ x → x < M → 1 ≤ ρ 86 x ∧ ρ 86 x ≤ 3 → ρ' 90 x = ac_A ρ fb fr x ∧ ac_A ρ fb fr x = po_a ρ x.toNat := fun x x1 x2 x3 => by
    refine ⟨?_, ?_⟩
    · rw [o _ _ (by omega)]
      exact hmf.2.2.1 x x1 x2 (by omega)
    · unfold ac_A
      rw [if_pos x3]
  have rsv := h.1.1.2.1
  have hw : wc_P (wv_F ρ fb fr M) (fn_p ρ fb fr M) (fn_p ρ fb fr M + st_ln r + 1) (ρ' 83 48) ρ' := by
    have a := wc_make hp hc hmf v49
    rw [← o 83 48 (by omega)] at a
    exact wc_of a (fun a i _ _ => o a i (by omega)) (o _ _ (by omega))
  refine ⟨⟨⟨⟨hp.1.1, by rw [y11]; exact hM, by rw [y71]; exact hM⟩, ⟨n0, n1, by omega, by omega⟩, rfl, n2⟩, ⟨⟨s0, s1, s2⟩, st, ⟨b0, b1, b2⟩, t5, t6⟩, fun i i1 i2 => ?_, hcode, fun s q1 q2 => ?_, fun s q1 q2 q3 => ?_⟩, hw, by rw [v50]; exact ⟨Int.le_refl _, by omega⟩, ⟨by rw [oo, ou_po, v47], by rw [oo, ou_po]; exact k2.1, by rw [oo, ou_po]; omega, by omega⟩, by rw [io, in_po]; omega, fun s t q1 q2 q3 q4 q5 => ?_, fun s q1 q2 q3 => ?_⟩
  · obtain ⟨⟨a1, a2, a3, a4, a5⟩, ⟨c1, c2, c3, c4, c6, c7, c8, _, c12⟩, d5, d9⟩ := hsym i i1 (by omega)
    have g := js_sym_ge a1
    exact ⟨⟨a1, by omega⟩, ⟨c1, c2, c3, c4, d5, c6⟩, ⟨c7, c8, d9, c12⟩, a4, a5⟩
  · rw [y 86 _ (by decide) (by decide) (by decide) (by decide)]
    exact (hp.2.1 s q1 (by have := hp.1.1; omega)).1
  · rw [y 86 _ (by decide) (by decide) (by decide) (by decide)] at q3
    have g := (hp.2.2.1 s q1 (by omega) (fun q => q)).2.2.1 (Or.inl q3)
    have v := v90 s q1 q2 q3
    have c := wv_c (r := r) hp (x := s) ⟨q1, q2, Or.inl q3⟩
    have rv := rsv s q1 (by have := hp.1.1; omega)
    rw [y 91 _ (by decide) (by decide) (by decide) (by decide), y 88 _ (by decide) (by decide) (by decide) (by decide), y 89 _ (by decide) (by decide) (by decide) (by decide), y 94 _ (by decide) (by decide) (by decide) (by decide), v.1, v48]
    exact ⟨⟨by omega, c.1, c.2⟩, ⟨by omega, by omega⟩, ⟨by omega, by omega⟩, by omega, by omega⟩
  · rw [y 86 _ (by decide) (by decide) (by decide) (by decide)] at q4 q5
    have v1 := v90 s q1 (by omega) (by omega)
    have v2 := v90 t (by omega) q3 (by omega)
    rw [v1.1, v1.2, v2.1, v2.2, y 91 _ (by decide) (by decide) (by decide) (by decide)]
    have e : po_a ρ (s.toNat + 1) = po_a ρ s.toNat + (if 1 ≤ ρ 86 (s.toNat : Nat) ∧ ρ 86 (s.toNat : Nat) ≤ 3 then ρ 91 (s.toNat : Nat) else 0) := rfl
    rw [show ((s.toNat : Nat) : Int) = s by omega, if_pos (by omega)] at e
    have a := po_a_st hlen (t.toNat - (s.toNat + 1)) (s.toNat + 1) (by omega)
    rw [show t.toNat - (s.toNat + 1) + (s.toNat + 1) = t.toNat by omega] at a
    omega
  · rw [y 86 _ (by decide) (by decide) (by decide) (by decide)] at q3
    rw [y 88 _ (by decide) (by decide) (by decide) (by decide), y 89 _ (by decide) (by decide) (by decide) (by decide)]
    exact ((hp.2.2.1 s q1 (by omega) (fun q => q)).2.2.1 (Or.inl (by omega))).2.2.2.1
end MM
