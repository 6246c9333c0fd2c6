/-! part 99.zzzi: what holds behind the { of a fun -/
section FE
variable {E : js_E} {e : Nat}
/-- parameters become visible -/
theorem r_fvis {m n g : Int} (hm : 0 ≤ m) (hn : 0 ≤ n) (h4 : m + n < 400) : ∀ (k : Nat) (ρ : js_S) (x4 : Int), (k : Int) = m + n + 1 - x4 → m + 1 ≤ x4 → ρ 83 9 = 0 → ∃ ρ' : js_S, js_J E e 206 206 [(2, 83), (0, m), (0, n), (0, g), (0, x4)] [] ρ = js_J E e 206 235 [(2, 83), (0, m), (0, n), (0, g), (0, m + n + 1)] [] ρ' ∧ (∀ i : Int, x4 ≤ i → i ≤ m + n → ρ' 99 i = 1) ∧ (∀ a i : Int, ¬ (a = 99 ∧ x4 ≤ i ∧ i ≤ m + n) → ρ' a i = ρ a i)
  | 0, ρ, x4, h, h1, h9 => by
    have e4 : x4 = m + n + 1 := by omega
    refine ⟨ρ, ?_, fun i g1 g2 => by omega, fun _ _ _ => rfl⟩
    rw [b_206_206, js_w_of (x := m + n) (by omega) (by omega), js_w_of (x := x4) (by omega) (by omega), if_pos (by omega), e4]
  | k + 1, ρ, x4, h, h1, h9 => by
    have hx : x4 ≤ m + n := by push_cast at h; omega
    obtain ⟨ρ', e1, a1, a2⟩ := r_fvis hm hn h4 k (js_up ρ 99 x4 1) (x4 + 1) (by push_cast at h; omega) (by omega) (by rw [js_up_na _ (by decide)]; exact h9)
    refine ⟨ρ', ?_, fun i g1 g2 => ?_, fun a i g => ?_⟩
    · rw [b_206_206, js_w_of (x := m + n) (by omega) (by omega), js_w_of (x := x4) (by omega) (by omega), if_neg (by omega), h9, if_pos (show js_w 0 = 0 from rfl), if_pos (show 0 ≤ x4 ∧ x4 < 400 by omega), js_iand11, e1]
    · by_cases q : i = x4
      · rw [q, a2 _ _ (by omega), js_up_same]
      · exact a1 i (by omega) g2
    · rw [a2 a i (by omega), js_up_ne _ (by omega)]
end FE
/-- cells of parameters -/
theorem lo_par {ρ : js_S} {m : Int} (m0 : 0 ≤ m) (h0 : ∀ i : Int, 0 ≤ i → i ≤ m → ¬ (5 ≤ ρ 86 i ∧ ρ 86 i ≤ 7 ∧ ρ 93 i = m)) : ∀ k : Nat, (∀ i : Int, m < i → i < m + 1 + k → ρ 86 i = 5 ∧ ρ 91 i = 1 ∧ ρ 93 i = m) → lo_c ρ m (m + 1 + k).toNat = k
  | 0, _ => by
    have e0 : (m + 1 + ((0 : Nat) : Int)).toNat = (m + 1).toNat := by omega
    rw [e0, lo_c_up (m := 0) _ (by omega) (fun i g1 g2 => h0 i (by omega) (by omega))]
    rfl
  | k + 1, h => by
    have ih := lo_par m0 h0 k (fun i g1 g2 => h i g1 (by push_cast; omega))
    have ee : (m + 1 + ((k + 1 : Nat) : Int)).toNat = (m + 1 + k).toNat + 1 := by push_cast; omega
    have it : (((m + 1 + (k : Int)).toNat : Nat) : Int) = m + 1 + k := by omega
    have a := h (m + 1 + k) (by omega) (by push_cast; omega)
    rw [ee]
    show lo_c ρ m (m + 1 + k).toNat + _ = _
    rw [ih, it, if_pos ⟨by omega, by omega, a.2.2⟩, a.2.1]
    push_cast
    rfl
/-- behind { : all that a statement wants -/
theorem fb_ux {E : js_E} {b m s n g : Int} {B : Int → Int} {Bf : Int → Int → Int} {U : Int → Int} {fb fr : Int → tr_T} {σ0 ρ0 σ ρ ρv : js_S} {j0 j : Nat} (hb : b = 0 ∨ b = 25) (hm : ρ0 83 11 = m) (hj : j0 ≤ j) (hD : dl_R E b B Bf U fb fr σ0 ρ0 j0) (hI : pb_I E b m s n g σ0 ρ0 σ ρ) (v1 : ∀ i : Int, m + 1 ≤ i → i ≤ m + n → ρv 99 i = 1) (v2 : ∀ a i : Int, ¬ (a = 99 ∧ m + 1 ≤ i ∧ i ≤ m + n) → ρv a i = ρ a i) : ux_R E b m B (fun i => if i = m then σ0 (8 + b) 8 else if i = -2 then m + 1 else U i) (fun i => i = m) σ ρv ∧ xn_R b σ ρv j := by
  obtain ⟨⟨hD0, hG⟩, ⟨hu, hB⟩, ⟨d1, d2, d3, d4, d5, d6, d7, d8, d9⟩, ⟨⟨n1, n2⟩, n3, n4⟩, hl, ⟨hfu, hfp⟩, hfn, ⟨hp1, hp2⟩, _⟩ := hD
  obtain ⟨⟨hY, hk⟩, ⟨⟨h0, nn0, n8, h11, h400⟩, h26, h44⟩, ⟨hds, h19⟩, hs, hr, hty, hfr, ⟨hc1, hc2⟩, hgf, ⟨h22, h9⟩, hp⟩ := hI
  have gs := js_sym_ge hds
  have z : ∀ a i : Int, a ≠ 99 → ρv a i = ρ a i := fun a i q => v2 a i (by omega)
  have z11 : ρv 83 11 = m + 1 + n := by rw [z _ _ (by decide)]; exact h11
  have r0 : ∀ a i : Int, 86 ≤ a → a ≤ 97 → i < m → ρv a i = ρ0 a i := fun a i g1 g2 g3 => by rw [z _ _ (by omega), hgf a i (by omega) (by omega) (by omega)]
  have c8 : ∀ k : Int, k ≠ 9 → σ (8 + b) k = σ0 (8 + b) k := fun k q => hc1 _ _ (by omega) (by omega) (by omega) (by omega) (by omega) (by omega) (by omega) (by omega)
  have fu := fn_u_0 (ρ := ρ0) (ρ0 83 11).toNat
  have e88 : 0 ≤ σ0 (8 + b) 8 ∧ σ0 (8 + b) 8 < 1000 := by omega
  have sidv : ∀ i : Int, sy_S ρv 0 0 99 i = ρv 99 i := fun i => by rw [sy_S_id]
  have v99 : ∀ i : Int, sy_S ρ (m + 1) (m + 1 + n) 99 i = ρv 99 i := fun i => by
    unfold sy_S
    by_cases q : m + 1 ≤ i ∧ i < m + 1 + n
    · rw [if_pos ⟨rfl, q.1, q.2⟩, v1 i q.1 (by omega)]
    · rw [if_neg (by omega), v2 _ _ (by omega)]
  have hYv : sy_Y E.1 σ ρv b 0 0 (fun i => i = m) := by
    refine sy_Y_gen hb hY (fun _ _ _ => rfl) (z _ _ (by decide)) (fun a i hh => z _ _ (by omega)) (fun i g1 g2 => ?_) (rs_v_of hY.2.1 (fun i => z _ _ (by decide)) (fun i => z _ _ (by decide)) (fun i => z _ _ (by decide)) (z _ _ (by decide)) (fun i => z _ _ (by decide)) (fun i => z _ _ (by decide))) (fun i g1 g2 => ?_) (fun i g1 g2 g3 => ?_)
    · by_cases q : m + 1 ≤ i ∧ i ≤ m + n
      · exact Or.inr (v1 i q.1 q.2)
      · rw [v2 _ _ (by omega)]
        exact hY.1.2.2.2.2 i g1 g2
    · rw [sidv, ← v99]
      exact (hY.2.2.2.2.2.1 i g1 g2).2.2.1
    · have a := hY.2.2.2.2.2.2 i g1 g2 g3
      unfold sy_F at a ⊢
      rw [z 86 i (by decide), z 87 i (by decide), z 88 i (by decide), z 89 i (by decide), z 91 i (by decide), z 92 i (by decide), z 93 i (by decide), z 94 i (by decide), z 96 i (by decide)]
      exact a
  have old99 : ∀ i : Int, 0 ≤ i → i < m → ρv 99 i = ρ0 99 i := fun i g1 g2 => sy_99 hD0.1 hYv g1 (by omega) (by omega) (hc2 i g1 g2)
  have hlo : ∀ i : Int, 0 ≤ i → i < m → ∀ f : Int, lo_c ρv f i.toNat = lo_c ρ0 f i.toNat := fun i g1 g2 f => lo_c_eq _ (fun a k x1 x2 x3 x4 => r0 a k x1 x2 (by omega))
  have hnl : ∀ i : Int, 0 ≤ i → i ≤ m → ¬ (5 ≤ ρv 86 i ∧ ρv 86 i ≤ 7 ∧ ρv 93 i = m) := fun i g1 g2 hh => by
    by_cases q : i < m
    · rw [r0 86 i (by decide) (by decide) q, r0 93 i (by decide) (by decide) q] at hh
      have a := (hl i g1 (by omega) ⟨hh.1, hh.2.1⟩).1
      omega
    · have e : i = m := by omega
      rw [e, z 86 m (by decide), hr.1] at hh
      omega
  have hpv : ∀ i : Int, m < i → i < m + 1 + n → ρv 86 i = 5 ∧ ρv 91 i = 1 ∧ ρv 93 i = m := fun i g1 g2 => by
    have a := (hp i g1 g2).1
    rw [z 86 i (by decide), z 91 i (by decide), z 93 i (by decide)]
    exact ⟨a.1, a.2.1, a.2.2.2.1⟩
  have hlp : ∀ i : Int, m < i → i ≤ m + 1 + n → lo_c ρv m i.toNat = i - m - 1 := fun i g1 g2 => by
    have a := lo_par (ρ := ρv) h0 hnl (i - m - 1).toNat (fun k x1 x2 => hpv k x1 (by omega))
    have ee : (m + 1 + (((i - m - 1).toNat : Nat) : Int)).toNat = i.toNat := by omega
    rw [ee] at a
    rw [a]
    omega
  refine ⟨⟨⟨hYv, ⟨Or.inl rfl, fun i hi => ?_, fun i g1 g2 g3 g4 => ?_⟩, fun i g1 g2 g3 => ?_, fun i g1 g2 => ?_, fun i g1 g2 g3 g4 => ?_, ?_, Or.inr ⟨⟨h0, by omega⟩, ?_⟩⟩, ⟨fun i g1 g2 g3 g4 => ?_, ?_, ?_, h22, ?_, fun i g1 g2 g3 => ?_⟩, fun i hi => by have e : i = m := hi; omega⟩, ?_⟩
  · rw [sidv, hi, v2 _ _ (by omega), hr.2.2.2.2.2.2]
    decide
  · rw [z _ _ (by decide)] at g2 g4
    rw [z _ _ (by decide), z _ _ (by decide), z _ _ (by decide)]
    exact hk.2.2 i g1 g2 g3 g4
  · rw [z11] at g2
    by_cases q : i < m
    · obtain ⟨a1, a2, a3, a4, a5, a6⟩ := hG i g1 (by omega) (fun h => h)
      unfold gs_P
      rw [r0 86 i (by decide) (by decide) q, r0 87 i (by decide) (by decide) q, r0 88 i (by decide) (by decide) q, r0 89 i (by decide) (by decide) q, r0 91 i (by decide) (by decide) q, r0 92 i (by decide) (by decide) q, r0 93 i (by decide) (by decide) q, r0 96 i (by decide) (by decide) q, old99 i g1 q, z11]
      refine ⟨a1, fun hh => ?_, a3, fun hh h1 => ?_, fun hh => ?_, a6⟩
      · obtain ⟨b1, b2⟩ := a2 hh
        refine ⟨b1, ?_⟩
        rcases b2 with c | c | ⟨c1, c2, c3, c4⟩
        · exact Or.inl c
        · exact Or.inr (Or.inl c)
        · exact Or.inr (Or.inr ⟨c1, by omega, by rw [r0 86 _ (by decide) (by decide) (by omega)]; exact c3, fun hh => by have e : ρ0 87 i - 3 = m := hh; omega⟩)
      · have x := a4 hh h1
        have y := (hl i g1 (by omega) hh).1
        rw [hD0.2.2] at x
        omega
      · obtain ⟨b1, b2, b3, b4, b5, b6, b7, b8, b9, b10, b11, b12⟩ := a5 hh
        refine ⟨b1, b2, b3, by omega, fun x x1 x2 => ?_, b6, b7, b8, b9, b10, b11, Or.inr ?_⟩
        · obtain ⟨c1, c2⟩ := b5 x x1 x2
          exact ⟨by rw [r0 86 _ (by decide) (by decide) (by omega)]; exact c1, fun hh => by have e : i + x = m := hh; omega⟩
        · rw [z _ _ (by decide), h26]
          exact q
    · have g3' : i ≠ m := g3
      obtain ⟨⟨p86, p91, p92, p93, p99⟩, ⟨q1, q2, q3, q4⟩, p5, p11, p9⟩ := hp i (by omega) g2
      unfold gs_P
      rw [z 86 i (by decide), z 87 i (by decide), z 88 i (by decide), z 89 i (by decide), z 91 i (by decide), z 92 i (by decide), z 93 i (by decide), z 96 i (by decide), z 83 26 (by decide), p86, p91, p92, p93, h26]
      exact ⟨Or.inl rfl, fun hh => by omega, fun _ => ⟨by decide, by decide, q1, q2, q3, q4⟩, fun _ _ => rfl, fun hh => by omega, fun hh => by omega⟩
  · rw [z11] at g2
    by_cases q : i < m
    · have a := hu i g1 (by omega)
      have c := hc2 i g1 q
      rw [c.1, c.2]
      exact ⟨a.1, a.2.1, u9_of a.2.2 (r0 _ _ (by decide) (by decide) q) (by rw [c.1, c.2])⟩
    · by_cases q2 : i = m
      · rw [q2, h19, hs.2.2.2.2.2.2.2.2.2.2.2.1]
        exact ⟨by decide, by decide, fun hh => absurd (by rw [z _ _ (by decide)]; exact hr.1) hh⟩
      · have a := (hp i (by omega) g2).2.2
        rw [a.2.1]
        exact ⟨by omega, by omega, fun _ => a.2.2⟩
  · rw [z11] at g2
    by_cases q : i < m
    · rw [r0 _ _ (by decide) (by decide) q] at g4
      rw [(hc2 i g1 q).1, (hc2 i g1 q).2]
      exact hB i g1 (by omega) g4
    · have g3' : i ≠ m := g3
      have a := (hpv i (by omega) g2).1
      omega
  · rw [z _ _ (by decide)]
    exact h26
  · rw [hc1 _ _ (by omega) (by omega) (by omega) (by omega) (by omega) (by omega) (by omega) (by omega)]
    exact d1
  · show σ (σ (19 + b) i) 5 = lo_c ρv (ρv 93 i) i.toNat ∧ σ (σ (19 + b) i) 11 = (if ρv 93 i = m then σ0 (8 + b) 8 else if ρv 93 i = -2 then m + 1 else U (ρv 93 i))
    rw [z11] at g2
    by_cases q : i < m
    · rw [r0 86 _ (by decide) (by decide) q] at g4
      obtain ⟨⟨a1, a2, a3⟩, a4, a5⟩ := hl i g1 (by omega) g4
      rw [r0 93 _ (by decide) (by decide) q, (hc2 i g1 q).1, (hc2 i g1 q).2, (hc2 i g1 q).2, hlo i g1 q, if_neg (by omega), if_neg (by omega)]
      exact ⟨a4, a5⟩
    · have g3' : i ≠ m := g3
      have a := (hp i (by omega) g2).2.2
      rw [(hpv i (by omega) g2).2.2, hlp i (by omega) (by omega), if_pos rfl]
      exact ⟨a.1, a.2.1⟩
  · rw [h9, z11, hlp (m + 1 + n) (by omega) (by omega)]
    omega
  · show σ (8 + b) 8 = (if m = m then σ0 (8 + b) 8 else if m = -2 then m + 1 else U m)
    rw [c8 8 (by decide), if_pos rfl]
  · show -1 ≤ (if m = m then σ0 (8 + b) 8 else if m = -2 then m + 1 else U m) ∧ (if m = m then σ0 (8 + b) 8 else if m = -2 then m + 1 else U m) < 1000
    rw [if_pos rfl]
    omega
  · have g2' : (if (-2 : Int) = m then σ0 (8 + b) 8 else if (-2 : Int) = -2 then m + 1 else U (-2)) ≤ i := g2
    rw [if_neg (by omega), if_pos rfl] at g2'
    have a := hpv i (by omega) (by omega)
    exact ⟨by omega, by omega, a.2.2⟩
  · have e33 : ρv 83 33 = ρ0 83 33 := by rw [z _ _ (by decide), hgf _ _ (by omega) (by omega) (by omega)]
    have e44 : ρv 83 44 = 0 := by rw [z _ _ (by decide)]; exact h44
    have e15 : σ (23 + b) 15 = 0 := by rw [hc1 _ _ (by omega) (by omega) (by omega) (by omega) (by omega) (by omega) (by omega) (by omega)]; exact d8
    have y6 := c8 6 (by decide)
    have y7 := c8 7 (by decide)
    have y10 := c8 10 (by decide)
    have y11 := c8 11 (by decide)
    have y12 := c8 12 (by decide)
    unfold xn_R
    omega
