/-! part 99.zzzzzzc: input, by both, to its end -/
section YI3
variable {E : js_E} {d e : Nat} {Fu : Int → Int → Int → Prop} {ac zc b N : Int} {T : Nat} {σ ρ : js_S}
theorem y_input {k v : Int} (hb : b = 0 ∨ b = 25) (h : mh_R E Fu ac zc b N T σ ρ) (hl : ρ 83 64 = 1) (hk : -2147483648 ≤ k ∧ k < 2147483648) (hv : -2147483648 ≤ v ∧ v < 2147483648) (hd : 8 ≤ d) (he : 4 ≤ e) : ∃ (σ' ρ' : js_S) (z : Int), js_J E d 132 0 [(2, 0), (0, k), (0, v)] [] σ = js_r E (0, z) σ' ∧ js_J E e 279 0 [(2, 83), (0, k), (0, v), (9, 0)] [] ρ = js_r E (0, z) ρ' ∧ mh_R E Fu ac zc b N T σ' ρ' ∧ (∀ a i : Int, a ≠ 79 → σ' a i = σ a i) ∧ (∀ a i : Int, ¬ (a = 83 ∧ (i = 0 ∨ i = 90)) → a ≠ 125 → ρ' a i = ρ a i) ∧ ρ' 83 0 = 0 := by
  have hp := h.1.1.2.1
  have h56 := h.1.1.1
  have hpd := h.1.2.1.2.2.2.2
  have hgv := h.1.1.2.2.2.2
  have hN := hp.1.2.1
  have wv : js_w v = v := js_w_of hv.1 hv.2
  have wk : js_w k = k := js_w_of hk.1 hk.2
  have z0 : ∀ a i : Int, ¬ (a = 83 ∧ i = 0) → js_up ρ 83 0 0 a i = ρ a i := fun a i g => js_up_ne _ g
  have z1 : js_up ρ 83 0 0 83 0 = 0 := js_up_same _ _ _ _
  have r0 : js_J E e 279 0 [(2, 83), (0, k), (0, v), (9, 0)] [] ρ = (if js_w (ρ 83 77) = 0 then (if k < 0 then js_J E e 279 32 [(2, 83), (0, k), (0, v), (9, 0)] [] (js_up ρ 83 0 0) else js_J E e 279 26 [(2, 83), (0, k), (0, v), (9, 0)] [(0, k), (0, 1), (2, 83)] (js_up ρ 83 0 0)) else js_J E e 279 32 [(2, 83), (0, k), (0, v), (9, 0)] [] (js_up ρ 83 0 0)) := by
    rw [b_279_0, hl, if_neg (show ¬ js_w 1 = 0 by decide), wk]
  generalize js_up ρ 83 0 0 = ρa at z0 z1 r0
  have ha : mh_R E Fu ac zc b N T σ ρa := mh_err hb h (fun a i g => z0 a i (by omega))
  have hpa := ha.1.1.2.1
  have ya : ∀ a i : Int, a ≠ 83 → ρa a i = ρ a i := fun a i g => z0 a i (by omega)
  have no : js_J E e 279 32 [(2, 83), (0, k), (0, v), (9, 0)] [] ρa = js_r E (0, 0) ρa := by
    rw [b_279_32, b_279_33, if_pos (show js_w (-1) < 0 by decide)]
  have cEnd : ∀ (z : Int) (σ' : js_S), (z = 0 ∨ z = 1) → js_J E (d - 1) 133 0 [(2, 56), (0, k), (0, v), (9, 0), (9, 0)] [] σ = js_r E (0, z) σ' → js_J E d 132 0 [(2, 0), (0, k), (0, v)] [] σ = js_r E (0, z) σ' := fun z σ' hz g => by
    have wz : js_w z = 0 ∨ js_w z = 1 := by rcases hz with q | q <;> rw [q] <;> decide
    rw [b_132_0, k_132_6 (by omega) g, b_132_9, if_pos wz]
  have same : ∀ a i : Int, ¬ (a = 83 ∧ (i = 0 ∨ i = 90)) → a ≠ 125 → ρa a i = ρ a i := fun a i g _ => z0 a i (by omega)
  rcases y_at (E := E) (e := e - 1) (K := 1) (k0 := k) hb hpa (Or.inl rfl) T 0 k (9, 0) (by omega) hk with ⟨a1, a2, a3⟩ | ⟨s, j, ⟨⟨_, s2⟩, s3, s4, s5⟩, a5, a6⟩
  · -- no such port
    have c1 : ∀ d : Nat, 2 ≤ d → js_J E d 135 0 [(2, 7 + b), (0, 1), (0, k), (9, 0), (9, 0), (9, 0)] [] σ = js_r E (0, -1) σ := fun d hd => by
      have g := a1 d hd
      have g' : js_J E d 135 5 [(2, 7 + b), (0, 1), (0, k), (0, k), (0, 0), (9, 0)] [] σ = js_r E (0, -1) σ := g
      rw [b_135_0, g']
    have c2 : js_J E (d - 1) 133 0 [(2, 56), (0, k), (0, v), (9, 0), (9, 0)] [] σ = js_r E (0, 0) σ := by
      rw [b_133_0 hb h56, k_133_6 hb (by omega) (by rw [b_134_0, k_134_3 hb (by omega) (c1 _ (by omega)), b_134_6, c_portNo hb hp (by omega)]), b_133_9 hb h56, k_133_16 hb (by omega) (c1 _ (by omega)), b_133_19, if_pos (show (-1 : Int) < 0 by decide)]
    have a2' : js_J E (e - 1) 280 0 [(2, 83), (0, 1), (0, k), (9, 0), (9, 0)] [] ρa = js_r E (0, -1) ρa := by
      have g' : js_J E (e - 1) 280 5 [(2, 83), (0, 1), (0, k), (0, k), (0, 0)] [] ρa = js_r E (0, -1) ρa := a2
      rw [b_280_0, g']
    refine ⟨σ, ρa, 0, cEnd 0 σ (Or.inl rfl) c2, ?_, ha, fun _ _ _ => rfl, same, z1⟩
    rw [r0]
    by_cases t1 : js_w (ρ 83 77) = 0
    · rw [if_pos t1]
      by_cases t2 : k < 0
      · rw [if_pos t2, no]
      · rw [if_neg t2, k_279_26 (by omega) a2', b_279_29, b_279_33, if_pos (show js_w (-1) < 0 by decide)]
    · rw [if_neg t1, no]
  · -- place j of SYMBOL s
    rw [ya 86 _ (by decide)] at s3
    rw [ya 91 _ (by decide)] at s4
    rw [ya 90 _ (by decide)] at a5
    have pc := hp.2.2.2.2.2 s (by omega) (by omega) (by omega)
    obtain ⟨⟨d0, dg⟩, ⟨d1, _, d3, d4, d5, d6⟩, _⟩ := hp.2.2.1 s (by omega) (by omega)
    have c1 : ∀ d : Nat, 2 ≤ d → js_J E d 135 0 [(2, 7 + b), (0, 1), (0, k), (9, 0), (9, 0), (9, 0)] [] σ = js_r E (0, ρ 90 s + j) σ := fun d hd => by
      have g' : js_J E d 135 5 [(2, 7 + b), (0, 1), (0, k), (0, k), (0, 0), (9, 0)] [] σ = js_r E (0, ρ 90 s + j) σ := a5 d hd
      rw [b_135_0, g']
    have c2 : js_J E (d - 1 - 1) 134 0 [(2, 7 + b), (0, 1), (0, k), (9, 0), (9, 0), (9, 0)] [] σ = js_r E (2, σ (19 + b) s) σ := by
      have g := c_portAt (E := E) (d := d - 1 - 1) (k0 := k) hb hp hpd (Or.inl rfl) (by omega) s2 s3 s4 s 0 (9, 0) (by omega)
      have g' : js_J E (d - 1 - 1) 134 10 [(2, 7 + b), (0, 1), (0, k), (0, ρ 90 s + j), (0, 0), (9, 0)] [] σ = js_r E (2, σ (19 + b) s) σ := g
      rw [b_134_0, k_134_3 hb (by omega) (c1 _ (by omega)), b_134_6, g']
    have wa : js_w (ρ 90 s + j) = ρ 90 s + j := js_w_of (by omega) (by omega)
    have wE : js_w E.1 = E.1 := js_w_of (by omega) (by omega)
    have w8 : js_w (ρ 88 s) = ρ 88 s := js_w_of pc.2.1.1 pc.2.1.2
    have w9 : js_w (ρ 89 s) = ρ 89 s := js_w_of pc.2.2.1.1 pc.2.2.1.2
    have c3 : js_J E (d - 1) 133 0 [(2, 56), (0, k), (0, v), (9, 0), (9, 0)] [] σ = (if v < ρ 88 s then js_r E (0, 0) σ else (if ρ 89 s < v then js_r E (0, 0) σ else (if js_w (σ 58 0) = 0 then js_r E (0, 1) (js_up σ 79 (ρ 90 s + j) v) else js_r E (0, 0) σ))) := by
      rw [b_133_0 hb h56, k_133_6 hb (by omega) c2, b_133_9 hb h56, k_133_16 hb (by omega) (c1 _ (by omega)), b_133_19, if_neg (show ¬ σ (19 + b) s < 0 by omega), b_133_25 (by omega) d0, wa, if_neg (show ¬ ρ 90 s + j < 0 by omega), wE, if_pos (show ρ 90 s + j < E.1 by omega), wv, d3, w8, d4, w9, if_pos (show 0 ≤ ρ 90 s + j ∧ ρ 90 s + j < E.1 by omega)]
    have pk : po_k ρa 1 s = in_o ρ s := by
      rw [← in_po]
      exact in_o_eq (fun a i _ _ => ya a i (by omega)) s
    have p0 : po_k ρa 1 0 = 0 := rfl
    have ek : k = in_o ρ s + j := by rw [pk, p0] at s5; omega
    have mono := in_o_up (ρ := ρ) (M := T) (fun i i1 i2 i3 => (hp.2.2.2.2.2 i i1 i2 (by omega)).1.1)
    have m1 := mono 0 s (by omega)
    have m2 := mono (T - (s + 1)) (s + 1) (by omega)
    rw [show T - (s + 1) + (s + 1) = T by omega] at m2
    have en : in_o ρ (s + 1) = in_o ρ s + ρ 91 s := by
      show in_o ρ s + (if ρ 86 s = 1 then ρ 91 s else 0) = _
      rw [if_pos s3]
    have hin := hgv.1
    have b0 : ∀ a i : Int, ¬ (a = 83 ∧ i = 90) → js_up ρa 83 90 j a i = ρa a i := fun a i g => js_up_ne _ g
    have a6' : js_J E (e - 1) 280 0 [(2, 83), (0, 1), (0, k), (9, 0), (9, 0)] [] ρa = js_r E (0, s) (js_up ρa 83 90 j) := by
      have g' : js_J E (e - 1) 280 5 [(2, 83), (0, 1), (0, k), (0, k), (0, 0)] [] ρa = js_r E (0, s) (js_up ρa 83 90 j) := a6
      rw [b_280_0, g']
    generalize js_up ρa 83 90 j = ρb at b0 a6'
    have hbm : mh_R E Fu ac zc b N T σ ρb := mh_err hb h (fun a i g => by rw [b0 a i (by omega), z0 a i (by omega)])
    have yb : ∀ a i : Int, a ≠ 83 → ρb a i = ρ a i := fun a i g => by rw [b0 a i (by omega), ya a i g]
    have sameb : ∀ a i : Int, ¬ (a = 83 ∧ (i = 0 ∨ i = 90)) → a ≠ 125 → ρb a i = ρ a i := fun a i g _ => by rw [b0 a i (by omega), z0 a i (by omega)]
    have b00 : ρb 83 0 = 0 := by rw [b0 _ _ (by omega)]; exact z1
    have hT := hp.1.1.1
    have ws : js_w (s : Int) = s := js_w_of (by omega) (by omega)
    rcases ha.2 with hI | ⟨_, hR⟩
    · have t1 : ρ 83 77 = 0 := by rw [← z0 83 77 (by omega)]; exact hI.1.2.1
      have r1 : js_J E e 279 0 [(2, 83), (0, k), (0, v), (9, 0)] [] ρ = (if v < ρ 88 s then js_r E (0, 0) ρb else (if ρ 89 s < v then js_r E (0, 0) ρb else js_r E (0, 1) (js_up ρb 125 k v))) := by
        rw [r0, t1, if_pos (show js_w 0 = 0 from rfl), if_neg (show ¬ k < 0 by omega), k_279_26 (by omega) a6', b_279_29, b_279_33, ws, if_neg (show ¬ (s : Int) < 0 by omega), if_pos (show 0 ≤ (s : Int) ∧ (s : Int) < 400 by omega), wv, yb 88 _ (by decide), w8, yb 89 _ (by decide), w9, wk, if_pos (show 0 ≤ k ∧ k < 4096 by omega)]
      by_cases t2 : v < ρ 88 s
      · exact ⟨σ, ρb, 0, cEnd 0 σ (Or.inl rfl) (by rw [c3, if_pos t2]), by rw [r1, if_pos t2], hbm, fun _ _ _ => rfl, sameb, b00⟩
      by_cases t3 : ρ 89 s < v
      · exact ⟨σ, ρb, 0, cEnd 0 σ (Or.inl rfl) (by rw [c3, if_neg t2, if_pos t3]), by rw [r1, if_neg t2, if_pos t3], hbm, fun _ _ _ => rfl, sameb, b00⟩
      · have hI2 : mh_0 N σ ρb := by
          rcases hbm.2 with q | ⟨_, q⟩
          · exact q
          · have q1 := q.1.2
            rw [b0 _ _ (by omega), z0 _ _ (by omega), t1] at q1
            omega
        have g := mh_giv hbm (s := s) (j := j) (v := v) s2 (by rw [yb _ _ (by decide)]; exact s3) (by rw [yb _ _ (by decide)]; exact s4) (by rw [yb _ _ (by decide), yb _ _ (by decide)]; omega) hI2 hb
        rw [yb 90 _ (by decide), in_o_eq (fun a i _ _ => yb a i (by omega)) s, ← ek] at g
        refine ⟨js_up σ 79 (ρ 90 s + j) v, js_up ρb 125 k v, 1, cEnd 1 _ (Or.inr rfl) (by rw [c3, if_neg t2, if_neg t3, hI.1.1, if_pos (show js_w 0 = 0 from rfl)]), by rw [r1, if_neg t2, if_neg t3], g, fun a i q => js_up_na _ q, fun a i q1 q2 => by rw [js_up_na _ q2]; exact sameb a i q1 q2, by rw [js_up_na _ (by decide)]; exact b00⟩
    · have nw := rn_w hR
      rw [z0 83 77 (by omega)] at nw
      have ns : ¬ js_w (σ 58 0) = 0 := by
        have a : σ 58 0 = ρa 83 77 := hR.1.1
        rw [a, z0 83 77 (by omega)]
        omega
      refine ⟨σ, ρa, 0, cEnd 0 σ (Or.inl rfl) ?_, ?_, ha, fun _ _ _ => rfl, same, z1⟩
      · rw [c3, if_neg ns]
        split
        · rfl
        · split <;> rfl
      · rw [r0, if_neg (show ¬ js_w (ρ 83 77) = 0 by omega), no]
end YI3
