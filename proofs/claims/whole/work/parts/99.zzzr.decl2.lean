/-! part 99.zzzr: const, type and ports, told what is known between two declarations -/
theorem gs_ct {ρ : js_S} {t : Int} (hG : gs_R ρ (fun _ => False)) (h : ct_P ρ (ρ 83 11) t) : t = 0 ∨ t = 1 ∨ (3 ≤ t ∧ t - 3 < ρ 83 11 ∧ ρ 86 (t - 3) = 8) := by
  rcases h with h | h | ⟨i, h0, h1, h2, h3⟩
  · exact Or.inl h
  · exact Or.inr (Or.inl h)
  · have a := ((hG i h0 h1 (fun q => q)).2.1 h2).2
    rw [← h3] at a
    rcases a with a | a | ⟨a1, a2, a3, _⟩
    · exact Or.inl a
    · exact Or.inr (Or.inl a)
    · exact Or.inr (Or.inr ⟨a1, a2, a3⟩)
theorem po_same {b m : Int} {σ ρ σ' ρ' : js_S} (h : σ (7 + b) 2 = po_a ρ (ρ 83 11).toNat ∧ σ (7 + b) 5 = po_k ρ 1 (ρ 83 11).toNat ∧ σ (7 + b) 6 = po_k ρ 2 (ρ 83 11).toNat) (hm : ρ 83 11 = m) (m0 : 0 ≤ m) (hm' : m ≤ ρ' 83 11) (e2 : σ' (7 + b) 2 = σ (7 + b) 2) (e5 : σ' (7 + b) 5 = σ (7 + b) 5) (e6 : σ' (7 + b) 6 = σ (7 + b) 6) (r1 : ∀ a i : Int, 86 ≤ a → a ≤ 97 → 0 ≤ i → i < m → ρ' a i = ρ a i) (nk : ∀ i : Int, m ≤ i → i < ρ' 83 11 → ρ' 86 i = 0 ∨ 8 ≤ ρ' 86 i) : σ' (7 + b) 2 = po_a ρ' (ρ' 83 11).toNat ∧ σ' (7 + b) 5 = po_k ρ' 1 (ρ' 83 11).toNat ∧ σ' (7 + b) 6 = po_k ρ' 2 (ρ' 83 11).toNat := by
  have q : ∀ i : Int, 0 ≤ i → i < m.toNat → ρ' 86 i = ρ 86 i ∧ ρ' 91 i = ρ 91 i := fun i g1 g2 => ⟨r1 _ _ (by decide) (by decide) g1 (by omega), r1 _ _ (by decide) (by decide) g1 (by omega)⟩
  rw [hm] at h
  refine ⟨?_, ?_, ?_⟩
  · rw [po_a_up (m := m.toNat) _ (by omega) (fun i g1 g2 => by have := nk i (by omega) (by omega); omega), po_a_eq _ q, e2]
    exact h.1
  · rw [po_k_up (m := m.toNat) _ (by omega) (fun i g1 g2 => by have := nk i (by omega) (by omega); omega), po_k_eq _ q, e5]
    exact h.2.1
  · rw [po_k_up (m := m.toNat) _ (by omega) (fun i g1 g2 => by have := nk i (by omega) (by omega); omega), po_k_eq _ q, e6]
    exact h.2.2
theorem po_more {b m k : Int} {σ ρ σ' ρ' : js_S} (h : σ (7 + b) 2 = po_a ρ (ρ 83 11).toNat ∧ σ (7 + b) 5 = po_k ρ 1 (ρ 83 11).toNat ∧ σ (7 + b) 6 = po_k ρ 2 (ρ 83 11).toNat) (hm : ρ 83 11 = m) (m0 : 0 ≤ m) (hm' : ρ' 83 11 = m + 1) (hk : k = 1 ∨ k = 2 ∨ k = 3) (h86 : ρ' 86 m = k) (e2 : σ' (7 + b) 2 = σ (7 + b) 2 + ρ' 91 m) (e5 : σ' (7 + b) 5 = σ (7 + b) 5 + (if k = 1 then ρ' 91 m else 0)) (e6 : σ' (7 + b) 6 = σ (7 + b) 6 + (if k = 2 then ρ' 91 m else 0)) (r1 : ∀ a i : Int, 86 ≤ a → a ≤ 97 → 0 ≤ i → i < m → ρ' a i = ρ a i) : σ' (7 + b) 2 = po_a ρ' (ρ' 83 11).toNat ∧ σ' (7 + b) 5 = po_k ρ' 1 (ρ' 83 11).toNat ∧ σ' (7 + b) 6 = po_k ρ' 2 (ρ' 83 11).toNat := by
  have q : ∀ i : Int, 0 ≤ i → i < m.toNat → ρ' 86 i = ρ 86 i ∧ ρ' 91 i = ρ 91 i := fun i g1 g2 => ⟨r1 _ _ (by decide) (by decide) g1 (by omega), r1 _ _ (by decide) (by decide) g1 (by omega)⟩
  have mt : ((m.toNat : Nat) : Int) = m := by omega
  have en : (ρ' 83 11).toNat = m.toNat + 1 := by omega
  rw [hm] at h
  rw [en, e2, e5, e6, h.1, h.2.1, h.2.2]
  refine ⟨?_, ?_, ?_⟩
  · show _ = po_a ρ' m.toNat + (if 1 ≤ ρ' 86 m.toNat ∧ ρ' 86 m.toNat ≤ 3 then ρ' 91 m.toNat else 0)
    rw [mt, h86, po_a_eq _ q, if_pos (by omega)]
  · show _ = po_k ρ' 1 m.toNat + (if ρ' 86 m.toNat = 1 then ρ' 91 m.toNat else 0)
    rw [mt, h86, po_k_eq _ q]
  · show _ = po_k ρ' 2 m.toNat + (if ρ' 86 m.toNat = 2 then ρ' 91 m.toNat else 0)
    rw [mt, h86, po_k_eq _ q]
section DE2
variable {E : js_E} {d e : Nat} {b : Int} {B : Int → Int} {Bf : Int → Int → Int} {U : Int → Int} {fb fr : Int → tr_T} {σ ρ : js_S} {j : Nat}
theorem dl_m0 (hD : dl_R E b B Bf U fb fr σ ρ j) : 0 ≤ ρ 83 11 ∧ ρ 83 11 ≤ 400 := ⟨hD.1.1.1.1.1, hD.1.1.1.1.2.1⟩
theorem y_dcon (hb : b = 0 ∨ b = 25) (hD : dl_R E b B Bf U fb fr σ ρ j) (hR : rd_R σ ρ j) (hd : 12 ≤ d) (he : 8 ≤ e) (h5 : ρ 83 5 = 300) : ∃ ρ' : js_S, js_J E e 197 0 [(2, 83), (9, 0), (9, 0)] [] ρ = js_r0 E ρ' ∧ (dy_P E b σ ρ ρ' j (js_J E d 34 0 [(2, 6 + b), (9, 0)] [] σ) ∨ sF_P E b σ ρ ρ' (js_J E d 34 0 [(2, 6 + b), (9, 0)] [] σ)) := by
  obtain ⟨ρ', er, rf, hor⟩ := y_dconst hb hD.1.1 hR hd he h5
  refine ⟨ρ', er, ?_⟩
  rcases hor with ⟨σ', j', ec, hR', hdc, hj, fr', dn, h11, ⟨k86, k92, k87⟩, s5, s9, s11, r1, gf⟩ | hf
  · have m0 := dl_m0 hD
    have r1' : ∀ a i : Int, 86 ≤ a → a ≤ 97 → 0 ≤ i → i < ρ 83 11 → ρ' a i = ρ a i := fun a i g1 g2 g3 g4 => r1 a i g1 g2 (by omega)
    have s7 : ∀ k : Int, k ≠ 1 → σ' (7 + b) k = σ (7 + b) k := fun k q => dn.1 _ _ (by omega) (by omega) (by omega) (by omega) (by omega) (by omega)
    refine Or.inl ⟨σ', j', B, Bf, U, fb, fr, ec, hR', hj, fr', rf, dl_step hb hD rfl (by omega) hdc (by omega) (fun a i g1 g2 g3 g4 g5 g6 => dn.1 a i g1 g2 g3 g4 g5 (by omega)) (s7 _ (by decide)) dn.2 r1' gf (fun i g1 g2 => ?_) (po_same hD.2.2.2.2.2.2.2.2 rfl m0.1 (by omega) (s7 _ (by decide)) (s7 _ (by decide)) (s7 _ (by decide)) r1' (fun i g1 g2 => ?_))⟩
    · have ei : i = ρ 83 11 := by omega
      subst ei
      refine ⟨Or.inl k86, ?_, s9, s11, fun q => ?_, fun _ => s5⟩
      · have a := gs_ct hD.1.2 k87
        unfold gs_P
        rw [k86, k92]
        refine ⟨Or.inl rfl, fun _ => ⟨rfl, ?_⟩, fun q => ?_, fun q => ?_, fun q => ?_, fun _ => rfl⟩
        · rcases a with a | a | ⟨a1, a2, a3⟩
          · exact Or.inl a
          · exact Or.inr (Or.inl a)
          · exact Or.inr (Or.inr ⟨a1, by omega, by rw [r1' 86 _ (by decide) (by decide) (by omega) a2]; exact a3, fun q => q⟩)
        · omega
        · omega
        · omega
      · rw [k86] at q
        omega
    · have ei : i = ρ 83 11 := by omega
      subst ei
      exact Or.inl k86
  · exact Or.inr ⟨rf, hf⟩
theorem y_dtyp (hb : b = 0 ∨ b = 25) (hD : dl_R E b B Bf U fb fr σ ρ j) (hR : rd_R σ ρ j) (hd : 12 ≤ d) (he : 8 ≤ e) (h5 : ρ 83 5 = 301) : ∃ ρ' : js_S, js_J E e 197 0 [(2, 83), (9, 0), (9, 0)] [] ρ = js_r0 E ρ' ∧ (dy_P E b σ ρ ρ' j (js_J E d 44 0 [(2, 6 + b), (9, 0), (9, 0), (9, 0), (9, 0), (9, 0)] [] σ) ∨ sF_P E b σ ρ ρ' (js_J E d 44 0 [(2, 6 + b), (9, 0), (9, 0), (9, 0), (9, 0), (9, 0)] [] σ)) := by
  obtain ⟨ρ', er, rf, hor⟩ := y_dtype hb hD.1.1 hR hd he h5
  refine ⟨ρ', er, ?_⟩
  rcases hor with ⟨σ', j', ec, hR', hdc, hj, fr', dn, ⟨h11, m86⟩, nk, r1, gf⟩ | hf
  · have m0 := dl_m0 hD
    have r1' : ∀ a i : Int, 86 ≤ a → a ≤ 97 → 0 ≤ i → i < ρ 83 11 → ρ' a i = ρ a i := fun a i g1 g2 g3 g4 => r1 a i g1 g2 g4
    have s7 : ∀ k : Int, k ≠ 1 → σ' (7 + b) k = σ (7 + b) k := fun k q => dn.1 _ _ (by omega) (by omega) (by omega) (by omega) (by omega) (by omega)
    refine Or.inl ⟨σ', j', B, Bf, U, fb, fr, ec, hR', hj, fr', rf, dl_step hb hD rfl (by omega) hdc (by omega) (fun a i g1 g2 g3 g4 g5 g6 => dn.1 a i g1 g2 g3 g4 g5 (by omega)) (s7 _ (by decide)) dn.2 r1' gf (fun i g1 g2 => ?_) (po_same hD.2.2.2.2.2.2.2.2 rfl m0.1 (by omega) (s7 _ (by decide)) (s7 _ (by decide)) (s7 _ (by decide)) r1' (fun i g1 g2 => ?_))⟩
    · obtain ⟨⟨a1, a2⟩, a3, a4, a5⟩ := nk i g1 g2
      have k8 : 8 ≤ ρ' 86 i := by omega
      refine ⟨Or.inr (Or.inr k8), ?_, a4, a5, fun q => absurd q (by omega), fun _ => a3⟩
      unfold gs_P
      rw [a2]
      refine ⟨Or.inl rfl, fun q => ⟨rfl, ?_⟩, fun q => absurd q (by omega), fun q => absurd q (by omega), fun q => absurd q (by omega), fun _ => rfl⟩
      have e87 : ρ' 87 i = 3 + ρ 83 11 := by omega
      have e3 : 3 + ρ 83 11 - 3 = ρ 83 11 := by omega
      rw [e87, e3]
      exact Or.inr (Or.inr ⟨by omega, h11, m86, fun q => q⟩)
    · have a := (nk i g1 g2).1.1
      omega
  · exact Or.inr ⟨rf, hf⟩
theorem y_dport {k : Int} (hb : b = 0 ∨ b = 25) (hD : dl_R E b B Bf U fb fr σ ρ j) (hR : rd_R σ ρ j) (hd : 12 ≤ d) (he : 8 ≤ e) (hk : k = 1 ∨ k = 2 ∨ k = 3) (h5 : ρ 83 5 = 301 + k) : ∃ ρ' : js_S, js_J E e 197 0 [(2, 83), (9, 0), (9, 0)] [] ρ = js_r0 E ρ' ∧ (dy_P E b σ ρ ρ' j (js_J E d 45 0 [(2, 6 + b), (0, k), (9, 0)] [] σ) ∨ sF_P E b σ ρ ρ' (js_J E d 45 0 [(2, 6 + b), (0, k), (9, 0)] [] σ)) := by
  obtain ⟨ρ', er, rf, hor⟩ := y_port hb hD.1.1 hR hd he hk h5
  refine ⟨ρ', er, ?_⟩
  rcases hor with ⟨σ', j', ec, hR', hdc, hj, fr', c1, c2, h11, k86, n1, ⟨n2, k92⟩, nb, _, s5, s9, s11, t2, t5, t6, s7, r1, gf⟩ | hf
  · have m0 := dl_m0 hD
    have r1' : ∀ a i : Int, 86 ≤ a → a ≤ 97 → 0 ≤ i → i < ρ 83 11 → ρ' a i = ρ a i := fun a i g1 g2 g3 g4 => r1 a i g1 g2 (by omega)
    refine Or.inl ⟨σ', j', B, Bf, U, fb, fr, ec, hR', hj, fr', rf, dl_step hb hD rfl (by omega) hdc (by omega) c1 (s7 _ (by omega)) c2 r1' gf (fun i g1 g2 => ?_) (po_more hD.2.2.2.2.2.2.2.2 rfl m0.1 h11 hk k86 t2 t5 t6 r1')⟩
    have ei : i = ρ 83 11 := by omega
    subst ei
    have k13 : 1 ≤ ρ' 86 (ρ 83 11) ∧ ρ' 86 (ρ 83 11) ≤ 3 := by omega
    refine ⟨Or.inr (Or.inl k13), ?_, s9, s11, fun _ => ?_, fun q => absurd q (by omega)⟩
    · unfold gs_P
      exact ⟨k92, fun q => absurd q (by omega), fun _ => ⟨n1, n2, nb.1, nb.2.1, nb.2.2.1, nb.2.2.2⟩, fun q => absurd q (by omega), fun q => absurd q (by omega), fun q => absurd q (by omega)⟩
    · rw [s5, hD.2.2.2.2.2.2.2.2.1, po_a_eq _ (fun i h3 h4 => ⟨r1' _ _ (by decide) (by decide) h3 (by omega), r1' _ _ (by decide) (by decide) h3 (by omega)⟩)]
  · exact Or.inr ⟨rf, hf⟩
end DE2
