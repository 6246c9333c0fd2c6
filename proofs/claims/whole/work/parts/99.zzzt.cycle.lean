/-! part 99.zzzt: cycle begins -/
/-- the unit's number of every fun; -1: of the cycle; -2: where the cycle's names begin -/
def cy_U (b : Int) (U : Int → Int) (σ ρ : js_S) : Int → Int := fun i => if i = -1 then σ (8 + b) 8 else if i = -2 then ρ 83 11 else U i
theorem cy_U1 {b : Int} {U : Int → Int} {σ ρ : js_S} : cy_U b U σ ρ (-1) = σ (8 + b) 8 := if_pos rfl
theorem cy_U2 {b : Int} {U : Int → Int} {σ ρ : js_S} : cy_U b U σ ρ (-2) = ρ 83 11 := by
  unfold cy_U
  rw [if_neg (by decide), if_pos rfl]
theorem cy_Uo {b i : Int} {U : Int → Int} {σ ρ : js_S} (h : 0 ≤ i) : cy_U b U σ ρ i = U i := by
  unfold cy_U
  rw [if_neg (by omega), if_neg (by omega)]
theorem cy_ux {E : js_E} {b : Int} {B : Int → Int} {Bf : Int → Int → Int} {U : Int → Int} {fb fr : Int → tr_T} {σ0 ρ0 σ ρ : js_S} {j0 j : Nat} (hb : b = 0 ∨ b = 25) (hj : j0 ≤ j) (hj8 : j0 < 8193) (hD : dl_R E b B Bf U fb fr σ0 ρ0 j0) (h1 : ∀ a i : Int, ¬ (a = 1 ∧ (i = 1 ∨ i = 2 ∨ i = 3 ∨ i = 5 ∨ i = 11)) → a ≠ 2 → ¬ (a = 7 + b ∧ i = 3) → σ a i = σ0 a i) (h3 : σ (7 + b) 3 = σ0 (8 + b) 6) (r1 : ∀ a i : Int, ¬ (a = 83 ∧ (5 ≤ i ∧ i ≤ 10 ∨ i = 44)) → ρ a i = ρ0 a i) (r44 : ρ 83 44 = 0) : ux_R E b (-1) B (cy_U b U σ0 ρ0) (fun _ => False) σ ρ ∧ xn_R b σ ρ j := by
  have m0 := dl_m0 hD
  obtain ⟨⟨hD0, hG⟩, ⟨hu, hB⟩, ⟨d1, d2, d3, d4, d5, d6, d7, d8, d9⟩, ⟨⟨n1, n2⟩, n3, n4⟩, hl, ⟨hfu, hfp⟩, hfn, ⟨hp1, hp2⟩, _⟩ := hD
  have fu := fn_u_0 (ρ := ρ0) (ρ0 83 11).toNat
  have e11 : ρ 83 11 = ρ0 83 11 := r1 _ _ (by omega)
  have e26 : ρ 83 26 = ρ0 83 26 := r1 _ _ (by omega)
  have rr : ∀ a i : Int, 86 ≤ a → ρ a i = ρ0 a i := fun a i g => r1 _ _ (by omega)
  have cc : ∀ a i : Int, 6 + b ≤ a → ¬ (a = 7 + b ∧ i = 3) → σ a i = σ0 a i := fun a i g g2 => h1 a i (by omega) (by omega) g2
  have c8 : ∀ k : Int, σ (8 + b) k = σ0 (8 + b) k := fun k => cc _ _ (by omega) (by omega)
  have ge : ∀ i : Int, 0 ≤ i → i < ρ0 83 11 → 137 ≤ σ0 (19 + b) i := fun i g1 g2 => js_sym_ge (hD0.1.2.2.2.2.2.1 i g1 g2).1
  have c19 : ∀ i : Int, σ (19 + b) i = σ0 (19 + b) i := fun i => cc _ _ (by omega) (by omega)
  have cf : ∀ i k : Int, 0 ≤ i → i < ρ0 83 11 → σ (σ (19 + b) i) k = σ0 (σ0 (19 + b) i) k := fun i k g1 g2 => by
    have a := ge i g1 g2
    rw [c19, cc _ _ (by omega) (by omega)]
  have hY : sy_Y E.1 σ ρ b 0 0 (fun _ => False) := sy_Y_of hD0.1 (fun a i hh => h1 a i (by omega) (by omega) (by omega)) e11 (fun a i g1 _ => rr a i g1)
  refine ⟨⟨⟨hY, ⟨Or.inl rfl, fun i hi => hi.elim, fun i g1 g2 g3 g4 => ?_⟩, fun i g1 g2 g3 => ?_, fun i g1 g2 => ?_, fun i g1 g2 g3 g4 => ?_, ?_, Or.inl ⟨rfl, ?_⟩⟩, ⟨fun i g1 g2 g3 g4 => ?_, ?_, ?_, ?_, ?_, fun i g1 g2 g3 => ?_⟩, fun i hi => hi.elim⟩, ?_⟩
  · rw [e11] at g2
    rw [rr 86 i (by decide)] at g4
    rw [rr 87 i (by decide), rr 89 i (by decide), rr 91 i (by decide)]
    exact hD0.2.1.2.2 i g1 g2 (fun q => q) g4
  · rw [e11] at g2
    exact gs_P_of (hG i g1 g2 (fun q => q)) ⟨g1, g2⟩ (by omega) (fun a k h1 _ _ _ => rr a k h1) (rr _ _ (by decide)) e26
  · rw [e11] at g2
    have a := hu i g1 g2
    rw [cf i 11 g1 g2]
    exact ⟨a.1, a.2.1, u9_of a.2.2 (rr _ _ (by decide)) (cf i 9 g1 g2)⟩
  · rw [e11] at g2
    rw [rr 86 i (by decide)] at g4
    rw [cf i 9 g1 g2]
    exact hB i g1 g2 g4
  · rw [e26]
    exact hD0.2.2
  · rw [h3]
    omega
  · rw [e11] at g2
    rw [rr 86 i (by decide)] at g4
    obtain ⟨⟨a1, a2, a3⟩, a4, a5⟩ := hl i g1 g2 g4
    show σ (σ (19 + b) i) 5 = lo_c ρ (ρ 93 i) i.toNat ∧ σ (σ (19 + b) i) 11 = (if ρ 93 i = -1 then σ0 (8 + b) 8 else if ρ 93 i = -2 then ρ0 83 11 else U (ρ 93 i))
    rw [rr 93 i (by decide), if_neg (by omega), if_neg (by omega), cf i 5 g1 g2, cf i 11 g1 g2, lo_c_eq (ρ := ρ0) _ (fun a k h1 _ _ _ => rr a k h1)]
    exact ⟨a4, a5⟩
  · rw [c8, d3, lo_c_up (m := 0) _ (by omega) (fun i g1 g2 hh => ?_)]
    · rfl
    · rw [rr 86 i (by decide), rr 93 i (by decide)] at hh
      have a := (hl i (by omega) (by omega) ⟨hh.1, hh.2.1⟩).1
      omega
  · show σ (8 + b) 8 = (if (-1 : Int) = -1 then σ0 (8 + b) 8 else if (-1 : Int) = -2 then ρ0 83 11 else U (-1))
    rw [if_pos rfl]
    exact c8 8
  · rw [cc _ _ (by omega) (by omega)]
    exact d7
  · show -1 ≤ (if (-1 : Int) = -1 then σ0 (8 + b) 8 else if (-1 : Int) = -2 then ρ0 83 11 else U (-1)) ∧ (if (-1 : Int) = -1 then σ0 (8 + b) 8 else if (-1 : Int) = -2 then ρ0 83 11 else U (-1)) < 1000
    rw [if_pos rfl]
    omega
  · have g2' : (if (-2 : Int) = -1 then σ0 (8 + b) 8 else if (-2 : Int) = -2 then ρ0 83 11 else U (-2)) ≤ i := g2
    rw [if_neg (by decide), if_pos rfl] at g2'
    omega
  · have e33 : ρ 83 33 = ρ0 83 33 := r1 _ _ (by omega)
    have e15 : σ (23 + b) 15 = σ0 (23 + b) 15 := cc _ _ (by omega) (by omega)
    have y6 := c8 6
    have y7 := c8 7
    have y10 := c8 10
    have y11 := c8 11
    have y12 := c8 12
    clear h1 r1 cc rr c8 cf hl hfn hp1 hp2 hu hB
    unfold xn_R
    omega
/-- what the cycle leaves of all that was told ahead of it; u: its unit -/
def cg_R (b u : Int) (σ ρ σ6 ρ4 : js_S) : Prop := (∀ i : Int, 0 ≤ i → i < ρ 83 11 → σ6 (19 + b) i = σ (19 + b) i ∧ ∀ k : Int, k ≠ 13 → σ6 (σ (19 + b) i) k = σ (σ (19 + b) i) k) ∧ (∀ a i : Int, 86 ≤ a → a ≤ 97 → i < ρ 83 11 → ρ4 a i = ρ a i) ∧ (∀ a i : Int, 100 ≤ a → a ≤ 107 → i < ρ 83 33 → ρ4 a i = ρ a i) ∧ (∀ a i : Int, 108 ≤ a → ρ4 a i = ρ a i) ∧ (∀ a p : Int, 9 + b ≤ a → a ≤ 14 + b → p < σ (8 + b) 6 → σ6 a p = σ a p) ∧ (∀ i : Int, i ≠ u → σ6 (15 + b) i = σ (15 + b) i ∧ σ6 (16 + b) i = σ (16 + b) i) ∧ (∀ i : Int, ρ 83 11 ≤ i → i < ρ4 83 11 → 5 ≤ ρ4 86 i ∧ ρ4 86 i ≤ 7 ∧ ρ4 93 i = -1) ∧ (0 ≤ ρ 83 11 ∧ ρ 83 11 ≤ ρ4 83 11 ∧ ρ 83 33 ≤ ρ4 83 33 ∧ σ (8 + b) 6 ≤ σ6 (8 + b) 6) ∧ (σ (7 + b) 1 = ρ 83 11 ∧ σ6 (7 + b) 1 = ρ4 83 11 ∧ ∀ k : Int, k ≠ 1 → k ≠ 3 → k ≠ 4 → σ6 (7 + b) k = σ (7 + b) k)
section CY1
variable {E : js_E} {b u : Int} {B : Int → Int} {Bf : Int → Int → Int} {U : Int → Int} {fb fr : Int → tr_T} {σ ρ σ6 ρ4 : js_S} {j : Nat}
theorem cg_sum (hg : cg_R b u σ ρ σ6 ρ4) : fn_u ρ4 (ρ4 83 11).toNat = fn_u ρ (ρ 83 11).toNat ∧ fn_p ρ4 fb fr (ρ4 83 11).toNat = fn_p ρ fb fr (ρ 83 11).toNat ∧ po_a ρ4 (ρ4 83 11).toNat = po_a ρ (ρ 83 11).toNat ∧ ∀ k : Int, k ≤ 2 → po_k ρ4 k (ρ4 83 11).toNat = po_k ρ k (ρ 83 11).toNat := by
  obtain ⟨_, r08, _, _, _, _, loc, ⟨m0, m1, _, _⟩, _⟩ := hg
  refine ⟨?_, ?_, ?_, fun k hk => ?_⟩
  · rw [fn_u_up (m := (ρ 83 11).toNat) _ (by omega) (fun i g1 g2 => by have := (loc i (by omega) (by omega)).1; omega), fn_u_eq _ (fun i g1 g2 => r08 86 i (by decide) (by decide) (by omega))]
  · rw [fn_p_up (m := (ρ 83 11).toNat) _ (by omega) (fun i g1 g2 => by have := (loc i (by omega) (by omega)).1; omega), fn_p_eq _ (fun i g1 g2 => ⟨r08 86 i (by decide) (by decide) (by omega), fun _ => ⟨rfl, rfl⟩⟩)]
  · rw [po_a_up (m := (ρ 83 11).toNat) _ (by omega) (fun i g1 g2 => by have := (loc i (by omega) (by omega)).1; omega), po_a_eq _ (fun i g1 g2 => ⟨r08 _ _ (by decide) (by decide) (by omega), r08 _ _ (by decide) (by decide) (by omega)⟩)]
  · rw [po_k_up (m := (ρ 83 11).toNat) _ (by omega) (fun i g1 g2 => by have := (loc i (by omega) (by omega)).1; omega), po_k_eq _ (fun i g1 g2 => ⟨r08 _ _ (by decide) (by decide) (by omega), r08 _ _ (by decide) (by decide) (by omega)⟩)]
theorem cg_fn (hg : cg_R b (σ (8 + b) 8) σ ρ σ6 ρ4) (hD : dl_R E b B Bf U fb fr σ ρ j) {i : Int} (g1 : 0 ≤ i) (g2 : i < ρ4 83 11) (g3 : ρ4 86 i = 4) : fn_R b B Bf (cy_U b U σ ρ) fb fr σ6 ρ4 i := by
  have hfn := hD.2.2.2.2.2.2.1
  have hfu := hD.2.2.2.2.2.1.1
  have hfp := hD.2.2.2.2.2.1.2
  clear hD
  obtain ⟨old, r08, n08, n9, cod, u15, loc, ⟨m0, m1, m2, m3⟩, t1, t2, _⟩ := hg
  have q : i < ρ 83 11 := by
    by_cases q3 : i < ρ 83 11
    · exact q3
    · have := (loc i (by omega) g2).1
      omega
  rw [r08 86 i (by decide) (by decide) q] at g3
  have it : ((i.toNat : Nat) : Int) = i := by omega
  have hpn := fn_p_le (ρ := ρ) (fb := fb) (fr := fr) (i := i.toNat) (by rw [it]; exact g3) (ρ 83 11).toNat (by omega)
  rw [it] at hpn
  have hul := fn_u_lt (ρ := ρ) (i := i.toNat) (by rw [it]; exact g3) (ρ 83 11).toNat (by omega)
  have hfi := hfn i g1 q g3
  have hUi := hfi.1.2.1
  have hlo : lo_c ρ4 i (ρ4 83 11).toNat = lo_c ρ i (ρ 83 11).toNat := by
    rw [lo_c_up (m := (ρ 83 11).toNat) _ (by omega) (fun k h1 h2 hh => by have := (loc k (by omega) (by omega)).2.2; omega), lo_c_eq3 (ρ := ρ) _ (fun k h1 h2 => ⟨r08 _ _ (by decide) (by decide) (by omega), r08 _ _ (by decide) (by decide) (by omega), r08 _ _ (by decide) (by decide) (by omega)⟩)]
  have o := old i g1 q
  have hu : U i ≠ σ (8 + b) 8 := by omega
  refine fn_R_of hfi ⟨g1, q⟩ (cy_Uo g1) (fun k h1 h2 => rfl) rfl (fun k h1 h2 => ⟨rfl, rfl⟩) m1 (fun a k h1 h2 h3 h4 => r08 a k h1 h2 h4) hlo (fun a k h1 h2 h3 h4 => n08 a k h1 h2 h4) ⟨n9 _ _ (by decide), n9 _ _ (by decide)⟩ m2 (fun k hk' => by rw [o.1, o.2 k hk']) (u15 _ hu) m3 (fun p I hp' hI' => ?_) (by rw [hfp]; exact hpn)
  exact ci_P_of hI' (fun a h1 h2 => cod a p h1 h2 hp') (by omega) (fun k h1 h2 => (old k h1 (by omega)).1) (fun k x h1 h2 h3 => (old k h1 (by omega)).2 x (by omega))
theorem cg_po (hg : cg_R b u σ ρ σ6 ρ4) (hD : dl_R E b B Bf U fb fr σ ρ j) : ((∀ i : Int, 0 ≤ i → i < ρ4 83 11 → 1 ≤ ρ4 86 i ∧ ρ4 86 i ≤ 3 → σ6 (σ6 (19 + b) i) 5 = po_a ρ4 i.toNat ∧ σ6 (σ6 (19 + b) i) 11 = -1) ∧ (∀ i : Int, 0 ≤ i → i < ρ4 83 11 → ρ4 86 i = 0 ∨ 8 ≤ ρ4 86 i → σ6 (σ6 (19 + b) i) 5 = -1 ∧ σ6 (σ6 (19 + b) i) 11 = -1)) ∧ (σ6 (7 + b) 2 = po_a ρ4 (ρ4 83 11).toNat ∧ σ6 (7 + b) 5 = po_k ρ4 1 (ρ4 83 11).toNat ∧ σ6 (7 + b) 6 = po_k ρ4 2 (ρ4 83 11).toNat) := by
  have hp1 := hD.2.2.2.2.2.2.2.1.1
  have hp2 := hD.2.2.2.2.2.2.2.1.2
  have q := hD.2.2.2.2.2.2.2.2
  have sm := cg_sum (fb := fb) (fr := fr) hg
  clear hD
  obtain ⟨old, r08, _, _, _, _, loc, ⟨m0, m1, _, _⟩, t1, t2, s7⟩ := hg
  have lt : ∀ i : Int, 0 ≤ i → i < ρ4 83 11 → ¬ (5 ≤ ρ4 86 i ∧ ρ4 86 i ≤ 7) → i < ρ 83 11 := fun i g1 g2 g3 => by
    by_cases q3 : i < ρ 83 11
    · exact q3
    · have := loc i (by omega) g2
      omega
  refine ⟨⟨fun i g1 g2 g3 => ?_, fun i g1 g2 g3 => ?_⟩, ?_, ?_, ?_⟩
  · have l := lt i g1 g2 (by omega)
    rw [r08 86 i (by decide) (by decide) l] at g3
    have o := old i g1 l
    rw [o.1, o.2 5 (by decide), o.2 11 (by decide), po_a_eq (ρ := ρ) _ (fun k h3 h4 => ⟨r08 _ _ (by decide) (by decide) (by omega), r08 _ _ (by decide) (by decide) (by omega)⟩)]
    exact hp1 i g1 l g3
  · have l := lt i g1 g2 (by omega)
    rw [r08 86 i (by decide) (by decide) l] at g3
    have o := old i g1 l
    rw [o.1, o.2 5 (by decide), o.2 11 (by decide)]
    exact hp2 i g1 l g3
  · rw [s7 2 (by decide) (by decide) (by decide), sm.2.2.1]
    exact q.1
  · rw [s7 5 (by decide) (by decide) (by decide), sm.2.2.2 1 (by decide)]
    exact q.2.1
  · rw [s7 6 (by decide) (by decide) (by decide), sm.2.2.2 2 (by decide)]
    exact q.2.2
end CY1
