/-! part 99.zzzj: the end of a fun's BLOCK in step -/
section FF
variable {E : js_E} {d e : Nat} {b F : Int} {B U : Int → Int} {X : Int → Prop}
/-- } and what it hides -/
theorem y_fend {m n g x2 k x4 : Int} {σ ρ : js_S} {j : Nat} (hb : b = 0 ∨ b = 25) (hx : ux_R E b F B U X σ ρ) (hX : X m) (hm : 0 ≤ m ∧ m < ρ 83 11) (hR : rd_R σ ρ j) (h10 : 1 ≤ ρ 83 10) (hd : 10 ≤ d) (he : 8 ≤ e) : (∃ σ' ρ' : js_S, js_J E d 55 105 [(2, 22 + b), (0, m), (2, x2), (0, k)] [] σ = js_r0 E σ' ∧ js_J E e 206 303 [(2, 83), (0, m), (0, n), (0, g), (0, x4)] [] ρ = js_J E e 206 324 [(2, 83), (0, m), (0, n), (0, g), (0, x4)] [] ρ' ∧ rd_R σ' ρ' (j + 1) ∧ ρ' 83 10 = ρ 83 10 - 1 ∧ (∀ a k : Int, a < 137 → ¬ (a = 1 ∧ (k = 1 ∨ k = 2 ∨ k = 3 ∨ k = 5 ∨ k = 11)) → a ≠ 2 → σ' a k = σ a k) ∧ (∀ a k : Int, 137 ≤ a → k ≠ 13 → σ' a k = σ a k) ∧ (∀ i : Int, 0 ≤ i → i < m → σ' (σ (19 + b) i) 13 = σ (σ (19 + b) i) 13) ∧ (∀ i : Int, m < i → i < ρ 83 11 → ρ' 99 i = 0) ∧ (∀ a i : Int, ¬ (a = 83 ∧ 5 ≤ i ∧ i ≤ 10) → ¬ (a = 99 ∧ m < i) → ρ' a i = ρ a i) ∧ fr_R b σ σ' ∧ ux_R E b F B U X σ' ρ') ∨ (∃ ρ' : js_S, js_J E e 206 303 [(2, 83), (0, m), (0, n), (0, g), (0, x4)] [] ρ = js_r0 E ρ' ∧ sF_P E b σ ρ ρ' (js_J E d 55 105 [(2, 22 + b), (0, m), (2, x2), (0, k)] [] σ)) := by
  have t125 : tk_m 125 = 125 := by decide
  have h400 := hx.1.1.1.2.1
  have h00 := hx.1.1.1.1
  obtain ⟨ρ2, e2, og2, hor⟩ := y_close (E := E) (d := d - 1) (e := e - 1) (k := 125) hx.1.1.2.2.1 hR (by omega) (by omega) (by unfold tk_V; omega) (by decide) h10
  rw [t125] at hor
  have x11 : ρ2 83 11 = ρ 83 11 := og2 _ _ (by omega)
  rw [b_55_105 hb, b_206_303, k_206_306 (by omega) e2]
  rcases hor with ⟨σ2, j2, c2, hR2, o2, hj2, hD2⟩ | ⟨hF2, c2⟩
  · subst hj2
    have hu2 : ux_R E b F B U X σ2 ρ2 := ux_ef (n := 0) (t := 0) (p := 0) (N := 0) hb hx (ef_R_of o2) (eg_R_og og2)
    have told2 : σ2 (7 + b) 1 = ρ2 83 11 := hu2.1.1.2.2.2.2.1
    have o92 : ρ2 83 9 = 0 := hR2.2.2.1.2.2.1
    obtain ⟨ρ3, e3, h31, h32⟩ := r_hide0 (E := E) (e := e - 1) (ρ := ρ2) (f := m + 1) (by omega) (by omega) (by omega)
    obtain ⟨σ3, c3, c31, c32⟩ := c_hide (E := E) (d := d - 1) (x1 := m) hb (by omega) (σ2 (7 + b) 1 - m).toNat σ2 m (9, 0) (by omega) hm.1 (by omega) (fun i g1 g2 => (hu2.1.1.2.2.2.2.2.1 i g1 (by omega)).1)
    have c30 : js_J E (d - 1) 110 0 [(2, 7 + b), (0, m), (9, 0), (9, 0)] [] σ2 = js_r0 E σ3 := by
      rw [b_110_0 (by omega)]
      have ef : (if js_w 0 < js_w m then m else 0) = m := by
        rw [js_w_of (x := m) (by omega) (by omega)]
        by_cases q : (0 : Int) < m
        · rw [if_pos (show js_w 0 < m from q)]
        · rw [if_neg (show ¬ js_w 0 < m from q)]
          omega
      rw [ef, c3]
    have z99 : ρ2 99 m = 0 := by
      have a := hu2.1.2.1.2.1 m hX
      rw [sy_S_id] at a
      exact (hu2.1.1.1.2.2.2.2 m hm.1 (by omega)).resolve_right a
    have r1 : ∀ i : Int, m ≤ i → i < ρ2 83 11 → ρ3 99 i = 0 := fun i g1 g2 => by
      by_cases q : i = m
      · rw [q, h32 _ _ (by omega)]
        exact z99
      · exact h31 i (by omega) g2
    have r2 : ∀ a i : Int, ¬ (a = 99 ∧ m ≤ i ∧ i < ρ2 83 11) → ρ3 a i = ρ2 a i := fun a i q => h32 a i (by omega)
    have hu3 : ux_R E b F B U X σ3 ρ3 := ux_hide hb hu2 hm.1 c31 c32 r1 r2
    have ge2 : ∀ i : Int, 0 ≤ i → i < ρ2 83 11 → 137 ≤ σ2 (19 + b) i := xs_ge hu2.1
    have lo : ∀ a k : Int, a < 137 → σ3 a k = σ2 a k := fun a k q => c32 a k (Or.inr (fun i g1 g2 => by
      have := ge2 i (by omega) (by omega)
      omega))
    refine Or.inl ⟨σ3, ρ3, ?_, ?_, rd_R_of hR2 (fun i _ => lo _ _ (by omega)) (fun a i _ _ => lo _ _ (by omega)) (fun i _ _ => h32 _ _ (by omega)) (fun i => h32 _ _ (by omega)), ?_, fun a k g1 g2 g3 => ?_, fun a k g1 g2 => ?_, fun i g1 g2 => ?_, fun i g1 g2 => h31 i (by omega) (by omega), fun a i g1 g2 => ?_, ?_, hu3⟩
    · rw [k_55_111 (by omega) c2, b_55_114 hb, k_55_119 hb (by omega) c30, b_55_122]
    · rw [b_206_309, o92, if_neg (show ¬ 0 < js_w 0 by decide), k_206_321 (by omega) e3]
    · rw [h32 _ _ (by omega), hD2]
    · rw [lo a k g1, o2 a k g2 g3]
    · rw [c32 a k (Or.inl g2), o2 a k (by omega) (by omega)]
    · have e19 : σ2 (19 + b) i = σ (19 + b) i := o2 _ _ (by omega) (by omega)
      have ne : ∀ i' : Int, m ≤ i' → i' < σ2 (7 + b) 1 → σ2 (19 + b) i' ≠ σ (19 + b) i := fun i' q1 q2 => by
        rw [← e19]
        exact sy_Y_ne hu2.1.1 (by omega) (by omega) g1 (by omega) (by omega)
      have ge := ge2 i g1 (by omega)
      rw [e19] at ge
      rw [c32 _ _ (Or.inr ne), o2 _ _ (by omega) (by omega)]
    · rw [h32 a i (by omega), og2 a i g1]
    · refine fr_R_trans (fr_R_og hb o2) (fr_R_of hb (fun a i g1 g2 g3 g4 => ?_))
      refine c32 a i (Or.inr (fun i' q1 q2 hh => ?_))
      have g5 := ge2 i' (by omega) (by omega)
      rcases g4 i' (by omega) (by omega) with h | h
      · omega
      · exact h hh
  · have f0 : sF_P E b σ ρ ρ2 (th_P E σ (ρ2 83 9)) := ⟨fun a i g1 g2 => og2 a i (by omega), hF2, by omega, by omega, σ, rfl, fr_R_refl _ _, hx.1.1.2.2.2.1, hx.1.1.2.2.1⟩
    rw [kt_55_111 (by omega) c2, b_206_309, if_pos (rx_F_9 hF2)]
    exact Or.inr ⟨ρ2, rfl, f0⟩
end FF
/-- the BLOCK of a fun was read by both: r what it does, l what it returns -/
def fe_R (E : js_E) (b m g : Int) (B U : Int → Int) (X : Int → Prop) (σ ρ : js_S) (j : Nat) (σ' ρ' : js_S) (j' : Nat) (r l : tr_T) : Prop := (rd_R σ' ρ' j' ∧ j < j' ∧ ρ' 83 10 = ρ 83 10 - 1 ∧ sf_R b (σ (8 + b) 6) (σ (8 + b) 10) (σ (23 + b) 15) (ρ 83 11) σ σ' ∧ (∀ a i : Int, ¬ (a = 83 ∧ (5 ≤ i ∧ i ≤ 11 ∨ 27 ≤ i ∧ i ≤ 33 ∨ 42 ≤ i ∧ i ≤ 44)) → ¬ (100 ≤ a ∧ a ≤ 107 ∧ ρ 83 33 ≤ i) → ¬ (86 ≤ a ∧ a ≤ 97 ∧ ρ 83 11 ≤ i) → ¬ (a = 98 ∧ 20 * ρ 83 11 ≤ i) → a ≠ 99 → ¬ ((a = 108 ∨ a = 109) ∧ i = m) → ρ' a i = ρ a i) ∧ ρ 83 33 ≤ ρ' 83 33 ∧ ρ' 83 33 + j ≤ ρ 83 33 + j' ∧ ρ 83 11 ≤ ρ' 83 11) ∧ xr_L b σ ρ σ' ρ' ∧ ((σ' (23 + b) 15 = σ (23 + b) 15 ∧ σ' (8 + b) 10 = σ (8 + b) 10 ∧ σ' (8 + b) 6 = σ (8 + b) 6 + st_ln r + xt_ln l ∧ σ' (8 + b) 7 = min 400000 (σ (8 + b) 7 + st_cn B r + xt_cn B l) ∧ σ' (8 + b) 11 = max (σ (8 + b) 11) (max (st_mt r (σ (8 + b) 10)) (xt_mt l (σ (8 + b) 10)))) ∧ (σ' (8 + b) 6 ≤ 8192 → st_cd (ci_P σ' b (σ (8 + b) 8)) r (σ (8 + b) 10) (σ (8 + b) 6) 0 ∧ xt_cd (ci_P σ' b (σ (8 + b) 8)) l (σ (8 + b) 10) (σ (8 + b) 6 + st_ln r))) ∧ ((st_nd ρ' r (ρ 83 33) (ρ' 83 33) (ρ' 108 m) 0 ∧ (r = .leaf ∨ xt_k r = 90) ∧ st_w r ∧ st_G ρ' m r) ∧ (g = 0 ∧ l = .leaf ∧ ρ' 109 m = -1 ∨ g = 1 ∧ xt_nd ρ' (ρ 83 33) l (ρ' 83 33) (ρ' 109 m) 0 ∧ xt_e l ∧ xt_w l ∧ xt_G ρ' m l)) ∧ ((st_ln r ≤ 5000 * ((j' : Int) - j) ∧ xt_ln l ≤ 5000 * ((j' : Int) - j) ∧ st_ln r + xt_ln l ≤ 5000 * ((j' : Int) - j)) ∧ (0 ≤ st_cn B r ∧ 0 ≤ xt_cn B l) ∧ st_mt r (σ (8 + b) 10) ≤ 1024 ∧ xt_mt l (σ (8 + b) 10) ≤ 1024 ∧ st_dp r ≤ 1210 ∧ xt_dp l ≤ 1210) ∧ (∀ i : Int, m < i → i < ρ' 83 11 → ρ' 99 i = 0) ∧ ux_R E b m B U X σ' ρ'
