/-! part 99.j: ports in step: what stays, and the end of one -/
/-- what a port leaves alone behind its name -/
def pf_R (b s : Int) (σ σ' : js_S) : Prop := ∀ a i : Int, ¬ (a = 1 ∧ (i = 1 ∨ i = 2 ∨ i = 3 ∨ i = 5 ∨ i = 11)) → a ≠ 2 → ¬ (a = 21 + b ∧ 0 ≤ i ∧ i ≤ 2) → ¬ (a = s ∧ 2 ≤ i ∧ i ≤ 12) → ¬ (a = 7 + b ∧ (i = 2 ∨ i = 5 ∨ i = 6)) → σ' a i = σ a i
def qf_R (m : Int) (ρ ρ' : js_S) : Prop := ∀ a i : Int, ¬ (a = 83 ∧ (5 ≤ i ∧ i ≤ 10 ∨ 27 ≤ i ∧ i ≤ 32)) → ¬ (87 ≤ a ∧ a ≤ 96 ∧ i = m) → ρ' a i = ρ a i
theorem pf_R_trans {b s : Int} {σ σ' τ : js_S} (h : pf_R b s σ σ') (h2 : pf_R b s σ' τ) : pf_R b s σ τ := fun a i g1 g2 g3 g4 g5 => (h2 a i g1 g2 g3 g4 g5).trans (h a i g1 g2 g3 g4 g5)
theorem qf_R_trans {m : Int} {σ σ' τ : js_S} (h : qf_R m σ σ') (h2 : qf_R m σ' τ) : qf_R m σ τ := fun a i g1 g2 => (h2 a i g1 g2).trans (h a i g1 g2)
theorem pf_R_lnf {b s : Int} {σ σ' : js_S} (h : lnf_R b s σ σ') : pf_R b s σ σ' := fun a i g1 g2 g3 g4 _ => h a i g1 g2 g3 (by omega)
theorem pf_R_tyf {b s : Int} {σ σ' : js_S} (h : tyf_R b s σ σ') : pf_R b s σ σ' := fun a i g1 g2 g3 g4 _ => h a i (by omega) g2 g3 (by omega)
theorem pf_R_cf {b s : Int} {σ σ' : js_S} (h : cf_R b σ σ') : pf_R b s σ σ' := fun a i g1 g2 g3 _ _ => h a i (by omega) g2 g3
theorem pf_R_tk {b s : Int} {σ σ' : js_S} (h : tk_fr σ σ') : pf_R b s σ σ' := fun a i g1 g2 _ _ _ => h a i (by omega) g2
theorem pf_R_s {b s k v : Int} {σ : js_S} (hk : 2 ≤ k) (hk2 : k ≤ 12) : pf_R b s σ (js_up σ s k v) := fun a i _ _ _ g4 _ => js_up_ne _ (by omega)
theorem pf_R_7 {b s k v : Int} {σ : js_S} (hk : k = 2 ∨ k = 5 ∨ k = 6) : pf_R b s σ (js_up σ (7 + b) k v) := fun a i _ _ _ _ g5 => js_up_ne _ (by omega)
theorem qf_R_tf {m : Int} {ρ ρ' : js_S} (h : tf_R ρ ρ') : qf_R m ρ ρ' := fun a i g1 _ => h a i (by omega)
theorem qf_R_lf {m : Int} {ρ ρ' : js_S} (h : lf_R m ρ ρ') : qf_R m ρ ρ' := fun a i g1 g2 => h a i g1 (by omega)
theorem qf_R_vf {m : Int} {ρ ρ' : js_S} (h : vf_R m ρ ρ') : qf_R m ρ ρ' := fun a i g1 g2 => h a i (by omega) (by omega)
theorem qf_R_t9 {m : Int} {ρ ρ' : js_S} (h : ∀ a i : Int, ¬ (a = 83 ∧ 5 ≤ i ∧ i ≤ 9) → ρ' a i = ρ a i) : qf_R m ρ ρ' := fun a i g1 _ => h a i (by omega)
theorem qf_R_up {m a v : Int} {ρ : js_S} (h : 87 ≤ a) (h2 : a ≤ 96) : qf_R m ρ (js_up ρ a m v) := fun a' i _ g2 => js_up_ne _ (by omega)
theorem fr_R_pf {b m s : Int} {τ σ : js_S} (hb : b = 0 ∨ b = 25) (hm : 0 ≤ m) (hm4 : m < 400) (hs : τ (19 + b) m = s) (h137 : 137 ≤ s) (h : pf_R b s τ σ) : fr_R b τ σ := fr_R_of hb (fun a i g1 g2 g3 g4 => by
  have hne : a ≠ s := by
    rcases g4 m hm hm4 with h | h
    · omega
    · exact fun hh => h (by rw [hs, hh])
  exact h a i (by omega) g2 (by omega) (by omega) (by omega))
theorem rf_R_qf {m : Int} {ρ ρ' : js_S} (h : qf_R m ρ ρ') : rf_R ρ ρ' := fun a i g1 g2 => h a i (by omega) (by omega)
theorem kx_R_qf {m : Int} {ρ ρ' : js_S} {X : Int → Prop} (hk : kx_R ρ 0 0 X) (hX : X m) (h : qf_R m ρ ρ') : kx_R ρ' 0 0 X := kx_R_rx hk hX (h _ _ (by omega) (by omega)) (fun a i h1 h2 h3 => h a i (by omega) (by omega))
section PE
variable {E : js_E} {d e : Nat} {σ0 ρ0 τ ρ2 σ ρ : js_S} {b : Int}
/-- the end of a port: ; and it is visible -/
theorem y_pend {m k s : Int} (hb : b = 0 ∨ b = 25) (ht : td_R E.1 b m k s σ0 ρ0 τ ρ2) (hp : pf_R b s τ σ) (hq : qf_R m ρ2 ρ) (hY : sy_Y E.1 σ ρ b 0 0 (fun i => False ∨ i = m)) {j : Nat} (hR : rd_R σ ρ j) (hF : sy_F σ ρ b m) (hk8 : k ≠ 8) (hd : 8 ≤ d) (he : 4 ≤ e) {x1 x1' : Int} : ∃ ρ' : js_S, js_J E e 197 211 [(2, 83), (0, x1), (0, m)] [] ρ = js_r0 E ρ' ∧ rf_R ρ0 ρ' ∧ ((∃ (σ' : js_S) (j' : Nat), js_J E d 45 139 [(2, 6 + b), (0, x1'), (2, s)] [] σ = js_r0 E σ' ∧ rd_R σ' ρ' j' ∧ dc_R E.1 σ' ρ' b ∧ j < j' ∧ fr_R b σ0 σ' ∧ (∀ a i : Int, ¬ (a = 1 ∧ (i = 1 ∨ i = 2 ∨ i = 3 ∨ i = 11)) → a ≠ 2 → ¬ (a = s ∧ i = 13) → σ' a i = σ a i) ∧ (∀ a i : Int, ¬ (a = 83 ∧ 5 ≤ i ∧ i ≤ 9) → ¬ (a = 99 ∧ i = m) → ρ' a i = ρ a i)) ∨ dt_P E b σ0 ρ' (js_J E d 45 139 [(2, 6 + b), (0, x1'), (2, s)] [] σ)) := by
  obtain ⟨a1, a2, a3, a4, a5, a6, a7, a8, a9, m0, m4, a12, a13, a14, a15, a16, a17, a18, a19, a20, a21⟩ := ht
  have hge := js_sym_ge a6
  have frs := fr_R_trans a3 (fr_R_pf hb m0 m4 a7 hge hp)
  have rfs := rf_R_trans a4 (rf_R_qf hq)
  have m11 : ρ 83 11 = m + 1 := by rw [hq _ _ (by omega) (by omega)]; exact a12
  have p19 : σ (19 + b) m = s := by rw [hp _ _ (by omega) (by omega) (by omega) (by omega) (by omega)]; exact a7
  obtain ⟨ρ3, e3, o3, hor3⟩ := y_take (E := E) (d := d - 1) (e := e - 1) (k := 59) hY.2.2.1 hR (by omega) (by omega) (by unfold tk_V; omega) (by decide)
  have t59 : tk_m 59 = 59 := by decide
  rw [t59] at hor3
  rw [b_197_211, k_197_214 (by omega) e3, b_45_139 hb]
  have tf3 : tf_R ρ ρ3 := fun a i h => o3 a i (by omega)
  have m3 : ρ3 83 11 = m + 1 := by rw [o3 _ _ (by omega)]; exact m11
  rcases hor3 with ⟨σ3, j3, e4, hR3, f3, hj3⟩ | ⟨hF3, e4⟩
  · have hY3 := sy_Y_cf hb hY (cf_R_fr f3) tf3
    have p3 : σ3 (19 + b) m = s := by rw [f3 _ _ (by omega) (by omega)]; exact p19
    have x3 : js_desc E.1 σ3 s = some (0, 11, js_sym) := by
      have := (hY3.2.2.2.2.2.1 m m0 (by omega)).1
      rw [p3] at this
      exact this
    have hF3 : sy_F σ3 ρ3 b m := by
      have s3 : ∀ i : Int, σ3 s i = σ s i := fun i => f3 _ _ (by omega) (by omega)
      unfold sy_F at hF ⊢
      rw [p19] at hF
      rw [p3, s3, s3, s3, s3, s3, s3, s3, s3, s3, o3 86 _ (by omega), o3 87 _ (by omega), o3 88 _ (by omega), o3 89 _ (by omega), o3 91 _ (by omega), o3 92 _ (by omega), o3 93 _ (by omega), o3 94 _ (by omega), o3 96 _ (by omega)]
      exact hF
    have hY9 := sy_Y_end (X' := fun _ => False) hb hY3 m0 (by omega) p3 hF3 (fun i hi => hi)
    have h9 := hR3.2.2.1.2.2.1
    have hk3 : kx_R ρ3 0 0 (fun i => False ∨ i = m) := kx_R_tf (kx_R_qf a2 (Or.inr rfl) hq) tf3
    rw [b_197_217, h9, if_pos (show js_w 0 = 0 from rfl), js_w_of (x := m) (by omega) (by omega), if_pos ⟨m0, m4⟩, js_iand11, k_45_145 (by omega) e4, b_45_148 x3]
    refine ⟨js_up ρ3 99 m 1, rfl, ?_, Or.inl ⟨js_up σ3 s 13 1, j3, rfl, ?_, ⟨hY9, ⟨Or.inl rfl, fun i hi => hi.elim, fun i h1 h2 _ h8 => ?_⟩, ?_⟩, by omega, ?_, ?_, ?_⟩⟩
    · intro a i h1 h2
      rw [js_up_na _ (by omega), o3 _ _ (by omega), rfs a i h1 h2]
    · exact rd_R_of hR3 (fun i _ => js_up_na _ (by omega)) (fun a i _ _ => js_up_na _ (by omega)) (fun i _ _ => js_up_na _ (by decide)) (fun i => js_up_na _ (by decide))
    · rw [js_up_na _ (by decide), m3] at h2
      rw [js_up_na _ (by decide)] at h8
      rw [js_up_na _ (by decide), js_up_na _ (by decide), js_up_na _ (by decide)]
      by_cases qi : i = m
      · rw [qi, o3 _ _ (by omega), hq _ _ (by omega) (by omega), a14] at h8
        exact absurd h8 hk8
      · exact hk3.2.2 i h1 (by omega) (fun hh => hh.elim id qi) h8
    · rw [js_up_na _ (by decide), o3 _ _ (by omega), hq _ _ (by omega) (by omega)]
      exact a13
    · exact fr_R_trans frs (fr_R_trans (fr_R_tk hb f3) (fr_R_sym hb m0 m4 p3 hge))
    · exact fun a i h1 h2 h3 => by rw [js_up_ne _ (by omega), f3 a i h1 h2]
    · exact fun a i h1 h2 => by rw [js_up_ne _ (by omega), o3 a i h1]
  · rw [r_p217F hF3, kt_45_145 (by omega) e4]
    exact ⟨ρ3, rfl, rf_R_trans rfs (rf_R_tf tf3), Or.inr ⟨hF3, by omega, by omega, σ, rfl, frs, hY.2.2.2.1, hY.2.2.1⟩⟩
end PE
