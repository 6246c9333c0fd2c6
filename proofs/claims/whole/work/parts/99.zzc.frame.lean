/-! part 99.zzc: what a statement leaves alone; the cells of a unit -/
def sf_D (b n t p a i : Int) : Prop := ef_D b n t p a i ∨ (a = 8 + b ∧ i = 9) ∨ (a = 7 + b ∧ i = 1) ∨ a = 19 + b ∨ a = 20 + b
theorem sf_D_mono {b n t p n' t' p' a i : Int} (h1 : n ≤ n') (h2 : t ≤ t') (h3 : p ≤ p') (h : sf_D b n' t' p' a i) : sf_D b n t p a i := h.imp (ef_D_mono h1 h2 h3) id
/-- of the class: m symbols were there before -/
def sf_R (b n t p m : Int) (σ σ' : js_S) : Prop := fr_R b σ σ' ∧ (∀ a i : Int, 6 + b ≤ a → a ≤ 30 + b → ¬ sf_D b n t p a i → σ' a i = σ a i) ∧ (∀ i : Int, 0 ≤ i → i < m → σ' (19 + b) i = σ (19 + b) i ∧ ∀ k : Int, k ≠ 13 → σ' (σ (19 + b) i) k = σ (σ (19 + b) i) k) ∧ σ (7 + b) 1 ≤ σ' (7 + b) 1
theorem sf_R_trans {b n t p m n' t' p' m' : Int} {σ σ' τ : js_S} (h : sf_R b n t p m σ σ') (h2 : sf_R b n' t' p' m' σ' τ) (g1 : n ≤ n') (g2 : t ≤ t') (g3 : p ≤ p') (g4 : m ≤ m') : sf_R b n t p m σ τ := by
  refine ⟨fr_R_trans h.1 h2.1, fun a i x1 x2 x3 => (h2.2.1 a i x1 x2 (fun hh => x3 (sf_D_mono g1 g2 g3 hh))).trans (h.2.1 a i x1 x2 x3), fun i x1 x2 => ?_, Int.le_trans h.2.2.2 h2.2.2.2⟩
  obtain ⟨a1, a2⟩ := h.2.2.1 i x1 x2
  obtain ⟨b1, b2⟩ := h2.2.2.1 i x1 (by omega)
  refine ⟨b1.trans a1, fun k hk => ?_⟩
  have := b2 k hk
  rw [a1] at this
  exact this.trans (a2 k hk)
theorem sf_R_ef {b n t p m : Int} {σ σ' : js_S} (hb : b = 0 ∨ b = 25) (hg : ∀ i : Int, 0 ≤ i → i < m → 137 ≤ σ (19 + b) i) (h : ef_R b n t p σ σ') : sf_R b n t p m σ σ' := ⟨fr_R_ef hb h, fun a i g1 g2 g3 => h a i (fun hh => g3 (Or.inl hh)), fun i g1 g2 => ⟨h _ _ (by unfold ef_D; omega), fun k _ => by have := hg i g1 g2; exact h _ _ (by unfold ef_D; omega)⟩, by rw [h _ _ (by unfold ef_D; omega)]; exact Int.le_refl _⟩
theorem sf_R_mono {b n t p m n' t' p' m' : Int} {σ σ' : js_S} (h : sf_R b n' t' p' m' σ σ') (g1 : n ≤ n') (g2 : t ≤ t') (g3 : p ≤ p') (g4 : m ≤ m') : sf_R b n t p m σ σ' := ⟨h.1, fun a i x1 x2 x3 => h.2.1 a i x1 x2 (fun hh => x3 (sf_D_mono g1 g2 g3 hh)), fun i x1 x2 => h.2.2.1 i x1 (by omega), h.2.2.2⟩
theorem ci_sf {b n t p u i : Int} {σ σ' : js_S} {I : xt_I} (hb : b = 0 ∨ b = 25) (h : sf_R b n t p (σ (7 + b) 1) σ σ') (hn : i < n) (hI : ci_P σ b u i I) : ci_P σ' b u i I :=
  ci_P_of hI (fun a h1 h2 => h.2.1 a i (by omega) (by omega) (by unfold sf_D ef_D; omega)) h.2.2.2 (fun s g1 g2 => (h.2.2.1 s g1 g2).1) (fun s k g1 g2 g3 => (h.2.2.1 s g1 g2).2 k (by omega))
theorem xt_cd_sf {b n t p u t0 p0 : Int} {σ σ' : js_S} {e : tr_T} (hb : b = 0 ∨ b = 25) (h : sf_R b n t p (σ (7 + b) 1) σ σ') (hn : p0 + xt_ln e ≤ n) (hc : xt_cd (ci_P σ b u) e t0 p0) : xt_cd (ci_P σ' b u) e t0 p0 :=
  xt_cd_of e t0 p0 (fun i I g1 g2 hI => ci_sf hb h (by omega) hI) hc
theorem st_cd_sf {b n t p u t0 p0 z : Int} {σ σ' : js_S} {e : tr_T} (hb : b = 0 ∨ b = 25) (h : sf_R b n t p (σ (7 + b) 1) σ σ') (hn : p0 + st_ln e ≤ n) (hc : st_cd (ci_P σ b u) e t0 p0 z) : st_cd (ci_P σ' b u) e t0 p0 z :=
  st_cd_of e t0 p0 z (fun i I g1 g2 hI => ci_sf hb h (by omega) hI) hc
/-- of the reference: N nodes, m symbols were there before -/
def sg_R (N m : Int) (ρ ρ' : js_S) : Prop := ∀ a i : Int, ¬ (a = 83 ∧ (5 ≤ i ∧ i ≤ 11 ∨ 27 ≤ i ∧ i ≤ 33 ∨ 42 ≤ i ∧ i ≤ 44)) → ¬ (100 ≤ a ∧ a ≤ 107 ∧ N ≤ i) → ¬ (86 ≤ a ∧ a ≤ 97 ∧ m ≤ i) → ¬ (a = 98 ∧ 20 * m ≤ i) → a ≠ 99 → ρ' a i = ρ a i
theorem sg_R_trans {N m N' m' : Int} {ρ ρ' ρ'' : js_S} (h : sg_R N m ρ ρ') (h2 : sg_R N' m' ρ' ρ'') (hN : N ≤ N') (hm : m ≤ m') : sg_R N m ρ ρ'' := fun a i g1 g2 g3 g4 g5 => (h2 a i g1 (by omega) (by omega) (by omega) g5).trans (h a i g1 g2 g3 g4 g5)
theorem sg_R_eg {N m : Int} {ρ ρ' : js_S} (h : eg_R N ρ ρ') : sg_R N m ρ ρ' := fun a i g1 g2 _ _ _ => h a i (by omega) g2
theorem sg_R_mono {N m N' m' : Int} {ρ ρ' : js_S} (h : sg_R N' m' ρ ρ') (hN : N ≤ N') (hm : m ≤ m') : sg_R N m ρ ρ' := fun a i g1 g2 g3 g4 g5 => h a i g1 (by omega) (by omega) (by omega) g5
theorem rf_R_sg {N m : Int} {ρ ρ' : js_S} (h : sg_R N m ρ ρ') : rf_R ρ ρ' := fun a i g1 g2 => h a i (by omega) (by omega) (by omega) (by omega) (by omega)
theorem xt_G_sg {N m F : Int} {ρ ρ' : js_S} {e : tr_T} (h : xt_G ρ F e) (h2 : sg_R N m ρ ρ') (hm : ρ 83 11 ≤ m) (h3 : ρ 83 11 ≤ ρ' 83 11) (h4 : ρ 83 44 ≤ ρ' 83 44) : xt_G ρ' F e := xt_G_of h h3 (fun a i g1 g2 g3 g4 => h2 a i (by omega) (by omega) (by omega) (by omega) (by omega)) h4
theorem st_G_sg {N m F : Int} {ρ ρ' : js_S} {e : tr_T} (h : st_G ρ F e) (h2 : sg_R N m ρ ρ') (hm : ρ 83 11 ≤ m) (h3 : ρ 83 11 ≤ ρ' 83 11) (h4 : ρ 83 44 ≤ ρ' 83 44) : st_G ρ' F e := st_G_of h h3 (fun a i g1 g2 g3 g4 => h2 a i (by omega) (by omega) (by omega) (by omega) (by omega)) h4
theorem st_nd_sg {ρ ρ' : js_S} {e : tr_T} {M M' N N' m0 n m : Int} (h : st_nd ρ e M N n m) (h2 : sg_R N m0 ρ ρ') (hN : N ≤ N') (hM : M' ≤ M := by omega) : st_nd ρ' e M' N' n m := st_nd_of e M M' N N' n m hM hN (fun a i g1 g2 _ g3 => h2 a i (by omega) (by omega) (by omega) (by omega) (by omega)) (fun i _ g1 _ => h2 _ _ (by omega) (by omega) (by omega) (by omega) (by omega)) h
theorem xt_nd_sg {ρ ρ' : js_S} {e : tr_T} {M M' N N' m0 n m : Int} (h : xt_nd ρ M e N n m) (h2 : sg_R N m0 ρ ρ') (hN : N ≤ N') (hM : M' ≤ M := by omega) : xt_nd ρ' M' e N' n m := xt_nd_up hM e N N' n m hN (xt_nd_of e N n m (fun a i g1 g2 _ g3 => h2 a i (by omega) (by omega) (by omega) (by omega) (by omega)) (fun i _ g1 _ => h2 _ _ (by omega) (by omega) (by omega) (by omega) (by omega)) h)
/-- how many cells the parameters and variables of fun f take, of n symbols -/
def lo_c (ρ : js_S) (f : Int) : Nat → Int
  | 0 => 0
  | n + 1 => lo_c ρ f n + (if 5 ≤ ρ 86 n ∧ ρ 86 n ≤ 7 ∧ ρ 93 n = f then ρ 91 n else 0)
theorem lo_c_eq {ρ ρ' : js_S} {f : Int} : ∀ n : Nat, (∀ a i : Int, 86 ≤ a → a ≤ 97 → 0 ≤ i → i < n → ρ' a i = ρ a i) → lo_c ρ' f n = lo_c ρ f n
  | 0, _ => rfl
  | n + 1, h => by
    have ih := lo_c_eq (f := f) n (fun a i g1 g2 g3 g4 => h a i g1 g2 g3 (by push_cast; omega))
    simp only [lo_c]
    rw [ih, h 86 n (by decide) (by decide) (by omega) (by push_cast; omega), h 91 n (by decide) (by decide) (by omega) (by push_cast; omega), h 93 n (by decide) (by decide) (by omega) (by push_cast; omega)]
/-- names told in a unit, from number c on, are its variables -/
def vw_P (F c : Int) (ρ : js_S) : Prop := ∀ i : Int, 0 ≤ i → c ≤ i → i < ρ 83 11 → 5 ≤ ρ 86 i ∧ ρ 86 i ≤ 7 ∧ ρ 93 i = F
theorem vw_of {F c : Int} {ρ ρ' : js_S} (h : vw_P F c ρ) (h1 : ρ' 83 11 = ρ 83 11) (h2 : ∀ a i : Int, 86 ≤ a → a ≤ 97 → ρ' a i = ρ a i) : vw_P F c ρ' := fun i g1 g2 g3 => by
  rw [h2 86 i (by decide) (by decide), h2 93 i (by decide) (by decide)]
  exact h i g1 g2 (by rw [← h1]; exact g3)
/-- where parameters and variables lie: U gives the units of the funs -/
def pl_R (b F : Int) (U : Int → Int) (X : Int → Prop) (σ ρ : js_S) : Prop := (∀ i : Int, 0 ≤ i → i < ρ 83 11 → ¬ X i → 5 ≤ ρ 86 i ∧ ρ 86 i ≤ 7 → σ (σ (19 + b) i) 5 = lo_c ρ (ρ 93 i) i.toNat ∧ σ (σ (19 + b) i) 11 = U (ρ 93 i)) ∧ σ (8 + b) 9 = lo_c ρ F (ρ 83 11).toNat ∧ σ (8 + b) 8 = U F ∧ σ (22 + b) 0 = F ∧ (-1 ≤ U F ∧ U F < 1000) ∧ vw_P F (U (-2)) ρ
theorem pl_ef {b F n t p N : Int} {U : Int → Int} {X : Int → Prop} {σ ρ σ' ρ' : js_S} (hb : b = 0 ∨ b = 25) (hg : ∀ i : Int, 0 ≤ i → i < ρ 83 11 → 137 ≤ σ (19 + b) i) (h : pl_R b F U X σ ρ) (h1 : ef_R b n t p σ σ') (h2 : eg_R N ρ ρ') : pl_R b F U X σ' ρ' := by
  obtain ⟨a1, a2, a3, a4, a5⟩ := h
  have e11 : ρ' 83 11 = ρ 83 11 := h2 _ _ (by omega) (by omega)
  have z : ∀ a i : Int, 86 ≤ a → a ≤ 97 → ρ' a i = ρ a i := fun a i g1 g2 => h2 _ _ (by omega) (by omega)
  refine ⟨fun i g1 g2 g3 g4 => ?_, ?_, ?_, ?_, a5.1, vw_of a5.2 e11 z⟩
  · rw [e11] at g2
    have ge := hg i g1 g2
    rw [z 86 i (by decide) (by decide)] at g4
    have k := a1 i g1 g2 g3 g4
    rw [h1 (19 + b) i (by unfold ef_D; omega), h1 (σ (19 + b) i) 5 (by unfold ef_D; omega), h1 (σ (19 + b) i) 11 (by unfold ef_D; omega), z 93 i (by decide) (by decide), lo_c_eq (ρ := ρ) i.toNat (fun a k g5 g6 _ _ => z a k g5 g6)]
    exact k
  · rw [h1 _ _ (by unfold ef_D; omega), e11, lo_c_eq (ρ := ρ) (ρ 83 11).toNat (fun a k g5 g6 _ _ => z a k g5 g6)]
    exact a2
  · rw [h1 _ _ (by unfold ef_D; omega)]
    exact a3
  · rw [h1 _ _ (by unfold ef_D; omega)]
    exact a4
/-- a unit is read: symbols and cells -/
def ux_R (E : js_E) (b F : Int) (B U : Int → Int) (X : Int → Prop) (σ ρ : js_S) : Prop := xs_R E b F B X σ ρ ∧ pl_R b F U X σ ρ ∧ ∀ i : Int, X i → i < ρ 83 11
theorem xs_ge {E : js_E} {b F : Int} {B : Int → Int} {X : Int → Prop} {σ ρ : js_S} (h : xs_R E b F B X σ ρ) : ∀ i : Int, 0 ≤ i → i < ρ 83 11 → 137 ≤ σ (19 + b) i := fun i g1 g2 => js_sym_ge (h.1.2.2.2.2.2.1 i g1 g2).1
theorem ux_ef {E : js_E} {b F n t p N : Int} {B U : Int → Int} {X : Int → Prop} {σ ρ σ' ρ' : js_S} (hb : b = 0 ∨ b = 25) (h : ux_R E b F B U X σ ρ) (h1 : ef_R b n t p σ σ') (h2 : eg_R N ρ ρ') : ux_R E b F B U X σ' ρ' := ⟨xs_R_ef hb h.1 h1 h2, pl_ef hb (xs_ge h.1) h.2.1 h1 h2, fun i hi => by rw [h2 _ _ (by omega) (by omega)]; exact h.2.2 i hi⟩
def sr_A (b : Int) (σ ρ : js_S) (j : Nat) (σ' ρ' : js_S) (j' : Nat) : Prop := rd_R σ' ρ' j' ∧ j < j' ∧ ρ' 83 10 = ρ 83 10 ∧ sf_R b (σ (8 + b) 6) (σ (8 + b) 10) (σ (23 + b) 15) (ρ 83 11) σ σ' ∧ sg_R (ρ 83 33) (ρ 83 11) ρ ρ' ∧ ρ 83 33 ≤ ρ' 83 33 ∧ ρ' 83 33 + j ≤ ρ 83 33 + j' ∧ ρ 83 11 ≤ ρ' 83 11
/-- a statement was read by both -/
def sr_R (E : js_E) (b F : Int) (B U : Int → Int) (X : Int → Prop) (σ ρ : js_S) (j : Nat) (σ' ρ' : js_S) (j' : Nat) (n : Int) (s : tr_T) : Prop := sr_A b σ ρ j σ' ρ' j' ∧ xr_L b σ ρ σ' ρ' ∧ ss_C b B σ σ' s ∧ ss_T B F (σ (8 + b) 10) ((j' : Int) - j) (ρ 83 33) (zz_b b σ ρ + 10) ρ' n s ∧ ux_R E b F B U X σ' ρ'
/-- both have the same fault within a statement -/
def sF_P (E : js_E) (b : Int) (σ ρ ρ' : js_S) (R : Option (Outcome × ip_W)) : Prop := rf_R ρ ρ' ∧ dt_P E b σ ρ' R
theorem sF_xf {E : js_E} {b F : Int} {B : Int → Int} {X : Int → Prop} {σ ρ ρ' : js_S} {R : Option (Outcome × ip_W)} (hb : b = 0 ∨ b = 25) (hx : xs_R E b F B X σ ρ) (h : xf_P E b σ ρ ρ' R) : sF_P E b σ ρ ρ' R := by
  obtain ⟨a1, a2, σ', a3, a4⟩ := h
  have e11 : ρ' 83 11 = ρ 83 11 := a2 _ _ (by omega) (by omega)
  have hY := sy_Y_ef hb hx.1 a4
  have h1 := hx.1.1.1
  have h2 := hx.1.1.2.1
  exact ⟨rf_R_eg a2, a1, by omega, by omega, σ', a3, fr_R_ef hb a4, hY.2.2.2.1, hY.2.2.1⟩
theorem sF_up {E : js_E} {b : Int} {σ ρ σ1 ρ1 ρ' : js_S} {R : Option (Outcome × ip_W)} (h1 : fr_R b σ σ1) (h2 : rf_R ρ ρ1) (h : sF_P E b σ1 ρ1 ρ' R) : sF_P E b σ ρ ρ' R := by
  obtain ⟨a1, a2, a3, a4, σ', a5, a6, a7⟩ := h
  exact ⟨rf_R_trans h2 a1, a2, a3, a4, σ', a5, fr_R_trans h1 a6, a7⟩
/-- a statement or a fault -/
def sq_P (E : js_E) (b F : Int) (B U : Int → Int) (X : Int → Prop) (σ ρ : js_S) (j : Nat) (Rc Rr : Option (Outcome × ip_W)) : Prop := (∃ (σ' ρ' : js_S) (j' : Nat) (n : Int) (s : tr_T), Rr = js_r E (0, n) ρ' ∧ Rc = js_r0 E σ' ∧ sr_R E b F B U X σ ρ j σ' ρ' j' n s) ∨ (∃ (ρ' : js_S) (v : Int), Rr = js_r E (0, v) ρ' ∧ sF_P E b σ ρ ρ' Rc)
theorem sq_so {E : js_E} {b F : Int} {B U : Int → Int} {X : Int → Prop} {σ ρ : js_S} {j : Nat} {Rc Rr : Option (Outcome × ip_W)} (hb : b = 0 ∨ b = 25) (hx : ux_R E b F B U X σ ρ) (h : so_P E b F B σ ρ j Rc Rr) : sq_P E b F B U X σ ρ j Rc Rr := by
  rcases h with ⟨σ', ρ', j', n, s, e1, e2, h1, h2, h3, h4⟩ | ⟨ρ', v, e1, hf⟩
  · obtain ⟨a1, a2, a3, a4, a5, a6, a7⟩ := h1
    have e11 : ρ' 83 11 = ρ 83 11 := a5 _ _ (by omega) (by omega)
    exact Or.inl ⟨σ', ρ', j', n, s, e1, e2, ⟨a1, a2, a3, sf_R_ef hb (xs_ge hx.1) a4, sg_R_eg a5, a6, a7, by omega⟩, h2, h3, h4, ux_ef hb hx a4 a5⟩
  · exact Or.inr ⟨ρ', v, e1, sF_xf hb hx.1 hf⟩
theorem xn_nexts {E : js_E} {b F : Int} {B U : Int → Int} {X : Int → Prop} {σ ρ σ' ρ' : js_S} {j j' : Nat} {n : Int} {s : tr_T} (h : xn_R b σ ρ j) (h2 : sr_R E b F B U X σ ρ j σ' ρ' j' n s) : xn_R b σ' ρ' j' := by
  obtain ⟨⟨_, a2, _, _, _, a6, a7, _⟩, ⟨x, x1, x2, x3, x4⟩, ⟨⟨c4, c5, c6, c7, c8⟩, _⟩, ⟨_, _, ⟨t1, t2, t3⟩, _⟩, _⟩ := h2
  have hl := st_ln_0 s
  unfold xn_R at h ⊢
  omega
