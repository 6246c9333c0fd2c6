/-! part 99.v: an e is read in both: what holds before, behind; joining two e -/
def sv_P (ρ : js_S) (F s : Int) : Prop := 0 ≤ s ∧ s < ρ 83 11 ∧ ((1 ≤ ρ 86 s ∧ ρ 86 s ≤ 3) ∨ (5 ≤ ρ 86 s ∧ ρ 86 s ≤ 7 ∧ ρ 93 s = F))
def sz_P (ρ : js_S) (s c : Int) : Prop := 0 ≤ s ∧ s < ρ 83 11 ∧ ρ 91 s = c
def sk_P (ρ : js_S) (F s k : Int) : Prop := 0 ≤ s ∧ s < ρ 83 11 ∧ ρ 86 s = 4 ∧ ρ 91 s = k ∧ (F < 0 ∨ s < F) ∧ ρ 96 s ≤ (if F < 0 then 16 else 15) ∧ ρ 96 s ≤ ρ 83 44
/-- the SYMBOLS of a tree are what they must be, within fun F -/
def xt_G (ρ : js_S) (F : Int) (e : tr_T) : Prop := xt_g (sv_P ρ F) (sz_P ρ) (sk_P ρ F) e
theorem xt_G_of {ρ ρ' : js_S} {F : Int} {e : tr_T} (h : xt_G ρ F e) (h1 : ρ 83 11 ≤ ρ' 83 11) (h2 : ∀ a i : Int, 86 ≤ a → a ≤ 97 → 0 ≤ i → i < ρ 83 11 → ρ' a i = ρ a i) (h4 : ρ 83 44 ≤ ρ' 83 44) : xt_G ρ' F e := by
  refine xt_g_of (fun s hs => ?_) (fun s c hs => ?_) (fun s c hs => ?_) e h
  · obtain ⟨a1, a2, a3⟩ := hs
    refine ⟨a1, by omega, ?_⟩
    rw [h2 86 s (by decide) (by decide) a1 a2, h2 93 s (by decide) (by decide) a1 a2]
    exact a3
  · obtain ⟨a1, a2, a3⟩ := hs
    refine ⟨a1, by omega, ?_⟩
    rw [h2 91 s (by decide) (by decide) a1 a2]
    exact a3
  · obtain ⟨a1, a2, a3⟩ := hs
    refine ⟨a1, by omega, ?_⟩
    rw [h2 86 s (by decide) (by decide) a1 a2, h2 91 s (by decide) (by decide) a1 a2, h2 96 s (by decide) (by decide) a1 a2]
    exact ⟨a3.1, a3.2.1, a3.2.2.1, a3.2.2.2.1, Int.le_trans a3.2.2.2.2 h4⟩
theorem xt_G_eg {ρ ρ' : js_S} {N F : Int} {e : tr_T} (h : xt_G ρ F e) (h2 : eg_R N ρ ρ') (h4 : ρ 83 44 ≤ ρ' 83 44) : xt_G ρ' F e := xt_G_of h (by rw [h2 _ _ (by omega) (by omega)]; exact Int.le_refl _) (fun a i _ _ _ _ => h2 _ _ (by omega) (by omega)) h4
/-- SYMBOLS told to their end (not X) are as an e needs them -/
def gs_P (ρ : js_S) (X : Int → Prop) (i : Int) : Prop := (ρ 92 i = 0 ∨ ρ 92 i = 1) ∧ (ρ 86 i = 0 ∨ ρ 86 i = 9 → ρ 92 i = 0 ∧ (ρ 87 i = 0 ∨ ρ 87 i = 1 ∨ (3 ≤ ρ 87 i ∧ ρ 87 i - 3 < ρ 83 11 ∧ ρ 86 (ρ 87 i - 3) = 8 ∧ ¬ X (ρ 87 i - 3)))) ∧ (1 ≤ ρ 86 i ∧ ρ 86 i ≤ 3 ∨ 5 ≤ ρ 86 i ∧ ρ 86 i ≤ 7 → 1 ≤ ρ 91 i ∧ ρ 91 i ≤ 4096 ∧ -2000000000 ≤ ρ 88 i ∧ ρ 88 i ≤ ρ 89 i ∧ ρ 89 i ≤ 2000000000 ∧ ty_b (ρ 87 i) (ρ 88 i) (ρ 89 i)) ∧ (5 ≤ ρ 86 i ∧ ρ 86 i ≤ 7 → ρ 99 i = 1 → ρ 93 i = ρ 83 26) ∧ (ρ 86 i = 4 → ρ 92 i = 0 ∧ 0 ≤ ρ 91 i ∧ ρ 91 i ≤ 8 ∧ i + ρ 91 i < ρ 83 11 ∧ (∀ k : Int, 1 ≤ k → k ≤ ρ 91 i → ρ 86 (i + k) = 5 ∧ ¬ X (i + k)) ∧ 1 ≤ ρ 96 i ∧ ρ 96 i ≤ 18 ∧ -2000000000 ≤ ρ 88 i ∧ ρ 88 i ≤ ρ 89 i ∧ ρ 89 i ≤ 2000000000 ∧ (ρ 87 i ≠ 2 → ty_b (ρ 87 i) (ρ 88 i) (ρ 89 i)) ∧ (ρ 83 26 < 0 ∨ i < ρ 83 26)) ∧ (ρ 86 i = 8 → ρ 92 i = 0)
def gs_R (ρ : js_S) (X : Int → Prop) : Prop := ∀ i : Int, 0 ≤ i → i < ρ 83 11 → ¬ X i → gs_P ρ X i
theorem gs_R_of {ρ ρ' : js_S} {X : Int → Prop} (h : gs_R ρ X) (h1 : ρ' 83 11 = ρ 83 11) (h2 : ρ' 83 26 = ρ 83 26) (h3 : ∀ a i : Int, 86 ≤ a → a ≤ 99 → ρ' a i = ρ a i) : gs_R ρ' X := fun i g1 g2 g3 => by
  rw [h1] at g2
  have := h i g1 g2 g3
  unfold gs_P at this ⊢
  rw [h1, h2]
  simp only [h3 86 _ (by decide) (by decide), h3 87 _ (by decide) (by decide), h3 88 _ (by decide) (by decide), h3 89 _ (by decide) (by decide), h3 91 _ (by decide) (by decide), h3 92 _ (by decide) (by decide), h3 93 _ (by decide) (by decide), h3 96 _ (by decide) (by decide), h3 99 _ (by decide) (by decide)]
  exact this
/-- what is no fun has no bound -/
def u9_P (σ ρ : js_S) (b i : Int) : Prop := ρ 86 i ≠ 4 → σ (σ (19 + b) i) 9 = 0
theorem u9_of {σ ρ σ' ρ' : js_S} {b i : Int} (h : u9_P σ ρ b i) (h1 : ρ' 86 i = ρ 86 i) (h2 : σ' (σ' (19 + b) i) 9 = σ (σ (19 + b) i) 9) : u9_P σ' ρ' b i := fun q => by
  rw [h2]
  exact h (by rw [← h1]; exact q)
/-- SYMBOLS of both while a unit is read: B gives the funs' bounds, F is the fun -/
def xs_R (E : js_E) (b F : Int) (B : Int → Int) (X : Int → Prop) (σ ρ : js_S) : Prop := sy_Y E.1 σ ρ b 0 0 X ∧ kx_R ρ 0 0 X ∧ gs_R ρ X ∧ (∀ i : Int, 0 ≤ i → i < ρ 83 11 → -1 ≤ σ (σ (19 + b) i) 11 ∧ σ (σ (19 + b) i) 11 < 1000 ∧ u9_P σ ρ b i) ∧ (∀ i : Int, 0 ≤ i → i < ρ 83 11 → ¬ X i → ρ 86 i = 4 → σ (σ (19 + b) i) 9 = B i ∧ 0 ≤ B i ∧ B i ≤ 400000) ∧ ρ 83 26 = F ∧ (F = -1 ∧ (0 ≤ σ (7 + b) 3 ∧ σ (7 + b) 3 < 100000000) ∨ (0 ≤ F ∧ F < 400) ∧ σ (7 + b) 3 = -1)
theorem xs_R_ef {E : js_E} {b F n t p N : Int} {B : Int → Int} {X : Int → Prop} {σ ρ σ' ρ' : js_S} (hb : b = 0 ∨ b = 25) (h : xs_R E b F B X σ ρ) (h1 : ef_R b n t p σ σ') (h2 : eg_R N ρ ρ') : xs_R E b F B X σ' ρ' := by
  obtain ⟨a1, a2, a3, a4, a5, a6, a7⟩ := h
  have e11 : ρ' 83 11 = ρ 83 11 := h2 _ _ (by omega) (by omega)
  have e26 : ρ' 83 26 = ρ 83 26 := h2 _ _ (by omega) (by omega)
  have e19 : ∀ i : Int, σ' (19 + b) i = σ (19 + b) i := fun i => h1 _ _ (by unfold ef_D; omega)
  have ge : ∀ i : Int, 0 ≤ i → i < ρ 83 11 → 137 ≤ σ (19 + b) i := fun i g1 g2 => js_sym_ge (a1.2.2.2.2.2.1 i g1 g2).1
  refine ⟨sy_Y_eg (sy_Y_ef hb a1 h1) h2, kx_R_eg a2 h2, gs_R_of a3 e11 e26 (fun a i _ _ => h2 _ _ (by omega) (by omega)), fun i g1 g2 => ?_, fun i g1 g2 g3 g4 => ?_, by rw [e26]; exact a6, by rw [h1 _ _ (by unfold ef_D; omega)]; exact a7⟩
  · rw [e11] at g2
    have := ge i g1 g2
    have q := a4 i g1 g2
    rw [e19, h1 _ _ (by unfold ef_D; omega)]
    exact ⟨q.1, q.2.1, u9_of q.2.2 (h2 _ _ (by omega) (by omega)) (by rw [e19, h1 _ _ (by unfold ef_D; omega)])⟩
  · rw [e11] at g2
    have := ge i g1 g2
    rw [h2 _ _ (by omega) (by omega)] at g4
    rw [e19, h1 _ _ (by unfold ef_D; omega)]
    exact a5 i g1 g2 g3 g4
/-- the numbers of both stay small -/
def xn_R (b : Int) (σ ρ : js_S) (j : Nat) : Prop := (0 ≤ σ (8 + b) 6 ∧ σ (8 + b) 6 ≤ 5000 * j) ∧ (0 ≤ σ (8 + b) 7 ∧ σ (8 + b) 7 ≤ 400000) ∧ 0 ≤ σ (8 + b) 10 ∧ (0 ≤ σ (8 + b) 11 ∧ σ (8 + b) 11 ≤ 1024) ∧ (0 ≤ ρ 83 33 ∧ ρ 83 33 ≤ j) ∧ (0 ≤ σ (8 + b) 12 ∧ σ (8 + b) 12 ≤ 17 ∧ 0 ≤ ρ 83 44 ∧ ρ 83 44 ≤ 17) ∧ 0 ≤ σ (23 + b) 15
theorem rd_j {σ ρ : js_S} {j : Nat} (h : rd_R σ ρ j) : j < 8193 := by
  have h1 := h.1.2.1
  have h2 := h.2.1.2.1
  omega
theorem xn_cz {b : Int} {σ ρ : js_S} {j : Nat} (h : xn_R b σ ρ j) (hR : rd_R σ ρ j) : cz_R σ b := by
  have := rd_j hR
  unfold xn_R at h
  unfold cz_R
  omega
def xr_A (b : Int) (σ ρ : js_S) (j : Nat) (σ' ρ' : js_S) (j' : Nat) : Prop := rd_R σ' ρ' j' ∧ j < j' ∧ ρ' 83 10 = ρ 83 10 ∧ ef_R b (σ (8 + b) 6) (σ (8 + b) 10) (σ (23 + b) 15) σ σ' ∧ eg_R (ρ 83 33) ρ ρ' ∧ ρ 83 33 ≤ ρ' 83 33 ∧ ρ' 83 33 + j ≤ ρ 83 33 + j'
def xr_L (b : Int) (σ ρ σ' ρ' : js_S) : Prop := ∃ x : Int, 0 ≤ x ∧ x ≤ 17 ∧ ρ' 83 44 = max (ρ 83 44) x ∧ σ' (8 + b) 12 = max (σ (8 + b) 12) x
theorem xr_L_up {b : Int} {σ ρ σ' ρ' : js_S} (h : xr_L b σ ρ σ' ρ') : ρ 83 44 ≤ ρ' 83 44 := by
  obtain ⟨x, _, _, h3, _⟩ := h
  omega
def xr_C (b : Int) (B : Int → Int) (σ σ' : js_S) (e : tr_T) : Prop := (σ' (23 + b) 0 = xt_ty e ∧ σ' (23 + b) 1 = xt_lo e ∧ σ' (23 + b) 2 = xt_hi e ∧ σ' (23 + b) 15 = σ (23 + b) 15) ∧ (σ' (8 + b) 10 = σ (8 + b) 10 ∧ σ' (8 + b) 6 = σ (8 + b) 6 + xt_ln e ∧ σ' (8 + b) 7 = min 400000 (σ (8 + b) 7 + xt_cn B e) ∧ σ' (8 + b) 11 = max (σ (8 + b) 11) (xt_mt e (σ (8 + b) 10))) ∧ (σ' (8 + b) 6 ≤ 8192 → xt_cd (ci_P σ' b (σ (8 + b) 8)) e (σ (8 + b) 10) (σ (8 + b) 6))
def xr_Y (N n q z : Int) (e : tr_T) : Prop := (0 ≤ xt_ty e ∧ xt_ty e < 1000 ∧ -2000000000 ≤ xt_lo e ∧ xt_lo e ≤ xt_hi e ∧ xt_hi e ≤ 2000000000) ∧ ty_b (xt_ty e) (xt_lo e) (xt_hi e) ∧ N ≤ n ∧ q = -1 ∧ xt_dp e ≤ z
/-- how deep its code may call: it hangs on the operators that wait, and on the brackets that are open -/
def zz_b (b : Int) (σ ρ : js_S) : Int := 2 * (400 - σ (23 + b) 15) + 6 * (65 - ρ 83 10)
def xr_T (B : Int → Int) (F t dj N z : Int) (ρ' : js_S) (n : Int) (e : tr_T) : Prop := xt_nd ρ' N e (ρ' 83 33) n 0 ∧ (xt_e e ∧ xt_w e ∧ xt_G ρ' F e) ∧ (xt_ln e ≤ 8 * dj ∧ 0 ≤ xt_cn B e ∧ xt_mt e t ≤ 1024) ∧ xr_Y N n (ρ' 107 n) z e
/-- as xr_R, with any bound of depth -/
def xz_R (z b F : Int) (B : Int → Int) (σ ρ : js_S) (j : Nat) (σ' ρ' : js_S) (j' : Nat) (n : Int) (e : tr_T) : Prop := xr_A b σ ρ j σ' ρ' j' ∧ xr_L b σ ρ σ' ρ' ∧ xr_C b B σ σ' e ∧ xr_T B F (σ (8 + b) 10) ((j' : Int) - j) (ρ 83 33) z ρ' n e
/-- an e was read by both: node n of the reference is the tree e, whose code the class has made -/
def xr_R (b F : Int) (B : Int → Int) (σ ρ : js_S) (j : Nat) (σ' ρ' : js_S) (j' : Nat) (n : Int) (e : tr_T) : Prop := xz_R (zz_b b σ ρ + 2) b F B σ ρ j σ' ρ' j' n e
/-- the same, of an operand or of operators but for ? -/
def xk_R (b F : Int) (B : Int → Int) (σ ρ : js_S) (j : Nat) (σ' ρ' : js_S) (j' : Nat) (n : Int) (e : tr_T) : Prop := xz_R (zz_b b σ ρ) b F B σ ρ j σ' ρ' j' n e
theorem xz_up {b F z z' : Int} {B : Int → Int} {σ ρ σ' ρ' : js_S} {j j' : Nat} {n : Int} {e : tr_T} (h : xz_R z b F B σ ρ j σ' ρ' j' n e) (hz : z ≤ z') : xz_R z' b F B σ ρ j σ' ρ' j' n e := by
  obtain ⟨a1, a2, a3, t1, t2, t3, y1, y2, y3, y4, y5⟩ := h
  exact ⟨a1, a2, a3, t1, t2, t3, y1, y2, y3, y4, Int.le_trans y5 hz⟩
theorem xk_xr {b F : Int} {B : Int → Int} {σ ρ σ' ρ' : js_S} {j j' : Nat} {n : Int} {e : tr_T} (h : xk_R b F B σ ρ j σ' ρ' j' n e) : xr_R b F B σ ρ j σ' ρ' j' n e := xz_up h (by omega)
theorem xr_zz {b F : Int} {B : Int → Int} {σ ρ σ' ρ' : js_S} {j j' : Nat} {n : Int} {e : tr_T} (h : xr_R b F B σ ρ j σ' ρ' j' n e) : xt_dp e ≤ 2 * (400 - σ (23 + b) 15) + 6 * (65 - ρ 83 10) + 2 := h.2.2.2.2.2.2.2.2.2.2
theorem xk_zz {b F : Int} {B : Int → Int} {σ ρ σ' ρ' : js_S} {j j' : Nat} {n : Int} {e : tr_T} (h : xk_R b F B σ ρ j σ' ρ' j' n e) : xt_dp e ≤ 2 * (400 - σ (23 + b) 15) + 6 * (65 - ρ 83 10) := h.2.2.2.2.2.2.2.2.2.2
theorem xt_dz {e : tr_T} {x z : Int} (h : xt_dp e = x) (h2 : x ≤ z) : xt_dp e ≤ z := by omega
theorem xr_z2 {b F : Int} {B : Int → Int} {σ0 ρ0 σ1 ρ1 σ4 ρ2 σ5 ρ5 : js_S} {j0 j1 j4 j5 : Nat} {n1 n2 : Int} {l r : tr_T} (h1 : xk_R b F B σ0 ρ0 j0 σ1 ρ1 j1 n1 l) (h2 : xk_R b F B σ4 ρ2 j4 σ5 ρ5 j5 n2 r) (n10 : ρ2 83 10 = ρ1 83 10) (p : σ1 (23 + b) 15 < σ4 (23 + b) 15) : xt_dp l ≤ zz_b b σ0 ρ0 ∧ 1 + xt_dp r ≤ zz_b b σ0 ρ0 := by
  have a1 := xk_zz h1
  have a2 := xk_zz h2
  have a3 := h1.1.2.2.1
  have a4 := h1.2.2.1.1.2.2.2
  unfold zz_b
  omega
/-- both have the same fault -/
def xf_P (E : js_E) (b : Int) (σ ρ ρ' : js_S) (R : Option (Outcome × ip_W)) : Prop := rx_F ρ' ∧ eg_R (ρ 83 33) ρ ρ' ∧ ∃ σ' : js_S, R = th_P E σ' (ρ' 83 9) ∧ ef_R b (σ (8 + b) 6) (σ (8 + b) 10) (σ (23 + b) 15) σ σ'
theorem xn_next {b F : Int} {B : Int → Int} {σ ρ σ' ρ' : js_S} {j j' : Nat} {n : Int} {e : tr_T} (h : xn_R b σ ρ j) {z : Int} (h2 : xz_R z b F B σ ρ j σ' ρ' j' n e) : xn_R b σ' ρ' j' := by
  obtain ⟨⟨_, a2, _, _, _, a6, a7⟩, ⟨x, x1, x2, x3, x4⟩, ⟨⟨_, _, _, c4⟩, ⟨c5, c6, c7, c8⟩, _⟩, ⟨_, _, ⟨t1, t2, t3⟩, _⟩⟩ := h2
  have hl := xt_ln_0 e
  unfold xn_R at h ⊢
  omega
def hg_R (σ : js_S) (b : Int) : Prop := ∀ s : Int, 0 ≤ s → s < σ (7 + b) 1 → 137 ≤ σ (19 + b) s
theorem hg_ef {b n t p : Int} {σ σ' : js_S} (hb : b = 0 ∨ b = 25) (h : hg_R σ b) (h1 : ef_R b n t p σ σ') : hg_R σ' b := fun s g1 g2 => by
  rw [h1 _ _ (by unfold ef_D; omega)] at g2
  rw [h1 _ _ (by unfold ef_D; omega)]
  exact h s g1 g2
theorem xs_hg {E : js_E} {b F : Int} {B : Int → Int} {X : Int → Prop} {σ ρ : js_S} (h : xs_R E b F B X σ ρ) : hg_R σ b := fun s g1 g2 => by
  rw [h.1.2.2.2.2.1] at g2
  exact js_sym_ge (h.1.2.2.2.2.2.1 s g1 g2).1
theorem xr_Y_op {N n q k ty lo hi a b c : Int} {l r : tr_T} (h : 0 ≤ ty ∧ ty < 1000 ∧ -2000000000 ≤ lo ∧ lo ≤ hi ∧ hi ≤ 2000000000) (h2 : ty_b ty lo hi) (h3 : N ≤ n) (h4 : q = -1) {z : Int} (h5 : xt_dp (tr_n k ty lo hi a b c l r) ≤ z) : xr_Y N n q z (tr_n k ty lo hi a b c l r) := ⟨h, h2, h3, h4, h5⟩
theorem xf_ef {E : js_E} {b : Int} {σ ρ σ1 ρ1 ρ' : js_S} {R : Option (Outcome × ip_W)} (h1 : ef_R b (σ (8 + b) 6) (σ (8 + b) 10) (σ (23 + b) 15) σ σ1) (h2 : eg_R (ρ 83 33) ρ ρ1) (hs : σ (8 + b) 6 ≤ σ1 (8 + b) 6) (ht : σ (8 + b) 10 ≤ σ1 (8 + b) 10) (hp : σ (23 + b) 15 ≤ σ1 (23 + b) 15) (hn : ρ 83 33 ≤ ρ1 83 33) (h : xf_P E b σ1 ρ1 ρ' R) : xf_P E b σ ρ ρ' R := by
  obtain ⟨f1, f2, σ', f3, f4⟩ := h
  exact ⟨f1, eg_R_trans h2 f2 hn, σ', f3, ef_R_trans h1 (ef_R_mono f4 hs ht hp)⟩
theorem xt_e_n {k ty lo hi a b c : Int} {l r : tr_T} (h1 : 1 ≤ k) (h2 : k ≤ 10) (h3 : -2000000000 ≤ lo ∧ lo ≤ hi ∧ hi ≤ 2000000000) (h4 : k = 9 → -2147483648 ≤ b ∧ b < 2147483648) (h5 : k = 4 → 6 ≤ c ∧ c ≤ 18) (h6 : k = 5 → 19 ≤ c ∧ c ≤ 21) : xt_e (tr_n k ty lo hi a b c l r) := ⟨h1, h2, ⟨⟨show -2147483648 ≤ lo by omega, show lo < 2147483648 by omega⟩, show -2147483648 ≤ hi by omega, show hi < 2147483648 by omega⟩, h4, h5, h6⟩
/-- two e and an operator with a TEMP -/
theorem xr_op {E : js_E} {b F : Int} {B : Int → Int} {X : Int → Prop} {σ0 ρ0 σ1 ρ1 σ2 σ4 ρ2 σ5 ρ5 σ7 σ8 ρ6 ρ7 : js_S} {j0 j1 j4 j5 : Nat} {n1 n2 : Int} {l r : tr_T} {op ty lo hi : Int} (hb : b = 0 ∨ b = 25) (hx : xs_R E b F B X σ0 ρ0) (hn : xn_R b σ0 ρ0 j0) {z z1 z2 : Int} (h1 : xz_R z1 b F B σ0 ρ0 j0 σ1 ρ1 j1 n1 l) (ht : σ0 (8 + b) 10 < 1024) (hk : kp_R b σ1 σ2 (σ1 (23 + b) 1) (σ1 (23 + b) 2)) (F24 : ef_R b (σ1 (8 + b) 6 + 1) (σ1 (8 + b) 10 + 1) (σ1 (23 + b) 15) σ2 σ4) (v : ∀ i : Int, 6 ≤ i → i ≤ 12 → σ4 (8 + b) i = σ2 (8 + b) i) (v15 : σ1 (23 + b) 15 ≤ σ4 (23 + b) 15) (G12 : eg_R (ρ1 83 33) ρ1 ρ2) (n33 : ρ2 83 33 = ρ1 83 33) (n44 : ρ2 83 44 = ρ1 83 44) (n10 : ρ2 83 10 = ρ1 83 10) (hj : j1 + 1 ≤ j4) (h2 : xz_R z2 b F B σ4 ρ2 j4 σ5 ρ5 j5 n2 r) (h7 : ∀ a i : Int, ¬ (a = 23 + b ∧ (0 ≤ i ∧ i ≤ 2 ∨ i = 15)) → σ7 a i = σ5 a i) (s0 : σ7 (23 + b) 0 = ty) (s1 : σ7 (23 + b) 1 = lo) (s2 : σ7 (23 + b) 2 = hi) (s15 : σ7 (23 + b) 15 = σ0 (23 + b) 15) (hc : cb_R b σ7 σ8 op lo hi) (h6 : ∀ a i : Int, ¬ (a = 83 ∧ (i = 42 ∨ i = 43)) → ρ6 a i = ρ5 a i) (hw : nw_R ρ6 ρ7 4 ty lo hi n1 n2 op) (hty : 0 ≤ ty ∧ ty < 1000 ∧ -2000000000 ≤ lo ∧ lo ≤ hi ∧ hi ≤ 2000000000) (hty2 : ty_b ty lo hi) (hzz : xt_dp l ≤ z ∧ 1 + xt_dp r ≤ z) (hop : 6 ≤ op ∧ op ≤ 18) : xz_R z b F B σ0 ρ0 j0 σ8 ρ7 j5 (ρ5 83 33) (tr_n 4 ty lo hi 0 0 op l r) := by
  have hg0 := xs_hg hx
  have r5 := h2.1.1
  have q1 := h1.1.2.1
  have q5 := h2.1.2.1
  have dp1 := h1.1.2.2.1
  have dp5 := h2.1.2.2.1
  have F01 := h1.1.2.2.2.1
  have F45 := h2.1.2.2.2.1
  have G01 := h1.1.2.2.2.2.1
  have G25 := h2.1.2.2.2.2.1
  have m1 := h1.1.2.2.2.2.2.1
  have m1' := h1.1.2.2.2.2.2.2
  have m5 := h2.1.2.2.2.2.2.1
  have m5' := h2.1.2.2.2.2.2.2
  have y1 := h1.2.2.1.1.2.1
  have y2 := h1.2.2.1.1.2.2.1
  have y15 := h1.2.2.1.1.2.2.2
  have c10 := h1.2.2.1.2.1.1
  have c6 := h1.2.2.1.2.1.2.1
  have d10 := h2.2.2.1.2.1.1
  have d6 := h2.2.2.1.2.1.2.1
  have k10 := hk.1.1
  have k17 := hk.1.2.2.1
  have k18 := hk.1.2.2.2
  have k6 := hk.2.1
  have kO := hk.2.2.2.2
  have b10 := hc.1
  have b6 := hc.2.1
  have bO := hc.2.2.2.2
  have ll := xt_ln_0 l
  have lr := xt_ln_0 r
  have F12 : ef_R b (σ1 (8 + b) 6) (σ1 (8 + b) 10) (σ1 (23 + b) 15) σ1 σ2 := ef_R_kp hk (Int.le_refl _) (Int.le_refl _)
  have v10 : σ4 (8 + b) 10 = σ0 (8 + b) 10 + 1 := by rw [v _ (by decide) (by decide), k10, c10]
  have v6 : σ4 (8 + b) 6 = σ0 (8 + b) 6 + xt_ln l + 1 := by rw [v _ (by decide) (by decide), k6, c6]
  have v8 : σ4 (8 + b) 8 = σ0 (8 + b) 8 := by rw [v _ (by decide) (by decide), kO _ _ (by omega) (by omega) (by omega), F01 _ _ (by unfold ef_D; omega)]
  have v12 : σ4 (8 + b) 12 = σ1 (8 + b) 12 := by rw [v _ (by decide) (by decide), kO _ _ (by omega) (by omega) (by omega)]
  have v17 : σ4 (17 + b) (σ0 (8 + b) 10) = xt_lo l := by rw [F24 _ _ (by unfold ef_D; omega), ← c10, k17, y1]
  have v18 : σ4 (18 + b) (σ0 (8 + b) 10) = xt_hi l := by rw [F24 _ _ (by unfold ef_D; omega), ← c10, k18, y2]
  have w : ∀ i : Int, σ7 (8 + b) i = σ5 (8 + b) i := fun i => h7 _ _ (by omega)
  have w10 : σ7 (8 + b) 10 = σ0 (8 + b) 10 + 1 := by rw [w, d10, v10]
  have w6 : σ7 (8 + b) 6 = σ0 (8 + b) 6 + xt_ln l + 1 + xt_ln r := by rw [w, d6, v6]
  have w8 : σ7 (8 + b) 8 = σ0 (8 + b) 8 := by rw [w, F45 _ _ (by unfold ef_D; omega), v8]
  have w17 : σ7 (17 + b) (σ0 (8 + b) 10) = xt_lo l := by rw [h7 _ _ (by omega), F45 _ _ (by unfold ef_D; omega), v17]
  have w18 : σ7 (18 + b) (σ0 (8 + b) 10) = xt_hi l := by rw [h7 _ _ (by omega), F45 _ _ (by unfold ef_D; omega), v18]
  have F57 : ∀ n t p : Int, ef_R b n t p σ5 σ7 := fun n t p a i g => h7 a i (fun hh => g (ef_D23 ⟨hh.1, by omega⟩))
  have F78 : ef_R b (σ7 (8 + b) 6) (σ0 (8 + b) 10) (σ0 (23 + b) 15) σ7 σ8 := ef_R_cb hc (Int.le_refl _)
  have F58 : ef_R b (σ0 (8 + b) 6 + xt_ln l + 1 + xt_ln r) (σ0 (8 + b) 10) (σ0 (23 + b) 15) σ5 σ8 := ef_R_trans (F57 _ _ _) (ef_R_mono F78 (by omega) (by omega) (by omega))
  have F48 : ef_R b (σ0 (8 + b) 6 + xt_ln l + 1) (σ0 (8 + b) 10) (σ0 (23 + b) 15) σ4 σ8 := ef_R_trans (ef_R_mono F45 (by omega) (by omega) (by omega)) (ef_R_mono F58 (by omega) (by omega) (by omega))
  have F28 : ef_R b (σ0 (8 + b) 6 + xt_ln l + 1) (σ0 (8 + b) 10) (σ0 (23 + b) 15) σ2 σ8 := ef_R_trans (ef_R_mono F24 (by omega) (by omega) (by omega)) F48
  have F18 : ef_R b (σ0 (8 + b) 6 + xt_ln l) (σ0 (8 + b) 10) (σ0 (23 + b) 15) σ1 σ8 := ef_R_trans (ef_R_mono F12 (by omega) (by omega) (by omega)) (ef_R_mono F28 (by omega) (by omega) (by omega))
  have F08 : ef_R b (σ0 (8 + b) 6) (σ0 (8 + b) 10) (σ0 (23 + b) 15) σ0 σ8 := ef_R_trans F01 (ef_R_mono F18 (by omega) (by omega) (by omega))
  have hg1 := hg_ef hb hg0 F01
  have hg2 := hg_ef hb hg1 F12
  have hg4 := hg_ef hb hg2 F24
  have hg5 := hg_ef hb hg4 F45
  -- the reference
  have u33 : ρ6 83 33 = ρ5 83 33 := h6 _ _ (by omega)
  have G56 : eg_R (ρ5 83 33) ρ5 ρ6 := fun a i g1 g2 => h6 a i (by omega)
  have G67 : eg_R (ρ5 83 33) ρ6 ρ7 := by
    have := eg_R_nw hw
    rw [u33] at this
    exact this
  have G57 : eg_R (ρ5 83 33) ρ5 ρ7 := eg_R_trans G56 G67 (Int.le_refl _)
  have G17 : eg_R (ρ1 83 33) ρ1 ρ7 := eg_R_trans (eg_R_trans G12 G25 (by omega)) G57 (by omega)
  have G07 : eg_R (ρ0 83 33) ρ0 ρ7 := eg_R_trans G01 G17 (by omega)
  obtain ⟨hw1, ⟨hw2, hw3, hw4, hw5⟩, hw6, hw7, hw8, hw9, hwO⟩ := hw
  rw [u33] at hw1 hw2 hw3 hw4 hw5 hw6 hw7 hw8 hw9
  have R8 : rd_R σ8 ρ7 j5 := rd_R_of r5 (fun i hi => by rw [bO _ _ (by omega) (by omega), h7 _ _ (by omega)]) (fun a i g1 g2 => by rw [bO _ _ (by omega) (by omega), h7 _ _ (by omega)]) (fun i g1 g2 => by rw [hwO _ _ (by omega) (by omega), h6 _ _ (by omega)]) (fun i => by rw [hwO _ _ (by omega) (by omega), h6 _ _ (by omega)])
  have n0 : 0 ≤ ρ0 83 33 := hn.2.2.2.2.1.1
  have cn1 := h1.2.2.2.2.2.1.2.1
  have cn5 := h2.2.2.2.2.2.1.2.1
  refine ⟨⟨R8, by omega, ?_, F08, G07, by omega, by omega⟩, ?_, ⟨⟨?_, ?_, ?_, ?_⟩, ⟨?_, ?_, ?_, ?_⟩, fun hs => ?_⟩, ⟨?_, ⟨?_, ?_, ?_⟩, ⟨?_, ?_, ?_⟩, xr_Y_op hty hty2 (by omega) hw9 (xt_dz (x := max (xt_dp l) (1 + xt_dp r)) rfl (by omega))⟩⟩
  · rw [hwO _ _ (by omega) (by omega), h6 _ _ (by omega), dp5, n10, dp1]
  · have e1 : ρ7 83 44 = ρ5 83 44 := by rw [hwO _ _ (by omega) (by omega), h6 _ _ (by omega)]
    have e2 : σ8 (8 + b) 12 = σ5 (8 + b) 12 := by rw [bO _ _ (by omega) (by omega), w]
    obtain ⟨x1, x1a, x1b, x1c, x1d⟩ := h1.2.1
    obtain ⟨x2, x2a, x2b, x2c, x2d⟩ := h2.2.1
    refine ⟨max x1 x2, by omega, by omega, ?_, ?_⟩
    · rw [e1, x2c, n44, x1c]
      omega
    · rw [e2, x2d, v12, x1d]
      omega
  · rw [bO _ _ (by omega) (by omega)]
    exact s0
  · rw [bO _ _ (by omega) (by omega)]
    exact s1
  · rw [bO _ _ (by omega) (by omega)]
    exact s2
  · rw [bO _ _ (by omega) (by omega)]
    exact s15
  · rw [b10, w10]
    omega
  · rw [b6, w6, xt_ln4]
    omega
  · rw [hc.2.2.1, w, h2.2.2.1.2.1.2.2.1, v _ (by decide) (by decide), hk.2.2.1, h1.2.2.1.2.1.2.2.1, xt_cn4]
    omega
  · have e2 : σ8 (8 + b) 11 = σ5 (8 + b) 11 := by rw [bO _ _ (by omega) (by omega), w]
    rw [e2, h2.2.2.1.2.1.2.2.2, v10, v _ (by decide) (by decide), hk.1.2.1, h1.2.2.1.2.1.2.2.2, c10, xt_mt4]
    omega
  · rw [xt_cd4]
    rw [b6] at hs
    obtain ⟨i1, i2, i3⟩ := hc.2.2.2.1 hs
    have e10 : σ7 (8 + b) 10 - 1 = σ0 (8 + b) 10 := by omega
    rw [e10, w17, w18, w8, w6] at i2
    rw [w8, w6] at i1 i3
    have e8 : σ1 (8 + b) 8 = σ0 (8 + b) 8 := F01 _ _ (by unfold ef_D; omega)
    refine ⟨xt_cd_ef hb F18 hg1 (Int.le_refl _) (h1.2.2.1.2.2 (by omega)), ?_, ?_, i1, i2, i3⟩
    · have k := hk.2.2.2.1 (by omega)
      rw [e8, c6, c10] at k
      exact ci_ef hb F28 hg2 (by omega) k
    · have k := h2.2.2.1.2.2 (by omega)
      rw [v8, v10, v6] at k
      exact xt_cd_ef hb F58 hg5 (by omega) k
  · rw [xt_nd4, hw2, hw3, hw4, hw5, hw6, hw7, hw8]
    have a1 := xt_nd_eg (M' := ρ0 83 33) (N' := ρ5 83 33) h1.2.2.2.1 G17 (by omega)
    have a2 := xt_nd_eg (M' := ρ0 83 33) (N' := ρ5 83 33) h2.2.2.2.1 G57 (Int.le_refl _)
    exact ⟨⟨by omega, by omega, rfl, rfl, rfl, rfl⟩, a1, a2, rfl⟩
  · exact xt_e_n (by decide) (by decide) hty.2.2 (fun hh => absurd hh (by decide)) (fun _ => hop) (fun hh => absurd hh (by decide))
  · rw [xt_w4]
    exact ⟨h1.2.2.2.2.1.1, h1.2.2.2.2.1.2.1, h2.2.2.2.2.1.1, h2.2.2.2.2.1.2.1⟩
  · unfold xt_G
    rw [xt_g4]
    have e1 : ρ7 83 44 = ρ5 83 44 := by rw [hwO _ _ (by omega) (by omega), h6 _ _ (by omega)]
    have e2 := xr_L_up h2.2.1
    exact ⟨xt_G_eg h1.2.2.2.2.1.2.2 G17 (by omega), xt_G_eg h2.2.2.2.2.1.2.2 G57 (by omega)⟩
  · rw [xt_ln4]
    have a1 := h1.2.2.2.2.2.1.1
    have a2 := h2.2.2.2.2.2.1.1
    push_cast at a1 a2 ⊢
    omega
  · rw [xt_cn4]
    omega
  · rw [xt_mt4]
    have a1 := h1.2.2.2.2.2.1.2.2
    have a2 := h2.2.2.2.2.2.1.2.2
    rw [v10] at a2
    omega
