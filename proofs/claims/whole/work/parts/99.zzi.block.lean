/-! part 99.zzi: what is hidden; BLOCKs in step -/
/-- a BLOCK was read by both (dd: how much less deep both are) -/
def bl_R (E : js_E) (b F : Int) (B U : Int → Int) (X : Int → Prop) (dd : Int) (σ ρ : js_S) (j : Nat) (σ' ρ' : js_S) (j' : Nat) (m : Int) (r : tr_T) : Prop := (rd_R σ' ρ' j' ∧ j < j' ∧ ρ' 83 10 = ρ 83 10 - dd ∧ sf_R b (σ (8 + b) 6) (σ (8 + b) 10) (σ (23 + b) 15) (ρ 83 11) σ σ' ∧ sg_R (ρ 83 33) (ρ 83 11) ρ ρ' ∧ ρ 83 33 ≤ ρ' 83 33 ∧ ρ' 83 33 + j + 1 ≤ ρ 83 33 + j' ∧ ρ 83 11 ≤ ρ' 83 11) ∧ xr_L b σ ρ σ' ρ' ∧ ls_C b B σ σ' r ∧ ls_T B F (σ (8 + b) 10) ((j' : Int) - j - 1) (ρ 83 33) (-1) (zz_b b σ ρ + 5 + 6 * dd) ρ' m r ∧ ux_R E b F B U X σ' ρ'
theorem xn_nextb {E : js_E} {b F dd : Int} {B U : Int → Int} {X : Int → Prop} {σ ρ σ' ρ' : js_S} {j j' : Nat} {n : Int} {s : tr_T} (h : xn_R b σ ρ j) (h2 : bl_R E b F B U X dd σ ρ j σ' ρ' j' n s) : xn_R b σ' ρ' j' := by
  obtain ⟨⟨_, a2, _, _, _, a6, a7, _⟩, ⟨x, x1, x2, x3, x4⟩, ⟨⟨c4, c5, c6, c7, c8⟩, _⟩, ⟨_, _, ⟨t1, t2, t3⟩, _⟩, _⟩ := h2
  have hl := st_ln_0 s
  unfold xn_R at h ⊢
  omega
theorem sF_more {E : js_E} {b : Int} {σ ρ ρa ρ' : js_S} {R : Option (Outcome × ip_W)} (h : sF_P E b σ ρ ρa R) (h2 : ∀ a i : Int, ¬ (a = 83 ∧ i = 10) → a ≠ 99 → ρ' a i = ρa a i) : sF_P E b σ ρ ρ' R := by
  obtain ⟨a1, a2, a3, a4, σ', a5, a6⟩ := h
  have e11 := h2 83 11 (by omega) (by omega)
  have e9 := h2 83 9 (by omega) (by omega)
  have e5 := h2 83 5 (by omega) (by omega)
  refine ⟨rf_R_trans a1 (fun a i g1 g2 => h2 a i (by omega) (by omega)), ?_, by omega, by omega, σ', by rw [e9]; exact a5, a6⟩
  unfold rx_F at a2 ⊢
  rw [e9, e5]
  exact a2
section SE
variable {E : js_E} {d e : Nat} {b F : Int} {B U : Int → Int} {X : Int → Prop} {σ ρ : js_S} {j : Nat}
theorem r_hide {x1 : Int} : ∀ (n : Nat) (ρ : js_S) (x2 : Int), (n : Int) = ρ 83 11 - x2 → 0 ≤ x2 → ρ 83 11 ≤ 400 → ∃ ρ' : js_S, js_J E e 240 2 [(2, 83), (0, x1), (0, x2)] [] ρ = js_r0 E ρ' ∧ (∀ i : Int, x2 ≤ i → i < ρ 83 11 → ρ' 99 i = 0) ∧ (∀ a i : Int, ¬ (a = 99 ∧ x2 ≤ i ∧ i < ρ 83 11) → ρ' a i = ρ a i)
  | 0, ρ, x2, h, h0, h4 => by
    refine ⟨ρ, ?_, fun i g1 g2 => by omega, fun _ _ _ => rfl⟩
    rw [b_240_2, js_w_of (x := x2) (by omega) (by omega), js_w_of (x := ρ 83 11) (by omega) (by omega), if_neg (by omega)]
  | n + 1, ρ, x2, h, h0, h4 => by
    have j0 : js_iand 0 1 = 0 := by decide
    have hx : x2 < ρ 83 11 := by push_cast at h; omega
    have e11 : js_up ρ 99 x2 0 83 11 = ρ 83 11 := js_up_na _ (by decide)
    obtain ⟨ρ', e1, a1, a2⟩ := r_hide (x1 := x1) n (js_up ρ 99 x2 0) (x2 + 1) (by rw [e11]; push_cast at h; omega) (by omega) (by rw [e11]; exact h4)
    rw [e11] at a1 a2
    refine ⟨ρ', ?_, fun i g1 g2 => ?_, fun a i g => ?_⟩
    · rw [b_240_2, js_w_of (x := x2) (by omega) (by omega), js_w_of (x := ρ 83 11) (by omega) (by omega), if_pos hx, if_pos (show 0 ≤ x2 ∧ x2 < 400 by omega), j0, e1]
    · by_cases q : i = x2
      · rw [q, a2 _ _ (by omega), js_up_same]
      · exact a1 i (by omega) g2
    · rw [a2 _ _ (by omega), js_up_ne _ (by omega)]
theorem r_hide0 {f : Int} (h0 : 0 ≤ f) (h1 : f ≤ ρ 83 11) (h4 : ρ 83 11 ≤ 400) : ∃ ρ' : js_S, js_J E e 240 0 [(2, 83), (0, f), (9, 0)] [] ρ = js_r0 E ρ' ∧ (∀ i : Int, f ≤ i → i < ρ 83 11 → ρ' 99 i = 0) ∧ (∀ a i : Int, ¬ (a = 99 ∧ f ≤ i ∧ i < ρ 83 11) → ρ' a i = ρ a i) := by
  rw [b_240_0]
  exact r_hide (x1 := f) (ρ 83 11 - f).toNat ρ f (by omega) h0 h4
theorem c_hide {x1 : Int} (hb : b = 0 ∨ b = 25) (hd : 2 ≤ d) : ∀ (n : Nat) (σ : js_S) (x2 : Int) (ux3 : js_v), (n : Int) = σ (7 + b) 1 - x2 → 0 ≤ x2 → σ (7 + b) 1 ≤ 400 → (∀ i : Int, 0 ≤ i → i < σ (7 + b) 1 → js_desc E.1 σ (σ (19 + b) i) = some (0, 11, js_sym)) → ∃ σ' : js_S, js_J E d 110 6 [(2, 7 + b), (0, x1), (0, x2), ux3] [] σ = js_r0 E σ' ∧ (∀ i : Int, x2 ≤ i → i < σ (7 + b) 1 → σ' (σ (19 + b) i) 13 = 0) ∧ (∀ a k : Int, (k ≠ 13 ∨ ∀ i : Int, x2 ≤ i → i < σ (7 + b) 1 → σ (19 + b) i ≠ a) → σ' a k = σ a k)
  | 0, σ, x2, ux3, h, h0, h4, hs => by
    refine ⟨σ, ?_, fun i g1 g2 => by omega, fun _ _ _ => rfl⟩
    rw [b_110_6 hb, js_w_of (x := x2) (by omega) (by omega), js_w_of (x := σ (7 + b) 1) (by omega) (by omega), if_neg (by omega)]
  | n + 1, σ, x2, ux3, h, h0, h4, hs => by
    have hx : x2 < σ (7 + b) 1 := by push_cast at h; omega
    have hd2 := hs x2 h0 hx
    have ge := js_sym_ge hd2
    have u : ∀ a k : Int, ¬ (a = σ (19 + b) x2 ∧ k = 13) → js_up σ (σ (19 + b) x2) 13 0 a k = σ a k := fun a k g => js_up_ne _ g
    have e7 : js_up σ (σ (19 + b) x2) 13 0 (7 + b) 1 = σ (7 + b) 1 := u _ _ (by omega)
    have e19 : ∀ i : Int, js_up σ (σ (19 + b) x2) 13 0 (19 + b) i = σ (19 + b) i := fun i => u _ _ (by omega)
    obtain ⟨σ', e1, a1, a2⟩ := c_hide (x1 := x1) hb hd n (js_up σ (σ (19 + b) x2) 13 0) (x2 + 1) (2, σ (19 + b) x2) (by rw [e7]; push_cast at h; omega) (by omega) (by rw [e7]; exact h4) (fun i g1 g2 => by
      rw [e7] at g2
      rw [e19]
      exact js_desc_mono (hs i g1 g2) (by rw [u _ _ (by omega)]; exact Int.le_refl _) (fun _ => u _ _ (by omega)))
    rw [e7] at a1 a2
    refine ⟨σ', ?_, fun i g1 g2 => ?_, fun a k g => ?_⟩
    · rw [b_110_6 hb, js_w_of (x := x2) (by omega) (by omega), js_w_of (x := σ (7 + b) 1) (by omega) (by omega), if_pos hx, k_110_16 hb (by omega) (c_symAt hb h0 hx h4), b_110_19, if_neg (show ¬ σ (19 + b) x2 < 0 by omega), b_110_24 hd2, b_110_29, e1]
    · by_cases q : ∃ i' : Int, x2 + 1 ≤ i' ∧ i' < σ (7 + b) 1 ∧ σ (19 + b) i' = σ (19 + b) i
      · obtain ⟨i', q1, q2, q3⟩ := q
        have := a1 i' q1 q2
        rw [e19, q3] at this
        exact this
      · have qi : i = x2 := by
          by_cases g : i = x2
          · exact g
          · exact absurd ⟨i, by omega, g2, rfl⟩ q
        rw [a2 _ _ (Or.inr (fun i' q1 q2 q3 => q ⟨i', q1, q2, by rw [e19] at q3; exact q3⟩)), qi, js_up_same]
    · rw [a2 a k (g.imp id (fun g i g1 g2 => by rw [e19]; exact g i (by omega) g2))]
      refine u _ _ (fun hh => ?_)
      rcases g with g | g
      · exact g hh.2
      · exact g x2 (Int.le_refl _) hx hh.1.symm
/-- symbols from f on are hidden in both -/
theorem ux_hide {σ' ρ' : js_S} {f : Int} (hb : b = 0 ∨ b = 25) (hx : ux_R E b F B U X σ ρ) (hf : 0 ≤ f) (c1 : ∀ i : Int, f ≤ i → i < σ (7 + b) 1 → σ' (σ (19 + b) i) 13 = 0) (c2 : ∀ a k : Int, (k ≠ 13 ∨ ∀ i : Int, f ≤ i → i < σ (7 + b) 1 → σ (19 + b) i ≠ a) → σ' a k = σ a k) (r1 : ∀ i : Int, f ≤ i → i < ρ 83 11 → ρ' 99 i = 0) (r2 : ∀ a i : Int, ¬ (a = 99 ∧ f ≤ i ∧ i < ρ 83 11) → ρ' a i = ρ a i) : ux_R E b F B U X σ' ρ' := by
  obtain ⟨⟨hY, hk, hgs, hun, hBB, h26, hst⟩, hpl, hXb⟩ := hx
  have told : σ (7 + b) 1 = ρ 83 11 := hY.2.2.2.2.1
  have ge : ∀ i : Int, 0 ≤ i → i < ρ 83 11 → 137 ≤ σ (19 + b) i := fun i g1 g2 => js_sym_ge (hY.2.2.2.2.2.1 i g1 g2).1
  have e11 : ρ' 83 11 = ρ 83 11 := r2 _ _ (by omega)
  have z : ∀ a i : Int, a ≠ 99 → ρ' a i = ρ a i := fun a i g => r2 _ _ (by omega)
  have w : ∀ a k : Int, k ≠ 13 → σ' a k = σ a k := fun a k g => c2 a k (Or.inl g)
  have w13 : ∀ a : Int, a < 137 → σ' a 13 = σ a 13 := fun a g => c2 a 13 (Or.inr (fun i g1 g2 => by
    have := ge i (by omega) (by omega)
    omega))
  have lo : ∀ a k : Int, a < 137 → σ' a k = σ a k := fun a k g => by
    by_cases q : k = 13
    · rw [q]
      exact w13 a g
    · exact w a k q
  have v99 : ∀ i : Int, ρ' 99 i = 0 ∨ ρ' 99 i = ρ 99 i := fun i => by
    by_cases q : f ≤ i ∧ i < ρ 83 11
    · exact Or.inl (r1 i q.1 q.2)
    · exact Or.inr (r2 _ _ (by omega))
  have sid := sy_S_id ρ 0
  have sid' := sy_S_id ρ' 0
  have hY' : sy_Y E.1 σ' ρ' b 0 0 X := by
    refine sy_Y_gen hb hY (fun a i hh => ?_) e11 (fun a i hh => z a i (by omega)) (fun i g1 g2 => ?_) (rs_v_of hY.2.1 (fun i => z _ _ (by decide)) (fun i => z _ _ (by decide)) (fun i => z _ _ (by decide)) e11 (fun i => z _ _ (by decide)) (fun i => z _ _ (by decide))) (fun i g1 g2 => ?_) (fun i g1 g2 g3 => ?_)
    · by_cases q : i = 13
      · rw [q]
        refine w13 a (by omega)
      · exact w a i q
    · rcases v99 i with h | h
      · exact Or.inl h
      · rw [h]
        exact hY.1.2.2.2.2 i g1 g2
    · rw [sid']
      by_cases q : f ≤ i
      · rw [c1 i q (by omega), r1 i q g2]
      · have ne : ∀ i' : Int, f ≤ i' → i' < σ (7 + b) 1 → σ (19 + b) i' ≠ σ (19 + b) i := fun i' q1 q2 => sy_Y_ne hY (by omega) (by omega) g1 g2 (by omega)
        have h3 := (hY.2.2.2.2.2.1 i g1 g2).2.2.1
        rw [sid] at h3
        rw [c2 _ _ (Or.inr ne), h3, r2 _ _ (by omega)]
    · have := hY.2.2.2.2.2.2 i g1 g2 g3
      unfold sy_F at this ⊢
      rw [lo (19 + b) i (by omega), w _ 1 (by decide), w _ 2 (by decide), w _ 3 (by decide), w _ 4 (by decide), w _ 6 (by decide), w _ 7 (by decide), w _ 8 (by decide), w _ 10 (by decide), w _ 12 (by decide), z 86 i (by decide), z 87 i (by decide), z 88 i (by decide), z 89 i (by decide), z 91 i (by decide), z 92 i (by decide), z 93 i (by decide), z 94 i (by decide), z 96 i (by decide)]
      exact this
  refine ⟨⟨hY', ⟨Or.inl rfl, fun i hi => ?_, fun i g1 g2 g3 g4 => ?_⟩, fun i g1 g2 g3 => ?_, fun i g1 g2 => ?_, fun i g1 g2 g3 g4 => ?_, ?_, ?_⟩, ⟨fun i g1 g2 g3 g4 => ?_, ?_, ?_, ?_, hpl.2.2.2.2.1, vw_of hpl.2.2.2.2.2 e11 (fun a i g1 g2 => z a i (by omega))⟩, fun i hi => ?_⟩
  · have := hk.2.1 i hi
    rw [sid] at this
    rw [sid']
    rcases v99 i with h | h
    · omega
    · omega
  · rw [e11] at g2
    rw [z _ _ (by decide)] at g4
    rw [z _ _ (by decide), z _ _ (by decide), z _ _ (by decide)]
    exact hk.2.2 i g1 g2 g3 g4
  · rw [e11] at g2
    obtain ⟨a1, a2, a3, a4, a5, a6⟩ := hgs i g1 g2 g3
    unfold gs_P
    simp only [z 86 _ (by decide), z 87 i (by decide), z 88 i (by decide), z 89 i (by decide), z 91 i (by decide), z 92 i (by decide), z 93 i (by decide), z 96 i (by decide), z 83 11 (by decide), z 83 26 (by decide)]
    refine ⟨a1, a2, a3, fun h1 h2 => ?_, a5, a6⟩
    rcases v99 i with h | h
    · omega
    · exact a4 h1 (by rw [← h]; exact h2)
  · rw [e11] at g2
    have q2 := hun i g1 g2
    rw [lo (19 + b) i (by omega), w _ 11 (by decide)]
    exact ⟨q2.1, q2.2.1, u9_of q2.2.2 (z _ _ (by decide)) (by rw [lo (19 + b) i (by omega), w _ 9 (by decide)])⟩
  · rw [e11] at g2
    rw [z _ _ (by decide)] at g4
    rw [lo (19 + b) i (by omega), w _ 9 (by decide)]
    exact hBB i g1 g2 g3 g4
  · rw [z _ _ (by decide)]
    exact h26
  · rw [lo _ _ (by omega)]
    exact hst
  · rw [e11] at g2
    rw [z _ _ (by decide)] at g4
    rw [lo (19 + b) i (by omega), w _ 5 (by decide), w _ 11 (by decide), z 93 i (by decide), lo_c_eq (ρ := ρ) i.toNat (fun a k h1 h2 h3 h4 => z a k (by omega))]
    exact hpl.1 i g1 g2 g3 g4
  · rw [lo _ _ (by omega), e11, lo_c_eq (ρ := ρ) (ρ 83 11).toNat (fun a k h1 h2 h3 h4 => z a k (by omega))]
    exact hpl.2.1
  · rw [lo _ _ (by omega)]
    exact hpl.2.2.1
  · rw [lo _ _ (by omega)]
    exact hpl.2.2.2.1
  · rw [e11]
    exact hXb i hi
/-- from { on -/
theorem y_blkin {J0 : Nat} {f : Int} (hb : b = 0 ∨ b = 25) (hS : sa_P E b F B U X J0) (hJ : J0 ≤ j) (hx : ux_R E b F B U X σ ρ) (hn : xn_R b σ ρ j) (hR : rd_R σ ρ j) (hD : 1 ≤ ρ 83 10) (ht : σ (8 + b) 10 ≤ 2 * ρ 83 10) (hp : σ (23 + b) 15 ≤ 6 * ρ 83 10) (hd : 4 * (65 - ρ 83 10) + 33 ≤ (d : Int)) (he : 12 * (65 - ρ 83 10) + 35 ≤ (e : Int)) (hf : 0 ≤ f ∧ f ≤ ρ 83 11) : (∃ (σ' ρa ρb ρ' : js_S) (j' : Nat) (m : Int) (r : tr_T), js_J E e 212 0 [(2, 83), (9, 0), (9, 0), (9, 0)] [] ρ = js_r E (0, m) ρa ∧ js_J E e 211 0 [(2, 83), (0, 125)] [] ρa = js_r0 E ρb ∧ js_J E e 240 0 [(2, 83), (0, f), (9, 0)] [] ρb = js_r0 E ρ' ∧ js_J E d 55 11 [(2, 22 + b), (0, f), (2, -1), (0, 0)] [] σ = js_r0 E σ' ∧ bl_R E b F B U X 1 σ ρ j σ' ρ' j' m r) ∨ (∃ (ρa ρb ρ' : js_S) (v : Int), js_J E e 212 0 [(2, 83), (9, 0), (9, 0), (9, 0)] [] ρ = js_r E (0, v) ρa ∧ js_J E e 211 0 [(2, 83), (0, 125)] [] ρa = js_r0 E ρb ∧ js_J E e 240 0 [(2, 83), (0, f), (9, 0)] [] ρb = js_r0 E ρ' ∧ sF_P E b σ ρ ρ' (js_J E d 55 11 [(2, 22 + b), (0, f), (2, -1), (0, 0)] [] σ)) := by
  have D1 := hR.2.2.2.2.2
  have hj := rd_j hR
  have n0 := hn.2.2.2.2.1
  rw [b_212_0]
  rcases y_list (x1 := f) (x2 := -1) hb hS 8200 σ ρ j 0 (-1) (-1) (9, 0) (by omega) hJ hx hn hR hD ht hp hd he (by decide) (by omega) (by decide) (by omega) (fun _ => rfl) (fun h => absurd h (by decide)) with ⟨σ1, ρ1, j1, m, k', r, ec, er, h5, hk', hl⟩ | ⟨ρa, v, er, hfa⟩
  · rw [if_pos (show (-1 : Int) < 0 by decide)] at er
    obtain ⟨⟨r1, q1, dp1, F01, H01, m1, m1', k1⟩, hL, hC, hT, hu⟩ := hl
    have hj1 := rd_j r1
    have ok1 := r1.2.2.1
    have h400 := hu.1.1.1.2.1
    obtain ⟨hV, c7, c8⟩ := rd_V r1
    have sg1 : sg_R (ρ 83 33) (ρ 83 11) ρ ρ1 := sg_R_sh H01 (by decide)
    have wk : js_w k' = k' := js_w_of (by omega) (by omega)
    have t125 : tk_m 125 = 125 := by decide
    by_cases q : ρ1 83 5 = 125
    · have w1 : js_w (σ1 1 1) = 125 := by rw [c7, q]; decide
      have cls : js_J E d 55 11 [(2, 22 + b), (0, f), (2, -1), (0, k')] [] σ1 = js_J E d 55 111 [(2, 22 + b), (0, f), (2, -1), (0, k')] [(0, 125), (2, 1)] σ1 := by
        rw [b_55_11 hb, wk, if_pos (show k' < 1000000 by omega), w1, if_pos (show (125 : Int) = 125 from rfl), b_55_56, if_pos (show (-1 : Int) < 0 by decide), b_55_105 hb]
      obtain ⟨ρ2, e2, og2, hor⟩ := y_close (E := E) (d := d - 1) (e := e) (k := 125) hu.1.1.2.2.1 r1 (by omega) (by omega) (by unfold tk_V; omega) (by decide) (by omega)
      rw [t125] at hor
      have x11 : ρ2 83 11 = ρ1 83 11 := og2 _ _ (by omega)
      obtain ⟨ρ3, e3, h31, h32⟩ := r_hide0 (E := E) (e := e) (ρ := ρ2) (f := f) hf.1 (by omega) (by omega)
      rcases hor with ⟨σ2, j2, c2, hR2, o2, hj2, hD2⟩ | ⟨hF2, c2⟩
      · subst hj2
        have hu2 : ux_R E b F B U X σ2 ρ2 := ux_ef (n := 0) (t := 0) (p := 0) (N := 0) hb hu (ef_R_of o2) (eg_R_og og2)
        have told2 : σ2 (7 + b) 1 = ρ2 83 11 := hu2.1.1.2.2.2.2.1
        obtain ⟨σ3, c3, c31, c32⟩ := c_hide (E := E) (d := d - 1) (x1 := f) hb (by omega) (σ2 (7 + b) 1 - f).toNat σ2 f (9, 0) (by omega) hf.1 (by omega) (fun i g1 g2 => (hu2.1.1.2.2.2.2.2.1 i g1 (by omega)).1)
        have c30 : js_J E (d - 1) 110 0 [(2, 7 + b), (0, f), (9, 0), (9, 0)] [] σ2 = js_r0 E σ3 := by
          rw [b_110_0 (by omega)]
          have ef : (if js_w 0 < js_w f then f else 0) = f := by
            rw [js_w_of (x := f) (by omega) (by omega)]
            by_cases g : (0 : Int) < f
            · rw [if_pos (show js_w 0 < f from g)]
            · rw [if_neg (show ¬ js_w 0 < f from g)]
              omega
          rw [ef, c3]
        have hu3 : ux_R E b F B U X σ3 ρ3 := ux_hide hb hu2 hf.1 c31 c32 h31 h32
        have ge2 : ∀ i : Int, 0 ≤ i → i < ρ2 83 11 → 137 ≤ σ2 (19 + b) i := xs_ge hu2.1
        have lo : ∀ a k : Int, a < 137 → σ3 a k = σ2 a k := fun a k g => c32 a k (Or.inr (fun i g1 g2 => by
          have := ge2 i (by omega) (by omega)
          omega))
        have sf3 : ∀ n t p mm : Int, sf_R b n t p mm σ2 σ3 := fun n t p mm => by
          refine ⟨fr_R_of hb (fun a i g1 g2 g3 g4 => ?_), fun a i g1 g2 _ => lo _ _ (by omega), fun i g1 g2 => ⟨lo _ _ (by omega), fun k hk => c32 _ _ (Or.inl hk)⟩, by rw [lo _ _ (by omega)]; exact Int.le_refl _⟩
          refine c32 a i (Or.inr (fun i' q1 q2 hh => ?_))
          have h4 : σ2 (7 + b) 1 ≤ 400 := by omega
          have g5 := ge2 i' (by omega) (by omega)
          rcases g4 i' (by omega) (by omega) with h | h
          · omega
          · exact h hh
        have F12 : sf_R b (σ1 (8 + b) 6) (σ1 (8 + b) 10) (σ1 (23 + b) 15) (ρ1 83 11) σ1 σ2 := sf_R_ef hb (xs_ge hu.1) (ef_R_of o2)
        have F13 : sf_R b (σ1 (8 + b) 6) (σ1 (8 + b) 10) (σ1 (23 + b) 15) (ρ1 83 11) σ1 σ3 := sf_R_trans F12 (sf3 _ _ _ _) (Int.le_refl _) (Int.le_refl _) (Int.le_refl _) (Int.le_refl _)
        have v : ∀ k : Int, σ3 (8 + b) k = σ1 (8 + b) k := fun k => by rw [lo _ _ (by omega), o2 _ _ (by omega) (by omega)]
        have v15 : σ3 (23 + b) 15 = σ1 (23 + b) 15 := by rw [lo _ _ (by omega), o2 _ _ (by omega) (by omega)]
        have told1 : σ1 (7 + b) 1 = ρ1 83 11 := hu.1.1.2.2.2.2.1
        have z : ∀ a i : Int, a ≠ 99 → ¬ (a = 83 ∧ 5 ≤ i ∧ i ≤ 10) → ρ3 a i = ρ1 a i := fun a i g1 g2 => by rw [h32 _ _ (by omega), og2 _ _ g2]
        have c6 := hC.1.2.2.1
        have c10 := hC.1.2.1
        have c15 := hC.1.1
        have lr := st_ln_0 r
        refine Or.inl ⟨σ3, ρ1, ρ2, ρ3, j1 + 1, m, r, er, e2, e3, ?_, ⟨rd_R_of hR2 (fun i _ => lo _ _ (by omega)) (fun a i _ _ => lo _ _ (by omega)) (fun i _ _ => h32 _ _ (by omega)) (fun i => h32 _ _ (by omega)), by omega, ?_, sf_R_trans F01 F13 (by omega) (by omega) (by omega) k1, fun a i g1 g2 g3 g4 g5 => ?_, ?_, ?_, ?_⟩, ?_, ⟨⟨?_, ?_, ?_, ?_, ?_⟩, fun hs => ?_⟩, ⟨?_, ⟨hT.2.1.1, hT.2.1.2.1, ?_⟩, ⟨?_, hT.2.2.1.2.1, hT.2.2.1.2.2⟩, fun h => absurd h (by decide), Int.le_trans hT.2.2.2.2 (by omega)⟩, hu3⟩
        · rw [ec, cls, k_55_111 (by omega) c2, b_55_114 hb, k_55_119 hb (by omega) c30, b_55_122]
        · rw [h32 _ _ (by omega), hD2, dp1]
        · rw [z _ _ g5 (by omega)]
          exact sg1 a i g1 g2 g3 g4 g5
        · rw [z _ _ (by decide) (by omega)]
          exact m1
        · rw [z _ _ (by decide) (by omega)]
          push_cast
          omega
        · rw [z _ _ (by decide) (by omega)]
          exact k1
        · obtain ⟨x, y1, y2, y3, y4⟩ := hL
          exact ⟨x, y1, y2, by rw [z _ _ (by decide) (by omega), y3], by rw [v, y4]⟩
        · rw [v15, c15]
        · rw [v, c10]
        · rw [v, c6]
        · rw [v, hC.1.2.2.2.1]
        · rw [v, hC.1.2.2.2.2]
        · rw [v] at hs
          have F13' : sf_R b (σ1 (8 + b) 6) (σ1 (8 + b) 10) (σ1 (23 + b) 15) (σ1 (7 + b) 1) σ1 σ3 := by rw [told1]; exact F13
          exact st_cd_sf hb F13' (by omega) (hC.2 hs)
        · rw [z 83 33 (by decide) (by omega)]
          exact st_nd_of r _ _ _ _ _ _ (Int.le_refl _) (Int.le_refl _) (fun a i g1 g2 _ _ => z _ _ (by omega) (by omega)) (fun i _ _ _ => z _ _ (by omega) (by omega)) hT.1
        · exact st_G_of hT.2.1.2.2 (by rw [z _ _ (by decide) (by omega)]; exact Int.le_refl _) (fun a i g1 g2 _ _ => z _ _ (by omega) (by omega)) (by rw [z _ _ (by decide) (by omega)]; exact Int.le_refl _)
        · have b1 := hT.2.2.1.1
          push_cast
          omega
      · rw [kt_55_111 (by omega) c2] at cls
        refine Or.inr ⟨ρ1, ρ2, ρ3, m, er, e2, e3, ?_⟩
        rw [ec, cls]
        have f0 : sF_P E b σ1 ρ1 ρ2 (th_P E σ1 (ρ2 83 9)) := ⟨fun a i g1 g2 => og2 a i (by omega), hF2, by have := hu.1.1.1.1; omega, by omega, σ1, rfl, fr_R_refl _ _, hu.1.1.2.2.2.1, hu.1.1.2.2.1⟩
        exact sF_up F01.1 (rf_R_sg sg1) (sF_more f0 (fun a i g1 g2 => h32 a i (by omega)))
    · have q3 : ρ1 83 5 = 313 := h5.resolve_left q
      have w1 : js_w (σ1 1 1) = 213 := by rw [c7, q3]; decide
      have c1 : σ1 1 1 = 213 := by rw [c7, q3]; decide
      have hF := rx_bad1 ok1 (k := 1) (by decide) (by decide)
      have lv := r_leave (E := E) (d := e) (k := 125) ok1 (by omega) (by decide) (by decide)
      rw [if_neg q] at lv
      have c56 : js_J E (d - 1) 56 0 [(2, 22 + b), (9, 0), (9, 0)] [] σ1 = th_P E σ1 (1 + 16 * ρ1 83 6) := by
        rw [b_56_0 hb, c1, s_56_7_d (by decide), b_56_184 hb, kt_56_196 (by omega) (c_fail hu.1.1.2.2.1 (by omega)), c8]
        rfl
      have x11 : js_up (rx_bad ρ1 1 (ρ1 83 6)) 83 10 (ρ1 83 10 - 1) 83 11 = ρ1 83 11 := by rw [js_up_ni _ (by decide), rx_bad_o _ _ _ (by omega)]
      obtain ⟨ρ3, e3, h31, h32⟩ := r_hide0 (E := E) (e := e) (ρ := js_up (rx_bad ρ1 1 (ρ1 83 6)) 83 10 (ρ1 83 10 - 1)) (f := f) hf.1 (by rw [x11]; omega) (by rw [x11]; omega)
      refine Or.inr ⟨ρ1, js_up (rx_bad ρ1 1 (ρ1 83 6)) 83 10 (ρ1 83 10 - 1), ρ3, m, er, lv, e3, ?_⟩
      rw [ec, b_55_11 hb, wk, if_pos (show k' < 1000000 by omega), w1, if_neg (show ¬ (213 : Int) = 125 by decide), if_pos (show (-1 : Int) < 0 by decide), b_55_46, kt_55_47 hb (by omega) c56]
      have f0 : sF_P E b σ1 ρ1 (rx_bad ρ1 1 (ρ1 83 6)) (th_P E σ1 (1 + 16 * ρ1 83 6)) := ⟨rf_R_tf (tf_R_bad _ _ _), hF.1, by rw [rx_bad_o _ _ _ (by omega)]; exact hu.1.1.1.1, by rw [rx_bad_o _ _ _ (by omega)]; omega, σ1, by rw [hF.2], fr_R_refl _ _, hu.1.1.2.2.2.1, hu.1.1.2.2.1⟩
      exact sF_up F01.1 (rf_R_sg sg1) (sF_more f0 (fun a i g1 g2 => by rw [h32 a i (by omega), js_up_ne _ (by omega)]))
  · have hF := hfa.2.1
    have hb1 := hfa.2.2.1
    have hb2 := hfa.2.2.2.1
    have x11 : js_up ρa 83 10 (ρa 83 10 - 1) 83 11 = ρa 83 11 := js_up_ni _ (by decide)
    obtain ⟨ρ3, e3, h31, h32⟩ : ∃ ρ' : js_S, js_J E e 240 0 [(2, 83), (0, f), (9, 0)] [] (js_up ρa 83 10 (ρa 83 10 - 1)) = js_r0 E ρ' ∧ True ∧ (∀ a i : Int, a ≠ 99 → ρ' a i = js_up ρa 83 10 (ρa 83 10 - 1) a i) := by
      by_cases g : f ≤ ρa 83 11
      · obtain ⟨ρ3, e3, h31, h32⟩ := r_hide0 (E := E) (e := e) (ρ := js_up ρa 83 10 (ρa 83 10 - 1)) (f := f) hf.1 (by rw [x11]; exact g) (by rw [x11]; exact hb2)
        exact ⟨ρ3, e3, trivial, fun a i g1 => h32 a i (by omega)⟩
      · refine ⟨js_up ρa 83 10 (ρa 83 10 - 1), ?_, trivial, fun _ _ _ => rfl⟩
        have h400 := hx.1.1.1.2.1
        rw [b_240_0, b_240_2, x11, js_w_of (x := f) (by omega) (by omega), js_w_of (x := ρa 83 11) (by omega) (by omega), if_neg (by omega)]
    exact Or.inr ⟨ρa, js_up ρa 83 10 (ρa 83 10 - 1), ρ3, v, er, r_leaveF hF (by omega) (by decide) (by decide), e3, sF_more hfa (fun a i g1 g2 => by rw [h32 a i g2, js_up_ne _ (by omega)])⟩
end SE
