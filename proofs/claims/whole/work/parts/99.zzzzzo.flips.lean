/-! part 99.zzzzzo: FLIPS, by both -/
theorem lq_xor {a a' m : Int} (h : js_l a = js_l a') : js_lxor a m = js_lxor a' m := by
  unfold js_lxor
  rw [(js_l_inj a a').mpr h]
/-- the same FLIPS are planned, n of them -/
def fq_R (n : Nat) (N : Int) (σ ρ : js_S) : Prop := (n ≤ 8 ∧ σ 56 8 = n ∧ ρ 83 85 = n) ∧ ∀ k : Int, 0 ≤ k → k < n → (σ 57 (4 * k) = ρ 127 k ∧ σ 57 (4 * k + 1) = ρ 128 k ∧ σ 57 (4 * k + 2) = ρ 129 k ∧ σ 57 (4 * k + 3) = ρ 130 k) ∧ (ρ 127 k = 0 ∨ ρ 127 k = 1) ∧ -2 ≤ ρ 128 k ∧ ρ 128 k < N
def fq_C (σ σ' : js_S) : Prop := ∀ a i : Int, ¬ (a = 56 ∧ i = 9) → ¬ ((a = 59 ∨ a = 62) ∧ (i = 0 ∨ i = 1)) → a ≠ 61 → a ≠ 64 → σ' a i = σ a i
def fq_M (ρ ρ' : js_S) : Prop := ∀ a i : Int, ¬ (a = 83 ∧ i = 83) → ¬ (120 ≤ a ∧ a ≤ 122) → ρ' a i = ρ a i
section YF
variable {E : js_E} {d e : Nat} {N : Int} {σ0 ρ0 σ ρ : js_S} {n : Nat}
/-- one FLIP in one copy -/
theorem c_turn {x0 o c x1 x2 : Int} (hx : c = 0 ∧ x0 = 59 ∧ o = 1 ∨ c = 1 ∧ x0 = 62 ∧ o = 58659) (hN : 0 ≤ N ∧ N ≤ E.1 ∧ N ≤ 4096 ∧ E.1 < 2147483648) (hw : -2 ≤ x1 ∧ x1 < N) (hd : 2 ≤ d) (h1 : cq_R N 59 0 σ ρ) (h2 : cq_R N 62 1 σ ρ) {y : Int} : ∃ σ' ρ' : js_S, js_J E d 164 0 [(2, x0), (0, x1), (0, x2), (9, 0), (9, 0)] [] σ = js_r0 E σ' ∧ (x1 = -1 ∧ ρ' = js_up (js_up ρ 83 83 y) 121 c (js_lxor (ρ 121 c) (js_lshl 1 x2)) ∨ x1 = -2 ∧ ρ' = js_up (js_up ρ 83 83 y) 122 c (js_lxor (ρ 122 c) (js_lshl 1 x2)) ∨ 0 ≤ x1 ∧ ρ' = js_up (js_up ρ 83 83 y) 120 (4096 * c + x1) (js_lxor (ρ 120 (4096 * c + x1)) (js_lshl 1 x2))) ∧ (∀ a i : Int, ¬ ((a = 59 ∨ a = 62) ∧ (i = 0 ∨ i = 1)) → a ≠ 61 → a ≠ 64 → σ' a i = σ a i) ∧ fq_M ρ ρ' ∧ ρ' 83 83 = y ∧ cq_R N 59 0 σ' ρ' ∧ cq_R N 62 1 σ' ρ' := by
  have wx : js_w x1 = x1 := js_w_of (by omega) (by omega)
  have hC : js_isC E.1 x0 o := by
    rcases hx with ⟨_, c2, c3⟩ | ⟨_, c2, c3⟩
    · rw [c2, c3]
      exact js_c1 (r := 0) (Or.inl rfl)
    · rw [c2, c3]
      exact js_c2 (r := 0) (Or.inl rfl)
  have z0 : ∀ a i : Int, ¬ (a = 83 ∧ i = 83) → js_up ρ 83 83 y a i = ρ a i := fun a i g => js_up_ne _ g
  have z1 : js_up ρ 83 83 y 83 83 = y := js_up_same _ _ _ _
  generalize js_up ρ 83 83 y = ρy at z0 z1 ⊢
  have g1 : cq_R N 59 0 σ ρy := ⟨by rw [z0 _ _ (by omega)]; exact h1.1, by rw [z0 _ _ (by omega)]; exact h1.2.1, fun k k1 k2 => by rw [z0 _ _ (by omega)]; exact h1.2.2 k k1 k2⟩
  have g2 : cq_R N 62 1 σ ρy := ⟨by rw [z0 _ _ (by omega)]; exact h2.1, by rw [z0 _ _ (by omega)]; exact h2.2.1, fun k k1 k2 => by rw [z0 _ _ (by omega)]; exact h2.2.2 k k1 k2⟩
  have fin : ∀ (A I B J v v' : Int) (σ' ρ' : js_S), σ' = js_up σ A I v → ρ' = js_up ρy B J v' → js_l v = js_l v' → (c = 0 ∧ (A = 59 ∧ I = 0 ∧ B = 121 ∧ J = 0 ∨ A = 59 ∧ I = 1 ∧ B = 122 ∧ J = 0 ∨ A = 61 ∧ 0 ≤ I ∧ I < N ∧ B = 120 ∧ J = I) ∨ c = 1 ∧ (A = 62 ∧ I = 0 ∧ B = 121 ∧ J = 1 ∨ A = 62 ∧ I = 1 ∧ B = 122 ∧ J = 1 ∨ A = 64 ∧ 0 ≤ I ∧ I < N ∧ B = 120 ∧ J = 4096 + I)) → (∀ a i : Int, ¬ ((a = 59 ∨ a = 62) ∧ (i = 0 ∨ i = 1)) → a ≠ 61 → a ≠ 64 → σ' a i = σ a i) ∧ fq_M ρ ρ' ∧ ρ' 83 83 = y ∧ cq_R N 59 0 σ' ρ' ∧ cq_R N 62 1 σ' ρ' := fun A I B J v v' σ' ρ' hσ hρ hv hh => by
    have at1 : ∀ a i a' i' : Int, (a = A ∧ i = I ↔ a' = B ∧ i' = J) → js_l (σ a i) = js_l (ρy a' i') → js_l (σ' a i) = js_l (ρ' a' i') := fun a i a' i' hi hl => by
      rw [hσ, hρ]
      by_cases q : a = A ∧ i = I
      · have q2 := hi.mp q
        rw [q.1, q.2, q2.1, q2.2, js_up_same, js_up_same]
        exact hv
      · rw [js_up_ne _ q, js_up_ne _ (fun q2 => q (hi.mpr q2))]
        exact hl
    refine ⟨fun a i k1 k2 k3 => ?_, fun a i k1 k2 => ?_, ?_, ⟨at1 _ _ _ _ (by omega) g1.1, at1 _ _ _ _ (by omega) g1.2.1, fun k k1 k2 => at1 _ _ _ _ (by omega) (g1.2.2 k k1 k2)⟩, ⟨at1 _ _ _ _ (by omega) g2.1, at1 _ _ _ _ (by omega) g2.2.1, fun k k1 k2 => at1 _ _ _ _ (by omega) (g2.2.2 k k1 k2)⟩⟩
    · rw [hσ, js_up_ne _ (by omega)]
    · rw [hρ, js_up_ne _ (by omega), z0 a i k1]
    · rw [hρ, js_up_ne _ (by omega)]
      exact z1
  have qA : js_l (σ x0 0) = js_l (ρ 121 c) ∧ js_l (σ x0 1) = js_l (ρ 122 c) ∧ ∀ k : Int, 0 ≤ k → k < N → js_l (σ (x0 + 2) k) = js_l (ρ 120 (4096 * c + k)) := by
    rcases hx with ⟨c1, c2, _⟩ | ⟨c1, c2, _⟩
    · rw [c1, c2]
      exact h1
    · rw [c1, c2]
      exact h2
  by_cases t1 : x1 = -1
  · refine ⟨js_up σ x0 0 (js_lxor (σ x0 0) (js_lshl 1 x2)), js_up ρy 121 c (js_lxor (ρ 121 c) (js_lshl 1 x2)), by rw [b_164_0 hC, wx, if_pos t1, b_164_53], Or.inl ⟨t1, rfl⟩, fin _ _ _ _ _ _ _ _ rfl rfl (by rw [lq_xor qA.1]) ?_⟩
    rcases hx with ⟨c1, c2, _⟩ | ⟨c1, c2, _⟩ <;> omega
  · by_cases t2 : x1 = -2
    · refine ⟨js_up σ x0 1 (js_lxor (σ x0 1) (js_lshl 1 x2)), js_up ρy 122 c (js_lxor (ρ 122 c) (js_lshl 1 x2)), by rw [b_164_0 hC, wx, if_neg t1, if_pos t2, b_164_53], Or.inr (Or.inl ⟨t2, rfl⟩), fin _ _ _ _ _ _ _ _ rfl rfl (by rw [lq_xor qA.2.1]) ?_⟩
      rcases hx with ⟨c1, c2, _⟩ | ⟨c1, c2, _⟩ <;> omega
    · refine ⟨js_up σ (x0 + 2) x1 (js_lxor (σ (x0 + 2) x1) (js_lshl 1 x2)), js_up ρy 120 (4096 * c + x1) (js_lxor (ρ 120 (4096 * c + x1)) (js_lshl 1 x2)), by rw [b_164_0 hC, wx, if_neg t1, if_neg t2, k_164_45 hC (by omega) (c_read hC ⟨by omega, by omega⟩ ⟨by omega, by omega⟩ wx), b_164_48, k_164_50 hC (by omega) (c_write hC ⟨by omega, by omega⟩ ⟨by omega, by omega⟩ wx), b_164_53], Or.inr (Or.inr ⟨by omega, rfl⟩), fin _ _ _ _ _ _ _ _ rfl rfl (by rw [lq_xor (qA.2.2 x1 (by omega) (by omega))]) ?_⟩
      rcases hx with ⟨c1, c2, _⟩ | ⟨c1, c2, _⟩ <;> omega
theorem yf_loop (hf : fq_R n N σ0 ρ0) (h79 : σ0 58 1 = ρ0 83 79) (hN : 0 ≤ N ∧ N ≤ E.1 ∧ N ≤ 4096 ∧ E.1 < 2147483648) (hd : 5 ≤ d) : ∀ (g k : Nat) (σ ρ : js_S) (u : js_v), g + k = n → fq_C σ0 σ ∧ fq_M ρ0 ρ ∧ cq_R N 59 0 σ ρ ∧ cq_R N 62 1 σ ρ ∧ σ 56 9 = ρ 83 83 → ∃ σ' ρ' : js_S, js_J E d 175 2 [(2, 56), (0, k)] [] σ = js_r0 E σ' ∧ js_J E e 269 2 [(2, 83), (0, k), u, (9, 0)] [] ρ = js_r0 E ρ' ∧ fq_C σ0 σ' ∧ fq_M ρ0 ρ' ∧ cq_R N 59 0 σ' ρ' ∧ cq_R N 62 1 σ' ρ' ∧ σ' 56 9 = ρ' 83 83 := by
  obtain ⟨⟨n8, p1, p2⟩, hk⟩ := hf
  intro g
  induction g with
  | zero =>
    intro k σ ρ u hg hi
    have hkn : k = n := by omega
    subst hkn
    have a1 : σ 56 8 = k := by rw [hi.1 _ _ (by omega) (by omega) (by omega) (by omega)]; exact p1
    have a2 : ρ 83 85 = k := by rw [hi.2.1 _ _ (by omega) (by omega)]; exact p2
    refine ⟨σ, ρ, ?_, ?_, hi⟩
    · rw [b_175_2, a1, if_neg (show ¬ js_w (k : Int) < js_w (k : Int) by omega)]
    · rw [b_269_2, a2, if_neg (show ¬ js_w (k : Int) < js_w (k : Int) by omega)]
  | succ g ih =>
    intro k σ ρ u hg hi
    obtain ⟨i1, i2, i3, i4, i5⟩ := hi
    have a1 : σ 56 8 = n := by rw [i1 _ _ (by omega) (by omega) (by omega) (by omega)]; exact p1
    have a2 : ρ 83 85 = n := by rw [i2 _ _ (by omega) (by omega)]; exact p2
    have wk : js_w (k : Int) = k := js_w_of (by omega) (by omega)
    have wn : js_w (n : Int) = n := js_w_of (by omega) (by omega)
    have w0 : js_w (4 * (k : Int)) = 4 * k := js_w_of (by omega) (by omega)
    have w1 : js_w (4 * (k : Int) + 1) = 4 * k + 1 := js_w_of (by omega) (by omega)
    have w2 : js_w (4 * (k : Int) + 2) = 4 * k + 2 := js_w_of (by omega) (by omega)
    have w3 : js_w (4 * (k : Int) + 3) = 4 * k + 3 := js_w_of (by omega) (by omega)
    obtain ⟨⟨f0, f1, f2, f3⟩, fc, fw⟩ := hk k (by omega) (by omega)
    have s57 : ∀ i : Int, σ 57 i = σ0 57 i := fun i => i1 _ _ (by omega) (by omega) (by omega) (by omega)
    have q : ∀ a i : Int, 127 ≤ a → ρ a i = ρ0 a i := fun a i g => i2 _ _ (by omega) (by omega)
    have d1 : σ 58 1 = ρ0 83 79 := by rw [i1 _ _ (by omega) (by omega) (by omega) (by omega)]; exact h79
    have d2 : ρ 83 79 = ρ0 83 79 := i2 _ _ (by omega) (by omega)
    have ck : (k : Int) + 1 = ((k + 1 : Nat) : Int) := by push_cast; rfl
    by_cases t : js_w (ρ0 130 k) = js_w (ρ0 83 79)
    · obtain ⟨x0, o, hx⟩ : ∃ x0 o : Int, (ρ0 127 k = 0 ∧ x0 = 59 ∧ o = 1 ∨ ρ0 127 k = 1 ∧ x0 = 62 ∧ o = 58659) := by
        rcases fc with z | z
        · exact ⟨59, 1, Or.inl ⟨z, rfl, rfl⟩⟩
        · exact ⟨62, 58659, Or.inr ⟨z, rfl, rfl⟩⟩
      have wc : js_w (ρ0 127 k) = ρ0 127 k := by rcases fc with z | z <;> rw [z] <;> rfl
      have c2 : 0 ≤ ρ0 127 k ∧ ρ0 127 k < 2 := by omega
      have wm : js_w (ρ0 128 k) = ρ0 128 k := js_w_of (by omega) (by omega)
      have hC : js_isC E.1 x0 o := by
        rcases hx with ⟨_, z2, z3⟩ | ⟨_, z2, z3⟩
        · rw [z2, z3]
          exact js_c1 (r := 0) (Or.inl rfl)
        · rw [z2, z3]
          exact js_c2 (r := 0) (Or.inl rfl)
      have c146 : js_J E (d - 1) 146 0 [(2, 58), (0, ρ0 127 k)] [] σ = js_r E (2, x0) σ := by
        have h := b_146_0 (E := E) (d := d - 1) (σ := σ) (x1 := ρ0 127 k) (r := 0) (Or.inl rfl)
        simp only [Int.add_zero] at h
        rw [h]
        rcases hx with ⟨z1, z2, _⟩ | ⟨z1, z2, _⟩
        · rw [z1, z2, if_pos (show js_w 0 = 0 from rfl)]
        · rw [z1, z2, if_neg (show ¬ js_w 1 = 0 by decide)]
      obtain ⟨σ2, ρ2, e1, e2, g1, g2, g3, g4, g5⟩ := c_turn (E := E) (d := d - 1) (x2 := ρ0 129 k) (y := ρ 83 83 + 1) hx hN fw (by omega) i3 i4
      have ec : js_J E d 175 2 [(2, 56), (0, (k : Int))] [] σ = js_J E d 175 2 [(2, 56), (0, ((k + 1 : Nat) : Int))] [] (js_up σ2 56 9 (σ2 56 9 + 1)) := by
        rw [b_175_2, a1, wk, wn, if_pos (show (k : Int) < n by omega), if_pos (show (k : Int) < 8 by omega), w3, if_pos (show 0 ≤ 4 * (k : Int) + 3 ∧ 4 * (k : Int) + 3 < 32 by omega), s57, f3, d1, if_pos t, w0, if_pos (show 0 ≤ 4 * (k : Int) ∧ 4 * (k : Int) < 32 by omega), s57, f0, k_175_48 (by omega) c146, b_175_51, w1, if_pos (show 0 ≤ 4 * (k : Int) + 1 ∧ 4 * (k : Int) + 1 < 32 by omega), w2, if_pos (show 0 ≤ 4 * (k : Int) + 2 ∧ 4 * (k : Int) + 2 < 32 by omega), s57, f2, s57, f1, k_175_71 hC (by omega) e1, b_175_74, b_175_84, ck]
      have er : ∃ u' : js_v, js_J E e 269 2 [(2, 83), (0, (k : Int)), u, (9, 0)] [] ρ = js_J E e 269 2 [(2, 83), (0, ((k + 1 : Nat) : Int)), u', (9, 0)] [] ρ2 := by
        refine ⟨(1, js_lshl 1 (ρ0 129 k)), ?_⟩
        rw [b_269_2, a2, wk, wn, if_pos (show (k : Int) < n by omega), if_pos (show 0 ≤ (k : Int) ∧ (k : Int) < 8 by omega), q 130 _ (by decide), d2, if_pos t, q 128 _ (by decide), q 127 _ (by decide), q 129 _ (by decide), wm, wc]
        rcases e2 with ⟨z1, z2⟩ | ⟨z1, z2⟩ | ⟨z1, z2⟩
        · rw [if_pos z1, if_pos c2, b_269_128, ck, z2]
        · rw [if_neg (show ¬ ρ0 128 k = -1 by omega), if_pos z1, if_pos c2, b_269_128, ck, z2]
        · have wa : js_w (4096 * ρ0 127 k + ρ0 128 k) = 4096 * ρ0 127 k + ρ0 128 k := js_w_of (by omega) (by omega)
          rw [if_neg (show ¬ ρ0 128 k = -1 by omega), if_neg (show ¬ ρ0 128 k = -2 by omega), wa, if_pos (show 0 ≤ 4096 * ρ0 127 k + ρ0 128 k ∧ 4096 * ρ0 127 k + ρ0 128 k < 8192 by omega), b_269_128, ck, z2]
      obtain ⟨u', er⟩ := er
      have sg : ∀ a i : Int, ¬ (a = 56 ∧ i = 9) → js_up σ2 56 9 (σ2 56 9 + 1) a i = σ2 a i := fun a i g => js_up_ne _ g
      have s9 : js_up σ2 56 9 (σ2 56 9 + 1) 56 9 = ρ2 83 83 := by
        rw [js_up_same, g1 _ _ (by omega) (by omega) (by omega), i5, g3]
      generalize js_up σ2 56 9 (σ2 56 9 + 1) = σ3 at ec sg s9
      obtain ⟨σ', ρ', h1, h2, h3⟩ := ih (k + 1) σ3 ρ2 u' (by omega) ⟨fun a i k1 k2 k3 k4 => by rw [sg a i k1, g1 a i k2 k3 k4, i1 a i k1 k2 k3 k4], fun a i k1 k2 => by rw [g2 a i k1 k2, i2 a i k1 k2], cq_cl g4 (fun i _ => sg _ _ (by omega)) (fun i => sg _ _ (by omega)), cq_cl g5 (fun i _ => sg _ _ (by omega)) (fun i => sg _ _ (by omega)), s9⟩
      exact ⟨σ', ρ', by rw [ec, h1], by rw [er, h2], h3⟩
    · obtain ⟨σ', ρ', h1, h2, h3⟩ := ih (k + 1) σ ρ u (by omega) ⟨i1, i2, i3, i4, i5⟩
      refine ⟨σ', ρ', ?_, ?_, h3⟩
      · rw [b_175_2, a1, wk, wn, if_pos (show (k : Int) < n by omega), if_pos (show (k : Int) < 8 by omega), w3, if_pos (show 0 ≤ 4 * (k : Int) + 3 ∧ 4 * (k : Int) + 3 < 32 by omega), s57, f3, d1, if_neg t, b_175_84, ck, h1]
      · rw [b_269_2, a2, wk, wn, if_pos (show (k : Int) < n by omega), if_pos (show 0 ≤ (k : Int) ∧ (k : Int) < 8 by omega), q 130 _ (by decide), d2, if_neg t, b_269_128, ck, h2]
/-- all FLIPS of this STEP -/
theorem y_flips (hf : fq_R n N σ ρ) (h79 : σ 58 1 = ρ 83 79) (hN : 0 ≤ N ∧ N ≤ E.1 ∧ N ≤ 4096 ∧ E.1 < 2147483648) (hd : 5 ≤ d) (h1 : cq_R N 59 0 σ ρ) (h2 : cq_R N 62 1 σ ρ) (h9 : σ 56 9 = ρ 83 83) : ∃ σ' ρ' : js_S, js_J E d 175 0 [(2, 56), (9, 0)] [] σ = js_r0 E σ' ∧ js_J E e 269 0 [(2, 83), (9, 0), (9, 0), (9, 0)] [] ρ = js_r0 E ρ' ∧ fq_C σ σ' ∧ fq_M ρ ρ' ∧ cq_R N 59 0 σ' ρ' ∧ cq_R N 62 1 σ' ρ' ∧ σ' 56 9 = ρ' 83 83 := by
  obtain ⟨σ', ρ', e1, e2, h⟩ := yf_loop (E := E) (d := d) (e := e) hf h79 hN hd n 0 σ ρ (9, 0) (by omega) ⟨fun _ _ _ _ _ _ => rfl, fun _ _ _ _ => rfl, h1, h2, h9⟩
  have e1' : js_J E d 175 2 [(2, 56), (0, 0)] [] σ = js_r0 E σ' := e1
  have e2' : js_J E e 269 2 [(2, 83), (0, 0), (9, 0), (9, 0)] [] ρ = js_r0 E ρ' := e2
  exact ⟨σ', ρ', by rw [b_175_0, e1'], by rw [b_269_0, e2'], h⟩
end YF
