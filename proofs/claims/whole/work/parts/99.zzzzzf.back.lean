/-! part 99.zzzzzf: the reference brings its program back -/
/-- SYMBOL s as it comes back -/
def bb_S (ρ0 ρ : js_S) (s : Int) : Prop := ρ 86 s = ρ0 116 s ∧ ρ 87 s = ρ0 116 (400 + s) ∧ ρ 88 s = ρ0 116 (800 + s) ∧ ρ 89 s = ρ0 116 (1200 + s) ∧ ρ 90 s = ρ0 116 (1600 + s) ∧ ρ 91 s = ρ0 116 (2000 + s) ∧ ρ 92 s = ρ0 116 (2400 + s) ∧ ρ 93 s = ρ0 116 (2800 + s) ∧ ρ 94 s = ρ0 116 (3200 + s) ∧ ρ 95 s = ρ0 116 (3600 + s) ∧ ρ 97 s = ρ0 116 (4000 + s)
/-- INSTRUCTION p as it comes back -/
def bb_C (ρ0 ρ : js_S) (p : Int) : Prop := ρ 111 p = ρ0 118 p ∧ ρ 112 p = ρ0 118 (8192 + p) ∧ ρ 113 p = ρ0 118 (16384 + p) ∧ ρ 114 p = ρ0 119 p ∧ ρ 115 p = ρ0 119 (8192 + p)
def bb_u (ρ : js_S) (s : Int) : js_S := (js_up (js_up (js_up (js_up (js_up (js_up (js_up (js_up (js_up (js_up (js_up ρ 86 s (ρ 116 s)) 87 s (ρ 116 (400 + s))) 88 s (ρ 116 (800 + s))) 89 s (ρ 116 (1200 + s))) 90 s (ρ 116 (1600 + s))) 91 s (ρ 116 (2000 + s))) 92 s (ρ 116 (2400 + s))) 93 s (ρ 116 (2800 + s))) 94 s (ρ 116 (3200 + s))) 95 s (ρ 116 (3600 + s))) 97 s (ρ 116 (4000 + s)))
theorem bb_u_o {ρ : js_S} {s a i : Int} (h : ¬ ((86 ≤ a ∧ a ≤ 95 ∨ a = 97) ∧ i = s)) : bb_u ρ s a i = ρ a i := by
  unfold bb_u
  rw [js_up_ne _ (by omega), js_up_ne _ (by omega), js_up_ne _ (by omega), js_up_ne _ (by omega), js_up_ne _ (by omega), js_up_ne _ (by omega), js_up_ne _ (by omega), js_up_ne _ (by omega), js_up_ne _ (by omega), js_up_ne _ (by omega), js_up_ne _ (by omega)]
theorem bb_u_s {ρ : js_S} {s : Int} : bb_S ρ (bb_u ρ s) s := by
  unfold bb_S bb_u
  refine ⟨?_, ?_, ?_, ?_, ?_, ?_, ?_, ?_, ?_, ?_, ?_⟩
  · rw [js_up_na _ (by decide), js_up_na _ (by decide), js_up_na _ (by decide), js_up_na _ (by decide), js_up_na _ (by decide), js_up_na _ (by decide), js_up_na _ (by decide), js_up_na _ (by decide), js_up_na _ (by decide), js_up_na _ (by decide), js_up_same]
  · rw [js_up_na _ (by decide), js_up_na _ (by decide), js_up_na _ (by decide), js_up_na _ (by decide), js_up_na _ (by decide), js_up_na _ (by decide), js_up_na _ (by decide), js_up_na _ (by decide), js_up_na _ (by decide), js_up_same]
  · rw [js_up_na _ (by decide), js_up_na _ (by decide), js_up_na _ (by decide), js_up_na _ (by decide), js_up_na _ (by decide), js_up_na _ (by decide), js_up_na _ (by decide), js_up_na _ (by decide), js_up_same]
  · rw [js_up_na _ (by decide), js_up_na _ (by decide), js_up_na _ (by decide), js_up_na _ (by decide), js_up_na _ (by decide), js_up_na _ (by decide), js_up_na _ (by decide), js_up_same]
  · rw [js_up_na _ (by decide), js_up_na _ (by decide), js_up_na _ (by decide), js_up_na _ (by decide), js_up_na _ (by decide), js_up_na _ (by decide), js_up_same]
  · rw [js_up_na _ (by decide), js_up_na _ (by decide), js_up_na _ (by decide), js_up_na _ (by decide), js_up_na _ (by decide), js_up_same]
  · rw [js_up_na _ (by decide), js_up_na _ (by decide), js_up_na _ (by decide), js_up_na _ (by decide), js_up_same]
  · rw [js_up_na _ (by decide), js_up_na _ (by decide), js_up_na _ (by decide), js_up_same]
  · rw [js_up_na _ (by decide), js_up_na _ (by decide), js_up_same]
  · rw [js_up_na _ (by decide), js_up_same]
  · rw [js_up_same]
theorem bb_and0 : js_iand 0 1 = 0 := by decide
theorem bb_and1 : js_iand 1 1 = 1 := js_iand11
theorem bb_u_e (ρ : js_S) (s v : Int) (h : ρ 116 (2400 + s) = v) : (js_up (js_up (js_up (js_up (js_up (js_up (js_up (js_up (js_up (js_up (js_up ρ 86 s (ρ 116 s)) 87 s (ρ 116 (400 + s))) 88 s (ρ 116 (800 + s))) 89 s (ρ 116 (1200 + s))) 90 s (ρ 116 (1600 + s))) 91 s (ρ 116 (2000 + s))) 92 s v) 93 s ((js_up (js_up (js_up (js_up (js_up (js_up ρ 86 s (ρ 116 s)) 87 s (ρ 116 (400 + s))) 88 s (ρ 116 (800 + s))) 89 s (ρ 116 (1200 + s))) 90 s (ρ 116 (1600 + s))) 91 s (ρ 116 (2000 + s))) 116 (2800 + s))) 94 s ((js_up (js_up (js_up (js_up (js_up (js_up ρ 86 s (ρ 116 s)) 87 s (ρ 116 (400 + s))) 88 s (ρ 116 (800 + s))) 89 s (ρ 116 (1200 + s))) 90 s (ρ 116 (1600 + s))) 91 s (ρ 116 (2000 + s))) 116 (3200 + s))) 95 s ((js_up (js_up (js_up (js_up (js_up (js_up ρ 86 s (ρ 116 s)) 87 s (ρ 116 (400 + s))) 88 s (ρ 116 (800 + s))) 89 s (ρ 116 (1200 + s))) 90 s (ρ 116 (1600 + s))) 91 s (ρ 116 (2000 + s))) 116 (3600 + s))) 97 s ((js_up (js_up (js_up (js_up (js_up (js_up ρ 86 s (ρ 116 s)) 87 s (ρ 116 (400 + s))) 88 s (ρ 116 (800 + s))) 89 s (ρ 116 (1200 + s))) 90 s (ρ 116 (1600 + s))) 91 s (ρ 116 (2000 + s))) 116 (4000 + s))) = bb_u ρ s := by
  unfold bb_u
  rw [h]
  rfl
section BB
variable {E : js_E} {d : Nat} {ρ0 : js_S} {M : Nat}
theorem r_back1 {s : Int} {ρ : js_S} (hs : 0 ≤ s ∧ s < 400) (hm : s < js_w (ρ 83 11)) (h92 : ρ 116 (2400 + s) = 0 ∨ ρ 116 (2400 + s) = 1) : js_J E d 262 18 [(2, 83), (0, s)] [] ρ = js_J E d 262 18 [(2, 83), (0, s + 1)] [] (bb_u ρ s) := by
  have w : ∀ c : Int, 0 ≤ c → c ≤ 4400 → js_w (c + s) = c + s := fun c h1 h2 => js_w_of (by omega) (by omega)
  have w0 : js_w s = s := js_w_of (by omega) (by omega)
  have c : ∀ k : Int, 0 ≤ k → k ≤ 4400 → 0 ≤ k + s ∧ k + s < 4800 := fun k h1 h2 => by omega
  rw [b_262_18, w0, if_pos hm, if_pos (show 0 ≤ s ∧ s < 4800 by omega), if_pos hs, w 400 (by decide) (by decide), if_pos (c 400 (by decide) (by decide)), w 800 (by decide) (by decide), if_pos (c 800 (by decide) (by decide)), w 1200 (by decide) (by decide), if_pos (c 1200 (by decide) (by decide)), w 1600 (by decide) (by decide), if_pos (c 1600 (by decide) (by decide)), w 2000 (by decide) (by decide), if_pos (c 2000 (by decide) (by decide)), w 2400 (by decide) (by decide), if_pos (c 2400 (by decide) (by decide))]
  rcases h92 with h | h
  · have e := bb_u_e ρ s 0 h
    rw [h, if_neg (show ¬ js_w 0 = 1 by decide), b_262_142, w0, if_pos hs, w 2800 (by decide) (by decide), if_pos (c 2800 (by decide) (by decide)), if_pos hs, w 3200 (by decide) (by decide), if_pos (c 3200 (by decide) (by decide)), w 3600 (by decide) (by decide), if_pos (c 3600 (by decide) (by decide)), w 4000 (by decide) (by decide), if_pos (c 4000 (by decide) (by decide)), bb_and0]
    rw [← e]
  · have e := bb_u_e ρ s 1 h
    rw [h, if_pos (show js_w 1 = 1 by decide), b_262_142, w0, if_pos hs, w 2800 (by decide) (by decide), if_pos (c 2800 (by decide) (by decide)), if_pos hs, w 3200 (by decide) (by decide), if_pos (c 3200 (by decide) (by decide)), w 3600 (by decide) (by decide), if_pos (c 3600 (by decide) (by decide)), w 4000 (by decide) (by decide), if_pos (c 4000 (by decide) (by decide)), bb_and1]
    rw [← e]
theorem r_backS (hM : M ≤ 400) (h11 : ρ0 83 11 = M) (h92 : ∀ s : Int, 0 ≤ s → s < M → ρ0 116 (2400 + s) = 0 ∨ ρ0 116 (2400 + s) = 1) : ∀ (g k : Nat) (ρ : js_S), g + k = M → (∀ a i : Int, ¬ ((86 ≤ a ∧ a ≤ 95 ∨ a = 97) ∧ 0 ≤ i ∧ i < M) → ρ a i = ρ0 a i) → (∀ s : Int, 0 ≤ s → s < k → bb_S ρ0 ρ s) → ∃ ρ' : js_S, js_J E d 262 18 [(2, 83), (0, k)] [] ρ = js_J E d 262 215 [(2, 83), (0, 0)] [] ρ' ∧ (∀ a i : Int, ¬ ((86 ≤ a ∧ a ≤ 95 ∨ a = 97) ∧ 0 ≤ i ∧ i < M) → ρ' a i = ρ0 a i) ∧ ∀ s : Int, 0 ≤ s → s < M → bb_S ρ0 ρ' s := by
  intro g
  induction g with
  | zero =>
    intro k ρ hg ho h
    have hk : k = M := by omega
    subst hk
    have e11 : ρ 83 11 = k := by rw [ho _ _ (by omega)]; exact h11
    refine ⟨ρ, ?_, ho, h⟩
    rw [b_262_18, e11, if_neg (show ¬ js_w (k : Int) < js_w (k : Int) by omega)]
  | succ g ih =>
    intro k ρ hg ho h
    have e11 : ρ 83 11 = M := by rw [ho _ _ (by omega)]; exact h11
    have e92 : ρ 116 (2400 + k) = ρ0 116 (2400 + k) := ho _ _ (by omega)
    have wM : js_w (M : Int) = M := js_w_of (by omega) (by omega)
    have e1 := r_back1 (E := E) (d := d) (s := k) (ρ := ρ) (by omega) (by rw [e11, wM]; omega) (by rw [e92]; exact h92 k (by omega) (by omega))
    obtain ⟨ρ', e2, h2⟩ := ih (k + 1) (bb_u ρ k) (by omega) (fun a i q => by rw [bb_u_o (by omega), ho a i q]) (fun s s1 s2 => by
      by_cases q : s = k
      · rw [q]
        have a := bb_u_s (ρ := ρ) (s := k)
        unfold bb_S at a ⊢
        have x : ∀ j : Int, ρ 116 j = ρ0 116 j := fun j => ho _ _ (by omega)
        rw [x, x, x, x, x, x, x, x, x, x, x] at a
        exact a
      · have s3 : s < k := by push_cast at s2; omega
        have a := h s s1 s3
        unfold bb_S at a ⊢
        have x : ∀ j : Int, bb_u ρ k j s = ρ j s := fun j => bb_u_o (by omega)
        rw [x, x, x, x, x, x, x, x, x, x, x]
        exact a)
    exact ⟨ρ', by rw [e1, show (k : Int) + 1 = ((k + 1 : Nat) : Int) by push_cast; rfl, e2], h2⟩
theorem r_backN (hM : M ≤ 8000) (h11 : 20 * ρ0 83 11 = M) : ∀ (g k : Nat) (ρ : js_S), g + k = M → (∀ a i : Int, ¬ (a = 98 ∧ 0 ≤ i ∧ i < M) → ρ a i = ρ0 a i) → (∀ i : Int, 0 ≤ i → i < k → ρ 98 i = js_i2b (ρ0 117 i)) → ∃ ρ' : js_S, js_J E d 262 215 [(2, 83), (0, k)] [] ρ = js_J E d 262 246 [(2, 83), (0, 0)] [] ρ' ∧ (∀ a i : Int, ¬ (a = 98 ∧ 0 ≤ i ∧ i < M) → ρ' a i = ρ0 a i) ∧ ∀ i : Int, 0 ≤ i → i < M → ρ' 98 i = js_i2b (ρ0 117 i) := by
  intro g
  induction g with
  | zero =>
    intro k ρ hg ho h
    have hk : k = M := by omega
    subst hk
    have e11 : 20 * ρ 83 11 = k := by rw [ho _ _ (by omega)]; exact h11
    refine ⟨ρ, ?_, ho, h⟩
    rw [b_262_215, e11, if_neg (show ¬ js_w (k : Int) < js_w (k : Int) by omega)]
  | succ g ih =>
    intro k ρ hg ho h
    have e11 : 20 * ρ 83 11 = M := by rw [ho _ _ (by omega)]; exact h11
    have wM : js_w (M : Int) = M := js_w_of (by omega) (by omega)
    have wk : js_w (k : Int) = k := js_w_of (by omega) (by omega)
    have e98 : js_i2b (ρ 117 k) = js_i2b (ρ0 117 k) := by
      rw [ho _ _ (by omega)]
    obtain ⟨ρ', e2, h2⟩ := ih (k + 1) (js_up ρ 98 k (js_i2b (ρ0 117 k))) (by omega) (fun a i q => by rw [js_up_ne _ (by omega), ho a i q]) (fun i s1 s2 => by
      by_cases q : i = k
      · rw [q, js_up_same]
      · rw [js_up_ni _ q]
        exact h i s1 (by push_cast at s2; omega))
    exact ⟨ρ', by rw [b_262_215, e11, wk, wM, if_pos (show (k : Int) < M by omega), if_pos (show 0 ≤ (k : Int) ∧ (k : Int) < 8000 by omega), e98, show (k : Int) + 1 = ((k + 1 : Nat) : Int) by push_cast; rfl, e2], h2⟩
def bb_c (ρ : js_S) (s : Int) : js_S := js_up (js_up (js_up (js_up (js_up ρ 111 s (ρ 118 s)) 112 s (ρ 118 (8192 + s))) 113 s (ρ 118 (16384 + s))) 114 s (ρ 119 s)) 115 s (ρ 119 (8192 + s))
theorem bb_c_o {ρ : js_S} {s a i : Int} (h : ¬ (111 ≤ a ∧ a ≤ 115 ∧ i = s)) : bb_c ρ s a i = ρ a i := by
  unfold bb_c
  rw [js_up_ne _ (by omega), js_up_ne _ (by omega), js_up_ne _ (by omega), js_up_ne _ (by omega), js_up_ne _ (by omega)]
theorem bb_c_s {ρ : js_S} {s : Int} : bb_C ρ (bb_c ρ s) s := by
  unfold bb_C bb_c
  refine ⟨?_, ?_, ?_, ?_, ?_⟩
  · rw [js_up_na _ (by decide), js_up_na _ (by decide), js_up_na _ (by decide), js_up_na _ (by decide), js_up_same]
  · rw [js_up_na _ (by decide), js_up_na _ (by decide), js_up_na _ (by decide), js_up_same]
  · rw [js_up_na _ (by decide), js_up_na _ (by decide), js_up_same]
  · rw [js_up_na _ (by decide), js_up_same]
  · exact js_up_same _ _ _ _
theorem r_backC (hM : M ≤ 8192) (h49 : ρ0 83 49 = M) : ∀ (g k : Nat) (ρ : js_S), g + k = M → (∀ a i : Int, ¬ (111 ≤ a ∧ a ≤ 115 ∧ 0 ≤ i ∧ i < M) → ρ a i = ρ0 a i) → (∀ s : Int, 0 ≤ s → s < k → bb_C ρ0 ρ s) → ∃ ρ' : js_S, js_J E d 262 246 [(2, 83), (0, k)] [] ρ = js_r0 E ρ' ∧ (∀ a i : Int, ¬ (111 ≤ a ∧ a ≤ 115 ∧ 0 ≤ i ∧ i < M) → ρ' a i = ρ0 a i) ∧ ∀ s : Int, 0 ≤ s → s < M → bb_C ρ0 ρ' s := by
  intro g
  induction g with
  | zero =>
    intro k ρ hg ho h
    have hk : k = M := by omega
    subst hk
    have e49 : ρ 83 49 = k := by rw [ho _ _ (by omega)]; exact h49
    refine ⟨ρ, ?_, ho, h⟩
    rw [b_262_246, e49, if_neg (show ¬ js_w (k : Int) < js_w (k : Int) by omega)]
  | succ g ih =>
    intro k ρ hg ho h
    have e49 : ρ 83 49 = M := by rw [ho _ _ (by omega)]; exact h49
    have wM : js_w (M : Int) = M := js_w_of (by omega) (by omega)
    have wk : js_w (k : Int) = k := js_w_of (by omega) (by omega)
    have w8 : js_w (8192 + (k : Int)) = 8192 + k := js_w_of (by omega) (by omega)
    have w16 : js_w (16384 + (k : Int)) = 16384 + k := js_w_of (by omega) (by omega)
    obtain ⟨ρ', e2, h2⟩ := ih (k + 1) (bb_c ρ k) (by omega) (fun a i q => by rw [bb_c_o (by omega), ho a i q]) (fun s s1 s2 => by
      by_cases q : s = k
      · rw [q]
        have a := bb_c_s (ρ := ρ) (s := k)
        unfold bb_C at a ⊢
        have x : ∀ b j : Int, 118 ≤ b → ρ b j = ρ0 b j := fun b j hb => ho _ _ (by omega)
        rw [x 118 _ (by decide), x 118 _ (by decide), x 118 _ (by decide), x 119 _ (by decide), x 119 _ (by decide)] at a
        exact a
      · have s3 : s < k := by push_cast at s2; omega
        have a := h s s1 s3
        unfold bb_C at a ⊢
        have x : ∀ j : Int, bb_c ρ k j s = ρ j s := fun j => bb_c_o (by omega)
        rw [x, x, x, x, x]
        exact a)
    refine ⟨ρ', ?_, h2⟩
    rw [b_262_246, e49, wk, wM, if_pos (show (k : Int) < M by omega), if_pos (show 0 ≤ (k : Int) ∧ (k : Int) < 24576 by omega), if_pos (show 0 ≤ (k : Int) ∧ (k : Int) < 8192 by omega), w8, if_pos (show 0 ≤ 8192 + (k : Int) ∧ 8192 + (k : Int) < 24576 by omega), w16, if_pos (show 0 ≤ 16384 + (k : Int) ∧ 16384 + (k : Int) < 24576 by omega), if_pos (show 0 ≤ (k : Int) ∧ (k : Int) < 16384 by omega), if_pos (show 0 ≤ 8192 + (k : Int) ∧ 8192 + (k : Int) < 16384 by omega), show (k : Int) + 1 = ((k + 1 : Nat) : Int) by push_cast; rfl]
    exact e2
/-- the program has come back -/
def bb_R (ρ ρ' : js_S) : Prop := (∀ a i : Int, ¬ ((86 ≤ a ∧ a ≤ 95 ∨ a = 97 ∨ a = 98) ∧ 0 ≤ i) → ¬ (111 ≤ a ∧ a ≤ 115) → ¬ (a = 83 ∧ (i = 11 ∨ i = 49)) → ρ' a i = ρ a i) ∧ (ρ' 83 11 = ρ 83 65 ∧ ρ' 83 49 = ρ 83 66) ∧ (∀ s : Int, 0 ≤ s → s < ρ 83 65 → bb_S ρ ρ' s) ∧ (∀ i : Int, 0 ≤ i → i < 20 * ρ 83 65 → ρ' 98 i = js_i2b (ρ 117 i)) ∧ ∀ p : Int, 0 ≤ p → p < ρ 83 66 → bb_C ρ ρ' p
theorem r_back {ρ : js_S} (h11 : 0 ≤ ρ 83 65 ∧ ρ 83 65 ≤ 400) (h49 : 0 ≤ ρ 83 66 ∧ ρ 83 66 ≤ 8192) (h92 : ∀ s : Int, 0 ≤ s → s < ρ 83 65 → ρ 116 (2400 + s) = 0 ∨ ρ 116 (2400 + s) = 1) : ∃ ρ' : js_S, js_J E d 262 0 [(2, 83), (9, 0)] [] ρ = js_r0 E ρ' ∧ bb_R ρ ρ' := by
  have z0 : ∀ a i : Int, ¬ (a = 83 ∧ (i = 11 ∨ i = 49)) → js_up (js_up ρ 83 11 (ρ 83 65)) 83 49 (ρ 83 66) a i = ρ a i := fun a i g => by rw [js_up_ne _ (by omega), js_up_ne _ (by omega)]
  have z65 : js_up (js_up ρ 83 11 (ρ 83 65)) 83 49 (ρ 83 66) 83 11 = ρ 83 65 := by rw [js_up_ni _ (by decide), js_up_same]
  have z66 : js_up (js_up ρ 83 11 (ρ 83 65)) 83 49 (ρ 83 66) 83 49 = ρ 83 66 := js_up_same _ _ _ _
  have e0 : js_J E d 262 0 [(2, 83), (9, 0)] [] ρ = js_J E d 262 18 [(2, 83), (0, 0)] [] (js_up (js_up ρ 83 11 (ρ 83 65)) 83 49 (ρ 83 66)) := b_262_0
  generalize js_up (js_up ρ 83 11 (ρ 83 65)) 83 49 (ρ 83 66) = ρ1 at z0 z65 z66 e0
  have m1 : ((ρ 83 65).toNat : Int) = ρ 83 65 := by omega
  have m2 : ((20 * ρ 83 65).toNat : Int) = 20 * ρ 83 65 := by omega
  have m3 : ((ρ 83 66).toNat : Int) = ρ 83 66 := by omega
  obtain ⟨ρ2, e2, o2, h2⟩ := r_backS (E := E) (d := d) (ρ0 := ρ1) (M := (ρ 83 65).toNat) (by omega) (by rw [z65]; omega) (fun s s1 s2 => by rw [z0 _ _ (by omega)]; exact h92 s s1 (by omega)) (ρ 83 65).toNat 0 ρ1 (by omega) (fun _ _ _ => rfl) (fun s s1 s2 => by omega)
  obtain ⟨ρ3, e3, o3, h3⟩ := r_backN (E := E) (d := d) (ρ0 := ρ2) (M := (20 * ρ 83 65).toNat) (by omega) (by rw [o2 _ _ (by omega), z65]; omega) (20 * ρ 83 65).toNat 0 ρ2 (by omega) (fun _ _ _ => rfl) (fun s s1 s2 => by omega)
  obtain ⟨ρ4, e4, o4, h4⟩ := r_backC (E := E) (d := d) (ρ0 := ρ3) (M := (ρ 83 66).toNat) (by omega) (by rw [o3 _ _ (by omega), o2 _ _ (by omega), z66]; omega) (ρ 83 66).toNat 0 ρ3 (by omega) (fun _ _ _ => rfl) (fun s s1 s2 => by omega)
  have e2' : js_J E d 262 18 [(2, 83), (0, 0)] [] ρ1 = js_J E d 262 215 [(2, 83), (0, 0)] [] ρ2 := e2
  have e3' : js_J E d 262 215 [(2, 83), (0, 0)] [] ρ2 = js_J E d 262 246 [(2, 83), (0, 0)] [] ρ3 := e3
  have e4' : js_J E d 262 246 [(2, 83), (0, 0)] [] ρ3 = js_r0 E ρ4 := e4
  refine ⟨ρ4, by rw [e0, e2', e3', e4'], fun a i g1 g2 g3 => ?_, ⟨?_, ?_⟩, fun s s1 s2 => ?_, fun i i1 i2 => ?_, fun p p1 p2 => ?_⟩
  · rw [o4 a i (by omega), o3 a i (by omega), o2 a i (by omega), z0 a i g3]
  · rw [o4 _ _ (by omega), o3 _ _ (by omega), o2 _ _ (by omega)]
    exact z65
  · rw [o4 _ _ (by omega), o3 _ _ (by omega), o2 _ _ (by omega)]
    exact z66
  · have a := h2 s s1 (by omega)
    unfold bb_S at a ⊢
    have x : ∀ k i : Int, k ≤ 97 → ρ4 k i = ρ2 k i := fun k i hk => by rw [o4 _ _ (by omega), o3 _ _ (by omega)]
    have y : ∀ i : Int, ρ1 116 i = ρ 116 i := fun i => z0 116 i (by omega)
    rw [y, y, y, y, y, y, y, y, y, y, y] at a
    rw [x 86 _ (by decide), x 87 _ (by decide), x 88 _ (by decide), x 89 _ (by decide), x 90 _ (by decide), x 91 _ (by decide), x 92 _ (by decide), x 93 _ (by decide), x 94 _ (by decide), x 95 _ (by decide), x 97 _ (by decide)]
    exact a
  · rw [o4 _ _ (by omega), h3 i i1 (by omega), o2 _ _ (by omega), z0 _ _ (by omega)]
  · have a := h4 p p1 (by omega)
    unfold bb_C at a ⊢
    have y : ∀ k i : Int, 118 ≤ k → ρ3 k i = ρ k i := fun k i k1 => by rw [o3 _ _ (by omega), o2 _ _ (by omega), z0 _ _ (by omega)]
    rw [y 118 _ (by decide), y 118 _ (by decide), y 118 _ (by decide), y 119 _ (by decide), y 119 _ (by decide)] at a
    exact a
end BB
