/-! part 99.zzzzze: the reference keeps its program -/
/-- SYMBOL s as it is kept -/
def kq_S (ρ0 ρ : js_S) (s : Int) : Prop := ρ 116 s = ρ0 86 s ∧ ρ 116 (400 + s) = ρ0 87 s ∧ ρ 116 (800 + s) = ρ0 88 s ∧ ρ 116 (1200 + s) = ρ0 89 s ∧ ρ 116 (1600 + s) = ρ0 90 s ∧ ρ 116 (2000 + s) = ρ0 91 s ∧ ρ 116 (2400 + s) = ρ0 92 s ∧ ρ 116 (2800 + s) = ρ0 93 s ∧ ρ 116 (3200 + s) = ρ0 94 s ∧ ρ 116 (3600 + s) = ρ0 95 s ∧ ρ 116 (4000 + s) = ρ0 97 s
/-- INSTRUCTION p as it is kept -/
def kq_C (ρ0 ρ : js_S) (p : Int) : Prop := ρ 118 p = ρ0 111 p ∧ ρ 118 (8192 + p) = ρ0 112 p ∧ ρ 118 (16384 + p) = ρ0 113 p ∧ ρ 119 p = ρ0 114 p ∧ ρ 119 (8192 + p) = ρ0 115 p
def kq_6 (ρ : js_S) (s : Int) : js_S := js_up (js_up (js_up (js_up (js_up (js_up ρ 116 s (ρ 86 s)) 116 (400 + s) (ρ 87 s)) 116 (800 + s) (ρ 88 s)) 116 (1200 + s) (ρ 89 s)) 116 (1600 + s) (ρ 90 s)) 116 (2000 + s) (ρ 91 s)
def kq_u (ρ : js_S) (s z : Int) : js_S := js_up (js_up (js_up (js_up (js_up (kq_6 ρ s) 116 (2400 + s) z) 116 (2800 + s) (kq_6 ρ s 93 s)) 116 (3200 + s) (kq_6 ρ s 94 s)) 116 (3600 + s) (kq_6 ρ s 95 s)) 116 (4000 + s) (kq_6 ρ s 97 s)
theorem kq_6_o {ρ : js_S} {s a i : Int} (h : a ≠ 116) : kq_6 ρ s a i = ρ a i := by
  unfold kq_6
  rw [js_up_na _ h, js_up_na _ h, js_up_na _ h, js_up_na _ h, js_up_na _ h, js_up_na _ h]
theorem kq_u_o {ρ : js_S} {s z a i : Int} (h : a ≠ 116) : kq_u ρ s z a i = ρ a i := by
  unfold kq_u
  rw [js_up_na _ h, js_up_na _ h, js_up_na _ h, js_up_na _ h, js_up_na _ h, kq_6_o h]
theorem kq_u_i {ρ : js_S} {s z i : Int} (h : (i - s) % 400 ≠ 0) : kq_u ρ s z 116 i = ρ 116 i := by
  unfold kq_u kq_6
  rw [js_up_ni _ (by omega), js_up_ni _ (by omega), js_up_ni _ (by omega), js_up_ni _ (by omega), js_up_ni _ (by omega), js_up_ni _ (by omega), js_up_ni _ (by omega), js_up_ni _ (by omega), js_up_ni _ (by omega), js_up_ni _ (by omega), js_up_ni _ (by omega)]
theorem kq_u_s {ρ : js_S} {s : Int} : kq_S ρ (kq_u ρ s (ρ 92 s)) s := by
  have e : ∀ a : Int, a ≠ 116 → kq_6 ρ s a s = ρ a s := fun a h => kq_6_o h
  unfold kq_S kq_u
  rw [e 93 (by decide), e 94 (by decide), e 95 (by decide), e 97 (by decide)]
  unfold kq_6
  refine ⟨?_, ?_, ?_, ?_, ?_, ?_, ?_, ?_, ?_, ?_, ?_⟩
  · rw [js_up_ni _ (by omega), js_up_ni _ (by omega), js_up_ni _ (by omega), js_up_ni _ (by omega), js_up_ni _ (by omega), js_up_ni _ (by omega), js_up_ni _ (by omega), js_up_ni _ (by omega), js_up_ni _ (by omega), js_up_ni _ (by omega), js_up_same]
  · rw [js_up_ni _ (by omega), js_up_ni _ (by omega), js_up_ni _ (by omega), js_up_ni _ (by omega), js_up_ni _ (by omega), js_up_ni _ (by omega), js_up_ni _ (by omega), js_up_ni _ (by omega), js_up_ni _ (by omega), js_up_same]
  · rw [js_up_ni _ (by omega), js_up_ni _ (by omega), js_up_ni _ (by omega), js_up_ni _ (by omega), js_up_ni _ (by omega), js_up_ni _ (by omega), js_up_ni _ (by omega), js_up_ni _ (by omega), js_up_same]
  · rw [js_up_ni _ (by omega), js_up_ni _ (by omega), js_up_ni _ (by omega), js_up_ni _ (by omega), js_up_ni _ (by omega), js_up_ni _ (by omega), js_up_ni _ (by omega), js_up_same]
  · rw [js_up_ni _ (by omega), js_up_ni _ (by omega), js_up_ni _ (by omega), js_up_ni _ (by omega), js_up_ni _ (by omega), js_up_ni _ (by omega), js_up_same]
  · rw [js_up_ni _ (by omega), js_up_ni _ (by omega), js_up_ni _ (by omega), js_up_ni _ (by omega), js_up_ni _ (by omega), js_up_same]
  · rw [js_up_ni _ (by omega), js_up_ni _ (by omega), js_up_ni _ (by omega), js_up_ni _ (by omega), js_up_same]
  · rw [js_up_ni _ (by omega), js_up_ni _ (by omega), js_up_ni _ (by omega), js_up_same]
  · rw [js_up_ni _ (by omega), js_up_ni _ (by omega), js_up_same]
  · rw [js_up_ni _ (by omega), js_up_same]
  · exact js_up_same _ _ _ _
section RK
variable {E : js_E} {d : Nat} {ρ0 : js_S} {M : Nat}
theorem r_keep1 {s : Int} {ρ : js_S} (hs : 0 ≤ s ∧ s < 400) (hm : s < js_w (ρ 83 11)) (h92 : ρ 92 s = 0 ∨ ρ 92 s = 1) : js_J E d 190 18 [(2, 83), (0, s)] [] ρ = js_J E d 190 18 [(2, 83), (0, s + 1)] [] (kq_u ρ s (ρ 92 s)) := by
  have w : ∀ c : Int, 0 ≤ c → c ≤ 4400 → js_w (c + s) = c + s := fun c h1 h2 => js_w_of (by omega) (by omega)
  have w0 : js_w s = s := js_w_of (by omega) (by omega)
  have c : ∀ k : Int, 0 ≤ k → k ≤ 4400 → 0 ≤ k + s ∧ k + s < 4800 := fun k h1 h2 => by omega
  rw [b_190_18, w0, if_pos hm, if_pos hs, if_pos (show 0 ≤ s ∧ s < 4800 by omega), w 400 (by decide) (by decide), if_pos (c 400 (by decide) (by decide)), w 800 (by decide) (by decide), if_pos (c 800 (by decide) (by decide)), w 1200 (by decide) (by decide), if_pos (c 1200 (by decide) (by decide)), w 1600 (by decide) (by decide), if_pos (c 1600 (by decide) (by decide)), w 2000 (by decide) (by decide), if_pos (c 2000 (by decide) (by decide))]
  rcases h92 with h | h
  · rw [h, if_pos (show js_w 0 = 0 from rfl), b_190_141, w0, w 2400 (by decide) (by decide), if_pos (c 2400 (by decide) (by decide)), if_pos hs, w 2800 (by decide) (by decide), if_pos (c 2800 (by decide) (by decide)), w 3200 (by decide) (by decide), if_pos (c 3200 (by decide) (by decide)), w 3600 (by decide) (by decide), if_pos (c 3600 (by decide) (by decide)), w 4000 (by decide) (by decide), if_pos (c 4000 (by decide) (by decide))]
    rfl
  · rw [h, if_neg (show ¬ js_w 1 = 0 by decide), b_190_141, w0, w 2400 (by decide) (by decide), if_pos (c 2400 (by decide) (by decide)), if_pos hs, w 2800 (by decide) (by decide), if_pos (c 2800 (by decide) (by decide)), w 3200 (by decide) (by decide), if_pos (c 3200 (by decide) (by decide)), w 3600 (by decide) (by decide), if_pos (c 3600 (by decide) (by decide)), w 4000 (by decide) (by decide), if_pos (c 4000 (by decide) (by decide))]
    rfl
theorem r_keepS (hM : M ≤ 400) (h11 : ρ0 83 11 = M) (h92 : ∀ s : Int, 0 ≤ s → s < M → ρ0 92 s = 0 ∨ ρ0 92 s = 1) : ∀ (g k : Nat) (ρ : js_S), g + k = M → (∀ a i : Int, a ≠ 116 → ρ a i = ρ0 a i) → (∀ s : Int, 0 ≤ s → s < k → kq_S ρ0 ρ s) → ∃ ρ' : js_S, js_J E d 190 18 [(2, 83), (0, k)] [] ρ = js_J E d 190 214 [(2, 83), (0, 0)] [] ρ' ∧ (∀ a i : Int, a ≠ 116 → ρ' a i = ρ0 a i) ∧ ∀ s : Int, 0 ≤ s → s < M → kq_S ρ0 ρ' s := by
  intro g
  induction g with
  | zero =>
    intro k ρ hg ho h
    have hk : k = M := by omega
    subst hk
    have e11 : ρ 83 11 = k := by rw [ho _ _ (by decide)]; exact h11
    refine ⟨ρ, ?_, ho, h⟩
    rw [b_190_18, e11, if_neg (show ¬ js_w (k : Int) < js_w (k : Int) by omega)]
  | succ g ih =>
    intro k ρ hg ho h
    have e11 : ρ 83 11 = M := by rw [ho _ _ (by decide)]; exact h11
    have e92 : ρ 92 k = ρ0 92 k := ho _ _ (by decide)
    have wM : js_w (M : Int) = M := js_w_of (by omega) (by omega)
    have e1 := r_keep1 (E := E) (d := d) (s := k) (ρ := ρ) (by omega) (by rw [e11, wM]; omega) (by rw [e92]; exact h92 k (by omega) (by omega))
    obtain ⟨ρ', e2, h2⟩ := ih (k + 1) (kq_u ρ k (ρ 92 k)) (by omega) (fun a i q => by rw [kq_u_o q, ho a i q]) (fun s s1 s2 => by
      by_cases q : s = k
      · rw [q]
        have a := kq_u_s (ρ := ρ) (s := k)
        unfold kq_S at a ⊢
        rw [ho 86 _ (by decide), ho 87 _ (by decide), ho 88 _ (by decide), ho 89 _ (by decide), ho 90 _ (by decide), ho 91 _ (by decide), ho 92 _ (by decide), ho 93 _ (by decide), ho 94 _ (by decide), ho 95 _ (by decide), ho 97 _ (by decide)] at a
        rw [e92]
        exact a
      · have s3 : s < k := by push_cast at s2; omega
        have a := h s s1 s3
        unfold kq_S at a ⊢
        rw [kq_u_i (by omega), kq_u_i (by omega), kq_u_i (by omega), kq_u_i (by omega), kq_u_i (by omega), kq_u_i (by omega), kq_u_i (by omega), kq_u_i (by omega), kq_u_i (by omega), kq_u_i (by omega), kq_u_i (by omega)]
        exact a)
    exact ⟨ρ', by rw [e1, show (k : Int) + 1 = ((k + 1 : Nat) : Int) by push_cast; rfl, e2], h2⟩
theorem r_keepN (hM : M ≤ 8000) (h11 : 20 * ρ0 83 11 = M) : ∀ (g k : Nat) (ρ : js_S), g + k = M → (∀ a i : Int, a ≠ 117 → ρ a i = ρ0 a i) → (∀ i : Int, 0 ≤ i → i < k → ρ 117 i = js_i2b (ρ0 98 i)) → ∃ ρ' : js_S, js_J E d 190 214 [(2, 83), (0, k)] [] ρ = js_J E d 190 245 [(2, 83), (0, 0)] [] ρ' ∧ (∀ a i : Int, a ≠ 117 → ρ' a i = ρ0 a i) ∧ ∀ i : Int, 0 ≤ i → i < M → ρ' 117 i = js_i2b (ρ0 98 i) := by
  intro g
  induction g with
  | zero =>
    intro k ρ hg ho h
    have hk : k = M := by omega
    subst hk
    have e11 : 20 * ρ 83 11 = k := by rw [ho _ _ (by decide)]; exact h11
    refine ⟨ρ, ?_, ho, h⟩
    rw [b_190_214, e11, if_neg (show ¬ js_w (k : Int) < js_w (k : Int) by omega)]
  | succ g ih =>
    intro k ρ hg ho h
    have e11 : 20 * ρ 83 11 = M := by rw [ho _ _ (by decide)]; exact h11
    have wM : js_w (M : Int) = M := js_w_of (by omega) (by omega)
    have wk : js_w (k : Int) = k := js_w_of (by omega) (by omega)
    have e98 : js_i2b (ρ 98 k) = js_i2b (ρ0 98 k) := by
      rw [ho _ _ (by decide)]
    obtain ⟨ρ', e2, h2⟩ := ih (k + 1) (js_up ρ 117 k (js_i2b (ρ0 98 k))) (by omega) (fun a i q => by rw [js_up_na _ q, ho a i q]) (fun i s1 s2 => by
      by_cases q : i = k
      · rw [q, js_up_same]
      · rw [js_up_ni _ q]
        exact h i s1 (by push_cast at s2; omega))
    exact ⟨ρ', by rw [b_190_214, e11, wk, wM, if_pos (show (k : Int) < M by omega), if_pos (show 0 ≤ (k : Int) ∧ (k : Int) < 8000 by omega), e98, show (k : Int) + 1 = ((k + 1 : Nat) : Int) by push_cast; rfl, e2], h2⟩
def kq_c (ρ : js_S) (s : Int) : js_S := js_up (js_up (js_up (js_up (js_up ρ 118 s (ρ 111 s)) 118 (8192 + s) (ρ 112 s)) 118 (16384 + s) (ρ 113 s)) 119 s (ρ 114 s)) 119 (8192 + s) (ρ 115 s)
theorem kq_c_o {ρ : js_S} {s a i : Int} (h : a ≠ 118) (h2 : a ≠ 119) : kq_c ρ s a i = ρ a i := by
  unfold kq_c
  rw [js_up_na _ h2, js_up_na _ h2, js_up_na _ h, js_up_na _ h, js_up_na _ h]
theorem kq_c_i {ρ : js_S} {s a i : Int} (h : (i - s) % 8192 ≠ 0) : kq_c ρ s a i = ρ a i := by
  unfold kq_c
  rw [js_up_ni _ (by omega), js_up_ni _ (by omega), js_up_ni _ (by omega), js_up_ni _ (by omega), js_up_ni _ (by omega)]
theorem kq_c_s {ρ : js_S} {s : Int} : kq_C ρ (kq_c ρ s) s := by
  unfold kq_C kq_c
  refine ⟨?_, ?_, ?_, ?_, ?_⟩
  · rw [js_up_na _ (by decide), js_up_na _ (by decide), js_up_ni _ (by omega), js_up_ni _ (by omega), js_up_same]
  · rw [js_up_na _ (by decide), js_up_na _ (by decide), js_up_ni _ (by omega), js_up_same]
  · rw [js_up_na _ (by decide), js_up_na _ (by decide), js_up_same]
  · rw [js_up_ni _ (by omega), js_up_same]
  · exact js_up_same _ _ _ _
theorem r_keepC (hM : M ≤ 8192) (h49 : ρ0 83 49 = M) : ∀ (g k : Nat) (ρ : js_S), g + k = M → (∀ a i : Int, a ≠ 118 → a ≠ 119 → ρ a i = ρ0 a i) → (∀ s : Int, 0 ≤ s → s < k → kq_C ρ0 ρ s) → ∃ ρ' : js_S, js_J E d 190 245 [(2, 83), (0, k)] [] ρ = js_r0 E ρ' ∧ (∀ a i : Int, a ≠ 118 → a ≠ 119 → ρ' a i = ρ0 a i) ∧ ∀ s : Int, 0 ≤ s → s < M → kq_C ρ0 ρ' s := by
  intro g
  induction g with
  | zero =>
    intro k ρ hg ho h
    have hk : k = M := by omega
    subst hk
    have e49 : ρ 83 49 = k := by rw [ho _ _ (by decide) (by decide)]; exact h49
    refine ⟨ρ, ?_, ho, h⟩
    rw [b_190_245, e49, if_neg (show ¬ js_w (k : Int) < js_w (k : Int) by omega)]
  | succ g ih =>
    intro k ρ hg ho h
    have e49 : ρ 83 49 = M := by rw [ho _ _ (by decide) (by decide)]; exact h49
    have wM : js_w (M : Int) = M := js_w_of (by omega) (by omega)
    have wk : js_w (k : Int) = k := js_w_of (by omega) (by omega)
    have w8 : js_w (8192 + (k : Int)) = 8192 + k := js_w_of (by omega) (by omega)
    have w16 : js_w (16384 + (k : Int)) = 16384 + k := js_w_of (by omega) (by omega)
    obtain ⟨ρ', e2, h2⟩ := ih (k + 1) (kq_c ρ k) (by omega) (fun a i q q2 => by rw [kq_c_o q q2, ho a i q q2]) (fun s s1 s2 => by
      by_cases q : s = k
      · rw [q]
        have a := kq_c_s (ρ := ρ) (s := k)
        unfold kq_C at a ⊢
        rw [ho 111 _ (by decide) (by decide), ho 112 _ (by decide) (by decide), ho 113 _ (by decide) (by decide), ho 114 _ (by decide) (by decide), ho 115 _ (by decide) (by decide)] at a
        exact a
      · have s3 : s < k := by push_cast at s2; omega
        have a := h s s1 s3
        unfold kq_C at a ⊢
        rw [kq_c_i (by omega), kq_c_i (by omega), kq_c_i (by omega), kq_c_i (by omega), kq_c_i (by omega)]
        exact a)
    refine ⟨ρ', ?_, h2⟩
    rw [b_190_245, e49, wk, wM, if_pos (show (k : Int) < M by omega), if_pos (show 0 ≤ (k : Int) ∧ (k : Int) < 8192 by omega), if_pos (show 0 ≤ (k : Int) ∧ (k : Int) < 24576 by omega), w8, if_pos (show 0 ≤ 8192 + (k : Int) ∧ 8192 + (k : Int) < 24576 by omega), w16, if_pos (show 0 ≤ 16384 + (k : Int) ∧ 16384 + (k : Int) < 24576 by omega), if_pos (show 0 ≤ (k : Int) ∧ (k : Int) < 16384 by omega), if_pos (show 0 ≤ 8192 + (k : Int) ∧ 8192 + (k : Int) < 16384 by omega), show (k : Int) + 1 = ((k + 1 : Nat) : Int) by push_cast; rfl]
    exact e2
/-- the program is kept -/
def kq_R (ρ ρ' : js_S) : Prop := (∀ a i : Int, ¬ (116 ≤ a ∧ a ≤ 119) → ¬ (a = 83 ∧ (i = 65 ∨ i = 66)) → ρ' a i = ρ a i) ∧ (ρ' 83 65 = ρ 83 11 ∧ ρ' 83 66 = ρ 83 49) ∧ (∀ s : Int, 0 ≤ s → s < ρ 83 11 → kq_S ρ ρ' s) ∧ (∀ i : Int, 0 ≤ i → i < 20 * ρ 83 11 → ρ' 117 i = js_i2b (ρ 98 i)) ∧ ∀ p : Int, 0 ≤ p → p < ρ 83 49 → kq_C ρ ρ' p
theorem r_keep {ρ : js_S} (h11 : 0 ≤ ρ 83 11 ∧ ρ 83 11 ≤ 400) (h49 : 0 ≤ ρ 83 49 ∧ ρ 83 49 ≤ 8192) (h92 : ∀ s : Int, 0 ≤ s → s < ρ 83 11 → ρ 92 s = 0 ∨ ρ 92 s = 1) : ∃ ρ' : js_S, js_J E d 190 0 [(2, 83), (9, 0)] [] ρ = js_r0 E ρ' ∧ kq_R ρ ρ' := by
  have z0 : ∀ a i : Int, ¬ (a = 83 ∧ (i = 65 ∨ i = 66)) → js_up (js_up ρ 83 65 (ρ 83 11)) 83 66 (ρ 83 49) a i = ρ a i := fun a i g => by rw [js_up_ne _ (by omega), js_up_ne _ (by omega)]
  have z65 : js_up (js_up ρ 83 65 (ρ 83 11)) 83 66 (ρ 83 49) 83 65 = ρ 83 11 := by rw [js_up_ni _ (by decide), js_up_same]
  have z66 : js_up (js_up ρ 83 65 (ρ 83 11)) 83 66 (ρ 83 49) 83 66 = ρ 83 49 := js_up_same _ _ _ _
  have e0 : js_J E d 190 0 [(2, 83), (9, 0)] [] ρ = js_J E d 190 18 [(2, 83), (0, 0)] [] (js_up (js_up ρ 83 65 (ρ 83 11)) 83 66 (ρ 83 49)) := b_190_0
  generalize js_up (js_up ρ 83 65 (ρ 83 11)) 83 66 (ρ 83 49) = ρ1 at z0 z65 z66 e0
  have m1 : ((ρ 83 11).toNat : Int) = ρ 83 11 := by omega
  have m2 : ((20 * ρ 83 11).toNat : Int) = 20 * ρ 83 11 := by omega
  have m3 : ((ρ 83 49).toNat : Int) = ρ 83 49 := by omega
  obtain ⟨ρ2, e2, o2, h2⟩ := r_keepS (E := E) (d := d) (ρ0 := ρ1) (M := (ρ 83 11).toNat) (by omega) (by rw [z0 _ _ (by omega)]; omega) (fun s s1 s2 => by rw [z0 _ _ (by omega)]; exact h92 s s1 (by omega)) (ρ 83 11).toNat 0 ρ1 (by omega) (fun _ _ _ => rfl) (fun s s1 s2 => by omega)
  obtain ⟨ρ3, e3, o3, h3⟩ := r_keepN (E := E) (d := d) (ρ0 := ρ2) (M := (20 * ρ 83 11).toNat) (by omega) (by rw [o2 _ _ (by decide), z0 _ _ (by omega)]; omega) (20 * ρ 83 11).toNat 0 ρ2 (by omega) (fun _ _ _ => rfl) (fun s s1 s2 => by omega)
  obtain ⟨ρ4, e4, o4, h4⟩ := r_keepC (E := E) (d := d) (ρ0 := ρ3) (M := (ρ 83 49).toNat) (by omega) (by rw [o3 _ _ (by decide), o2 _ _ (by decide), z0 _ _ (by omega)]; omega) (ρ 83 49).toNat 0 ρ3 (by omega) (fun _ _ _ _ => rfl) (fun s s1 s2 => by omega)
  have e2' : js_J E d 190 18 [(2, 83), (0, 0)] [] ρ1 = js_J E d 190 214 [(2, 83), (0, 0)] [] ρ2 := e2
  have e3' : js_J E d 190 214 [(2, 83), (0, 0)] [] ρ2 = js_J E d 190 245 [(2, 83), (0, 0)] [] ρ3 := e3
  have e4' : js_J E d 190 245 [(2, 83), (0, 0)] [] ρ3 = js_r0 E ρ4 := e4
  have f4 : ∀ a i : Int, ¬ (116 ≤ a ∧ a ≤ 119) → ρ4 a i = ρ1 a i := fun a i g => by rw [o4 a i (by omega) (by omega), o3 a i (by omega), o2 a i (by omega)]
  refine ⟨ρ4, by rw [e0, e2', e3', e4'], fun a i g1 g2 => by rw [f4 a i g1, z0 a i g2], ⟨by rw [f4 _ _ (by omega)]; exact z65, by rw [f4 _ _ (by omega)]; exact z66⟩, fun s s1 s2 => ?_, fun i i1 i2 => ?_, fun p p1 p2 => ?_⟩
  · have a := h2 s s1 (by omega)
    unfold kq_S at a ⊢
    have x : ∀ k : Int, ρ4 116 k = ρ2 116 k := fun k => by rw [o4 _ _ (by decide) (by decide), o3 _ _ (by decide)]
    have y : ∀ k i : Int, k ≠ 83 → ρ1 k i = ρ k i := fun k i hk => z0 k i (by omega)
    rw [y 86 _ (by decide), y 87 _ (by decide), y 88 _ (by decide), y 89 _ (by decide), y 90 _ (by decide), y 91 _ (by decide), y 92 _ (by decide), y 93 _ (by decide), y 94 _ (by decide), y 95 _ (by decide), y 97 _ (by decide)] at a
    rw [x, x, x, x, x, x, x, x, x, x, x]
    exact a
  · rw [o4 _ _ (by decide) (by decide), h3 i i1 (by omega), o2 _ _ (by decide), z0 _ _ (by omega)]
  · have a := h4 p p1 (by omega)
    unfold kq_C at a ⊢
    have y : ∀ k i : Int, 111 ≤ k → k ≤ 115 → ρ3 k i = ρ k i := fun k i k1 k2 => by rw [o3 _ _ (by omega), o2 _ _ (by omega), z0 _ _ (by omega)]
    rw [y 111 _ (by decide) (by decide), y 112 _ (by decide) (by decide), y 113 _ (by decide) (by decide), y 114 _ (by decide) (by decide), y 115 _ (by decide) (by decide)] at a
    exact a
end RK
