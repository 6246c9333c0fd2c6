/-! part 99.r: nodes of the reference; its expressions with a fault -/
/-- one node more -/
def nw_R (ρ ρ' : js_S) (k ty lo hi a b c : Int) : Prop := ρ' 83 33 = ρ 83 33 + 1 ∧ (ρ' 100 (ρ 83 33) = k ∧ ρ' 101 (ρ 83 33) = ty ∧ ρ' 105 (ρ 83 33) = lo ∧ ρ' 106 (ρ 83 33) = hi) ∧ ρ' 102 (ρ 83 33) = a ∧ ρ' 103 (ρ 83 33) = b ∧ ρ' 104 (ρ 83 33) = c ∧ ρ' 107 (ρ 83 33) = -1 ∧ ∀ x i : Int, ¬ (x = 83 ∧ i = 33) → ¬ (100 ≤ x ∧ x ≤ 107 ∧ i = ρ 83 33) → ρ' x i = ρ x i
/-- what reading an e leaves alone of the reference: N nodes were there before -/
def eg_R (N : Int) (ρ ρ' : js_S) : Prop := ∀ a i : Int, ¬ (a = 83 ∧ (5 ≤ i ∧ i ≤ 10 ∨ 27 ≤ i ∧ i ≤ 33 ∨ 42 ≤ i ∧ i ≤ 44)) → ¬ (100 ≤ a ∧ a ≤ 107 ∧ N ≤ i) → ρ' a i = ρ a i
theorem eg_R_refl (N : Int) (ρ : js_S) : eg_R N ρ ρ := fun _ _ _ _ => rfl
theorem eg_R_trans {N N' : Int} {ρ ρ' ρ'' : js_S} (h : eg_R N ρ ρ') (h2 : eg_R N' ρ' ρ'') (hN : N ≤ N') : eg_R N ρ ρ'' := fun a i g1 g2 => (h2 a i g1 (by omega)).trans (h a i g1 g2)
theorem eg_R_og {N : Int} {ρ ρ' : js_S} (h : og_R ρ ρ') : eg_R N ρ ρ' := fun a i g1 _ => h a i (by omega)
theorem eg_R_tf {N : Int} {ρ ρ' : js_S} (h : tf_R ρ ρ') : eg_R N ρ ρ' := fun a i g1 _ => h a i (by omega)
theorem eg_R_t9 {N : Int} {ρ ρ' : js_S} (h : ∀ a i : Int, ¬ (a = 83 ∧ 5 ≤ i ∧ i ≤ 9) → ρ' a i = ρ a i) : eg_R N ρ ρ' := fun a i g1 _ => h a i (by omega)
theorem eg_R_nw {ρ ρ' : js_S} {k ty lo hi a b c : Int} (h : nw_R ρ ρ' k ty lo hi a b c) : eg_R (ρ 83 33) ρ ρ' := fun x i g1 g2 => h.2.2.2.2.2.2 x i (by omega) (by omega)
theorem eg_R_up {N k v : Int} {ρ : js_S} (h : 5 ≤ k ∧ k ≤ 10 ∨ 27 ≤ k ∧ k ≤ 33 ∨ 42 ≤ k ∧ k ≤ 44) : eg_R N ρ (js_up ρ 83 k v) := fun x i g1 g2 => js_up_ne _ (by omega)
theorem eg_R_7 {N n v : Int} {ρ : js_S} (h : N ≤ n) : eg_R N ρ (js_up ρ 107 n v) := fun x i g1 g2 => js_up_ne _ (by omega)
theorem rf_R_eg {N : Int} {ρ ρ' : js_S} (h : eg_R N ρ ρ') : rf_R ρ ρ' := fun a i g1 g2 => h a i (by omega) (by omega)
theorem sy_Y_eg {M N : Int} {σ ρ ρ' : js_S} {b p q : Int} {X : Int → Prop} (h : sy_Y M σ ρ b p q X) (h2 : eg_R N ρ ρ') : sy_Y M σ ρ' b p q X := sy_Y_of h (fun _ _ _ => rfl) (h2 _ _ (by omega) (by omega)) (fun a i _ _ => h2 _ _ (by omega) (by omega))
theorem kx_R_eg {N : Int} {ρ ρ' : js_S} {p q : Int} {X : Int → Prop} (h : kx_R ρ p q X) (h2 : eg_R N ρ ρ') : kx_R ρ' p q X := kx_R_of h (h2 _ _ (by omega) (by omega)) (fun a i _ _ => h2 _ _ (by omega) (by omega))
theorem xt_nd_up {ρ : js_S} {M M' : Int} (hM : M' ≤ M) (e : tr_T) : ∀ N N' n m : Int, N ≤ N' → xt_nd ρ M e N n m → xt_nd ρ M' e N' n m := by
  induction e with
  | leaf => intro N N' n m _ h; exact h
  | inner z d v l r ihl ihr =>
    intro N N' n m hN hp
    rw [xt_nd] at hp ⊢
    by_cases q11 : d.1 = 11
    · rw [if_pos q11] at hp ⊢
      obtain ⟨a1, a2, a3, a4⟩ := hp
      exact ⟨by omega, by omega, ihl _ _ _ _ hN a3, ihr _ _ _ _ hN a4⟩
    · rw [if_neg q11] at hp ⊢
      by_cases q80 : d.1 = 80
      · rw [if_pos q80] at hp ⊢
        exact ⟨ihl _ _ _ _ hN hp.1, ihr _ _ _ _ hN hp.2⟩
      · rw [if_neg q80] at hp ⊢
        obtain ⟨⟨a1, a2, a3⟩, hp⟩ := hp
        refine ⟨⟨by omega, by omega, a3⟩, ?_⟩
        have kl : ∀ c m' : Int, xt_nd ρ M l n c m' → xt_nd ρ M' l n c m' := fun c m' => ihl n n c m' (Int.le_refl _)
        have kr : ∀ c m' : Int, xt_nd ρ M r n c m' → xt_nd ρ M' r n c m' := fun c m' => ihr n n c m' (Int.le_refl _)
        by_cases q1 : d.1 = 1 ∨ d.1 = 2
        · rw [if_pos q1] at hp ⊢
          exact hp
        by_cases q3 : d.1 = 3
        · rw [if_neg q1, if_pos q3] at hp ⊢
          exact ⟨hp.1, kl _ _ hp.2⟩
        by_cases q4 : d.1 = 4
        · rw [if_neg q1, if_neg q3, if_pos q4] at hp ⊢
          exact ⟨kl _ _ hp.1, kr _ _ hp.2.1, hp.2.2⟩
        by_cases q5 : d.1 = 5
        · rw [if_neg q1, if_neg q3, if_neg q4, if_pos q5] at hp ⊢
          exact ⟨kl _ _ hp.1, hp.2⟩
        by_cases q6 : d.1 = 6 ∨ d.1 = 7
        · rw [if_neg q1, if_neg q3, if_neg q4, if_neg q5, if_pos q6] at hp ⊢
          exact ⟨kl _ _ hp.1, kr _ _ hp.2⟩
        by_cases q8 : d.1 = 8
        · rw [if_neg q1, if_neg q3, if_neg q4, if_neg q5, if_neg q6, if_pos q8] at hp ⊢
          exact ⟨kl _ _ hp.1, kr _ _ hp.2⟩
        by_cases q9 : d.1 = 9
        · rw [if_neg q1, if_neg q3, if_neg q4, if_neg q5, if_neg q6, if_neg q8, if_pos q9] at hp ⊢
          exact ⟨kl _ _ hp.1, hp.2⟩
        by_cases q10 : d.1 = 10
        · rw [if_neg q1, if_neg q3, if_neg q4, if_neg q5, if_neg q6, if_neg q8, if_neg q9, if_pos q10] at hp ⊢
          exact ⟨hp.1, kl _ _ hp.2⟩
        rw [if_neg q1, if_neg q3, if_neg q4, if_neg q5, if_neg q6, if_neg q8, if_neg q9, if_neg q10] at hp
        exact hp.elim
/-- a tree stays as reading goes on -/
theorem xt_nd_eg {ρ ρ' : js_S} {e : tr_T} {M M' N N' n m : Int} (h : xt_nd ρ M e N n m) (h2 : eg_R N ρ ρ') (hN : N ≤ N') (hM : M' ≤ M := by omega) : xt_nd ρ' M' e N' n m := xt_nd_up hM e N N' n m hN (xt_nd_of e N n m (fun a i g1 g2 _ g3 => h2 a i (by omega) (by omega)) (fun i _ g1 _ => h2 _ _ (by omega) (by omega)) h)
theorem xt_nd_in {ρ : js_S} {e : tr_T} {M N n m : Int} (h : xt_nd ρ M e N n m) (he : xt_e e) : 0 ≤ n ∧ n < N ∧ ρ 101 n = xt_ty e ∧ ρ 105 n = xt_lo e ∧ ρ 106 n = xt_hi e := by
  cases e with
  | leaf =>
    unfold xt_e at he
    have : xt_k (Std.DTreeMap.Internal.Impl.leaf : tr_T) = 0 := rfl
    omega
  | inner z d v l r =>
    have hk : xt_k (.inner z d v l r) = d.1 := rfl
    unfold xt_e at he
    rw [hk] at he
    rw [xt_nd, if_neg (by omega), if_neg (by omega)] at h
    obtain ⟨⟨a1, a2, a3, a4, a5, a6⟩, _⟩ := h
    exact ⟨a1.1, a2, a4, a5, a6⟩
section RN
variable {E : js_E} {e : Nat} {ρ : js_S}
theorem r_node (h9 : ρ 83 9 = 0) (h0 : 0 ≤ ρ 83 33) (h1 : ρ 83 33 < 66000) {k ty lo hi a b c : Int} (hk : 0 ≤ k) (hk2 : k ≤ 100) : ∃ ρ' : js_S, js_J E e 217 0 [(2, 83), (0, k), (0, ty), (1, lo), (9, 0), (1, hi), (9, 0), (0, a), (0, b), (0, c), (9, 0)] [] ρ = js_r E (0, ρ 83 33) ρ' ∧ nw_R ρ ρ' k ty lo hi a b c := by
  have ek : js_i2b (js_i2b k) = k := by rw [js_i2b_of (x := k) (by omega) (by omega), js_i2b_of (by omega) (by omega)]
  rw [b_217_0, h9, if_neg (show ¬ 0 < js_w 0 by decide), js_w_of (x := ρ 83 33) (by omega) (by omega), if_neg (show ¬ ρ 83 33 = 66000 by omega), if_pos ⟨h0, h1⟩, ek]
  refine ⟨_, rfl, js_up_same _ _ _ _, ⟨?_, ?_, ?_, ?_⟩, ?_, ?_, ?_, ?_, fun x i g1 g2 => ?_⟩
  · rw [js_up_na _ (by decide), js_up_na _ (by decide), js_up_na _ (by decide), js_up_na _ (by decide), js_up_na _ (by decide), js_up_na _ (by decide), js_up_na _ (by decide), js_up_na _ (by decide), js_up_same]
  · rw [js_up_na _ (by decide), js_up_na _ (by decide), js_up_na _ (by decide), js_up_na _ (by decide), js_up_na _ (by decide), js_up_na _ (by decide), js_up_na _ (by decide), js_up_same]
  · rw [js_up_na _ (by decide), js_up_na _ (by decide), js_up_na _ (by decide), js_up_na _ (by decide), js_up_na _ (by decide), js_up_na _ (by decide), js_up_same]
  · rw [js_up_na _ (by decide), js_up_na _ (by decide), js_up_na _ (by decide), js_up_na _ (by decide), js_up_na _ (by decide), js_up_same]
  · rw [js_up_na _ (by decide), js_up_na _ (by decide), js_up_na _ (by decide), js_up_na _ (by decide), js_up_same]
  · rw [js_up_na _ (by decide), js_up_na _ (by decide), js_up_na _ (by decide), js_up_same]
  · rw [js_up_na _ (by decide), js_up_na _ (by decide), js_up_same]
  · rw [js_up_na _ (by decide), js_up_same]
  · rw [js_up_ne _ (by omega), js_up_ne _ (by omega), js_up_ne _ (by omega), js_up_ne _ (by omega), js_up_ne _ (by omega), js_up_ne _ (by omega), js_up_ne _ (by omega), js_up_ne _ (by omega), js_up_ne _ (by omega)]
theorem r_badF (h : rx_F ρ) {k p : Int} : js_J E e 199 0 [(2, 83), (0, k), (0, p)] [] ρ = js_r0 E ρ := by
  rw [r_bad (by have := h.1; omega) h.2.1, rx_bad_F h]
theorem rx_F_5 (h : rx_F ρ) : js_w (ρ 83 5) = 0 := by rw [h.2.2]; rfl
theorem rx_F_9 (h : rx_F ρ) : 0 < js_w (ρ 83 9) := by rw [js_w_of (x := ρ 83 9) (by have := h.1; omega) h.2.1]; exact h.1
theorem r_firstF (h : rx_F ρ) (he : 1 ≤ e) : js_J E e 226 0 [(2, 83), (9, 0)] [] ρ = js_r E (0, 0) ρ := by
  have q := rx_F_5 h
  rw [b_226_0, s_226_4_d (by rw [q]; decide), b_226_188, k_226_194 he (r_badF h), b_226_197]
theorem r_frontF (h : rx_F ρ) (he : 2 ≤ e) : js_J E e 225 0 [(2, 83), (9, 0), (9, 0), (9, 0)] [] ρ = js_r E (0, 0) ρ := by
  rw [b_225_0, rx_F_5 h, if_neg (by decide), if_neg (by decide), k_225_19 (by omega) (r_firstF h (by omega)), b_225_22]
theorem r_product5F (h : rx_F ρ) {x1 : Int} {ux2 ux3 : js_v} : js_J E e 224 5 [(2, 83), (0, x1), ux2, ux3] [] ρ = js_r E (0, x1) ρ := by
  rw [b_224_5, rx_F_5 h, if_neg (by decide), if_neg (by decide), if_neg (by decide)]
theorem r_productF (h : rx_F ρ) (he : 3 ≤ e) : js_J E e 224 0 [(2, 83), (9, 0), (9, 0), (9, 0)] [] ρ = js_r E (0, 0) ρ := by
  rw [b_224_0, k_224_1 (by omega) (r_frontF h (by omega)), b_224_4, r_product5F h]
theorem r_sum5F (h : rx_F ρ) {x1 : Int} {ux2 ux3 : js_v} : js_J E e 223 5 [(2, 83), (0, x1), ux2, ux3] [] ρ = js_r E (0, x1) ρ := by
  rw [b_223_5, rx_F_5 h, if_neg (by decide), if_neg (by decide)]
theorem r_sumF (h : rx_F ρ) (he : 4 ≤ e) : js_J E e 223 0 [(2, 83), (9, 0), (9, 0), (9, 0)] [] ρ = js_r E (0, 0) ρ := by
  rw [b_223_0, k_223_1 (by omega) (r_productF h (by omega)), b_223_4, r_sum5F h]
theorem r_is4F (h : rx_F ρ) {z0 : Int} : js_J E e 222 4 [(2, 83), (9, 0), (9, 0), (9, 0), (9, 0)] [(0, z0)] ρ = js_r E (0, z0) ρ := by
  rw [b_222_4, rx_F_5 h, if_neg (by decide), if_neg (by decide), if_neg (by decide), if_neg (by decide), if_neg (by decide), if_neg (by decide), b_222_94, if_pos (by decide)]
theorem r_isF (h : rx_F ρ) (he : 5 ≤ e) : js_J E e 222 0 [(2, 83), (9, 0), (9, 0), (9, 0), (9, 0)] [] ρ = js_r E (0, 0) ρ := by
  rw [b_222_0, k_222_1 (by omega) (r_sumF h (by omega)), r_is4F h]
theorem r_both5F (h : rx_F ρ) {x1 : Int} {ux2 : js_v} : js_J E e 221 5 [(2, 83), (0, x1), ux2] [] ρ = js_r E (0, x1) ρ := by
  rw [b_221_5, rx_F_5 h, if_neg (by decide)]
theorem r_bothF (h : rx_F ρ) (he : 6 ≤ e) : js_J E e 221 0 [(2, 83), (9, 0), (9, 0)] [] ρ = js_r E (0, 0) ρ := by
  rw [b_221_0, k_221_1 (by omega) (r_isF h (by omega)), b_221_4, r_both5F h]
theorem r_either5F (h : rx_F ρ) {x1 : Int} {ux2 : js_v} : js_J E e 220 5 [(2, 83), (0, x1), ux2] [] ρ = js_r E (0, x1) ρ := by
  rw [b_220_5, rx_F_5 h, if_neg (by decide)]
theorem r_eitherF (h : rx_F ρ) (he : 7 ≤ e) : js_J E e 220 0 [(2, 83), (9, 0), (9, 0)] [] ρ = js_r E (0, 0) ρ := by
  rw [b_220_0, k_220_1 (by omega) (r_bothF h (by omega)), b_220_4, r_either5F h]
theorem r_term4F (h : rx_F ρ) {z0 : Int} : js_J E e 219 4 [(2, 83), (9, 0), (9, 0), (9, 0), (9, 0)] [(0, z0)] ρ = js_r E (0, z0) ρ := by
  rw [b_219_4, rx_F_5 h, if_neg (by decide)]
theorem r_termF (h : rx_F ρ) (he : 8 ≤ e) : js_J E e 219 0 [(2, 83), (9, 0), (9, 0), (9, 0), (9, 0)] [] ρ = js_r E (0, 0) ρ := by
  rw [b_219_0, k_219_1 (by omega) (r_eitherF h (by omega)), r_term4F h]
theorem r_termForF (h : rx_F ρ) (he : 9 ≤ e) {t lo hi : Int} : js_J E e 218 0 [(2, 83), (0, t), (1, lo), (9, 0), (1, hi), (9, 0), (9, 0), (9, 0)] [] ρ = js_r E (0, 0) ρ := by
  rw [b_218_0, k_218_7 (by omega) (r_termF h (by omega)), b_218_10, if_pos (rx_F_9 h)]
theorem r_truthF (h : rx_F ρ) (he : 9 ≤ e) : js_J E e 237 0 [(2, 83), (9, 0), (9, 0)] [] ρ = js_r E (0, 0) ρ := by
  have := rx_F_9 h
  rw [b_237_0, k_237_6 (by omega) (r_termF h (by omega)), b_237_9, if_neg (by omega), b_237_33]
theorem r_nodeF (h : rx_F ρ) {k ty lo hi a b c : Int} : js_J E e 217 0 [(2, 83), (0, k), (0, ty), (1, lo), (9, 0), (1, hi), (9, 0), (0, a), (0, b), (0, c), (9, 0)] [] ρ = js_r E (0, 0) ρ := by
  rw [b_217_0, if_pos (rx_F_9 h)]
theorem r_reckonedF (h : rx_F ρ) {a b c x : Int} : js_J E e 234 0 [(2, 83), (0, a), (0, b), (0, c), (0, x), (9, 0), (9, 0), (9, 0), (9, 0), (9, 0), (9, 0), (9, 0), (9, 0), (9, 0), (9, 0)] [] ρ = js_r E (0, 0) ρ := by
  rw [b_234_0, if_pos (rx_F_9 h)]
theorem r_logicF (h : rx_F ρ) {a b c x : Int} : js_J E e 236 0 [(2, 83), (0, a), (0, b), (0, c), (0, x)] [] ρ = js_r E (0, 0) ρ := by
  rw [b_236_0, if_pos (rx_F_9 h)]
end RN
