/-! part 99.zzzw: the class settles where variables and TEMPS lie -/
theorem js_w_mod (x : Int) : js_w x = (x + 2147483648) % 4294967296 - 2147483648 := by
  unfold js_w
  rw [Int32.toInt_ofInt]
  show Int.bmod x 4294967296 = _
  rw [Int.bmod_def]
  split <;> omega
theorem js_w_half {H : Int} (h : 0 < js_w H) : js_w ((js_w (H - 1)).tdiv 2) = (js_w H - 1) / 2 ∧ js_w ((js_w H).tmod 2) = js_w H % 2 := by
  have r := js_w_in H
  have e : js_w (H - 1) = js_w H - 1 := by
    have a := js_w_mod H
    have c := js_w_mod (H - 1)
    omega
  rw [e, Int.tdiv_eq_ediv_of_nonneg (by omega), Int.tmod_eq_emod_of_nonneg (by omega)]
  exact ⟨js_w_of (by omega) (by omega), js_w_of (by omega) (by omega)⟩
/-- where unit n begins -/
def un_b (σ : js_S) (b x : Int) : Nat → Int
  | 0 => x
  | n + 1 => un_b σ b x n + σ (15 + b) n + σ (16 + b) n
def us_R (b x : Int) (n : Nat) (σ σ' : js_S) : Prop := (∀ i : Int, 0 ≤ i → i < n → σ' (15 + b) i = un_b σ b x i.toNat ∧ σ' (16 + b) i = un_b σ b x i.toNat + σ (15 + b) i) ∧ ∀ a i : Int, ¬ (15 + b ≤ a ∧ a ≤ 16 + b ∧ 0 ≤ i ∧ i < n) → σ' a i = σ a i
/-- a field of an instruction, settled -/
def rl_f (σ : js_S) (b p : Int) : Int := if 0 < js_w (σ (14 + b) p) ∧ (js_w (σ (14 + b) p) - 1) / 2 < 401 then σ (10 + b) p + σ (if js_w (σ (14 + b) p) % 2 = 1 then 15 + b else 16 + b) ((js_w (σ (14 + b) p) - 1) / 2) else σ (10 + b) p
def ul_R (b : Int) (n : Nat) (σ σ' : js_S) : Prop := (∀ p : Int, 0 ≤ p → p < n → σ' (10 + b) p = rl_f σ b p) ∧ ∀ a i : Int, ¬ (a = 10 + b ∧ 0 ≤ i ∧ i < n) → σ' a i = σ a i
section SE
variable {E : js_E} {d : Nat} {b x1 : Int} {σ0 : js_S}
theorem us_step {k : Nat} {σ : js_S} (hb : b = 0 ∨ b = 25) (h : us_R b x1 k σ0 σ) : us_R b x1 (k + 1) σ0 (js_up (js_up σ (15 + b) k (un_b σ0 b x1 k)) (16 + b) k (un_b σ0 b x1 k + σ (15 + b) k)) := by
  obtain ⟨h1, h2⟩ := h
  have e15 : σ (15 + b) k = σ0 (15 + b) k := h2 _ _ (by omega)
  refine ⟨fun i g1 g2 => ?_, fun a i g => ?_⟩
  · push_cast at g2
    by_cases q : i = k
    · subst q
      rw [js_up_na _ (by omega), js_up_same, js_up_same, e15]
      exact ⟨rfl, rfl⟩
    · rw [js_up_na _ (by omega), js_up_ni _ q, js_up_ni _ q, js_up_na _ (by omega)]
      exact h1 i g1 (by omega)
  · push_cast at g
    rw [js_up_ne _ (by omega), js_up_ne _ (by omega)]
    exact h2 a i (by omega)
theorem c_set1 {N : Nat} (hb : b = 0 ∨ b = 25) (hn : N ≤ 401) (h8 : σ0 (8 + b) 8 = N) : ∀ (g k : Nat) (σ : js_S) (ux4 ux5 : js_v), g + k = N → us_R b x1 k σ0 σ → ∃ (σ' : js_S) (vx4 vx5 : js_v), js_J E d 114 4 [(2, 8 + b), (0, x1), (0, un_b σ0 b x1 k), (0, k), ux4, ux5] [] σ = js_J E d 114 67 [(2, 8 + b), (0, x1), (0, un_b σ0 b x1 N), (0, 0), vx4, vx5] [] σ' ∧ us_R b x1 N σ0 σ' := by
  intro g
  induction g with
  | zero =>
    intro k σ ux4 ux5 hk h
    have ek : k = N := by omega
    subst ek
    have e8 : σ (8 + b) 8 = k := by rw [h.2 _ _ (by omega)]; exact h8
    refine ⟨σ, ux4, ux5, ?_, h⟩
    rw [b_114_4 hb, e8, if_neg (Int.lt_irrefl _), b_114_65]
  | succ g ih =>
    intro k σ ux4 ux5 hk h
    have e8 : σ (8 + b) 8 = N := by rw [h.2 _ _ (by omega)]; exact h8
    have e15 : σ (15 + b) k = σ0 (15 + b) k := h.2 _ _ (by omega)
    have e16 : σ (16 + b) k = σ0 (16 + b) k := h.2 _ _ (by omega)
    have wk : js_w (k : Int) = k := js_w_of (by omega) (by omega)
    have wn : js_w (N : Int) = N := js_w_of (by omega) (by omega)
    have ek : (k : Int) + 1 = ((k + 1 : Nat) : Int) := by push_cast; rfl
    have eu : un_b σ0 b x1 k + σ (15 + b) k + σ (16 + b) k = un_b σ0 b x1 (k + 1) := by
      rw [e15, e16]
      rfl
    obtain ⟨σ', v4, v5, e1, h1⟩ := ih (k + 1) _ (0, σ (15 + b) k) (0, σ (16 + b) k) (by omega) (us_step hb h)
    refine ⟨σ', v4, v5, ?_, h1⟩
    rw [b_114_4 hb, e8, wk, wn, if_pos (by omega), if_pos (by omega), if_pos ⟨by omega, by omega⟩, eu, ek, e1]
theorem c_set2 {σ : js_S} {x2 k : Int} {ux4 ux5 : js_v} (hb : b = 0 ∨ b = 25) (hk : 0 ≤ k ∧ k < 8192) (h6 : k < σ (8 + b) 6 ∧ σ (8 + b) 6 < 2147483648) : ∃ (σ' : js_S) (vx4 : js_v), js_J E d 114 67 [(2, 8 + b), (0, x1), (0, x2), (0, k), ux4, ux5] [] σ = js_J E d 114 67 [(2, 8 + b), (0, x1), (0, x2), (0, k + 1), vx4, ux5] [] σ' ∧ σ' (10 + b) k = rl_f σ b k ∧ ∀ a i : Int, ¬ (a = 10 + b ∧ i = k) → σ' a i = σ a i := by
  have wk : js_w k = k := js_w_of (by omega) (by omega)
  have w6 : js_w (σ (8 + b) 6) = σ (8 + b) 6 := js_w_of (by omega) (by omega)
  have hk' : 0 ≤ k ∧ k < 8192 := hk
  rw [b_114_67 hb, wk, w6, if_pos h6.1, if_pos hk.2, if_pos hk']
  unfold rl_f
  by_cases q : 0 < js_w (σ (14 + b) k)
  · obtain ⟨e1, e2⟩ := js_w_half q
    rw [if_pos q, e1, e2]
    by_cases q1 : (js_w (σ (14 + b) k) - 1) / 2 < 401
    · have q3 : 0 ≤ (js_w (σ (14 + b) k) - 1) / 2 ∧ (js_w (σ (14 + b) k) - 1) / 2 < 401 := ⟨by omega, q1⟩
      rw [if_pos q1, if_pos (show 0 < js_w (σ (14 + b) k) ∧ (js_w (σ (14 + b) k) - 1) / 2 < 401 from ⟨q, q1⟩)]
      by_cases q2 : js_w (σ (14 + b) k) % 2 = 1
      · rw [if_pos q2, if_pos q2, if_pos q3, b_114_149 hb, wk, if_pos hk', b_114_151]
        exact ⟨_, _, rfl, js_up_same _ _ _ _, fun a i g => js_up_ne _ g⟩
      · rw [if_neg q2, if_neg q2, if_pos q3, b_114_149 hb, wk, if_pos hk', b_114_151]
        exact ⟨_, _, rfl, js_up_same _ _ _ _, fun a i g => js_up_ne _ g⟩
    · rw [if_neg q1, if_neg (show ¬ (0 < js_w (σ (14 + b) k) ∧ (js_w (σ (14 + b) k) - 1) / 2 < 401) from fun h => q1 h.2), b_114_151]
      exact ⟨_, _, rfl, rfl, fun _ _ _ => rfl⟩
  · rw [if_neg q, if_neg (show ¬ (0 < js_w (σ (14 + b) k) ∧ (js_w (σ (14 + b) k) - 1) / 2 < 401) from fun h => q h.1), b_114_151]
    exact ⟨_, _, rfl, rfl, fun _ _ _ => rfl⟩
theorem rl_eq {σ σ' : js_S} {p : Int} (hb : b = 0 ∨ b = 25) (h : ∀ a i : Int, ¬ (a = 10 + b ∧ i ≠ p) → σ' a i = σ a i) : rl_f σ' b p = rl_f σ b p := by
  have e14 : σ' (14 + b) p = σ (14 + b) p := h _ _ (by omega)
  have e10 : σ' (10 + b) p = σ (10 + b) p := h _ _ (by omega)
  have e : ∀ x : Int, σ' (if js_w (σ (14 + b) p) % 2 = 1 then 15 + b else 16 + b) x = σ (if js_w (σ (14 + b) p) % 2 = 1 then 15 + b else 16 + b) x := fun x => by
    by_cases q : js_w (σ (14 + b) p) % 2 = 1
    · rw [if_pos q]
      exact h _ _ (by omega)
    · rw [if_neg q]
      exact h _ _ (by omega)
  unfold rl_f
  rw [e14, e10, e]
theorem c_set3 {x2 : Int} {M : Nat} (hb : b = 0 ∨ b = 25) (hM : M ≤ 8192) (h6 : M ≤ σ0 (8 + b) 6 ∧ σ0 (8 + b) 6 < 2147483648) (hst : ¬ (M : Int) < σ0 (8 + b) 6 ∨ M = 8192) : ∀ (g k : Nat) (σ : js_S) (ux4 ux5 : js_v), g + k = M → ul_R b k σ0 σ → ∃ σ' : js_S, js_J E d 114 67 [(2, 8 + b), (0, x1), (0, x2), (0, k), ux4, ux5] [] σ = js_r E (0, x2) σ' ∧ ul_R b M σ0 σ' := by
  intro g
  induction g with
  | zero =>
    intro k σ ux4 ux5 hk h
    have ek : k = M := by omega
    subst ek
    have e6 : σ (8 + b) 6 = σ0 (8 + b) 6 := h.2 _ _ (by omega)
    have wk : js_w (k : Int) = k := js_w_of (by omega) (by omega)
    have w6 : js_w (σ0 (8 + b) 6) = σ0 (8 + b) 6 := js_w_of (by omega) (by omega)
    refine ⟨σ, ?_, h⟩
    rw [b_114_67 hb, e6, wk, w6]
    by_cases q : (k : Int) < σ0 (8 + b) 6
    · rw [if_pos q, if_neg (by omega)]
    · rw [if_neg q]
  | succ g ih =>
    intro k σ ux4 ux5 hk h
    have e6 : σ (8 + b) 6 = σ0 (8 + b) 6 := h.2 _ _ (by omega)
    have ek : (k : Int) + 1 = ((k + 1 : Nat) : Int) := by push_cast; rfl
    obtain ⟨σ1, v4, e1, h1, h2⟩ := c_set2 (E := E) (d := d) (x1 := x1) (x2 := x2) (ux4 := ux4) (ux5 := ux5) (σ := σ) (k := (k : Int)) hb ⟨by omega, by omega⟩ ⟨by omega, by omega⟩
    have hu : ul_R b (k + 1) σ0 σ1 := by
      refine ⟨fun p g1 g2 => ?_, fun a i g => ?_⟩
      · push_cast at g2
        by_cases q : p = k
        · rw [q, h1]
          exact rl_eq hb (fun a i g => h.2 a i (by omega))
        · rw [h2 _ _ (by omega)]
          exact h.1 p g1 (by omega)
      · push_cast at g
        rw [h2 a i (by omega)]
        exact h.2 a i (by omega)
    obtain ⟨σ', e2, h3⟩ := ih (k + 1) σ1 v4 ux5 (by omega) hu
    exact ⟨σ', by rw [e1, ek, e2], h3⟩
/-- settle: N units, M instructions -/
theorem c_settle {N M : Nat} (hb : b = 0 ∨ b = 25) (hn : N ≤ 401) (h8 : σ0 (8 + b) 8 = N) (hM : M ≤ 8192) (h6 : M ≤ σ0 (8 + b) 6 ∧ σ0 (8 + b) 6 < 2147483648) (hst : ¬ (M : Int) < σ0 (8 + b) 6 ∨ M = 8192) : ∃ σ1 σ' : js_S, js_J E d 114 0 [(2, 8 + b), (0, x1), (9, 0), (9, 0), (9, 0), (9, 0)] [] σ0 = js_r E (0, un_b σ0 b x1 N) σ' ∧ us_R b x1 N σ0 σ1 ∧ ul_R b M σ1 σ' := by
  obtain ⟨σ1, v4, v5, e1, h1⟩ := c_set1 (E := E) (d := d) (x1 := x1) hb hn h8 N 0 σ0 (9, 0) (9, 0) (by omega) ⟨fun i g1 g2 => absurd g2 (by omega), fun _ _ _ => rfl⟩
  have e6 : σ1 (8 + b) 6 = σ0 (8 + b) 6 := h1.2 _ _ (by omega)
  obtain ⟨σ2, e2, h2⟩ := c_set3 (E := E) (d := d) (x1 := x1) (x2 := un_b σ0 b x1 N) (M := M) hb hM (by rw [e6]; exact h6) (by rw [e6]; exact hst) M 0 σ1 v4 v5 (by omega) ⟨fun i g1 g2 => absurd g2 (by omega), fun _ _ _ => rfl⟩
  refine ⟨σ1, σ2, ?_, h1, h2⟩
  rw [b_114_0]
  exact e1.trans e2
end SE
