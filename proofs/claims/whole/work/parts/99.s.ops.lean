/-! part 99.s: operators of the class: levels, rows, begin -/
/-- the level of a token as an operator -/
def lv_t (t : Int) : Int := if t = 206 then 1 else if t = 205 then 2 else if t = 60 ∨ t = 62 ∨ (201 ≤ t ∧ t ≤ 204) then 3 else if t = 43 ∨ t = 45 then 4 else if t = 42 ∨ t = 47 ∨ t = 37 then 5 else 0
theorem lv_t_in (t : Int) : 0 ≤ lv_t t ∧ lv_t t ≤ 5 := by
  unfold lv_t
  repeat' split
  all_goals omega
/-- the same, where a second comparison ends the e -/
def lv_c (c : Bool) (t : Int) : Int := if c = true ∧ lv_t t = 3 then 0 else lv_t t
theorem lv_c_in (c : Bool) (t : Int) : 0 ≤ lv_c c t ∧ lv_c c t ≤ 5 := by
  have := lv_t_in t
  unfold lv_c
  split <;> omega
/-- what reading an e may change of compiler b: n INSTRUCTIONS, t TEMPS, p waiting operators were there -/
def ef_D (b n t p a i : Int) : Prop := (a = 1 ∧ (i = 1 ∨ i = 2 ∨ i = 3 ∨ i = 5 ∨ i = 11)) ∨ a = 2 ∨ (a = 8 + b ∧ (i = 6 ∨ i = 7 ∨ 10 ≤ i ∧ i ≤ 12)) ∨ (9 + b ≤ a ∧ a ≤ 14 + b ∧ n ≤ i) ∨ (17 + b ≤ a ∧ a ≤ 18 + b ∧ t ≤ i) ∨ (a = 21 + b ∧ 0 ≤ i ∧ i ≤ 2) ∨ (a = 23 + b ∧ (0 ≤ i ∧ i ≤ 3 ∨ i = 15)) ∨ (24 + b ≤ a ∧ a ≤ 30 + b ∧ p ≤ i)
def ef_R (b n t p : Int) (σ σ' : js_S) : Prop := ∀ a i : Int, ¬ ef_D b n t p a i → σ' a i = σ a i
theorem ef_R_refl (b n t p : Int) (σ : js_S) : ef_R b n t p σ σ := fun _ _ _ => rfl
theorem ef_D1 {b n t p a i : Int} (h : a = 1 ∧ (i = 1 ∨ i = 2 ∨ i = 3 ∨ i = 5 ∨ i = 11)) : ef_D b n t p a i := Or.inl h
theorem ef_D2 {b n t p a i : Int} (h : a = 2) : ef_D b n t p a i := Or.inr (Or.inl h)
theorem ef_D8 {b n t p a i : Int} (h : a = 8 + b ∧ (i = 6 ∨ i = 7 ∨ 10 ≤ i ∧ i ≤ 12)) : ef_D b n t p a i := Or.inr (Or.inr (Or.inl h))
theorem ef_D9 {b n t p a i : Int} (h : 9 + b ≤ a ∧ a ≤ 14 + b ∧ n ≤ i) : ef_D b n t p a i := Or.inr (Or.inr (Or.inr (Or.inl h)))
theorem ef_D17 {b n t p a i : Int} (h : 17 + b ≤ a ∧ a ≤ 18 + b ∧ t ≤ i) : ef_D b n t p a i := Or.inr (Or.inr (Or.inr (Or.inr (Or.inl h))))
theorem ef_D21 {b n t p a i : Int} (h : a = 21 + b ∧ 0 ≤ i ∧ i ≤ 2) : ef_D b n t p a i := Or.inr (Or.inr (Or.inr (Or.inr (Or.inr (Or.inl h)))))
theorem ef_D23 {b n t p a i : Int} (h : a = 23 + b ∧ (0 ≤ i ∧ i ≤ 3 ∨ i = 15)) : ef_D b n t p a i := Or.inr (Or.inr (Or.inr (Or.inr (Or.inr (Or.inr (Or.inl h))))))
theorem ef_D24 {b n t p a i : Int} (h : 24 + b ≤ a ∧ a ≤ 30 + b ∧ p ≤ i) : ef_D b n t p a i := Or.inr (Or.inr (Or.inr (Or.inr (Or.inr (Or.inr (Or.inr h))))))
theorem ef_D_mono {b n t p n' t' p' a i : Int} (h1 : n ≤ n') (h2 : t ≤ t') (h3 : p ≤ p') (h : ef_D b n' t' p' a i) : ef_D b n t p a i := by
  rcases h with h | h | h | h | h | h | h | h
  · exact ef_D1 h
  · exact ef_D2 h
  · exact ef_D8 h
  · exact ef_D9 ⟨h.1, h.2.1, by omega⟩
  · exact ef_D17 ⟨h.1, h.2.1, by omega⟩
  · exact ef_D21 h
  · exact ef_D23 h
  · exact ef_D24 ⟨h.1, h.2.1, by omega⟩
theorem ef_R_mono {b n t p n' t' p' : Int} {σ σ' : js_S} (h : ef_R b n' t' p' σ σ') (h1 : n ≤ n') (h2 : t ≤ t') (h3 : p ≤ p') : ef_R b n t p σ σ' := fun a i g => h a i (fun hh => g (ef_D_mono h1 h2 h3 hh))
theorem ef_R_trans {b n t p : Int} {σ σ' τ : js_S} (h : ef_R b n t p σ σ') (h2 : ef_R b n t p σ' τ) : ef_R b n t p σ τ := fun a i g => (h2 a i g).trans (h a i g)
theorem ef_R_tk {b n t p : Int} {σ σ' : js_S} (h : tk_fr σ σ') : ef_R b n t p σ σ' := fun a i g => h a i (fun hh => g (ef_D1 ⟨hh.1, by omega⟩)) (fun hh => g (ef_D2 hh))
theorem ef_R_of {b n t p : Int} {σ σ' : js_S} (h : of_R σ σ') : ef_R b n t p σ σ' := fun a i g => h a i (fun hh => g (ef_D1 ⟨hh.1, by omega⟩)) (fun hh => g (ef_D2 hh))
theorem ef_R_cf {b n t p : Int} {σ σ' : js_S} (h : cf_R b σ σ') : ef_R b n t p σ σ' := fun a i g => h a i (fun hh => g (ef_D1 ⟨hh.1, by omega⟩)) (fun hh => g (ef_D2 hh)) (fun hh => g (ef_D21 hh))
theorem ef_R_em {b n t p : Int} {σ σ' : js_S} {op f s lo hi h : Int} (he : em_R b σ σ' op f s lo hi h) (hn : n ≤ σ (8 + b) 6) : ef_R b n t p σ σ' := fun a i g => he.2.2.2 a i (fun hh => g (ef_D8 ⟨hh.1, by omega⟩)) (fun hh => g (ef_D9 ⟨hh.1, hh.2.1, by omega⟩))
theorem ef_R_kp {b n t p : Int} {σ σ' : js_S} {lo hi : Int} (he : kp_R b σ σ' lo hi) (hn : n ≤ σ (8 + b) 6) (ht : t ≤ σ (8 + b) 10) : ef_R b n t p σ σ' := fun a i g => he.2.2.2.2 a i (fun hh => g (ef_D8 ⟨hh.1, by omega⟩)) (fun hh => g (ef_D9 ⟨hh.1, hh.2.1, by omega⟩)) (fun hh => g (ef_D17 ⟨hh.1, hh.2.1, by omega⟩))
theorem ef_R_cb {b n t p : Int} {σ σ' : js_S} {op lo hi : Int} (he : cb_R b σ σ' op lo hi) (hn : n ≤ σ (8 + b) 6) : ef_R b n t p σ σ' := fun a i g => he.2.2.2.2 a i (fun hh => g (ef_D8 ⟨hh.1, by omega⟩)) (fun hh => g (ef_D9 ⟨hh.1, hh.2.1, by omega⟩))
theorem ef_R_23 {b n t p k v : Int} {σ : js_S} (h : 0 ≤ k ∧ k ≤ 3 ∨ k = 15) : ef_R b n t p σ (js_up σ (23 + b) k v) := fun a i g => js_up_ne _ (fun hh => g (ef_D23 ⟨hh.1, by rw [hh.2]; exact h⟩))
theorem ef_R_land {b n t p x v : Int} {σ : js_S} (h : n ≤ x) : ef_R b n t p σ (js_up σ (10 + b) x v) := fun a i g => js_up_ne _ (fun hh => g (ef_D9 ⟨by omega, by omega, by omega⟩))
theorem fr_R_ef {b n t p : Int} {σ σ' : js_S} (hb : b = 0 ∨ b = 25) (h : ef_R b n t p σ σ') : fr_R b σ σ' := fr_R_of hb (fun a i g1 g2 g3 _ => h a i (by unfold ef_D; omega))
theorem sy_Y_ef {M : Int} {σ ρ σ' : js_S} {b n t p x y : Int} {X : Int → Prop} (hb : b = 0 ∨ b = 25) (h : sy_Y M σ ρ b x y X) (h1 : ef_R b n t p σ σ') : sy_Y M σ' ρ b x y X := sy_Y_of h (fun a i hh => h1 a i (by unfold ef_D; omega)) rfl (fun _ _ _ _ => rfl)
/-- an operator is pushed -/
def pu_R (b : Int) (σ σ' : js_S) (lv jmp : Int) : Prop := σ' (23 + b) 15 = σ (23 + b) 15 + 1 ∧ (σ' (24 + b) (σ (23 + b) 15) = σ 1 1 ∧ σ' (25 + b) (σ (23 + b) 15) = lv ∧ σ' (26 + b) (σ (23 + b) 15) = σ 1 2 ∧ σ' (27 + b) (σ (23 + b) 15) = σ (23 + b) 0 ∧ σ' (28 + b) (σ (23 + b) 15) = σ (23 + b) 1 ∧ σ' (29 + b) (σ (23 + b) 15) = σ (23 + b) 2 ∧ σ' (30 + b) (σ (23 + b) 15) = jmp) ∧ ∀ a i : Int, ¬ (a = 23 + b ∧ i = 15) → ¬ (24 + b ≤ a ∧ a ≤ 30 + b ∧ i = σ (23 + b) 15) → σ' a i = σ a i
section OPS
variable {E : js_E} {d : Nat} {σ ρ : js_S} {b : Int}
theorem c_levelOf {t : Int} (hV : tk_V t) : js_J E d 86 0 [(0, tk_m t)] [] σ = js_r E (0, lv_t t) σ := by
  have hm := tk_m_in hV
  have w : js_w (tk_m t) = tk_m t := js_w_of (by omega) (by omega)
  have inj : ∀ k : Int, tk_V k → (tk_m t = tk_m k ↔ t = k) := fun k hk => tk_m_inj hV hk
  rw [b_86_0]
  unfold lv_t
  by_cases q1 : t = 206
  · rw [if_pos q1, s_86_1_134 (by rw [w, q1]; decide), b_86_116]
  rw [if_neg q1]
  by_cases q2 : t = 205
  · rw [if_pos q2, s_86_1_133 (by rw [w, q2]; decide), b_86_118]
  rw [if_neg q2]
  by_cases q3 : t = 60 ∨ t = 62 ∨ (201 ≤ t ∧ t ≤ 204)
  · rw [if_pos q3]
    have q3' : t = 60 ∨ t = 62 ∨ t = 201 ∨ t = 202 ∨ t = 203 ∨ t = 204 := by omega
    rcases q3' with h | h | h | h | h | h
    · rw [s_86_1_60 (by rw [w, h]; decide), b_86_120]
    · rw [s_86_1_62 (by rw [w, h]; decide), b_86_120]
    · rw [s_86_1_129 (by rw [w, h]; decide), b_86_120]
    · rw [s_86_1_130 (by rw [w, h]; decide), b_86_120]
    · rw [s_86_1_131 (by rw [w, h]; decide), b_86_120]
    · rw [s_86_1_132 (by rw [w, h]; decide), b_86_120]
  rw [if_neg q3]
  by_cases q4 : t = 43 ∨ t = 45
  · rw [if_pos q4]
    rcases q4 with h | h
    · rw [s_86_1_43 (by rw [w, h]; decide), b_86_122]
    · rw [s_86_1_45 (by rw [w, h]; decide), b_86_122]
  rw [if_neg q4]
  by_cases q5 : t = 42 ∨ t = 47 ∨ t = 37
  · rw [if_pos q5]
    rcases q5 with h | h | h
    · rw [s_86_1_42 (by rw [w, h]; decide), b_86_124]
    · rw [s_86_1_47 (by rw [w, h]; decide), b_86_124]
    · rw [s_86_1_37 (by rw [w, h]; decide), b_86_124]
  rw [if_neg q5]
  have n : ∀ k : Int, tk_V k → t ≠ k → tk_m t ≠ tk_m k := fun k hk hne hh => hne ((inj k hk).mp hh)
  have n1 := n 37 (by unfold tk_V; omega) (by omega)
  have n2 := n 42 (by unfold tk_V; omega) (by omega)
  have n3 := n 43 (by unfold tk_V; omega) (by omega)
  have n4 := n 45 (by unfold tk_V; omega) (by omega)
  have n5 := n 47 (by unfold tk_V; omega) (by omega)
  have n6 := n 60 (by unfold tk_V; omega) (by omega)
  have n7 := n 62 (by unfold tk_V; omega) (by omega)
  have n8 := n 201 (by unfold tk_V; omega) (by omega)
  have n9 := n 202 (by unfold tk_V; omega) (by omega)
  have n10 := n 203 (by unfold tk_V; omega) (by omega)
  have n11 := n 204 (by unfold tk_V; omega) (by omega)
  have n12 := n 205 (by unfold tk_V; omega) (by omega)
  have n13 := n 206 (by unfold tk_V; omega) (by omega)
  rw [s_86_1_d (by rw [w]; exact ⟨n1, n2, n3, n4, n5, n6, n7, n8, n9, n10, n11, n12, n13⟩), b_86_126]
theorem c_levelLoop (hb : b = 0 ∨ b = 25) {x1 x2 : Int} (hp : σ (23 + b) 15 ≤ 512) (hl : ∀ k : Int, x1 ≤ k → k < σ (23 + b) 15 → 1 ≤ σ (25 + b) k ∧ σ (25 + b) k ≤ 6) : ∀ (n : Nat) (x3 : Int), (n : Int) = σ (23 + b) 15 - x3 → x1 ≤ x3 → 0 ≤ x3 → ∃ v : Int, js_J E d 85 18 [(2, 23 + b), (0, x1), (0, x2), (0, x3)] [] σ = js_r E (0, v) σ ∧ ((∃ k : Int, x3 ≤ k ∧ k < σ (23 + b) 15 ∧ σ (25 + b) k = 3) → v = 0) ∧ (¬ (∃ k : Int, x3 ≤ k ∧ k < σ (23 + b) 15 ∧ σ (25 + b) k = 3) → v = x2)
  | 0, x3, hn, h1, h0 => by
    push_cast at hn
    refine ⟨x2, ?_, fun ⟨k, g1, g2, _⟩ => by omega, fun _ => rfl⟩
    rw [b_85_18 hb, js_w_of (x := x3) (by omega) (by omega), js_w_of (x := σ (23 + b) 15) (by omega) (by omega), if_neg (by omega)]
  | n + 1, x3, hn, h1, h0 => by
    push_cast at hn
    have hk := hl x3 h1 (by omega)
    rw [b_85_18 hb, js_w_of (x := x3) (by omega) (by omega), js_w_of (x := σ (23 + b) 15) (by omega) (by omega), if_pos (by omega), if_pos (show 0 ≤ x3 ∧ x3 < 512 by omega), js_w_of (x := σ (25 + b) x3) (by omega) (by omega)]
    by_cases q : σ (25 + b) x3 = 3
    · rw [if_pos q]
      exact ⟨0, rfl, fun _ => rfl, fun hh => absurd ⟨x3, by omega, by omega, q⟩ hh⟩
    · obtain ⟨v, e1, e2, e3⟩ := c_levelLoop hb hp hl n (x3 + 1) (by omega) (by omega) (by omega)
      rw [if_neg q]
      refine ⟨v, e1, fun ⟨k, g1, g2, g3⟩ => e2 ⟨k, ?_, g2, g3⟩, fun hh => e3 (fun ⟨k, g1, g2, g3⟩ => hh ⟨k, by omega, g2, g3⟩)⟩
      by_cases q3 : k = x3
      · rw [q3] at g3
        exact absurd g3 q
      · omega
/-- the level of the token that comes next -/
theorem c_levelNext (hb : b = 0 ∨ b = 25) {j : Nat} (hR : rd_R σ ρ j) {x1 : Int} (h0 : 0 ≤ x1) (h1 : x1 ≤ σ (23 + b) 15) (hp : σ (23 + b) 15 ≤ 512) (hl : ∀ k : Int, x1 ≤ k → k < σ (23 + b) 15 → 1 ≤ σ (25 + b) k ∧ σ (25 + b) k ≤ 6) {c : Bool} (hc : c = true ↔ ∃ k : Int, x1 ≤ k ∧ k < σ (23 + b) 15 ∧ σ (25 + b) k = 3) (hd : 1 ≤ d) : js_J E d 85 0 [(2, 23 + b), (0, x1), (9, 0), (9, 0)] [] σ = js_r E (0, lv_c c (ρ 83 5)) σ := by
  obtain ⟨hV, c7, c8⟩ := rd_V hR
  have hi := lv_t_in (ρ 83 5)
  rw [b_85_0 hb, c7, k_85_7 hd (c_levelOf hV), b_85_10, js_w_of (x := lv_t (ρ 83 5)) (by omega) (by omega)]
  unfold lv_c
  by_cases q : lv_t (ρ 83 5) = 3
  · obtain ⟨v, e1, e2, e3⟩ := c_levelLoop (E := E) (d := d) (x1 := x1) (x2 := lv_t (ρ 83 5)) hb hp hl (σ (23 + b) 15 - x1).toNat x1 (by omega) (by omega) h0
    rw [if_pos q, e1]
    by_cases q2 : c = true
    · rw [e2 (hc.mp q2), if_pos ⟨q2, q⟩]
    · rw [e3 (fun hh => q2 (hc.mpr hh)), if_neg (fun hh => q2 hh.1)]
  · rw [if_neg q, if_neg (fun hh => q hh.2)]
theorem c_push (hb : b = 0 ∨ b = 25) (h0 : 0 ≤ σ (23 + b) 15) (h1 : σ (23 + b) 15 < 512) {lv jmp : Int} : ∃ σ' : js_S, js_J E d 63 0 [(2, 23 + b), (0, lv), (0, jmp)] [] σ = js_r0 E σ' ∧ pu_R b σ σ' lv jmp := by
  rw [b_63_0 hb, js_w_of (x := σ (23 + b) 15) (by omega) (by omega), if_pos h1, b_63_26 hb, js_w_of (x := σ (23 + b) 15) (by omega) (by omega), if_pos ⟨h0, h1⟩]
  refine ⟨_, rfl, js_up_same _ _ _ _, ⟨?_, ?_, ?_, ?_, ?_, ?_, ?_⟩, fun a i g1 g2 => ?_⟩
  · rw [js_up_na _ (by omega), js_up_na _ (by omega), js_up_na _ (by omega), js_up_na _ (by omega), js_up_na _ (by omega), js_up_na _ (by omega), js_up_na _ (by omega), js_up_same]
  · rw [js_up_na _ (by omega), js_up_na _ (by omega), js_up_na _ (by omega), js_up_na _ (by omega), js_up_na _ (by omega), js_up_na _ (by omega), js_up_same]
  · rw [js_up_na _ (by omega), js_up_na _ (by omega), js_up_na _ (by omega), js_up_na _ (by omega), js_up_na _ (by omega), js_up_same]
  · rw [js_up_na _ (by omega), js_up_na _ (by omega), js_up_na _ (by omega), js_up_na _ (by omega), js_up_same]
  · rw [js_up_na _ (by omega), js_up_na _ (by omega), js_up_na _ (by omega), js_up_same]
  · rw [js_up_na _ (by omega), js_up_na _ (by omega), js_up_same]
  · rw [js_up_na _ (by omega), js_up_same]
  · rw [js_up_ne _ (by omega), js_up_ne _ (by omega), js_up_ne _ (by omega), js_up_ne _ (by omega), js_up_ne _ (by omega), js_up_ne _ (by omega), js_up_ne _ (by omega), js_up_ne _ (by omega)]
theorem ef_R_pu {n t p lv jmp : Int} {σ' : js_S} (h : pu_R b σ σ' lv jmp) (hp : p ≤ σ (23 + b) 15) : ef_R b n t p σ σ' := fun a i g => h.2.2 a i (fun hh => g (ef_D23 ⟨hh.1, Or.inr hh.2⟩)) (fun hh => g (ef_D24 ⟨hh.1, hh.2.1, by omega⟩))
/-- the INSTRUCTION of an operator -/
def op_t (t : Int) : Int := if t = 43 then 6 else if t = 45 then 7 else if t = 42 then 8 else if t = 47 then 9 else if t = 37 then 10 else if t = 60 then 13 else if t = 201 then 14 else if t = 62 then 15 else if t = 202 then 16 else if t = 203 then 17 else 18
theorem c_opOf {t : Int} (h : 3 ≤ lv_t t) : js_J E d 93 0 [(0, tk_m t), (0, 0)] [] σ = js_r E (0, op_t t) σ := by
  have ht : t = 60 ∨ t = 62 ∨ t = 201 ∨ t = 202 ∨ t = 203 ∨ t = 204 ∨ t = 43 ∨ t = 45 ∨ t = 42 ∨ t = 47 ∨ t = 37 := by
    unfold lv_t at h
    repeat' split at h
    all_goals omega
  rw [b_93_0]
  rcases ht with h | h | h | h | h | h | h | h | h | h | h
  · rw [h, s_93_1_60 (by decide), b_93_124]; rfl
  · rw [h, s_93_1_62 (by decide), b_93_130]; rfl
  · rw [h, s_93_1_129 (by decide), b_93_127]; rfl
  · rw [h, s_93_1_130 (by decide), b_93_133]; rfl
  · rw [h, s_93_1_131 (by decide), b_93_136]; rfl
  · rw [h, s_93_1_132 (by decide), b_93_139]; rfl
  · rw [h, s_93_1_43 (by decide), b_93_100]; rfl
  · rw [h, s_93_1_45 (by decide), b_93_103, if_pos (by decide)]; rfl
  · rw [h, s_93_1_42 (by decide), b_93_115]; rfl
  · rw [h, s_93_1_47 (by decide), b_93_118]; rfl
  · rw [h, s_93_1_37 (by decide), b_93_121]; rfl
theorem c_opFront {t : Int} (h : t = 45 ∨ t = 33) : js_J E d 93 0 [(0, tk_m t), (0, 1)] [] σ = js_r E (0, if t = 45 then 19 else 21) σ := by
  rw [b_93_0]
  rcases h with h | h
  · rw [h, s_93_1_45 (by decide), b_93_103, if_neg (by decide), if_pos rfl]
  · rw [h, s_93_1_d (by decide), b_93_142, if_neg (by decide)]
/-- an operator with a TEMP begins -/
theorem y_begin3 (hb : b = 0 ∨ b = 25) {j : Nat} (hR : rd_R σ ρ j) (hz : cz_R σ b) (ht : 0 ≤ σ (8 + b) 10) (ht2 : σ (8 + b) 10 < 1024) (hm : 0 ≤ σ (8 + b) 11) (hm2 : σ (8 + b) 11 < 10000) (h0 : 0 ≤ σ (23 + b) 15) (h1 : σ (23 + b) 15 < 512) {lv : Int} (hl : 3 ≤ lv) (hl2 : lv ≤ 5) (h5 : ρ 83 5 ≠ 1) (hd : 6 ≤ d) : ∃ (σ1 σ2 σ' : js_S), js_J E d 94 0 [(2, 23 + b), (0, lv), (9, 0)] [] σ = js_r0 E σ' ∧ kp_R b σ σ1 (σ (23 + b) 1) (σ (23 + b) 2) ∧ pu_R b σ1 σ2 lv (-1) ∧ tk_fr σ2 σ' ∧ rd_R σ' (rx_next ρ) (j + 1) := by
  obtain ⟨σ1, e1, k1⟩ := c_keep (E := E) (d := d - 1) (lo := σ (23 + b) 1) (hi := σ (23 + b) 2) hb hz (by omega) ht ht2 hm hm2
  have o1 := k1.2.2.2.2
  have p1 : σ1 (23 + b) 15 = σ (23 + b) 15 := o1 _ _ (by omega) (by omega) (by omega)
  obtain ⟨σ2, e2, k2⟩ := c_push (E := E) (d := d - 1) (σ := σ1) (lv := lv) (jmp := -1) hb (by omega) (by omega)
  have o2 := k2.2.2
  have hR2 : rd_R σ2 ρ j := rd_R_of hR (fun i _ => by rw [o2 _ _ (by omega) (by omega), o1 _ _ (by omega) (by omega) (by omega)]) (fun a i _ _ => by rw [o2 _ _ (by omega) (by omega), o1 _ _ (by omega) (by omega) (by omega)]) (fun _ _ _ => rfl) (fun _ => rfl)
  obtain ⟨σ3, j3, e3, hR3, f3, _, hj3⟩ := y_next (E := E) (d := d - 1) hR2
  have hj := hj3 h5
  subst hj
  refine ⟨σ1, σ2, σ3, ?_, k1, k2, f3, hR3⟩
  rw [b_94_0 hb, js_w_of (x := lv) (by omega) (by omega), if_pos (by omega), k_94_43 hb (by omega) e1, b_94_46, b_94_47, k_94_50 hb (by omega) e2, b_94_53 hb, k_94_57 (by omega) e3, b_94_60]
/-- an operator with a jump begins -/
theorem y_begin1 (hb : b = 0 ∨ b = 25) {j : Nat} (hR : rd_R σ ρ j) (hz : cz_R σ b) (h0 : 0 ≤ σ (23 + b) 15) (h1 : σ (23 + b) 15 < 512) {lv : Int} (hl : lv = 1 ∨ lv = 2) (h5 : ρ 83 5 ≠ 1) (hd : 6 ≤ d) : ∃ (σ1 σ2 σ' : js_S), js_J E d 94 0 [(2, 23 + b), (0, lv), (9, 0)] [] σ = js_r0 E σ' ∧ em_R b σ σ1 (if lv = 1 then 26 else 25) 0 0 1 0 0 ∧ pu_R b σ1 σ2 lv (σ (8 + b) 6) ∧ tk_fr σ2 σ' ∧ rd_R σ' (rx_next ρ) (j + 1) := by
  obtain ⟨σ1, e1, k1⟩ := c_add (E := E) (d := d - 1) (op := if lv = 1 then 26 else 25) (x := 0) hb hz (by omega)
  have o1 := k1.2.2.2
  have p1 : σ1 (23 + b) 15 = σ (23 + b) 15 := o1 _ _ (by omega) (by omega)
  obtain ⟨σ2, e2, k2⟩ := c_push (E := E) (d := d - 1) (σ := σ1) (lv := lv) (jmp := σ (8 + b) 6) hb (by omega) (by omega)
  have o2 := k2.2.2
  have hR2 : rd_R σ2 ρ j := rd_R_of hR (fun i _ => by rw [o2 _ _ (by omega) (by omega), o1 _ _ (by omega) (by omega)]) (fun a i _ _ => by rw [o2 _ _ (by omega) (by omega), o1 _ _ (by omega) (by omega)]) (fun _ _ _ => rfl) (fun _ => rfl)
  obtain ⟨σ3, j3, e3, hR3, f3, _, hj3⟩ := y_next (E := E) (d := d - 1) hR2
  have hj := hj3 h5
  subst hj
  refine ⟨σ1, σ2, σ3, ?_, k1, k2, f3, hR3⟩
  rw [b_94_0 hb, js_w_of (x := lv) (by omega) (by omega), if_neg (by omega)]
  rcases hl with h | h
  · rw [if_pos h] at e1
    rw [if_pos h, b_94_23, k_94_24 hb (by omega) e1, b_94_27, b_94_47, k_94_50 hb (by omega) e2, b_94_53 hb, k_94_57 (by omega) e3, b_94_60]
  · rw [if_neg (by omega)] at e1
    rw [if_neg (by omega), b_94_23, k_94_24 hb (by omega) e1, b_94_27, b_94_47, k_94_50 hb (by omega) e2, b_94_53 hb, k_94_57 (by omega) e3, b_94_60]
end OPS
