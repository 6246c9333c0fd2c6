/-! part 99.zzzzzj: INSTRUCTIONS that read and write CELLs, jump, call; every INSTRUCTION in step -/
/-- the INDEX that a number is, or -1 -/
def ix_I (o A s : Int) : Int := if js_l ((js_l A).tmod o) = 0 then (if js_l ((js_l A).tdiv o) < 0 then -1 else if js_l ((js_l A).tdiv o) < s then js_l ((js_l A).tdiv o) else -1) else -1
section YJ
variable {E : js_E} {d e : Nat} {Fu : Int → Int → Int → Prop} {ac zc N b x0 o c p op f s X A : Int} {σ ρ : js_S}
theorem c_read {k x : Int} (hC : js_isC E.1 x0 o) (hE : 0 ≤ E.1 ∧ E.1 < 2147483648) (hk : 0 ≤ k ∧ k < E.1) (h : js_w x = k) : js_J E d 148 0 [(2, x0), (0, x)] [] σ = js_r E (1, σ (x0 + 2) k) σ := by
  rw [b_148_0 hC hE.1, h, js_w_of (x := E.1) (by omega) (by omega), if_neg (show ¬ k < 0 by omega), if_pos hk.2, if_pos hk]
theorem c_write {k x v : Int} (hC : js_isC E.1 x0 o) (hE : 0 ≤ E.1 ∧ E.1 < 2147483648) (hk : 0 ≤ k ∧ k < E.1) (h : js_w x = k) : js_J E d 122 0 [(2, x0), (0, x), (1, v), (9, 0)] [] σ = js_r0 E (js_up σ (x0 + 2) k v) := by
  rw [b_122_0 hC hE.1, h, js_w_of (x := E.1) (by omega) (by omega), if_neg (show ¬ k < 0 by omega), if_pos hk.2, if_pos hk]
theorem c_index (hC : js_isC E.1 x0 o) (hl : js_l o = o) (hn : o ≠ 0) (hs : 0 ≤ s ∧ s ≤ 4096) : ∃ v : Int, js_J E d 150 0 [(2, x0), (1, A), (9, 0), (0, s), (9, 0), (9, 0)] [] σ = js_r E (0, v) σ ∧ (v = -1 ∧ ix_I o A s = -1 ∨ (0 ≤ ix_I o A s ∧ ix_I o A s < s) ∧ js_l v = ix_I o A s) := by
  rw [b_150_0 hC, hl, if_neg hn, if_neg hn, js_w_of (x := s) (by omega) (by omega), js_l_of (x := s) (by omega) (by omega)]
  unfold ix_I
  by_cases t1 : js_l ((js_l A).tmod o) = 0
  · rw [if_pos t1, if_pos t1, if_neg hn]
    by_cases t2 : js_l ((js_l A).tdiv o) < 0
    · rw [if_pos t2, if_pos t2]
      exact ⟨-1, rfl, Or.inl ⟨rfl, rfl⟩⟩
    · rw [if_neg t2, if_neg t2]
      by_cases t3 : js_l ((js_l A).tdiv o) < s
      · rw [if_pos t3, if_pos t3]
        exact ⟨_, rfl, Or.inr ⟨⟨by omega, t3⟩, rfl⟩⟩
      · rw [if_neg t3, if_neg t3]
        exact ⟨-1, rfl, Or.inl ⟨rfl, rfl⟩⟩
  · rw [if_neg t1, if_neg t1]
    exact ⟨-1, rfl, Or.inl ⟨rfl, rfl⟩⟩
theorem r_index (hc : c = 0 ∧ o = 1 ∨ c = 1 ∧ o = 58659) (hs : 0 ≤ s ∧ s ≤ 4096) : ∃ v : Int, js_J E e 271 0 [(2, 83), (0, c), (1, A), (9, 0), (0, s), (9, 0), (9, 0)] [] ρ = js_r E (0, v) ρ ∧ (v = -1 ∧ ix_I o A s = -1 ∨ (0 ≤ ix_I o A s ∧ ix_I o A s < s) ∧ js_l v = ix_I o A s) := by
  have ws : js_w s = s := js_w_of (by omega) (by omega)
  have ls : js_l s = s := js_l_of (by omega) (by omega)
  unfold ix_I
  rcases hc with ⟨q, q2⟩ | ⟨q, q2⟩
  · subst q q2
    rw [b_271_0, if_neg (show ¬ js_w 0 = 1 by decide), b_271_17, if_neg (show ¬ js_w 0 = 1 by decide), b_271_31, ws, ls, Int.tmod_one, Int.tdiv_one, js_l_l, if_pos (show js_l 0 = 0 by decide)]
    by_cases t2 : js_l A < 0
    · rw [if_pos t2, if_pos t2]
      exact ⟨-1, rfl, Or.inl ⟨rfl, rfl⟩⟩
    · rw [if_neg t2, if_neg t2]
      by_cases t3 : js_l A < s
      · rw [if_pos t3, if_pos t3]
        exact ⟨_, rfl, Or.inr ⟨⟨by omega, t3⟩, rfl⟩⟩
      · rw [if_neg t3, if_neg t3]
        exact ⟨-1, rfl, Or.inl ⟨rfl, rfl⟩⟩
  · subst q q2
    rw [b_271_0, if_pos (show js_w 1 = 1 by decide)]
    by_cases t1 : js_l ((js_l A).tmod 58659) = 0
    · rw [if_pos t1, if_pos t1, b_271_17, if_pos (show js_w 1 = 1 by decide), b_271_31, ws, ls]
      by_cases t2 : js_l ((js_l A).tdiv 58659) < 0
      · rw [if_pos t2, if_pos t2]
        exact ⟨-1, rfl, Or.inl ⟨rfl, rfl⟩⟩
      · rw [if_neg t2, if_neg t2]
        by_cases t3 : js_l ((js_l A).tdiv 58659) < s
        · rw [if_pos t3, if_pos t3]
          exact ⟨_, rfl, Or.inr ⟨⟨by omega, t3⟩, rfl⟩⟩
        · rw [if_neg t3, if_neg t3]
          exact ⟨-1, rfl, Or.inl ⟨rfl, rfl⟩⟩
    · rw [if_neg t1, if_neg t1]
      exact ⟨-1, rfl, Or.inl ⟨rfl, rfl⟩⟩
theorem yi_1 (hx : 59 ≤ x0 ∧ x0 ≤ 76) (hC : js_isC E.1 x0 o) (hc : c = 0 ∧ o = 1 ∨ c = 1 ∧ o = 58659) (hN : 0 ≤ N ∧ N ≤ E.1 ∧ N ≤ 4096 ∧ E.1 < 2147483648) (hf : 0 ≤ f ∧ f < N) (hd : 10 ≤ d) (hq : cq_R N x0 c σ ρ) (h78 : ρ 83 78 = p + 1) (hm : md_R Fu ac zc x0 c (p + 1) σ ρ) : yi_R E d e Fu ac zc N b x0 c p 1 f s X σ ρ := by
  obtain ⟨hc1, wc, c2, ho, _, _⟩ := hc_o hc
  have e1 : yc_J E d b x0 p f 1 σ = js_r E (0, 0) (js_up σ x0 0 (σ (x0 + 2) f)) := by
    unfold yc_J
    rw [s_147_39_1 (show js_w 1 = 1 by decide), b_147_161, k_147_164 hC (by omega) (c_read hC ⟨by omega, by omega⟩ ⟨hf.1, by omega⟩ (js_w_of (by omega) (by omega))), b_147_167 hC]
  have e2 : yr_J E e c 1 f s X ρ = js_r E (0, 1) (js_up ρ 121 c (ρ 120 (4096 * c + f))) := by
    unfold yr_J
    rw [s_270_41_1 (show js_w 1 = 1 by decide), b_270_191, js_w_of (x := 4096 * c + f) (by omega) (by omega), if_pos (show 0 ≤ 4096 * c + f ∧ 4096 * c + f < 8192 by omega), wc, if_pos c2, b_270_891]
  exact yi_A hx.1 hq h78 hm (by decide) e1 e2 (hq.2.2 f hf.1 hf.2)
theorem yi_2 (hx : 59 ≤ x0 ∧ x0 ≤ 76) (hC : js_isC E.1 x0 o) (hc : c = 0 ∧ o = 1 ∨ c = 1 ∧ o = 58659) (hN : 0 ≤ N ∧ N ≤ E.1 ∧ N ≤ 4096 ∧ E.1 < 2147483648) (hf : 0 ≤ f ∧ f < N) (hd : 10 ≤ d) (hq : cq_R N x0 c σ ρ) (h78 : ρ 83 78 = p + 1) (hm : md_R Fu ac zc x0 c (p + 1) σ ρ) : yi_R E d e Fu ac zc N b x0 c p 2 f s X σ ρ := by
  obtain ⟨hc1, wc, c2, ho, _, _⟩ := hc_o hc
  have e1 : yc_J E d b x0 p f 2 σ = js_r E (0, 0) (js_up σ (x0 + 2) f (σ x0 0)) := by
    unfold yc_J
    rw [s_147_39_2 (show js_w 2 = 2 by decide), b_147_172 hC, k_147_178 hC (by omega) (c_write hC ⟨by omega, by omega⟩ ⟨hf.1, by omega⟩ (js_w_of (by omega) (by omega))), b_147_181]
  have e2 : yr_J E e c 2 f s X ρ = js_r E (0, 1) (js_up ρ 120 (4096 * c + f) (ρ 121 c)) := by
    unfold yr_J
    rw [s_270_41_2 (show js_w 2 = 2 by decide), b_270_209, js_w_of (x := 4096 * c + f) (by omega) (by omega), if_pos (show 0 ≤ 4096 * c + f ∧ 4096 * c + f < 8192 by omega), b_270_891]
  exact yi_C hx.1 hc1 hf hq h78 hm (by decide) e1 e2 hq.1
theorem yi_4 (hb : b = 0 ∨ b = 25) (hx : 59 ≤ x0 ∧ x0 ≤ 76) (hC : js_isC E.1 x0 o) (hc : c = 0 ∧ o = 1 ∨ c = 1 ∧ o = 58659) (hN : 0 ≤ N ∧ N ≤ E.1 ∧ N ≤ 4096 ∧ E.1 < 2147483648) (hp : 0 ≤ p ∧ p < 8192) (hs : σ (11 + b) p = s) (hf : 0 ≤ f ∧ 0 ≤ s ∧ f + s ≤ N) (hd : 10 ≤ d) (he : 10 ≤ e) (hq : cq_R N x0 c σ ρ) (h78 : ρ 83 78 = p + 1) (hm : md_R Fu ac zc x0 c (p + 1) σ ρ) : yi_R E d e Fu ac zc N b x0 c p 4 f s X σ ρ := by
  obtain ⟨hc1, wc, c2, ho, hl, hn⟩ := hc_o hc
  have wp : js_w p = p := js_w_of (by omega) (by omega)
  have ei : ix_I o (σ x0 0) s = ix_I o (ρ 121 c) s := by unfold ix_I; rw [hq.1]
  obtain ⟨v, i1, i2⟩ := c_index (E := E) (d := d - 1 - 1) (σ := σ) (A := σ x0 0) hC hl hn ⟨hf.2.1, by omega⟩
  obtain ⟨u, j1, j2⟩ := r_index (E := E) (e := e - 1) (ρ := ρ) (A := ρ 121 c) hc ⟨hf.2.1, by omega⟩
  rw [ei] at i2
  have c0 : ∀ (z : Int) (σ2 : js_S), js_J E (d - 1) 149 9 [(2, x0), (0, f), (0, s), (9, 0)] [(0, v)] σ = js_r E (0, z) σ2 → yc_J E d b x0 p f 4 σ = js_r E (0, z) σ2 := fun z σ2 h => by
    unfold yc_J
    rw [s_147_39_4 (show js_w 4 = 4 by decide), b_147_193 hb, wp, if_pos hp, hs, k_147_201 hC (by omega) (by rw [b_149_0 hC, k_149_6 hC (by omega) i1]; exact h), b_147_204]
  have r0 : yr_J E e c 4 f s X ρ = js_J E e 270 243 [(2, 83), (0, c), (0, 4), (0, f), (0, s), (1, ρ 121 c), (9, 0), (1, ρ 122 c), (9, 0), (0, 4096 * c), (1, X), (9, 0), (9, 0)] [(0, u)] ρ := by
    unfold yr_J
    rw [s_270_41_4 (show js_w 4 = 4 by decide), b_270_234, k_270_240 (by omega) j1]
  generalize ix_I o (ρ 121 c) s = k at i2 j2
  rcases i2 with ⟨a1, a2⟩ | ⟨a1, a2⟩
  · rcases j2 with ⟨b1, b2⟩ | ⟨b1, b2⟩
    · exact yi_T hq (c0 2 σ (by rw [b_149_9, a1, if_pos (show js_w (-1) < 0 by decide)])) (by rw [r0, b_270_243, b1, if_pos (show js_w (-1) < 0 by decide)])
    · omega
  · rcases j2 with ⟨b1, b2⟩ | ⟨b1, b2⟩
    · omega
    · have k1 : js_w v = k := js_w_l0 a2 (by omega) (by omega)
      have k2 : js_w u = k := js_w_l0 b2 (by omega) (by omega)
      have k3 : js_w (f + v) = f + k := js_w_l a2 (by omega) (by omega)
      have k4 : js_w (4096 * c + f + u) = 4096 * c + f + k := js_w_l b2 (by omega) (by omega)
      have e1 : yc_J E d b x0 p f 4 σ = js_r E (0, 0) (js_up σ x0 0 (σ (x0 + 2) (f + k))) := c0 0 _ (by
        rw [b_149_9, k1, if_neg (show ¬ k < 0 by omega), k_149_21 hC (by omega) (c_read hC ⟨by omega, by omega⟩ ⟨by omega, by omega⟩ k3), b_149_24 hC])
      have e2 : yr_J E e c 4 f s X ρ = js_r E (0, 1) (js_up ρ 121 c (ρ 120 (4096 * c + (f + k)))) := by
        rw [r0, b_270_243, k2, if_neg (show ¬ k < 0 by omega), k4, if_pos (show 0 ≤ 4096 * c + f + k ∧ 4096 * c + f + k < 8192 by omega), wc, if_pos c2, b_270_891, Int.add_assoc]
      exact yi_A hx.1 hq h78 hm (by decide) e1 e2 (hq.2.2 (f + k) (by omega) (by omega))
theorem yi_5 (hb : b = 0 ∨ b = 25) (hx : 59 ≤ x0 ∧ x0 ≤ 76) (hC : js_isC E.1 x0 o) (hc : c = 0 ∧ o = 1 ∨ c = 1 ∧ o = 58659) (hN : 0 ≤ N ∧ N ≤ E.1 ∧ N ≤ 4096 ∧ E.1 < 2147483648) (hp : 0 ≤ p ∧ p < 8192) (hs : σ (11 + b) p = s) (hf : 0 ≤ f ∧ 0 ≤ s ∧ f + s ≤ N) (hd : 10 ≤ d) (he : 10 ≤ e) (hq : cq_R N x0 c σ ρ) (h78 : ρ 83 78 = p + 1) (hm : md_R Fu ac zc x0 c (p + 1) σ ρ) : yi_R E d e Fu ac zc N b x0 c p 5 f s X σ ρ := by
  obtain ⟨hc1, wc, c2, ho, hl, hn⟩ := hc_o hc
  have wp : js_w p = p := js_w_of (by omega) (by omega)
  have ei : ix_I o (σ x0 1) s = ix_I o (ρ 122 c) s := by unfold ix_I; rw [hq.2.1]
  obtain ⟨v, i1, i2⟩ := c_index (E := E) (d := d - 1 - 1) (σ := σ) (A := σ x0 1) hC hl hn ⟨hf.2.1, by omega⟩
  obtain ⟨u, j1, j2⟩ := r_index (E := E) (e := e - 1) (ρ := ρ) (A := ρ 122 c) hc ⟨hf.2.1, by omega⟩
  rw [ei] at i2
  have c0 : ∀ (z : Int) (σ2 : js_S), js_J E (d - 1) 151 9 [(2, x0), (0, f), (0, s), (9, 0)] [(0, v)] σ = js_r E (0, z) σ2 → yc_J E d b x0 p f 5 σ = js_r E (0, z) σ2 := fun z σ2 h => by
    unfold yc_J
    rw [s_147_39_5 (show js_w 5 = 5 by decide), b_147_205 hb, wp, if_pos hp, hs, k_147_213 hC (by omega) (by rw [b_151_0 hC, k_151_6 hC (by omega) i1]; exact h), b_147_216]
  have r0 : yr_J E e c 5 f s X ρ = js_J E e 270 282 [(2, 83), (0, c), (0, 5), (0, f), (0, s), (1, ρ 121 c), (9, 0), (1, ρ 122 c), (9, 0), (0, 4096 * c), (1, X), (9, 0), (9, 0)] [(0, u)] ρ := by
    unfold yr_J
    rw [s_270_41_5 (show js_w 5 = 5 by decide), b_270_273, k_270_279 (by omega) j1]
  generalize ix_I o (ρ 122 c) s = k at i2 j2
  rcases i2 with ⟨a1, a2⟩ | ⟨a1, a2⟩
  · rcases j2 with ⟨b1, b2⟩ | ⟨b1, b2⟩
    · exact yi_T hq (c0 2 σ (by rw [b_151_9 hC, a1, if_pos (show js_w (-1) < 0 by decide)])) (by rw [r0, b_270_282, b1, if_pos (show js_w (-1) < 0 by decide)])
    · omega
  · rcases j2 with ⟨b1, b2⟩ | ⟨b1, b2⟩
    · omega
    · have k1 : js_w v = k := js_w_l0 a2 (by omega) (by omega)
      have k2 : js_w u = k := js_w_l0 b2 (by omega) (by omega)
      have k3 : js_w (f + v) = f + k := js_w_l a2 (by omega) (by omega)
      have k4 : js_w (4096 * c + f + u) = 4096 * c + f + k := js_w_l b2 (by omega) (by omega)
      have e1 : yc_J E d b x0 p f 5 σ = js_r E (0, 0) (js_up σ (x0 + 2) (f + k) (σ x0 0)) := c0 0 _ (by
        rw [b_151_9 hC, k1, if_neg (show ¬ k < 0 by omega), k_151_24 hC (by omega) (c_write hC ⟨by omega, by omega⟩ ⟨by omega, by omega⟩ k3), b_151_27])
      have e2 : yr_J E e c 5 f s X ρ = js_r E (0, 1) (js_up ρ 120 (4096 * c + (f + k)) (ρ 121 c)) := by
        rw [r0, b_270_282, k2, if_neg (show ¬ k < 0 by omega), k4, if_pos (show 0 ≤ 4096 * c + f + k ∧ 4096 * c + f + k < 8192 by omega), b_270_891, Int.add_assoc]
      exact yi_C hx.1 hc1 ⟨by omega, by omega⟩ hq h78 hm (by decide) e1 e2 hq.1
/-- jumps of the class -/
theorem c_go {v : Int} {σ2 : js_S} (hC : js_isC E.1 x0 o) (hd : 1 ≤ d) (hop : 24 ≤ op ∧ op ≤ 30) (h : js_J E (d - 1) 152 1 [(2, x0), (0, op), (0, f)] [(0, op)] σ = js_r E (0, v) σ2) : yc_J E d b x0 p f op σ = js_r E (0, v) σ2 := by
  have wo : js_w op = op := js_w_of (by omega) (by omega)
  unfold yc_J
  rw [s_147_39_d (show js_w op < 0 ∨ 23 < js_w op by omega), b_147_257, wo, if_neg (show ¬ op < 24 by omega), k_147_268 hC hd (by rw [b_152_0]; exact h), b_147_271, b_147_280]
theorem yi_24 (hx : 59 ≤ x0 ∧ x0 ≤ 76) (hC : js_isC E.1 x0 o) (hd : 10 ≤ d) (hq : cq_R N x0 c σ ρ) (hm : md_R Fu ac zc x0 c (p + 1) σ ρ) (hj : ∃ (n : Nat) (l : Int), ρ 124 c = n ∧ ms_P Fu ac zc (fun k => ρ 123 (32 * c + k)) n f l) : yi_R E d e Fu ac zc N b x0 c p 24 f s X σ ρ := by
  refine yi_J hx.1 hq hm hj (by decide) (c_go hC (by omega) (by decide) (by rw [s_152_1_24 (show js_w 24 = 24 by decide), b_152_40 hC])) ?_
  unfold yr_J
  rw [s_270_41_24 (show js_w 24 = 24 by decide), b_270_755, b_270_891]
theorem yi_25 (hx : 59 ≤ x0 ∧ x0 ≤ 76) (hC : js_isC E.1 x0 o) (hd : 10 ≤ d) (hq : cq_R N x0 c σ ρ) (h78 : ρ 83 78 = p + 1) (hm : md_R Fu ac zc x0 c (p + 1) σ ρ) (hj : ∃ (n : Nat) (l : Int), ρ 124 c = n ∧ ms_P Fu ac zc (fun k => ρ 123 (32 * c + k)) n f l) : yi_R E d e Fu ac zc N b x0 c p 25 f s X σ ρ := by
  have qa := hq.1
  have m1 := hm.1
  by_cases t : js_l (ρ 121 c) = 0
  · refine yi_J hx.1 hq hm hj (by decide) (c_go hC (by omega) (by decide) (by rw [s_152_1_25 (show js_w 25 = 25 by decide), b_152_47 hC, qa, if_pos t, b_152_65 hC])) ?_
    unfold yr_J
    rw [s_270_41_25 (show js_w 25 = 25 by decide), b_270_763, if_pos t, b_270_779, b_270_891]
  · refine yi_J (q := p + 1) hx.1 hq hm hm.2.2.2 (by decide) (c_go hC (by omega) (by decide) (by rw [s_152_1_25 (show js_w 25 = 25 by decide), b_152_47 hC, qa, if_neg t, b_152_65 hC, m1])) ?_
    unfold yr_J
    rw [s_270_41_25 (show js_w 25 = 25 by decide), b_270_763, if_neg t, b_270_779, b_270_891, h78]
theorem yi_26 (hx : 59 ≤ x0 ∧ x0 ≤ 76) (hC : js_isC E.1 x0 o) (hd : 10 ≤ d) (hq : cq_R N x0 c σ ρ) (h78 : ρ 83 78 = p + 1) (hm : md_R Fu ac zc x0 c (p + 1) σ ρ) (hj : ∃ (n : Nat) (l : Int), ρ 124 c = n ∧ ms_P Fu ac zc (fun k => ρ 123 (32 * c + k)) n f l) : yi_R E d e Fu ac zc N b x0 c p 26 f s X σ ρ := by
  have qa := hq.1
  have m1 := hm.1
  by_cases t : js_l (ρ 121 c) = 0
  · refine yi_J (q := p + 1) hx.1 hq hm hm.2.2.2 (by decide) (c_go hC (by omega) (by decide) (by rw [s_152_1_26 (show js_w 26 = 26 by decide), b_152_70 hC, qa, if_pos t, b_152_88 hC, m1])) ?_
    unfold yr_J
    rw [s_270_41_26 (show js_w 26 = 26 by decide), b_270_785, if_pos t, b_270_801, b_270_891, h78]
  · refine yi_J hx.1 hq hm hj (by decide) (c_go hC (by omega) (by decide) (by rw [s_152_1_26 (show js_w 26 = 26 by decide), b_152_70 hC, qa, if_neg t, b_152_88 hC])) ?_
    unfold yr_J
    rw [s_270_41_26 (show js_w 26 = 26 by decide), b_270_785, if_neg t, b_270_801, b_270_891]
theorem yi_29 (hC : js_isC E.1 x0 o) (hd : 10 ≤ d) (hq : cq_R N x0 c σ ρ) : yi_R E d e Fu ac zc N b x0 c p 29 f s X σ ρ := by
  refine ⟨σ, ρ, 1, 1, c_go hC (by omega) (by decide) (by rw [s_152_1_29 (show js_w 29 = 29 by decide), b_152_104]), ?_, fun _ _ _ _ _ => rfl, fun _ _ _ _ _ _ => rfl, hq, Or.inr (Or.inl ⟨rfl, rfl, rfl⟩)⟩
  unfold yr_J
  rw [s_270_41_29 (show js_w 29 = 29 by decide), b_270_891]
theorem yi_27 {n : Nat} {l z' l' : Int} (hx : 59 ≤ x0 ∧ x0 ≤ 76) (hC : js_isC E.1 x0 o) (hc : c = 0 ∧ o = 1 ∨ c = 1 ∧ o = 58659) (hd : 10 ≤ d) (hq : cq_R N x0 c σ ρ) (h78 : ρ 83 78 = p + 1) (m1 : σ x0 2 = p + 1) (m2 : σ x0 3 = ρ 124 c) (m3 : ∀ k : Int, 0 ≤ k → k < ρ 124 c → σ (x0 + 1) k = ρ 123 (32 * c + k)) (m4 : ρ 124 c = n) (m5 : ms_P Fu ac zc (fun k => ρ 123 (32 * c + k)) n (p + 1) l) (hF : Fu f z' l') (hz : f < z') (hl : 1 ≤ l' ∧ l' < l) : yi_R E d e Fu ac zc N b x0 c p 27 f s X σ ρ := by
  obtain ⟨hc1, wc, c2, ho, _, _⟩ := hc_o hc
  have lv := ms_lv n _ _ m5
  have wn : js_w (n : Int) = n := js_w_of (by omega) (by omega)
  have wk : js_w (32 * c + (n : Int)) = 32 * c + n := js_w_of (by omega) (by omega)
  have e1 : yc_J E d b x0 p f 27 σ = js_r E (0, 0) (js_up (js_up (js_up σ (x0 + 1) n (p + 1)) x0 3 (n + 1)) x0 2 f) := c_go hC (by omega) (by decide) (by
    rw [s_152_1_27 (show js_w 27 = 27 by decide), b_152_93, k_152_95 hC (by omega) (by rw [b_153_0 hC, m2, m4, wn, if_neg (show ¬ (n : Int) < 0 by omega), if_pos (show (n : Int) < 16 by omega), if_pos (show 0 ≤ (n : Int) ∧ (n : Int) < 16 by omega), m1]), b_152_98])
  have e2 : yr_J E e c 27 f s X ρ = js_r E (0, 1) (js_up (js_up (js_up ρ 123 (32 * c + n) (p + 1)) 124 c (n + 1)) 83 78 f) := by
    unfold yr_J
    rw [s_270_41_27 (show js_w 27 = 27 by decide), b_270_807, wc, if_pos c2, m4, wk, if_pos (show 0 ≤ 32 * c + (n : Int) ∧ 32 * c + (n : Int) < 64 by omega), b_270_891, h78]
  refine ⟨_, _, 0, 1, e1, e2, fun a i g1 g2 g3 => by rw [js_up_ne _ (by omega), js_up_ne _ (by omega), js_up_na _ g2], fun a i g1 g2 g3 g4 => by rw [js_up_ne _ (by omega), js_up_ne _ (by omega), js_up_ne _ (by omega)], ⟨?_, ?_, fun k k1 k2 => ?_⟩, Or.inr (Or.inr ⟨rfl, rfl, by decide, ?_⟩)⟩
  · rw [js_up_ni _ (by decide), js_up_ni _ (by decide), js_up_na _ (by omega), js_up_na _ (by decide), js_up_na _ (by decide), js_up_na _ (by decide)]
    exact hq.1
  · rw [js_up_ni _ (by decide), js_up_ni _ (by decide), js_up_na _ (by omega), js_up_na _ (by decide), js_up_na _ (by decide), js_up_na _ (by decide)]
    exact hq.2.1
  · rw [js_up_na _ (by omega), js_up_na _ (by omega), js_up_na _ (by omega), js_up_na _ (by decide), js_up_na _ (by decide), js_up_na _ (by decide)]
    exact hq.2.2 k k1 k2
  · have s1 : js_up (js_up (js_up ρ 123 (32 * c + n) (p + 1)) 124 c (n + 1)) 83 78 f 83 78 = f := js_up_same _ _ _ _
    have s2 : js_up (js_up (js_up ρ 123 (32 * c + n) (p + 1)) 124 c (n + 1)) 83 78 f 124 c = n + 1 := by rw [js_up_na _ (by decide), js_up_same]
    have s3 : ∀ k : Int, k ≠ n → js_up (js_up (js_up ρ 123 (32 * c + n) (p + 1)) 124 c (n + 1)) 83 78 f 123 (32 * c + k) = ρ 123 (32 * c + k) := fun k hk => by rw [js_up_na _ (by decide), js_up_na _ (by decide), js_up_ni _ (by omega)]
    have s4 : js_up (js_up (js_up ρ 123 (32 * c + n) (p + 1)) 124 c (n + 1)) 83 78 f 123 (32 * c + n) = p + 1 := by rw [js_up_na _ (by decide), js_up_na _ (by decide), js_up_same]
    rw [s1]
    refine ⟨js_up_same _ _ _ _, by rw [s2, js_up_ni _ (by decide), js_up_same], fun k k1 k2 => ?_, n + 1, l', by rw [s2]; push_cast; rfl, ⟨f, z', hF, Int.le_refl _, hz⟩, hl.1, l, hl.2, ?_⟩
    · rw [s2] at k2
      rw [js_up_na _ (by omega), js_up_na _ (by omega)]
      by_cases q : k = n
      · rw [q, js_up_same, s4]
      · rw [js_up_ni _ q, s3 k q]
        exact m3 k k1 (by omega)
    · show ms_P Fu ac zc _ n (js_up (js_up (js_up ρ 123 (32 * c + n) (p + 1)) 124 c (n + 1)) 83 78 f 123 (32 * c + n)) l
      rw [s4]
      exact ms_bk n _ _ (fun k k1 k2 => s3 k (by omega)) m5
theorem yi_28 {n : Nat} {l q : Int} (hx : 59 ≤ x0 ∧ x0 ≤ 76) (hC : js_isC E.1 x0 o) (hc : c = 0 ∧ o = 1 ∨ c = 1 ∧ o = 58659) (hd : 10 ≤ d) (hq : cq_R N x0 c σ ρ) (m2 : σ x0 3 = ρ 124 c) (m3 : ∀ k : Int, 0 ≤ k → k < ρ 124 c → σ (x0 + 1) k = ρ 123 (32 * c + k)) (m4 : ρ 124 c = ((n + 1 : Nat) : Int)) (m5 : ms_P Fu ac zc (fun k => ρ 123 (32 * c + k)) (n + 1) q l) : yi_R E d e Fu ac zc N b x0 c p 28 f s X σ ρ := by
  obtain ⟨hc1, wc, c2, ho, _, _⟩ := hc_o hc
  have lv := ms_lv (n + 1) _ _ m5
  obtain ⟨_, _, l2, h2, h3⟩ := m5
  have h3' : ms_P Fu ac zc (fun k => ρ 123 (32 * c + k)) n (ρ 123 (32 * c + n)) l2 := h3
  have m4' : ρ 124 c = (n : Int) + 1 := by rw [m4]; push_cast; rfl
  have lvn : (n : Int) + 1 ≤ 16 := by have := lv.2.1; push_cast at this; omega
  have wn : js_w ((n : Int) + 1) = n + 1 := js_w_of (by omega) (by omega)
  have wm : js_w ((n : Int) + 1 - 1) = n := by rw [show (n : Int) + 1 - 1 = n by omega]; exact js_w_of (by omega) (by omega)
  have wk : js_w (32 * c + ((n : Int) + 1 - 1)) = 32 * c + n := by rw [show 32 * c + ((n : Int) + 1 - 1) = 32 * c + n by omega]; exact js_w_of (by omega) (by omega)
  have bk := m3 n (by omega) (by omega)
  have e1 : yc_J E d b x0 p f 28 σ = js_r E (0, 0) (js_up (js_up σ x0 3 n) x0 2 (ρ 123 (32 * c + n))) := c_go hC (by omega) (by decide) (by
    rw [s_152_1_28 (show js_w 28 = 28 by decide), b_152_99, k_152_100 hC (by omega) (by rw [b_154_0 hC, m2, m4', wn, if_neg (show ¬ (n : Int) + 1 < 1 by omega), if_neg (show ¬ 16 < (n : Int) + 1 by omega), wm, if_pos (show 0 ≤ (n : Int) ∧ (n : Int) < 16 by omega), bk, show (n : Int) + 1 - 1 = n by omega]), b_152_103])
  have e2 : yr_J E e c 28 f s X ρ = js_r E (0, 1) (js_up (js_up ρ 124 c n) 83 78 (ρ 123 (32 * c + n))) := by
    unfold yr_J
    rw [s_270_41_28 (show js_w 28 = 28 by decide), b_270_845, wc, if_pos c2, m4', wk, if_pos (show 0 ≤ 32 * c + (n : Int) ∧ 32 * c + (n : Int) < 64 by omega), b_270_891, show (n : Int) + 1 - 1 = n by omega]
  refine ⟨_, _, 0, 1, e1, e2, fun a i g1 g2 g3 => by rw [js_up_ne _ (by omega), js_up_ne _ (by omega)], fun a i g1 g2 g3 g4 => by rw [js_up_ne _ (by omega), js_up_ne _ (by omega)], ⟨?_, ?_, fun k k1 k2 => ?_⟩, Or.inr (Or.inr ⟨rfl, rfl, by decide, ?_⟩)⟩
  · rw [js_up_ni _ (by decide), js_up_ni _ (by decide), js_up_na _ (by decide), js_up_na _ (by decide)]
    exact hq.1
  · rw [js_up_ni _ (by decide), js_up_ni _ (by decide), js_up_na _ (by decide), js_up_na _ (by decide)]
    exact hq.2.1
  · rw [js_up_na _ (by omega), js_up_na _ (by omega), js_up_na _ (by decide), js_up_na _ (by decide)]
    exact hq.2.2 k k1 k2
  · have s2 : js_up (js_up ρ 124 c n) 83 78 (ρ 123 (32 * c + n)) 124 c = n := by rw [js_up_na _ (by decide), js_up_same]
    have s3 : ∀ k : Int, js_up (js_up ρ 124 c n) 83 78 (ρ 123 (32 * c + n)) 123 (32 * c + k) = ρ 123 (32 * c + k) := fun k => by rw [js_up_na _ (by decide), js_up_na _ (by decide)]
    rw [js_up_same]
    refine ⟨js_up_same _ _ _ _, by rw [s2, js_up_ni _ (by decide), js_up_same], fun k k1 k2 => ?_, n, l2, s2, ?_⟩
    · rw [s2] at k2
      rw [js_up_na _ (by omega), js_up_na _ (by omega), s3]
      exact m3 k k1 (by omega)
    · exact ms_bk n _ _ (fun k k1 k2 => s3 k) h3'
end YJ
