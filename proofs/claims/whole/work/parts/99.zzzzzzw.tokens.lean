/-! part 99.zzzzzzw: the class's words, numbers and kinds of tokens, as the reference's -/
section TW
variable {E : js_E} {d : Nat} {σ ρ : js_S}
/-- the signs of a word, from sign i on -/
def wl_a (s : Int → Int) (k : Int) (w : List Int) (i n : Nat) : Bool := (List.range' i n).all (fun j => decide (w.getD j 0 = s (k + (j : Int))))
theorem wl_a_s (s : Int → Int) (k : Int) (w : List Int) (i n : Nat) : wl_a s k w i (n + 1) = (decide (w.getD i 0 = s (k + (i : Int))) && wl_a s k w (i + 1) n) := by
  unfold wl_a
  rw [List.range'_succ, List.all_cons]
theorem c_word1 (h : tq_R σ ρ) {k len x3 : Int} {p : Nat} {w : List Int} (hk : 0 ≤ k ∧ k < 2147480000) (hp : p + w.length < 106) (hw : ∀ i : Nat, i < w.length → rx_c85 ((p + i : Nat) : Int) = w.getD i 0 ∧ w.getD i 0 ≠ 32 ∧ 0 ≤ w.getD i 0 ∧ w.getD i 0 < 127) (hd : 4 ≤ d) : ∀ (n i : Nat) (fl : Bool) (u : js_v), n + i = w.length → ∃ u' : js_v, js_J E d 30 13 [(2, 1), (0, k), (0, len), (0, x3), (0, (i : Int)), (0, rx_b fl), (0, ((p + i : Nat) : Int)), u] [] σ = js_J E d 30 13 [(2, 1), (0, k), (0, len), (0, x3), (0, (w.length : Int)), (0, rx_b (fl && wl_a (rx_at ρ) k w i n)), (0, ((p + w.length : Nat) : Int)), u'] [] σ := by
  intro n
  induction n with
  | zero =>
    intro i fl u hn
    have hi : i = w.length := by omega
    refine ⟨u, ?_⟩
    rw [hi]
    unfold wl_a
    simp
  | succ n ih =>
    intro i fl u hn
    obtain ⟨w1, w2, w3, w4⟩ := hw i (by omega)
    have wi : js_w ((p + i : Nat) : Int) = ((p + i : Nat) : Int) := js_w_of (by omega) (by omega)
    have sg : js_sg 1 ((p + i : Nat) : Int) = w.getD i 0 := by rw [← w1]; exact kw_cls ⟨p + i, by omega⟩
    have wg : js_w (w.getD i 0) = w.getD i 0 := js_w_of (by omega) (by omega)
    have c1 : ((p + i : Nat) : Int) + 1 = ((p + (i + 1) : Nat) : Int) := by push_cast; omega
    have c2 : (i : Int) + 1 = ((i + 1 : Nat) : Int) := by push_cast; rfl
    have st : js_J E d 30 13 [(2, 1), (0, k), (0, len), (0, x3), (0, (i : Int)), (0, rx_b fl), (0, ((p + i : Nat) : Int)), u] [] σ = (if js_w (rx_b fl) = 0 then js_J E d 30 86 [(2, 1), (0, k), (0, len), (0, x3), (0, (i : Int)), (0, rx_b fl), (0, ((p + i : Nat) : Int)), (0, w.getD i 0)] [] σ else js_J E d 30 74 [(2, 1), (0, k), (0, len), (0, x3), (0, (i : Int)), (0, rx_b fl), (0, ((p + i : Nat) : Int)), (0, w.getD i 0)] [(0, k + (i : Int)), (2, 1)] σ) := by
      rw [b_30_13 hd, wi, if_pos (show ((p + i : Nat) : Int) < 106 by omega), b_30_23 hd (by rw [wi]; omega), wi, sg, wg, if_neg w2]
    rw [st]
    by_cases q : fl = true
    · have a := rx_at_in h.2.2.1 (k := k + (i : Int)) (by omega)
      have wa : js_w (rx_at ρ (k + (i : Int))) = rx_at ρ (k + (i : Int)) := js_w_of (by omega) (by omega)
      rw [if_neg (fun g => by rw [(rx_b_w _).mp g] at q; cases q), k_30_74 (by omega) (c_sAt h (by omega) (by omega)), b_30_77, wa, wg]
      by_cases q2 : rx_at ρ (k + (i : Int)) = w.getD i 0
      · obtain ⟨u', e⟩ := ih (i + 1) true (0, w.getD i 0) (by omega)
        refine ⟨u', ?_⟩
        rw [if_pos q2, b_30_87, b_30_92, c1, c2, wl_a_s, q, decide_eq_true q2.symm]
        exact e
      · obtain ⟨u', e⟩ := ih (i + 1) false (0, w.getD i 0) (by omega)
        refine ⟨u', ?_⟩
        rw [if_neg q2, b_30_86, b_30_87, b_30_92, c1, c2, wl_a_s, q, decide_eq_false (fun g => q2 g.symm)]
        exact e
    · have q' : fl = false := by simpa using q
      obtain ⟨u', e⟩ := ih (i + 1) false (0, w.getD i 0) (by omega)
      refine ⟨u', ?_⟩
      rw [if_pos ((rx_b_w _).mpr q'), b_30_86, b_30_87, b_30_92, c1, c2, q']
      exact e
theorem c_words (h : tq_R σ ρ) {k len : Int} (hk : 0 ≤ k) (hl : 1 ≤ len ∧ k + len ≤ ρ 83 4) (hd : 4 ≤ d) : ∀ (l : List (List Int)) (p : Nat) (c : Int) (u : js_v), rx_ckw l p = true → 0 ≤ c → c + l.length ≤ 1000 → js_J E d 30 13 [(2, 1), (0, k), (0, len), (0, 200 + c), (0, 0), (0, 1), (0, (p : Int)), u] [] σ = js_r E (0, tk_m (rx_find (ρ 84) k len l c)) σ
  | [], p, c, u, hp, hc, hc2 => by
    have e : p = 106 := by simpa [rx_ckw] using hp
    rw [e, b_30_13 hd, if_neg (show ¬ js_w ((106 : Nat) : Int) < 106 by decide)]
    rfl
  | w :: r, p, c, u, hp, hc, hc2 => by
    have h8 := h.2.2.2
    unfold rx_ckw at hp
    simp only [Bool.and_eq_true, decide_eq_true_eq, List.all_eq_true, List.mem_range] at hp
    obtain ⟨⟨⟨g1, g2⟩, g3⟩, g4⟩ := hp
    have hw : ∀ i : Nat, i < w.length → rx_c85 ((p + i : Nat) : Int) = w.getD i 0 ∧ w.getD i 0 ≠ 32 ∧ 0 ≤ w.getD i 0 ∧ w.getD i 0 < 127 := fun i hi => by
      obtain ⟨⟨⟨a1, a2⟩, a3⟩, a4⟩ := g1 i hi
      exact ⟨a1, a2, a3, a4⟩
    obtain ⟨u', e⟩ := c_word1 (E := E) (d := d) (len := len) (x3 := 200 + c) h (k := k) ⟨hk, by omega⟩ g3 hw hd w.length 0 true u rfl
    have e' : js_J E d 30 13 [(2, 1), (0, k), (0, len), (0, 200 + c), (0, 0), (0, 1), (0, (p : Int)), u] [] σ = js_J E d 30 13 [(2, 1), (0, k), (0, len), (0, 200 + c), (0, (w.length : Int)), (0, rx_b (wl_a (rx_at ρ) k w 0 w.length)), (0, ((p + w.length : Nat) : Int)), u'] [] σ := e
    have wi : js_w ((p + w.length : Nat) : Int) = ((p + w.length : Nat) : Int) := js_w_of (by omega) (by omega)
    have sg : js_sg 1 ((p + w.length : Nat) : Int) = 32 := by rw [← g2]; exact kw_cls ⟨p + w.length, by omega⟩
    have wl : js_w (w.length : Int) = w.length := js_w_of (by omega) (by omega)
    have wn : js_w len = len := js_w_of (by omega) (by omega)
    have cp : ((p + w.length : Nat) : Int) + 1 = ((p + w.length + 1 : Nat) : Int) := by push_cast; rfl
    have go := c_words h hk hl hd r (p + w.length + 1) (c + 1) (0, 32) g4 (by omega) (by simp only [List.length_cons] at hc2; push_cast at hc2; omega)
    have st : js_J E d 30 13 [(2, 1), (0, k), (0, len), (0, 200 + c), (0, (w.length : Int)), (0, rx_b (wl_a (rx_at ρ) k w 0 w.length)), (0, ((p + w.length : Nat) : Int)), u'] [] σ = (if js_w (rx_b (wl_a (rx_at ρ) k w 0 w.length)) = 0 then js_r E (0, tk_m (rx_find (ρ 84) k len r (c + 1))) σ else (if (w.length : Int) = len then js_r E (0, 200 + c) σ else js_r E (0, tk_m (rx_find (ρ 84) k len r (c + 1))) σ)) := by
      have bk : js_J E d 30 52 [(2, 1), (0, k), (0, len), (0, 200 + c), (0, (w.length : Int)), (0, rx_b (wl_a (rx_at ρ) k w 0 w.length)), (0, ((p + w.length : Nat) : Int)), (0, 32)] [] σ = js_r E (0, tk_m (rx_find (ρ 84) k len r (c + 1))) σ := by
        rw [b_30_52, b_30_92, cp, show 200 + c + 1 = 200 + (c + 1) by omega, go]
      rw [b_30_13 hd, wi, if_pos (show ((p + w.length : Nat) : Int) < 106 by omega), b_30_23 hd (by rw [wi]; omega), wi, sg, if_pos (show js_w 32 = 32 by decide), bk, wl, wn]
    have key : ∀ q : (w.length : Int) = len, wl_a (rx_at ρ) k w 0 w.length = (List.range w.length).all (fun i => decide (w.getD i 0 = ρ 84 (k + (i : Int)))) := fun q => by
      unfold wl_a
      rw [← List.range_eq_range']
      rw [Bool.eq_iff_iff, List.all_eq_true, List.all_eq_true]
      have ea : ∀ i : Nat, i ∈ List.range w.length → rx_at ρ (k + (i : Int)) = ρ 84 (k + (i : Int)) := fun i hi => by
        have := List.mem_range.mp hi
        unfold rx_at
        rw [if_pos (by omega)]
      constructor
      · intro g i hi
        have := g i hi
        rw [ea i hi] at this
        exact this
      · intro g i hi
        have := g i hi
        rw [ea i hi]
        exact this
    have ef : rx_find (ρ 84) k len (w :: r) c = if (decide ((w.length : Int) = len) && (List.range w.length).all (fun i => decide (w.getD i 0 = ρ 84 (k + (i : Int))))) = true then 300 + c else rx_find (ρ 84) k len r (c + 1) := rfl
    rw [e', st, ef]
    by_cases q1 : (w.length : Int) = len
    · rw [key q1, if_pos q1]
      by_cases q2 : (List.range w.length).all (fun i => decide (w.getD i 0 = ρ 84 (k + (i : Int)))) = true
      · rw [if_neg (fun g => by rw [(rx_b_w _).mp g] at q2; cases q2), decide_eq_true q1, q2, Bool.and_self, if_pos rfl]
        unfold tk_m
        rw [if_neg (by omega), if_neg (by omega), if_pos (by omega), show 300 + c - 100 = 200 + c by omega]
      · have q2' : (List.range w.length).all (fun i => decide (w.getD i 0 = ρ 84 (k + (i : Int)))) = false := by simpa using q2
        rw [if_pos ((rx_b_w _).mpr q2'), q2', Bool.and_false, if_neg (by decide)]
    · rw [if_neg q1, decide_eq_false q1, Bool.false_and, if_neg (show ¬ (false = true) by decide)]
      split <;> rfl
theorem c_word (h : tq_R σ ρ) {k len : Int} (hk : 0 ≤ k) (hl : 1 ≤ len ∧ k + len ≤ ρ 83 4) (hd : 4 ≤ d) : js_J E d 30 0 [(2, 1), (0, k), (0, len), (9, 0), (9, 0), (9, 0), (9, 0), (9, 0)] [] σ = js_r E (0, tk_m (rx_find (ρ 84) k len rx_kws 0)) σ := by
  have g := c_words (E := E) (d := d) h hk hl hd rx_kws 0 0 (9, 0) rx_ckw0 (by decide) (by decide)
  rw [b_30_0]
  exact g
theorem find_long {s : Int → Int} {f n : Int} (hn : 20 < n) : ∀ (l : List (List Int)) (k : Int), l.all (fun w => decide (w.length ≤ 20)) = true → rx_find s f n l k = 2
  | [], _, _ => rfl
  | w :: r, k, h => by
    simp only [List.all_cons, Bool.and_eq_true, decide_eq_true_eq] at h
    unfold rx_find rx_m
    rw [decide_eq_false (show ¬ (w.length : Int) = n by omega), Bool.false_and, if_neg (by decide)]
    exact find_long hn r (k + 1) h.2
/-- the number that n digits from sign i on tell -/
def cn_v (s : Int → Int) (k : Int) : Nat → Int → Int → Int
  | 0, _, v => v
  | n + 1, i, v => cn_v s k n (i + 1) (10 * v + s (k + i) - 48)
theorem c_num (h : tq_R σ ρ) {k len : Int} (hk : 0 ≤ k ∧ k < 100000) (hd : 1 ≤ d) : ∀ (n : Nat) (i v : Int), (n : Int) + i = len → 0 ≤ i → len ≤ 100000 → js_J E d 31 5 [(2, 1), (0, k), (0, len), (1, v), (9, 0), (0, i)] [] σ = js_r E (1, cn_v (rx_at ρ) k n i v) σ
  | 0, i, v, hn, h0, h1 => by
    have wi : js_w i = i := js_w_of (by omega) (by omega)
    have wl : js_w len = len := js_w_of (by omega) (by omega)
    rw [b_31_5, wi, wl, if_neg (by omega)]
    rfl
  | n + 1, i, v, hn, h0, h1 => by
    have wi : js_w i = i := js_w_of (by omega) (by omega)
    have wl : js_w len = len := js_w_of (by omega) (by omega)
    have a := rx_at_in h.2.2.1 (k := k + i) (by omega)
    have wa : js_w (rx_at ρ (k + i)) = rx_at ρ (k + i) := js_w_of (by omega) (by omega)
    rw [b_31_5, wi, wl, if_pos (by push_cast at hn; omega), k_31_21 hd (c_sAt h (by omega) (by omega)), b_31_24, wa, c_num h hk hd n (i + 1) _ (by push_cast at hn; omega) (by omega) h1]
    rfl
theorem nv_cn {s : Int → Int} {f : Int} : ∀ (n : Nat) (p v : Int), f ≤ p → rx_run rx_D s n p - f ≤ 11 → rx_nv s f n p v = cn_v s f (rx_run rx_D s n p - p).toNat (p - f) v
  | 0, p, v, h0, h1 => by
    unfold rx_run rx_nv
    rw [Int.sub_self]
    rfl
  | n + 1, p, v, h0, h1 => by
    unfold rx_run rx_nv
    unfold rx_run at h1
    by_cases q : rx_D (s p) = true
    · rw [if_pos q] at h1
      rw [if_pos q, if_pos q]
      have r := rx_run_in rx_D s n (p + 1)
      rw [if_pos (show p - f < 11 by omega), nv_cn n (p + 1) _ (by omega) h1]
      obtain ⟨m, hm⟩ : ∃ m : Nat, rx_run rx_D s n (p + 1) - (p + 1) = (m : Int) := ⟨(rx_run rx_D s n (p + 1) - (p + 1)).toNat, by omega⟩
      have e1 : (rx_run rx_D s n (p + 1) - (p + 1)).toNat = m := by omega
      have e2 : (rx_run rx_D s n (p + 1) - p).toNat = m + 1 := by omega
      rw [e1, e2]
      show cn_v s f m (p + 1 - f) _ = cn_v s f m (p - f + 1) _
      rw [show p + 1 - f = p - f + 1 by omega, show f + (p - f) = p by omega]
    · rw [if_neg q, if_neg q, Int.sub_self]
      rfl
end TW
