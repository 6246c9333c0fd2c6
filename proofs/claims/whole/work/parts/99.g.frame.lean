/-! part 99.g: what reading a program leaves alone; a symbol told to its end -/
/-- how many of a row of symbols there are -/
def sy_c (f : Int → Int) : Nat → Int
  | 0 => 0
  | n + 1 => sy_c f n + (if 0 ≤ f n then 1 else 0)
theorem sy_c_in (f : Int → Int) : ∀ n : Nat, 0 ≤ sy_c f n ∧ sy_c f n ≤ n
  | 0 => ⟨Int.le_refl _, Int.le_refl _⟩
  | n + 1 => by
    have ih := sy_c_in f n
    simp only [sy_c]
    push_cast
    split <;> omega
theorem sy_c_eq {f g : Int → Int} : ∀ n : Nat, (∀ k : Int, 0 ≤ k → k < n → g k = f k) → sy_c g n = sy_c f n
  | 0, _ => rfl
  | n + 1, h => by
    have ih := sy_c_eq n (fun k h1 h2 => h k h1 (by push_cast; omega))
    simp only [sy_c]
    rw [ih, h n (by omega) (by push_cast; omega)]
theorem sy_c_add {f g : Int → Int} {m : Int} (h0 : f m < 0) (h1 : 0 ≤ g m) (hm : 0 ≤ m) (h : ∀ k : Int, k ≠ m → g k = f k) : ∀ n : Nat, m < n → sy_c g n = sy_c f n + 1
  | 0, hn => by push_cast at hn; omega
  | n + 1, hn => by
    simp only [sy_c]
    by_cases q : m = n
    · rw [sy_c_eq n (fun k _ h2 => h k (by omega)), ← q, if_pos h1, if_neg (by omega)]
      omega
    · rw [sy_c_add h0 h1 hm h n (by push_cast at hn; omega), h n (fun hh => q hh.symm)]
      omega
/-- what the reading of a program by compiler b leaves alone, and how many cells it may take -/
def fr_R (b : Int) (σ σ' : js_S) : Prop := (∀ a i : Int, 0 ≤ a → a ≠ 1 → a ≠ 2 → ¬ (6 + b ≤ a ∧ a ≤ 30 + b) → a < σ (-1) 0 → (∀ k : Int, 0 ≤ k → k < 400 → σ (19 + b) k ≠ a) → σ' a i = σ a i) ∧ (∀ i : Int, ¬ (i = 1 ∨ i = 2 ∨ i = 3 ∨ i = 5 ∨ i = 6 ∨ i = 11) → σ' 1 i = σ 1 i) ∧ (∀ k : Int, 0 ≤ k → k < 400 → 0 ≤ σ (19 + b) k → σ' (19 + b) k = σ (19 + b) k) ∧ (∀ k : Int, 0 ≤ k → k < 400 → σ (19 + b) k < 0 → σ' (19 + b) k < 0 ∨ σ (-1) 0 ≤ σ' (19 + b) k) ∧ σ (-1) 0 ≤ σ' (-1) 0 ∧ σ (-1) 1 ≤ σ' (-1) 1 ∧ σ' (-1) 0 - sy_c (σ' (19 + b)) 400 ≤ σ (-1) 0 - sy_c (σ (19 + b)) 400 ∧ σ' (-1) 1 - 15 * sy_c (σ' (19 + b)) 400 ≤ σ (-1) 1 - 15 * sy_c (σ (19 + b)) 400
theorem fr_R_refl (b : Int) (σ : js_S) : fr_R b σ σ := ⟨fun _ _ _ _ _ _ _ _ => rfl, fun _ _ => rfl, fun _ _ _ _ => rfl, fun _ _ _ h => Or.inl h, Int.le_refl _, Int.le_refl _, Int.le_refl _, Int.le_refl _⟩
theorem fr_R_trans {b : Int} {σ σ' τ : js_S} (h : fr_R b σ σ') (h2 : fr_R b σ' τ) : fr_R b σ τ := by
  obtain ⟨a1, a2, a3, a4, a5, a6, a7, a8⟩ := h
  obtain ⟨b1, b2, b3, b4, b5, b6, b7, b8⟩ := h2
  refine ⟨fun a i g1 g2 g3 g4 g5 g6 => ?_, fun i g => (b2 i g).trans (a2 i g), fun k g1 g2 g3 => ?_, fun k g1 g2 g3 => ?_, by omega, by omega, by omega, by omega⟩
  · have e1 := a1 a i g1 g2 g3 g4 g5 g6
    refine (b1 a i g1 g2 g3 g4 (by omega) (fun k h1 h2 hh => ?_)).trans e1
    by_cases q : 0 ≤ σ (19 + b) k
    · rw [a3 k h1 h2 q] at hh
      exact g6 k h1 h2 hh
    · rcases a4 k h1 h2 (by omega) with h | h
      · omega
      · omega
  · rw [b3 k g1 g2 (by rw [a3 k g1 g2 g3]; exact g3), a3 k g1 g2 g3]
  · by_cases q : 0 ≤ σ' (19 + b) k
    · rw [b3 k g1 g2 q]
      exact a4 k g1 g2 g3
    · rcases b4 k g1 g2 (by omega) with h | h
      · exact Or.inl h
      · exact Or.inr (by omega)
theorem fr_R_of {b : Int} {σ σ' : js_S} (hb : b = 0 ∨ b = 25) (h : ∀ a i : Int, ¬ (a = 1 ∧ (i = 1 ∨ i = 2 ∨ i = 3 ∨ i = 5 ∨ i = 6 ∨ i = 11)) → a ≠ 2 → ¬ (6 + b ≤ a ∧ a ≤ 30 + b ∧ a ≠ 19 + b) → (∀ k : Int, 0 ≤ k → k < 400 → a < 137 ∨ σ (19 + b) k ≠ a) → σ' a i = σ a i) : fr_R b σ σ' := by
  have e : σ' (19 + b) = σ (19 + b) := funext (fun i => h _ _ (by omega) (by omega) (by omega) (fun k _ _ => Or.inl (by omega)))
  have m : ∀ i : Int, σ' (-1) i = σ (-1) i := fun i => h _ _ (by omega) (by omega) (by omega) (fun k _ _ => Or.inl (by omega))
  refine ⟨fun a i g1 g2 g3 g4 g5 g6 => h a i (by omega) g3 (by omega) (fun k h1 h2 => Or.inr (g6 k h1 h2)), fun i g => h _ _ (by omega) (by omega) (by omega) (fun k _ _ => Or.inl (by omega)), fun k _ _ _ => by rw [e], fun k _ _ g => by rw [e]; exact Or.inl g, by rw [m]; exact Int.le_refl _, by rw [m]; exact Int.le_refl _, by rw [m, e]; exact Int.le_refl _, by rw [m, e]; exact Int.le_refl _⟩
theorem fr_R_cf {b : Int} {σ σ' : js_S} (hb : b = 0 ∨ b = 25) (h : cf_R b σ σ') : fr_R b σ σ' := fr_R_of hb (fun a i g1 g2 g3 _ => h a i (by omega) g2 (by omega))
theorem fr_R_tk {b : Int} {σ σ' : js_S} (hb : b = 0 ∨ b = 25) (h : tk_fr σ σ') : fr_R b σ σ' := fr_R_of hb (fun a i g1 g2 _ _ => h a i (by omega) g2)
theorem fr_R_og {b : Int} {σ σ' : js_S} (hb : b = 0 ∨ b = 25) (h : of_R σ σ') : fr_R b σ σ' := fr_R_of hb (fun a i g1 g2 _ _ => h a i (by omega) g2)
theorem fr_R_sym {b : Int} {σ : js_S} {n x k v : Int} (hb : b = 0 ∨ b = 25) (hn : 0 ≤ n) (hn2 : n < 400) (hx : σ (19 + b) n = x) (hx2 : 137 ≤ x) : fr_R b σ (js_up σ x k v) := fr_R_of hb (fun a i g1 g2 g3 g4 => js_up_na _ (by
  rcases g4 n hn hn2 with h | h
  · omega
  · exact fun hh => h (by rw [hx, hh])))
theorem fr_R_told {M : Int} {σ τ : js_S} {b m k n s : Int} (hb : b = 0 ∨ b = 25) (hm : 0 ≤ m) (hm2 : m < 400) (h : cx_told M σ τ b m k n s) : fr_R b σ τ := by
  obtain ⟨f1, f2, f3, f4, f5, f7, f8, f9, f10, f11, f12, f13⟩ := h
  have hge := js_sym_ge f1
  have r19 : ∀ i : Int, i ≠ m → τ (19 + b) i = σ (19 + b) i := fun i hi => f7 _ _ (by omega) (by omega) (by omega) (by omega) (by omega) (by omega) (by omega)
  refine ⟨fun a i g1 g2 g3 g4 g5 g6 => ?_, fun i g => f7 _ _ (by omega) (by omega) (by omega) (by omega) (by omega) (by omega) (by omega), fun i h1 h2 h3 => ?_, fun i h1 h2 h3 => ?_, f8, f10, ?_, ?_⟩
  · have hs : a ≠ s := by
      rcases f4 with h | ⟨_, h⟩
      · exact fun hh => g6 m hm hm2 (by rw [← h, hh])
      · omega
    exact f7 _ _ hs (by omega) (by omega) (by omega) (by omega) (by omega) g3
  · by_cases q : i = m
    · rw [q, f3]
      rcases f4 with h | ⟨h, _⟩
      · exact h
      · rw [q] at h3
        omega
    · exact r19 i q
  · by_cases q : i = m
    · rw [q, f3]
      rcases f4 with h | ⟨_, h⟩
      · rw [q] at h3
        omega
      · exact Or.inr (by omega)
    · rw [r19 i q]
      exact Or.inl h3
  · by_cases q : 0 ≤ σ (19 + b) m
    · have e := f12 q
      rw [e.1, sy_c_eq (f := σ (19 + b)) (g := τ (19 + b)) 400 (fun i _ _ => by
        by_cases q2 : i = m
        · rw [q2, f3]
          rcases f4 with h | ⟨h, _⟩
          · exact h
          · omega
        · exact r19 i q2)]
      omega
    · rw [sy_c_add (f := σ (19 + b)) (g := τ (19 + b)) (m := m) (by omega) (by rw [f3]; omega) hm r19 400 (by omega)]
      omega
  · by_cases q : 0 ≤ σ (19 + b) m
    · have e := f12 q
      rw [e.2, sy_c_eq (f := σ (19 + b)) (g := τ (19 + b)) 400 (fun i _ _ => by
        by_cases q2 : i = m
        · rw [q2, f3]
          rcases f4 with h | ⟨h, _⟩
          · exact h
          · omega
        · exact r19 i q2)]
      omega
    · rw [sy_c_add (f := σ (19 + b)) (g := τ (19 + b)) (m := m) (by omega) (by rw [f3]; omega) hm r19 400 (by omega)]
      omega
/-- a symbol that is told to its end becomes visible -/
theorem sy_Y_end {M : Int} {σ ρ : js_S} {b p q : Int} {X X' : Int → Prop} {n x : Int} (hb : b = 0 ∨ b = 25) (hY : sy_Y M σ ρ b p q X) (hn0 : 0 ≤ n) (hn : n < ρ 83 11) (hx : σ (19 + b) n = x) (hF : sy_F σ ρ b n) (hX : ∀ i : Int, X i → X' i ∨ i = n) : sy_Y M (js_up σ x 13 1) (js_up ρ 99 n 1) b p q X' := by
  obtain ⟨y1, y2, y3, y4, y5, y6, y7⟩ := hY
  have hdx := (y6 n hn0 hn).1
  have h0x := (y6 n hn0 hn).2.1
  rw [hx] at hdx h0x
  have ge := js_sym_ge hdx
  have o : ∀ {a i : Int}, (a < 137 ∨ i ≠ 13) → js_up σ x 13 1 a i = σ a i := fun hh => js_up_ne _ (by omega)
  have o19 : ∀ i : Int, js_up σ x 13 1 (19 + b) i = σ (19 + b) i := fun i => o (by omega)
  have dd : ∀ s : Int, js_desc M (js_up σ x 13 1) s = js_desc M σ s := fun s => js_desc_up (by omega) (fun _ => by omega) s
  have r : ∀ {a i : Int}, (a ≠ 99 ∨ i ≠ n) → js_up ρ 99 n 1 a i = ρ a i := fun hh => js_up_ne _ (by omega)
  obtain ⟨s1, s2, s3, s4, s5⟩ := y1
  have e11 : js_up ρ 99 n 1 83 11 = ρ 83 11 := r (by omega)
  refine ⟨⟨by rw [r (by omega)]; exact s1, by rw [r (by omega)]; exact s2, fun i g1 g2 => by rw [e11] at g2; rw [r (by omega)]; exact s3 i g1 g2, fun i k g1 g2 g3 g4 => by rw [e11] at g2; rw [r (by omega)] at g4; rw [r (by omega)]; exact s4 i k g1 g2 g3 g4, fun i g1 g2 => ?_⟩, fun i g1 g2 => by rw [e11] at g2; rw [r (by omega), r (by omega), r (by omega)]; exact rs_6 (y2 i g1 g2) (rs_z_of (y2 i g1 g2).2.2.2.2.2.2 (r (by omega)) (r (by omega)) (r (by omega))), ⟨by rw [o (by omega)]; exact y3.1, by rw [o (by omega)]; exact y3.2⟩, fun i hi hi2 => ?_, by rw [o (by omega), r (by omega)]; exact y5, fun i hi hi2 => ?_, fun i hi hi2 hx' => ?_⟩
  · rw [e11] at g2
    by_cases q1 : i = n
    · rw [q1, js_up_same]
      exact Or.inr rfl
    · rw [r (by omega)]
      exact s5 i g1 g2
  · rw [o19, dd, o (i := 0) (by omega)]
    exact y4 i hi hi2
  · rw [r (by omega)] at hi2
    obtain ⟨a1, a2, a3, a4, a5⟩ := y6 i hi hi2
    have e97 : sy_S (js_up ρ 99 n 1) p q 97 i = sy_S ρ p q 97 i := by
      rw [sy_S_o _ _ _ (by decide), sy_S_o _ _ _ (by decide), r (by omega)]
    refine ⟨by rw [o19, dd]; exact a1, by rw [o19, o (i := 0) (by omega)]; exact a2, ?_, by rw [o19, o (i := 14) (by omega), e97]; exact a4, fun k hk hk2 => ?_⟩
    · rw [o19]
      by_cases q1 : i = n
      · rw [q1, hx, js_up_same]
        unfold sy_S
        split
        · rfl
        · rw [js_up_same]
      · have hne : σ (19 + b) i ≠ x := fun hh => by
          rw [hh, h0x] at a2
          exact q1 a2.symm
        rw [js_up_na _ hne, a3]
        unfold sy_S
        rw [r (by omega)]
    · rw [e97] at hk2
      rw [o (a := 20 + b) (by omega), a5 k hk hk2, sy_S_o _ _ _ (by decide), sy_S_o _ _ _ (by decide), r (by omega)]
  · rw [r (by omega)] at hi2
    have hF2 : sy_F σ ρ b i := by
      by_cases q1 : i = n
      · rw [q1]
        exact hF
      · exact y7 i hi hi2 (fun hh => (hX i hh).elim hx' q1)
    unfold sy_F at hF2 ⊢
    rw [o19, o (i := 1) (by omega), o (i := 2) (by omega), o (i := 3) (by omega), o (i := 4) (by omega), o (i := 6) (by omega), o (i := 7) (by omega), o (i := 8) (by omega), o (i := 10) (by omega), o (i := 12) (by omega)]
    rw [r (by omega), r (by omega), r (by omega), r (by omega), r (by omega), r (by omega), r (by omega), r (by omega), r (by omega)]
    exact hF2
/-- of a name that was told just now -/
theorem kx_R_told {ρ : js_S} {p : Int} {X : Int → Prop} {k : Int} (h : kx_R ρ p p X) (hm : 0 ≤ ρ 83 11) : kx_R (rx_next (rx_told ρ k)) p p (fun i => X i ∨ i = ρ 83 11) := by
  have e11 : rx_next (rx_told ρ k) 83 11 = ρ 83 11 + 1 := by rw [rx_next_o _ (by omega), rx_told_11]
  refine ⟨Or.inl rfl, fun i hi => ?_, fun i hi hi2 hx h8 => ?_⟩
  · rw [sy_S_id, rx_next_o _ (by omega)]
    by_cases q : i = ρ 83 11
    · rw [q, rx_told_99]
      decide
    · have := h.2.1 i (hi.elim id (fun hh => absurd hh q))
      rw [sy_S_id] at this
      rw [rx_told_o ρ k (by omega) (by omega)]
      exact this
  · have q : i ≠ ρ 83 11 := fun hh => hx (Or.inr hh)
    rw [e11] at hi2
    rw [rx_next_o _ (by omega), rx_told_o ρ k (by omega) (by omega)] at h8
    rw [rx_next_o _ (by omega), rx_next_o _ (by omega), rx_next_o _ (by omega), rx_told_o ρ k (by omega) (by omega), rx_told_o ρ k (by omega) (by omega), rx_told_o ρ k (by omega) (by omega)]
    exact h.2.2 i hi (by omega) (fun hh => hx (Or.inl hh)) h8
