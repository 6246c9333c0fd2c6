/-! part 95: the symbols of both, in step: tell -/
/-- the fields of symbol i (but cell and bound) -/
def sy_F (σ ρ : js_S) (b i : Int) : Prop := σ (σ (19 + b) i) 1 = ρ 86 i ∧ σ (σ (19 + b) i) 2 = ρ 87 i ∧ σ (σ (19 + b) i) 3 = ρ 88 i ∧ σ (σ (19 + b) i) 4 = ρ 89 i ∧ σ (σ (19 + b) i) 6 = ρ 91 i ∧ σ (σ (19 + b) i) 7 = ρ 93 i ∧ σ (σ (19 + b) i) 8 = ρ 94 i ∧ σ (σ (19 + b) i) 10 = ρ 96 i ∧ σ (σ (19 + b) i) 12 = ρ 92 i
/-- the reference's symbols with those from p to q visible (parameters, while their list is read) -/
def sy_S (ρ : js_S) (p q : Int) : js_S := fun a i => if a = 99 ∧ p ≤ i ∧ i < q then 1 else ρ a i
theorem sy_S_o (ρ : js_S) (p q : Int) {a i : Int} (h : a ≠ 99) : sy_S ρ p q a i = ρ a i := if_neg (fun hh => h hh.1)
theorem sy_S_id (ρ : js_S) (p : Int) : sy_S ρ p p = ρ := by
  funext a i
  exact if_neg (by omega)
/-- the symbols of both; X: those whose fields are not told to the end -/
def sy_Y (M : Int) (σ ρ : js_S) (b p q : Int) (X : Int → Prop) : Prop := rs_ok ρ ∧ rs_v ρ ∧ cx_n σ ∧ sy_H M σ b ∧ σ (7 + b) 1 = ρ 83 11 ∧ (∀ i : Int, 0 ≤ i → i < ρ 83 11 → sy_N M σ (sy_S ρ p q) b i) ∧ (∀ i : Int, 0 ≤ i → i < ρ 83 11 → ¬ X i → sy_F σ ρ b i)
/-- both stand at the same token, equally deep -/
def rd_R (σ ρ : js_S) (j : Nat) : Prop := tk_T σ ρ ∧ tk_A σ ρ j ∧ rx_ok ρ ∧ σ 1 5 = ρ 83 10 ∧ 0 ≤ ρ 83 10 ∧ ρ 83 10 ≤ 64
theorem rx_fs_S (ρ : js_S) {p m : Int} : ∀ (n : Nat) (s : Int), (n : Int) = m - s → 0 ≤ s → (0 ≤ rx_fs (sy_S ρ p m) n s ↔ (0 ≤ rx_fs ρ n s ∨ (∃ i : Int, s ≤ i ∧ p ≤ i ∧ i < m ∧ rx_nm ρ i = true)))
  | 0, s, hn, hs => by
    constructor
    · intro h
      simp [rx_fs] at h
    · rintro (h | ⟨i, h1, h2, h3, h4⟩)
      · simp [rx_fs] at h
      · omega
  | n + 1, s, hn, hs => by
    have ih := rx_fs_S ρ (p := p) (m := m) n (s + 1) (by omega) (by omega)
    have en : rx_nm (sy_S ρ p m) s = rx_nm ρ s := by
      have hne : ∀ (n : Nat) (k : Int), rx_ne (sy_S ρ p m) s n k = rx_ne ρ s n k := by
        intro n
        induction n with
        | zero => intro k; rfl
        | succ n ih2 =>
          intro k
          simp only [rx_ne, ih2]
          rw [sy_S_o _ _ _ (by decide), sy_S_o _ _ _ (by decide), sy_S_o _ _ _ (by decide)]
      unfold rx_nm
      rw [hne, sy_S_o _ _ _ (by decide), sy_S_o _ _ _ (by decide), sy_S_o _ _ _ (by decide)]
    simp only [rx_fs]
    rw [en]
    by_cases g : rx_nm ρ s = true
    · by_cases g2 : p ≤ s
      · have e : sy_S ρ p m 99 s = 1 := if_pos ⟨rfl, g2, by omega⟩
        rw [if_pos ⟨e, g⟩]
        constructor
        · intro _
          exact Or.inr ⟨s, by omega, g2, by omega, g⟩
        · intro _
          exact hs
      · have e : sy_S ρ p m 99 s = ρ 99 s := if_neg (by omega)
        rw [e]
        by_cases g3 : ρ 99 s = 1
        · rw [if_pos ⟨g3, g⟩, if_pos ⟨g3, g⟩]
          constructor
          · intro h
            exact Or.inl h
          · intro _
            exact hs
        · rw [if_neg (fun hh => g3 hh.1), if_neg (fun hh => g3 hh.1), ih]
          constructor
          · rintro (h | ⟨i, h1, h2, h3, h4⟩)
            · exact Or.inl h
            · exact Or.inr ⟨i, by omega, h2, h3, h4⟩
          · rintro (h | ⟨i, h1, h2, h3, h4⟩)
            · exact Or.inl h
            · refine Or.inr ⟨i, ?_, h2, h3, h4⟩
              omega
    · rw [if_neg (fun hh => g hh.2), if_neg (fun hh => g hh.2), ih]
      constructor
      · rintro (h | ⟨i, h1, h2, h3, h4⟩)
        · exact Or.inl h
        · exact Or.inr ⟨i, by omega, h2, h3, h4⟩
      · rintro (h | ⟨i, h1, h2, h3, h4⟩)
        · exact Or.inl h
        · refine Or.inr ⟨i, ?_, h2, h3, h4⟩
          by_cases hi : i = s
          · rw [hi] at h4
            exact absurd h4 g
          · omega
theorem rx_any_iff (ρ : js_S) : ∀ (n : Nat) (s : Int), rx_any ρ n s = true ↔ ∃ i : Int, s ≤ i ∧ i < s + n ∧ rx_nm ρ i = true
  | 0, s => by
    constructor
    · intro h
      cases h
    · rintro ⟨i, h1, h2, h3⟩
      push_cast at h2
      omega
  | n + 1, s => by
    have ih := rx_any_iff ρ n (s + 1)
    simp only [rx_any, Bool.or_eq_true, ih]
    constructor
    · rintro (h | ⟨i, h1, h2, h3⟩)
      · exact ⟨s, by omega, by push_cast; omega, h⟩
      · exact ⟨i, by omega, by push_cast; omega, h3⟩
    · rintro ⟨i, h1, h2, h3⟩
      by_cases hi : i = s
      · rw [hi] at h3
        exact Or.inl h3
      · exact Or.inr ⟨i, by omega, by push_cast at h2; omega, h3⟩
section SYT
variable {E : js_E} {d : Nat} {σ ρ : js_S} {b : Int}
/-- whether the class finds the name that is to be told, as the reference asks it -/
theorem sy_found {p q pp : Int} (hs : rs_ok ρ) (h5 : ρ 83 5 = 2) (hp : (pp = -1 ∧ p = q) ∨ (pp = p ∧ q = ρ 83 11 ∧ 0 ≤ p ∧ p ≤ q)) : 0 ≤ rx_sy (sy_S ρ p q) ↔ (0 ≤ rx_sy ρ ∨ (0 ≤ pp ∧ rx_any ρ (ρ 83 11 - pp).toNat pp = true)) := by
  have hm := hs.1
  rcases hp with ⟨rfl, rfl⟩ | ⟨rfl, rfl, h1, h2⟩
  · rw [sy_S_id]
    constructor
    · intro h
      exact Or.inl h
    · rintro (h | ⟨h, -⟩)
      · exact h
      · omega
  · have e5 : sy_S ρ pp (ρ 83 11) 83 5 = 2 := by rw [sy_S_o _ _ _ (by decide)]; exact h5
    have e11 : sy_S ρ pp (ρ 83 11) 83 11 = ρ 83 11 := sy_S_o _ _ _ (by decide)
    unfold rx_sy
    rw [e5, e11, h5, if_pos rfl, if_pos rfl, rx_fs_S ρ (p := pp) (m := ρ 83 11) (ρ 83 11).toNat 0 (by omega) (by omega), rx_any_iff]
    constructor
    · rintro (h | ⟨i, g1, g2, g3, g4⟩)
      · exact Or.inl h
      · exact Or.inr ⟨h1, i, g2, by omega, g4⟩
    · rintro (h | ⟨-, i, g1, g2, g3⟩)
      · exact Or.inl h
      · exact Or.inr ⟨i, by omega, g1, by omega, g3⟩
theorem rs_ok_S {p q : Int} (h : rs_ok ρ) : rs_ok (sy_S ρ p q) := by
  obtain ⟨a1, a2, a3, a4, a5⟩ := h
  have e11 : sy_S ρ p q 83 11 = ρ 83 11 := sy_S_o _ _ _ (by decide)
  have e97 : ∀ i : Int, sy_S ρ p q 97 i = ρ 97 i := fun i => sy_S_o _ _ _ (by decide)
  refine ⟨by rw [e11]; exact a1, by rw [e11]; exact a2, fun i hi hi2 => by rw [e97]; exact a3 i hi (by rw [e11] at hi2; exact hi2), fun i k hi hi2 hk hk2 => by rw [sy_S_o _ _ _ (by decide)]; exact a4 i k hi (by rw [e11] at hi2; exact hi2) hk (by rw [e97] at hk2; exact hk2), fun i hi hi2 => ?_⟩
  rw [e11] at hi2
  unfold sy_S
  split
  · exact Or.inr rfl
  · exact a5 i hi hi2
theorem rx_ok_S {p q : Int} (h : rx_ok ρ) : rx_ok (sy_S ρ p q) := by
  obtain ⟨⟨t1, t2, t3⟩, g2, g3, g4, g5, g6, g7, g8, g9⟩ := h
  have o : ∀ {a i : Int}, a ≠ 99 → sy_S ρ p q a i = ρ a i := fun hh => sy_S_o ρ p q hh
  refine ⟨⟨by rw [o (by decide)]; exact t1, by rw [o (by decide)]; exact t2, fun i hi hi2 => ?_⟩, fun i hi hi2 => ?_, by rw [o (by decide)]; exact g3, by rw [o (by decide)]; exact g4, by rw [o (by decide), o (by decide)]; exact g5, by rw [o (by decide), o (by decide)]; exact g6, by rw [o (by decide)]; exact g7, by rw [o (by decide)]; exact g8, by rw [o (by decide), o (by decide), o (by decide)]; exact g9⟩
  · rw [o (by decide)]
    rw [o (by decide)] at hi2
    exact t3 i hi hi2
  · rw [o (by decide)]
    exact g2 i hi hi2
theorem tk_A_of {σ' ρ' : js_S} {j : Nat} (h : tk_A σ ρ j) (h1 : ∀ i : Int, (i = 1 ∨ i = 2 ∨ i = 3 ∨ i = 10 ∨ i = 11) → σ' 1 i = σ 1 i) (h2 : ∀ i : Int, σ' 2 i = σ 2 i) (h3 : ∀ i : Int, 4 ≤ i → i ≤ 8 → ρ' 83 i = ρ 83 i) (h4 : ∀ i : Int, ρ' 84 i = ρ 84 i) : tk_A σ' ρ' j := by
  obtain ⟨c1, c2, c3, c4, c5, c6, c7, c8, c9, c10⟩ := h
  have e4 := h3 4 (by decide) (by decide)
  have q4 := tk_p_eq e4 h4 j
  have q5 := rx_lex_eq e4 h4 (tk_p ρ j)
  have q6 := rx_fr_eq e4 h4 (tk_p ρ j)
  have f5 := h3 5 (by decide) (by decide)
  have f6 := h3 6 (by decide) (by decide)
  have f7 := h3 7 (by decide) (by decide)
  have f8 := h3 8 (by decide) (by decide)
  refine ⟨by rw [h1 11 (by simp)]; exact c1, by rw [h1 10 (by simp)]; exact c2, by rw [f6, q4, q6]; exact c3, by rw [f7, q4, q5.1]; exact c4, by rw [f5, q4, q5.2.1]; exact c5, fun hh => ?_, by rw [h1 1 (by simp), f5]; exact c7, by rw [h1 2 (by simp), f6]; exact c8, by rw [h1 3 (by simp), f7, f6]; exact c9, fun hh i hi hi2 => ?_⟩
  · rw [f5] at hh
    rw [f8, q4, q5.2.2 (by rw [← c5]; exact hh)]
    exact c6 hh
  · rw [f5] at hh
    rw [f7, f6] at hi2
    rw [h2, h4, f6]
    exact c10 hh i hi hi2
/-- find, in step, over these words -/
theorem y_find {p q : Int} {X : Int → Prop} (hb : b = 0 ∨ b = 25) (hY : sy_Y E.1 σ ρ b p q X) {j : Nat} (hR : rd_R σ ρ j) (h5 : ρ 83 5 = 2) : js_J E d 37 0 [(2, 7 + b), (2, 1), (9, 0), (9, 0), (9, 0)] [] σ = js_r E (2, if rx_sy (sy_S ρ p q) < 0 then -1 else σ (19 + b) (rx_sy (sy_S ρ p q))) σ := by
  obtain ⟨y1, y2, y3, y4, y5, y6, y7⟩ := hY
  obtain ⟨r1, r2, r3, r4, r5, r6⟩ := hR
  have o : ∀ {a i : Int}, a ≠ 99 → sy_S ρ p q a i = ρ a i := fun hh => sy_S_o ρ p q hh
  refine c_find hb (rs_ok_S y1) (rx_ok_S r3) (j := j) (tk_T_of r1 rfl (fun _ => rfl) (fun _ => rfl) (fun _ => rfl) (o (by decide)) (fun i => o (by decide))) (tk_A_of r2 (fun _ _ => rfl) (fun _ => rfl) (fun i _ _ => o (by decide)) (fun i => o (by decide))) (by rw [o (by decide)]; exact h5) (by rw [o (by decide)]; exact y5) (fun i hi hi2 => y6 i hi (by rw [o (by decide)] at hi2; exact hi2))
end SYT
