/-! part 99.zzzzv: the reference: cells of variables and of ports -/
/-- a variable of fun f -/
def pk_V (ρ : js_S) (f i : Int) : Prop := 5 ≤ ρ 86 i ∧ ρ 86 i ≤ 7 ∧ ρ 93 i = f
def pla_K (f : Int) (k : Nat) (ρ0 ρ : js_S) : Prop := (∀ i : Int, 0 ≤ i → i < k → pk_V ρ0 f i → ρ 90 i = ρ0 83 48 + lo_c ρ0 f i.toNat) ∧ ρ 83 48 = ρ0 83 48 + lo_c ρ0 f k ∧ ∀ a i : Int, ¬ (a = 83 ∧ i = 48) → ¬ (a = 90 ∧ 0 ≤ i ∧ i < k ∧ pk_V ρ0 f i) → ρ a i = ρ0 a i
section RV
variable {E : js_E} {d : Nat} {ρ0 : js_S} {M : Nat}
theorem r_pla {f : Int} (hM : M ≤ 400) (h11 : ρ0 83 11 = M) (hf : -1 ≤ f ∧ f < 400) (hk : ∀ i : Int, 0 ≤ i → i < M → 0 ≤ ρ0 86 i ∧ ρ0 86 i ≤ 9) (h93 : ∀ i : Int, 0 ≤ i → i < M → 5 ≤ ρ0 86 i ∧ ρ0 86 i ≤ 7 → -1 ≤ ρ0 93 i ∧ ρ0 93 i < 400) : ∀ (g k : Nat) (ρ : js_S), g + k = M → pla_K f k ρ0 ρ → ∃ ρ' : js_S, js_J E d 245 2 [(2, 83), (0, f), (0, k)] [] ρ = js_r0 E (js_up (js_up ρ' 83 53 (ρ' 83 48)) 83 54 0) ∧ pla_K f M ρ0 ρ' := by
  intro g
  induction g with
  | zero =>
    intro k ρ hg h
    have hk' : k = M := by omega
    subst hk'
    have e11 : ρ 83 11 = k := by rw [h.2.2 _ _ (by omega) (by omega)]; exact h11
    refine ⟨ρ, ?_, h⟩
    rw [b_245_2, e11, if_neg (show ¬ js_w (k : Int) < js_w (k : Int) by omega)]
  | succ g ih =>
    intro k ρ hg h
    have e11 : ρ 83 11 = M := by rw [h.2.2 _ _ (by omega) (by omega)]; exact h11
    have wk : js_w (k : Int) = k := js_w_of (by omega) (by omega)
    have wM : js_w (M : Int) = M := js_w_of (by omega) (by omega)
    have e86 : ρ 86 k = ρ0 86 k := h.2.2 _ _ (by omega) (by omega)
    have e91 : ρ 91 k = ρ0 91 k := h.2.2 _ _ (by omega) (by omega)
    have e93 : ρ 93 k = ρ0 93 k := h.2.2 _ _ (by omega) (by omega)
    have k9 := hk k (by omega) (by omega)
    have w86 : js_w (ρ0 86 k) = ρ0 86 k := js_w_of (by omega) (by omega)
    have lo : lo_c ρ0 f (k + 1) = lo_c ρ0 f k + (if 5 ≤ ρ0 86 k ∧ ρ0 86 k ≤ 7 ∧ ρ0 93 k = f then ρ0 91 k else 0) := rfl
    have tk : (k : Int).toNat = k := by omega
    have go : ∀ ρ1 : js_S, pla_K f (k + 1) ρ0 ρ1 → ∃ ρ' : js_S, js_J E d 245 69 [(2, 83), (0, f), (0, k)] [] ρ1 = js_r0 E (js_up (js_up ρ' 83 53 (ρ' 83 48)) 83 54 0) ∧ pla_K f M ρ0 ρ' := fun ρ1 h1 => by
      obtain ⟨ρ', e, h2⟩ := ih (k + 1) ρ1 (by omega) h1
      refine ⟨ρ', ?_, h2⟩
      rw [b_245_69, show (k : Int) + 1 = ((k + 1 : Nat) : Int) by push_cast; rfl, e]
    have skip : ¬ pk_V ρ0 f k → pla_K f (k + 1) ρ0 ρ := fun hn => by
      have lo' : lo_c ρ0 f (k + 1) = lo_c ρ0 f k := by
        rw [lo, if_neg (show ¬ (5 ≤ ρ0 86 k ∧ ρ0 86 k ≤ 7 ∧ ρ0 93 k = f) from hn)]
        omega
      refine ⟨fun i g1 g2 g3 => ?_, by rw [lo']; exact h.2.1, fun a i g1 g2 => h.2.2 a i g1 (fun hh => g2 ⟨hh.1, hh.2.1, by have := hh.2.2.1; push_cast; omega, hh.2.2.2⟩)⟩
      have ne : i ≠ k := fun hh => hn (hh ▸ g3)
      exact h.1 i g1 (by push_cast at g2; omega) g3
    rw [b_245_2, e11, wk, wM, if_pos (show (k : Int) < M by omega), if_pos (show 0 ≤ (k : Int) ∧ (k : Int) < 400 by omega), e86, w86, e93]
    by_cases q1 : ρ0 86 k < 5
    · rw [if_pos q1]
      exact go ρ (skip (fun hh => by unfold pk_V at hh; omega))
    by_cases q2 : 7 < ρ0 86 k
    · rw [if_neg q1, if_pos q2]
      exact go ρ (skip (fun hh => by unfold pk_V at hh; omega))
    have k93 := h93 k (by omega) (by omega) ⟨by omega, by omega⟩
    rw [if_neg q1, if_neg q2, js_w_of (x := ρ0 93 k) (by omega) (by omega), js_w_of (x := f) (by omega) (by omega)]
    by_cases q3 : ρ0 93 k = f
    · rw [if_pos q3, e91]
      have hp : 5 ≤ ρ0 86 k ∧ ρ0 86 k ≤ 7 ∧ ρ0 93 k = f := ⟨by omega, by omega, q3⟩
      rw [if_pos hp] at lo
      refine go _ ⟨fun i g1 g2 g3 => ?_, ?_, fun a i g1 g2 => ?_⟩
      · by_cases q : i = k
        · rw [js_up_na _ (by decide), q, js_up_same, tk]
          exact h.2.1
        · rw [js_up_na _ (by decide), js_up_ni _ q]
          exact h.1 i g1 (by push_cast at g2; omega) g3
      · rw [js_up_same, lo, h.2.1]
        omega
      · rw [js_up_ne _ g1, js_up_ne _ (fun hh => g2 ⟨hh.1, by omega, by push_cast; omega, by rw [hh.2]; exact hp⟩)]
        exact h.2.2 a i g1 (fun hh => g2 ⟨hh.1, hh.2.1, by have := hh.2.2.1; push_cast; omega, hh.2.2.2⟩)
    · rw [if_neg q3]
      exact go ρ (skip (fun hh => q3 hh.2.2))
/-- the variables of fun f get their cells -/
def pla_R (f : Int) (ρ ρ' : js_S) : Prop := (∀ i : Int, 0 ≤ i → i < ρ 83 11 → pk_V ρ f i → ρ' 90 i = ρ 83 48 + lo_c ρ f i.toNat) ∧ (ρ' 83 48 = ρ 83 48 + lo_c ρ f (ρ 83 11).toNat ∧ ρ' 83 53 = ρ 83 48 + lo_c ρ f (ρ 83 11).toNat ∧ ρ' 83 54 = 0) ∧ ∀ a i : Int, ¬ (a = 83 ∧ (i = 48 ∨ i = 53 ∨ i = 54)) → ¬ (a = 90 ∧ 0 ≤ i ∧ i < ρ 83 11 ∧ pk_V ρ f i) → ρ' a i = ρ a i
theorem r_placeAll {f : Int} (hM : M ≤ 400) (h11 : ρ0 83 11 = M) (hf : -1 ≤ f ∧ f < 400) (hk : ∀ i : Int, 0 ≤ i → i < M → 0 ≤ ρ0 86 i ∧ ρ0 86 i ≤ 9) (h93 : ∀ i : Int, 0 ≤ i → i < M → 5 ≤ ρ0 86 i ∧ ρ0 86 i ≤ 7 → -1 ≤ ρ0 93 i ∧ ρ0 93 i < 400) : ∃ ρ' : js_S, js_J E d 245 0 [(2, 83), (0, f), (9, 0)] [] ρ0 = js_r0 E ρ' ∧ pla_R f ρ0 ρ' := by
  obtain ⟨ρ', e, h1, h2, h3⟩ := r_pla (E := E) (d := d) (f := f) hM h11 hf hk h93 M 0 ρ0 (by omega) ⟨fun i g1 g2 => by omega, by show ρ0 83 48 = ρ0 83 48 + 0; omega, fun _ _ _ _ => rfl⟩
  refine ⟨_, by rw [b_245_0]; exact e, fun i g1 g2 g3 => ?_, ⟨?_, ?_, ?_⟩, fun a i g1 g2 => ?_⟩
  · rw [js_up_na _ (by decide), js_up_na _ (by decide)]
    exact h1 i g1 (by omega) g3
  · rw [js_up_ni _ (by decide), js_up_ni _ (by decide), h2, h11]
    rfl
  · rw [js_up_ni _ (by decide), js_up_same, h2, h11]
    rfl
  · exact js_up_same _ _ _ _
  · rw [js_up_ne _ (by omega), js_up_ne _ (by omega)]
    exact h3 a i (by omega) (fun hh => g2 ⟨hh.1, hh.2.1, by omega, hh.2.2.2⟩)
def pol_K (k : Nat) (ρ0 ρ : js_S) : Prop := (∀ i : Int, 0 ≤ i → i < k → 1 ≤ ρ0 86 i ∧ ρ0 86 i ≤ 3 → ρ 90 i = po_a ρ0 i.toNat) ∧ (ρ 83 48 = po_a ρ0 k ∧ ρ 83 46 = po_k ρ0 1 k ∧ ρ 83 47 = po_k ρ0 2 k) ∧ ∀ a i : Int, ¬ (a = 83 ∧ (i = 46 ∨ i = 47 ∨ i = 48)) → ¬ (a = 90 ∧ 0 ≤ i ∧ i < k ∧ 1 ≤ ρ0 86 i ∧ ρ0 86 i ≤ 3) → ρ a i = ρ0 a i
theorem pol_up {k : Nat} {ρ ρ1 : js_S} (h : pol_K k ρ0 ρ) (hp : 1 ≤ ρ0 86 k ∧ ρ0 86 k ≤ 3) (h90 : ρ1 90 k = ρ 83 48) (h48 : ρ1 83 48 = ρ 83 48 + ρ0 91 k) (h46 : ρ1 83 46 = ρ 83 46 + (if ρ0 86 k = 1 then ρ0 91 k else 0)) (h47 : ρ1 83 47 = ρ 83 47 + (if ρ0 86 k = 2 then ρ0 91 k else 0)) (ho : ∀ a i : Int, ¬ (a = 83 ∧ (i = 46 ∨ i = 47 ∨ i = 48)) → ¬ (a = 90 ∧ i = k) → ρ1 a i = ρ a i) : pol_K (k + 1) ρ0 ρ1 := by
  obtain ⟨h1, ⟨a1, a2, a3⟩, h3⟩ := h
  have tk : (k : Int).toNat = k := by omega
  have p1 : po_a ρ0 (k + 1) = po_a ρ0 k + (if 1 ≤ ρ0 86 k ∧ ρ0 86 k ≤ 3 then ρ0 91 k else 0) := rfl
  have p2 : po_k ρ0 1 (k + 1) = po_k ρ0 1 k + (if ρ0 86 k = 1 then ρ0 91 k else 0) := rfl
  have p3 : po_k ρ0 2 (k + 1) = po_k ρ0 2 k + (if ρ0 86 k = 2 then ρ0 91 k else 0) := rfl
  rw [if_pos hp] at p1
  refine ⟨fun i g1 g2 g3 => ?_, ⟨by rw [h48, p1, a1], by rw [h46, p2, a2], by rw [h47, p3, a3]⟩, fun a i g1 g2 => ?_⟩
  · by_cases q : i = k
    · rw [q, h90, tk]
      exact a1
    · rw [ho _ _ (by omega) (by omega)]
      exact h1 i g1 (by push_cast at g2; omega) g3
  · rw [ho a i g1 (fun hh => g2 ⟨hh.1, by omega, by push_cast; omega, by rw [hh.2]; exact hp⟩)]
    exact h3 a i g1 (fun hh => g2 ⟨hh.1, hh.2.1, by have := hh.2.2.1; push_cast; omega, hh.2.2.2⟩)
theorem pol_skip {k : Nat} {ρ : js_S} (h : pol_K k ρ0 ρ) (hp : ¬ (1 ≤ ρ0 86 k ∧ ρ0 86 k ≤ 3)) : pol_K (k + 1) ρ0 ρ := by
  obtain ⟨h1, ⟨a1, a2, a3⟩, h3⟩ := h
  have p1 : po_a ρ0 (k + 1) = po_a ρ0 k + (if 1 ≤ ρ0 86 k ∧ ρ0 86 k ≤ 3 then ρ0 91 k else 0) := rfl
  have p2 : po_k ρ0 1 (k + 1) = po_k ρ0 1 k + (if ρ0 86 k = 1 then ρ0 91 k else 0) := rfl
  have p3 : po_k ρ0 2 (k + 1) = po_k ρ0 2 k + (if ρ0 86 k = 2 then ρ0 91 k else 0) := rfl
  rw [if_neg hp, Int.add_zero] at p1
  rw [if_neg (by omega), Int.add_zero] at p2 p3
  refine ⟨fun i g1 g2 g3 => ?_, ⟨by rw [p1, a1], by rw [p2, a2], by rw [p3, a3]⟩, fun a i g1 g2 => h3 a i g1 (fun hh => g2 ⟨hh.1, hh.2.1, by have := hh.2.2.1; push_cast; omega, hh.2.2.2⟩)⟩
  have ne : i ≠ k := fun hh => hp (hh ▸ g3)
  exact h1 i g1 (by push_cast at g2; omega) g3
theorem r_ports (hM : M ≤ 400) (h11 : ρ0 83 11 = M) (hk : ∀ i : Int, 0 ≤ i → i < M → 0 ≤ ρ0 86 i ∧ ρ0 86 i ≤ 9) : ∀ (g k : Nat) (ρ : js_S), g + k = M → pol_K k ρ0 ρ → ∃ ρ' : js_S, js_J E d 244 27 [(2, 83), (0, k), (9, 0), (9, 0), (9, 0)] [] ρ = js_J E d 244 143 [(2, 83), (0, 0), (0, 0), (9, 0), (9, 0)] [] ρ' ∧ pol_K M ρ0 ρ' := by
  intro g
  induction g with
  | zero =>
    intro k ρ hg h
    have hk' : k = M := by omega
    subst hk'
    have e11 : ρ 83 11 = k := by rw [h.2.2 _ _ (by omega) (by omega)]; exact h11
    refine ⟨ρ, ?_, h⟩
    rw [b_244_27, e11, if_neg (show ¬ js_w (k : Int) < js_w (k : Int) by omega)]
  | succ g ih =>
    intro k ρ hg h
    have e11 : ρ 83 11 = M := by rw [h.2.2 _ _ (by omega) (by omega)]; exact h11
    have wk : js_w (k : Int) = k := js_w_of (by omega) (by omega)
    have wM : js_w (M : Int) = M := js_w_of (by omega) (by omega)
    have e86 : ρ 86 k = ρ0 86 k := h.2.2 _ _ (by omega) (by omega)
    have e91 : ρ 91 k = ρ0 91 k := h.2.2 _ _ (by omega) (by omega)
    have k9 := hk k (by omega) (by omega)
    have w86 : js_w (ρ0 86 k) = ρ0 86 k := js_w_of (by omega) (by omega)
    have hk4 : 0 ≤ (k : Int) ∧ (k : Int) < 400 := by omega
    have go : ∀ ρ1 : js_S, pol_K (k + 1) ρ0 ρ1 → ∃ ρ' : js_S, js_J E d 244 133 [(2, 83), (0, k), (9, 0), (9, 0), (9, 0)] [] ρ1 = js_J E d 244 143 [(2, 83), (0, 0), (0, 0), (9, 0), (9, 0)] [] ρ' ∧ pol_K M ρ0 ρ' := fun ρ1 h1 => by
      obtain ⟨ρ', e, h2⟩ := ih (k + 1) ρ1 (by omega) h1
      refine ⟨ρ', ?_, h2⟩
      rw [b_244_133, show (k : Int) + 1 = ((k + 1 : Nat) : Int) by push_cast; rfl, e]
    rw [b_244_27, e11, wk, wM, if_pos (show (k : Int) < M by omega), if_pos hk4, e86, w86]
    by_cases q1 : ρ0 86 k < 1
    · rw [if_pos q1]
      exact go ρ (pol_skip h (by omega))
    by_cases q2 : 3 < ρ0 86 k
    · rw [if_neg q1, if_pos q2]
      exact go ρ (pol_skip h (by omega))
    rw [if_neg q1, if_neg q2, e91]
    have hp : 1 ≤ ρ0 86 k ∧ ρ0 86 k ≤ 3 := by omega
    by_cases q3 : ρ0 86 k = 1
    · rw [if_pos q3, b_244_108, wk, if_pos hk4, js_up_na (b := 86) _ (by decide), js_up_na (b := 86) _ (by decide), js_up_na (b := 86) _ (by decide), e86, w86, if_neg (show ¬ ρ0 86 k = 2 by omega)]
      refine go _ (pol_up h hp ?_ ?_ ?_ ?_ (fun a i g1 g2 => ?_))
      · rw [js_up_na _ (by decide), js_up_na _ (by decide), js_up_same]
      · rw [js_up_ni _ (by decide), js_up_same]
      · rw [js_up_same, if_pos q3]
      · rw [js_up_ni _ (by decide), js_up_ni _ (by decide), js_up_na _ (by decide), if_neg (by omega), Int.add_zero]
      · rw [js_up_ne _ (by omega), js_up_ne _ (by omega), js_up_ne _ g2]
    · rw [if_neg q3, b_244_108, wk, if_pos hk4, js_up_na (b := 86) _ (by decide), js_up_na (b := 86) _ (by decide), e86, w86]
      by_cases q4 : ρ0 86 k = 2
      · rw [if_pos q4, js_up_ni (j := 47) _ (by decide), js_up_na (b := 83) _ (by decide), js_up_na (b := 91) _ (by decide), js_up_na (b := 91) _ (by decide), e91]
        refine go _ (pol_up h hp ?_ ?_ ?_ ?_ (fun a i g1 g2 => ?_))
        · rw [js_up_na _ (by decide), js_up_na _ (by decide), js_up_same]
        · rw [js_up_ni _ (by decide), js_up_same]
        · rw [js_up_ni _ (by decide), js_up_ni _ (by decide), js_up_na _ (by decide), if_neg (by omega), Int.add_zero]
        · rw [js_up_same, if_pos q4]
        · rw [js_up_ne _ (by omega), js_up_ne _ (by omega), js_up_ne _ g2]
      · rw [if_neg q4]
        refine go _ (pol_up h hp ?_ ?_ ?_ ?_ (fun a i g1 g2 => ?_))
        · rw [js_up_na _ (by decide), js_up_same]
        · rw [js_up_same]
        · rw [js_up_ni _ (by decide), js_up_na _ (by decide), if_neg (by omega), Int.add_zero]
        · rw [js_up_ni _ (by decide), js_up_na _ (by decide), if_neg (by omega), Int.add_zero]
        · rw [js_up_ne _ (by omega), js_up_ne _ g2]
end RV
