/-! part 99.zzzzzg: the reference's first values given, and its machine anew -/
/-- where the given values of SYMBOL k begin -/
def in_o (ρ : js_S) : Nat → Int
  | 0 => 0
  | k + 1 => in_o ρ k + (if ρ 86 k = 1 then ρ 91 k else 0)
/-- the first value given of SYMBOL s -/
def in_v (ρ : js_S) (s : Int) : Int := if 0 < ρ 88 s ∨ ρ 89 s < 0 then ρ 88 s else 0
/-- what CELL i holds at first, by the SYMBOLs below k -/
def cv_k (ρ : js_S) (i : Int) : Nat → Int
  | 0 => 0
  | k + 1 => if (ρ 86 k = 2 ∨ ρ 86 k = 3) ∧ ρ 90 k ≤ i ∧ i < ρ 90 k + ρ 91 k then ρ 94 k else cv_k ρ i k
theorem in_o_up {ρ : js_S} {M : Nat} (h : ∀ s : Int, 0 ≤ s → s < M → ρ 86 s = 1 → 0 ≤ ρ 91 s) : ∀ g k : Nat, g + k ≤ M → 0 ≤ in_o ρ k ∧ in_o ρ k ≤ in_o ρ (g + k) := by
  have z : ∀ k : Nat, k ≤ M → 0 ≤ in_o ρ k := by
    intro k
    induction k with
    | zero => intro _; exact Int.le_refl 0
    | succ k ih =>
      intro hk
      have a := ih (by omega)
      have e : in_o ρ (k + 1) = in_o ρ k + (if ρ 86 k = 1 then ρ 91 k else 0) := rfl
      by_cases q : ρ 86 k = 1
      · have b := h k (by omega) (by omega) q
        rw [e, if_pos q]
        omega
      · rw [e, if_neg q]
        omega
  intro g
  induction g with
  | zero => intro k hk; exact ⟨z k (by omega), by rw [Nat.zero_add]; exact Int.le_refl _⟩
  | succ g ih =>
    intro k hk
    have a := ih k (by omega)
    have e : in_o ρ (g + k + 1) = in_o ρ (g + k) + (if ρ 86 (g + k : Nat) = 1 then ρ 91 (g + k : Nat) else 0) := rfl
    rw [show g + 1 + k = g + k + 1 by omega]
    by_cases q : ρ 86 (g + k : Nat) = 1
    · have b := h (g + k : Nat) (by omega) (by omega) q
      rw [e, if_pos q]
      omega
    · rw [e, if_neg q]
      omega
section FG
variable {E : js_E} {d : Nat} {ρ0 : js_S} {M : Nat}
theorem r_fg1 {s o : Int} {L : Nat} (hs : 0 ≤ s ∧ s < 400) (ho : 0 ≤ o) (hoL : o + L ≤ 4096) (h91 : ρ0 91 s = L) (h88 : -2147483648 ≤ ρ0 88 s ∧ ρ0 88 s < 2147483648) (h89 : -2147483648 ≤ ρ0 89 s ∧ ρ0 89 s < 2147483648) : ∀ (g k : Nat) (ρ : js_S), g + k = L → (∀ a i : Int, ¬ (a = 125 ∧ o ≤ i ∧ i < o + L) → ρ a i = ρ0 a i) → (∀ i : Int, o ≤ i → i < o + k → ρ 125 i = in_v ρ0 s) → ∃ ρ' : js_S, js_J E d 263 27 [(2, 83), (0, o), (0, s), (0, k)] [] ρ = js_J E d 263 88 [(2, 83), (0, o + L), (0, s), (0, L)] [] ρ' ∧ (∀ a i : Int, ¬ (a = 125 ∧ o ≤ i ∧ i < o + L) → ρ' a i = ρ0 a i) ∧ ∀ i : Int, o ≤ i → i < o + L → ρ' 125 i = in_v ρ0 s := by
  intro g
  induction g with
  | zero =>
    intro k ρ hg hf h
    have hk : k = L := by omega
    subst hk
    have e91 : ρ 91 s = k := by rw [hf _ _ (by omega)]; exact h91
    refine ⟨ρ, ?_, hf, h⟩
    rw [b_263_27, js_w_of (x := s) (by omega) (by omega), if_pos hs, e91, if_neg (show ¬ js_w (k : Int) < js_w (k : Int) by omega)]
  | succ g ih =>
    intro k ρ hg hf h
    have e91 : ρ 91 s = L := by rw [hf _ _ (by omega)]; exact h91
    have e88 : ρ 88 s = ρ0 88 s := hf _ _ (by omega)
    have e89 : ρ 89 s = ρ0 89 s := hf _ _ (by omega)
    have ws : js_w s = s := js_w_of (by omega) (by omega)
    have wk : js_w (k : Int) = k := js_w_of (by omega) (by omega)
    have wL : js_w (L : Int) = L := js_w_of (by omega) (by omega)
    have wo : js_w (o + k) = o + k := js_w_of (by omega) (by omega)
    have w8 : js_w (ρ0 88 s) = ρ0 88 s := js_w_of h88.1 h88.2
    have w9 : js_w (ρ0 89 s) = ρ0 89 s := js_w_of h89.1 h89.2
    have step : js_J E d 263 27 [(2, 83), (0, o), (0, s), (0, k)] [] ρ = js_J E d 263 27 [(2, 83), (0, o), (0, s), (0, k + 1)] [] (js_up ρ 125 (o + k) (in_v ρ0 s)) := by
      rw [b_263_27, ws, if_pos hs, e91, wk, wL, if_pos (show (k : Int) < L by omega), e88, e89, w8, w9]
      unfold in_v
      by_cases q1 : 0 < ρ0 88 s
      · rw [if_pos q1, if_pos (Or.inl q1), b_263_62, ws, if_pos hs, e88, b_263_72, wo, if_pos (show 0 ≤ o + (k : Int) ∧ o + (k : Int) < 4096 by omega)]
      · by_cases q2 : ρ0 89 s < 0
        · rw [if_neg q1, if_pos q2, if_pos (Or.inr q2), b_263_62, ws, if_pos hs, e88, b_263_72, wo, if_pos (show 0 ≤ o + (k : Int) ∧ o + (k : Int) < 4096 by omega)]
        · rw [if_neg q1, if_neg q2, if_neg (show ¬ (0 < ρ0 88 s ∨ ρ0 89 s < 0) by omega), b_263_72, wo, if_pos (show 0 ≤ o + (k : Int) ∧ o + (k : Int) < 4096 by omega)]
    obtain ⟨ρ', e2, h2⟩ := ih (k + 1) (js_up ρ 125 (o + k) (in_v ρ0 s)) (by omega) (fun a i q => by rw [js_up_ne _ (by omega), hf a i q]) (fun i i1 i2 => by
      by_cases q : i = o + k
      · rw [q, js_up_same]
      · rw [js_up_ni _ q]
        exact h i i1 (by push_cast at i2; omega))
    exact ⟨ρ', by rw [step, show (k : Int) + 1 = ((k + 1 : Nat) : Int) by push_cast; rfl, e2], h2⟩
/-- what is known of SYMBOLs with CELLs -/
def pt_K (M : Nat) (ρ : js_S) : Prop := (M ≤ 400 ∧ ρ 83 11 = M) ∧ (∀ s : Int, 0 ≤ s → s < M → 0 ≤ ρ 86 s ∧ ρ 86 s ≤ 9) ∧ ∀ s : Int, 0 ≤ s → s < M → 1 ≤ ρ 86 s ∧ ρ 86 s ≤ 3 → (0 ≤ ρ 91 s ∧ 0 ≤ ρ 90 s ∧ ρ 90 s + ρ 91 s ≤ 4096) ∧ (-2147483648 ≤ ρ 88 s ∧ ρ 88 s < 2147483648) ∧ (-2147483648 ≤ ρ 89 s ∧ ρ 89 s < 2147483648) ∧ (-2147483648 ≤ ρ 94 s ∧ ρ 94 s < 2147483648)
/-- the first values given, of the SYMBOLs below k -/
def fg_K (k : Nat) (ρ0 ρ : js_S) : Prop := (∀ a i : Int, ¬ (a = 125 ∧ 0 ≤ i ∧ i < in_o ρ0 k) → ρ a i = ρ0 a i) ∧ ∀ s : Int, 0 ≤ s → s < k → ρ0 86 s = 1 → ∀ i : Int, 0 ≤ i → i < ρ0 91 s → ρ 125 (in_o ρ0 s.toNat + i) = in_v ρ0 s
theorem r_fgo (hp : pt_K M ρ0) (hT : in_o ρ0 M ≤ 4096) : ∀ (g k : Nat) (ρ : js_S) (u : js_v), g + k = M → fg_K k ρ0 ρ → ∃ ρ' : js_S, js_J E d 263 4 [(2, 83), (0, in_o ρ0 k), (0, k), u] [] ρ = js_r0 E ρ' ∧ fg_K M ρ0 ρ' := by
  have mono := in_o_up (ρ := ρ0) (M := M) (fun s s1 s2 s3 => (hp.2.2 s s1 s2 (by omega)).1.1)
  intro g
  induction g with
  | zero =>
    intro k ρ u hg h
    have hk : k = M := by omega
    subst hk
    have e11 : ρ 83 11 = k := by rw [h.1 _ _ (by omega)]; exact hp.1.2
    refine ⟨ρ, ?_, h⟩
    rw [b_263_4, e11, if_neg (show ¬ js_w (k : Int) < js_w (k : Int) by omega)]
  | succ g ih =>
    intro k ρ u hg h
    have hM := hp.1.1
    have e11 : ρ 83 11 = M := by rw [h.1 _ _ (by omega)]; exact hp.1.2
    have wM : js_w (M : Int) = M := js_w_of (by omega) (by omega)
    have wk : js_w (k : Int) = k := js_w_of (by omega) (by omega)
    have k9 := hp.2.1 k (by omega) (by omega)
    have e86 : ρ 86 k = ρ0 86 k := h.1 _ _ (by omega)
    have w86 : js_w (ρ0 86 k) = ρ0 86 k := js_w_of (by omega) (by omega)
    have en : in_o ρ0 (k + 1) = in_o ρ0 k + (if ρ0 86 k = 1 then ρ0 91 k else 0) := rfl
    have ck : (k : Int) + 1 = ((k + 1 : Nat) : Int) := by push_cast; rfl
    have tk : (k : Int).toNat = k := by omega
    by_cases q : ρ0 86 k = 1
    · have hk := hp.2.2 k (by omega) (by omega) (by omega)
      rw [if_pos q] at en
      have m1 := mono 0 k (by omega)
      have m2 := mono g (k + 1) (by omega)
      rw [show g + (k + 1) = M by omega] at m2
      have cL : ((ρ0 91 k).toNat : Int) = ρ0 91 k := by omega
      have f91 : ρ 91 k = ρ0 91 k := h.1 _ _ (by omega)
      have f88 : ρ 88 k = ρ0 88 k := h.1 _ _ (by omega)
      have f89 : ρ 89 k = ρ0 89 k := h.1 _ _ (by omega)
      have iv : in_v ρ k = in_v ρ0 k := by unfold in_v; rw [f88, f89]
      obtain ⟨ρ1, e1, o1, h1⟩ := r_fg1 (E := E) (d := d) (ρ0 := ρ) (s := k) (o := in_o ρ0 k) (L := (ρ0 91 k).toNat) (by omega) m1.1 (by omega) (by rw [f91]; omega) (by rw [f88]; exact hk.2.1) (by rw [f89]; exact hk.2.2.1) (ρ0 91 k).toNat 0 ρ (by omega) (fun _ _ _ => rfl) (fun i i1 i2 => by omega)
      have e1' : js_J E d 263 27 [(2, 83), (0, in_o ρ0 k), (0, (k : Int)), (0, 0)] [] ρ = js_J E d 263 88 [(2, 83), (0, in_o ρ0 k + (ρ0 91 k).toNat), (0, (k : Int)), (0, ((ρ0 91 k).toNat : Int))] [] ρ1 := e1
      obtain ⟨ρ', e2, h2⟩ := ih (k + 1) ρ1 (0, ((ρ0 91 k).toNat : Int)) (by omega) ⟨fun a i g1 => by
        rw [o1 a i (by omega)]
        exact h.1 a i (by omega), fun s s1 s2 s3 i i1 i2 => by
        by_cases z : s = k
        · subst z
          rw [tk, h1 _ (by omega) (by omega), iv]
        · have s4 : s < k := by push_cast at s2; omega
          have m3 := mono (k - (s.toNat + 1)) (s.toNat + 1) (by omega)
          rw [show k - (s.toNat + 1) + (s.toNat + 1) = k by omega] at m3
          have es : in_o ρ0 (s.toNat + 1) = in_o ρ0 s.toNat + (if ρ0 86 (s.toNat : Nat) = 1 then ρ0 91 (s.toNat : Nat) else 0) := rfl
          rw [show ((s.toNat : Nat) : Int) = s by omega, if_pos s3] at es
          rw [o1 _ _ (by omega)]
          exact h.2 s s1 s4 s3 i i1 i2⟩
      refine ⟨ρ', ?_, h2⟩
      rw [b_263_4, e11, wk, wM, if_pos (show (k : Int) < M by omega), if_pos (show 0 ≤ (k : Int) ∧ (k : Int) < 400 by omega), e86, w86, if_pos q, e1', b_263_88, cL, ← en, ck]
      rw [cL] at e2
      exact e2
    · rw [if_neg q] at en
      have en' : in_o ρ0 (k + 1) = in_o ρ0 k := by omega
      obtain ⟨ρ', e2, h2⟩ := ih (k + 1) ρ u (by omega) ⟨fun a i g1 => h.1 a i (by omega), fun s s1 s2 s3 i i1 i2 => by
        by_cases z : s = k
        · exact absurd (z ▸ s3) q
        · exact h.2 s s1 (by push_cast at s2; omega) s3 i i1 i2⟩
      refine ⟨ρ', ?_, h2⟩
      rw [b_263_4, e11, wk, wM, if_pos (show (k : Int) < M by omega), if_pos (show 0 ≤ (k : Int) ∧ (k : Int) < 400 by omega), e86, w86, if_neg q, b_263_88, ck, ← en']
      exact e2
theorem r_first {ρ : js_S} (hp : pt_K M ρ) (hT : in_o ρ M ≤ 4096) : ∃ ρ' : js_S, js_J E d 263 0 [(2, 83), (9, 0), (9, 0), (9, 0)] [] ρ = js_r0 E ρ' ∧ fg_K M ρ ρ' := by
  obtain ⟨ρ', e, h⟩ := r_fgo (E := E) (d := d) hp hT M 0 ρ (9, 0) (by omega) ⟨fun _ _ _ => rfl, fun s s1 s2 => by omega⟩
  exact ⟨ρ', by rw [b_263_0]; exact e, h⟩
theorem r_an0 : ∀ (g k : Nat) (ρ : js_S), g + k = 8192 → (∀ a i : Int, a ≠ 120 → ρ a i = ρ0 a i) → (∀ i : Int, 0 ≤ i → i < k → ρ 120 i = 0) → ∃ ρ' : js_S, js_J E d 264 2 [(2, 83), (0, k), (9, 0)] [] ρ = js_J E d 264 24 [(2, 83), (0, 0), (9, 0)] [] ρ' ∧ (∀ a i : Int, a ≠ 120 → ρ' a i = ρ0 a i) ∧ ∀ i : Int, 0 ≤ i → i < 8192 → ρ' 120 i = 0 := by
  intro g
  induction g with
  | zero =>
    intro k ρ hg hf h
    have hk : k = 8192 := by omega
    subst hk
    refine ⟨ρ, ?_, hf, h⟩
    rw [b_264_2, js_w_of (x := ((8192 : Nat) : Int)) (by omega) (by omega), if_neg (by omega)]
  | succ g ih =>
    intro k ρ hg hf h
    have wk : js_w (k : Int) = k := js_w_of (by omega) (by omega)
    obtain ⟨ρ', e2, h2⟩ := ih (k + 1) (js_up ρ 120 k 0) (by omega) (fun a i q => by rw [js_up_na _ q, hf a i q]) (fun i i1 i2 => by
      by_cases q : i = k
      · rw [q, js_up_same]
      · rw [js_up_ni _ q]
        exact h i i1 (by push_cast at i2; omega))
    exact ⟨ρ', by rw [b_264_2, wk, if_pos (show (k : Int) < 8192 by omega), if_pos (show 0 ≤ (k : Int) ∧ (k : Int) < 8192 by omega), show (k : Int) + 1 = ((k + 1 : Nat) : Int) by push_cast; rfl, e2], h2⟩
/-- one SYMBOL's CELLs -/
theorem r_an1 {s c v : Int} {L : Nat} (hs : 0 ≤ s ∧ s < 400) (hc : 0 ≤ c) (hcL : c + L ≤ 4096) (h91 : ρ0 91 s = L) (h90 : ρ0 90 s = c) (h94 : ρ0 94 s = v) (hv : -2147483648 ≤ v ∧ v < 2147483648) : ∀ (g k : Nat) (ρ : js_S), g + k = L → (∀ a i : Int, ¬ (a = 120 ∧ (c ≤ i ∧ i < c + L ∨ 4096 + c ≤ i ∧ i < 4096 + c + L)) → ρ a i = ρ0 a i) → (∀ i : Int, c ≤ i → i < c + k → ρ 120 i = v ∧ ρ 120 (4096 + i) = 58659 * v) → ∃ ρ' : js_S, js_J E d 264 57 [(2, 83), (0, s), (0, k)] [] ρ = js_J E d 264 121 [(2, 83), (0, s), (0, L)] [] ρ' ∧ (∀ a i : Int, ¬ (a = 120 ∧ (c ≤ i ∧ i < c + L ∨ 4096 + c ≤ i ∧ i < 4096 + c + L)) → ρ' a i = ρ0 a i) ∧ ∀ i : Int, c ≤ i → i < c + L → ρ' 120 i = v ∧ ρ' 120 (4096 + i) = 58659 * v := by
  intro g
  induction g with
  | zero =>
    intro k ρ hg hf h
    have hk : k = L := by omega
    subst hk
    have e91 : ρ 91 s = k := by rw [hf _ _ (by omega)]; exact h91
    refine ⟨ρ, ?_, hf, h⟩
    rw [b_264_57, js_w_of (x := s) (by omega) (by omega), if_pos hs, e91, if_neg (show ¬ js_w (k : Int) < js_w (k : Int) by omega)]
  | succ g ih =>
    intro k ρ hg hf h
    have e91 : ρ 91 s = L := by rw [hf _ _ (by omega)]; exact h91
    have e90 : ρ 90 s = c := by rw [hf _ _ (by omega)]; exact h90
    have e94 : ρ 94 s = v := by rw [hf _ _ (by omega)]; exact h94
    have ws : js_w s = s := js_w_of (by omega) (by omega)
    have wk : js_w (k : Int) = k := js_w_of (by omega) (by omega)
    have wL : js_w (L : Int) = L := js_w_of (by omega) (by omega)
    have wv : js_w v = v := js_w_of hv.1 hv.2
    have w1 : js_w (c + k) = c + k := js_w_of (by omega) (by omega)
    have w2 : js_w (4096 + c + k) = 4096 + c + k := js_w_of (by omega) (by omega)
    obtain ⟨ρ', e2, h2⟩ := ih (k + 1) (js_up (js_up ρ 120 (c + k) v) 120 (4096 + c + k) (58659 * v)) (by omega) (fun a i q => by rw [js_up_ne _ (by omega), js_up_ne _ (by omega), hf a i q]) (fun i i1 i2 => by
      by_cases q : i = c + k
      · refine ⟨?_, ?_⟩
        · rw [js_up_ni _ (by omega), q, js_up_same]
        · rw [show 4096 + i = 4096 + c + k by omega, js_up_same]
      · have a := h i i1 (by push_cast at i2; omega)
        rw [js_up_ni _ (by omega), js_up_ni _ (by omega), js_up_ni _ (by omega), js_up_ni _ (by omega)]
        exact a)
    exact ⟨ρ', by rw [b_264_57, ws, if_pos hs, e91, e90, e94, wk, wL, wv, w1, w2, if_pos (show (k : Int) < L by omega), if_pos (show 0 ≤ c + (k : Int) ∧ c + (k : Int) < 8192 by omega), if_pos (show 0 ≤ 4096 + c + (k : Int) ∧ 4096 + c + (k : Int) < 8192 by omega), show (k : Int) + 1 = ((k + 1 : Nat) : Int) by push_cast; rfl, e2], h2⟩
/-- the CELLs of the SYMBOLs below k -/
def an_K (k : Nat) (ρ0 ρ : js_S) : Prop := (∀ a i : Int, a ≠ 120 → ρ a i = ρ0 a i) ∧ ∀ i : Int, 0 ≤ i → i < 4096 → ρ 120 i = cv_k ρ0 i k ∧ ρ 120 (4096 + i) = 58659 * cv_k ρ0 i k
theorem r_ano (hp : pt_K M ρ0) : ∀ (g k : Nat) (ρ : js_S) (u : js_v), g + k = M → an_K k ρ0 ρ → ∃ (ρ' : js_S) (u' : js_v), js_J E d 264 24 [(2, 83), (0, k), u] [] ρ = js_J E d 264 129 [(2, 83), (0, 0), u'] [] ρ' ∧ an_K M ρ0 ρ' := by
  intro g
  induction g with
  | zero =>
    intro k ρ u hg h
    have hk : k = M := by omega
    subst hk
    have e11 : ρ 83 11 = k := by rw [h.1 _ _ (by omega)]; exact hp.1.2
    refine ⟨ρ, u, ?_, h⟩
    rw [b_264_24, e11, if_neg (show ¬ js_w (k : Int) < js_w (k : Int) by omega)]
  | succ g ih =>
    intro k ρ u hg h
    have hM := hp.1.1
    have e11 : ρ 83 11 = M := by rw [h.1 _ _ (by omega)]; exact hp.1.2
    have wM : js_w (M : Int) = M := js_w_of (by omega) (by omega)
    have wk : js_w (k : Int) = k := js_w_of (by omega) (by omega)
    have k9 := hp.2.1 k (by omega) (by omega)
    have e86 : ρ 86 k = ρ0 86 k := h.1 _ _ (by omega)
    have w86 : js_w (ρ0 86 k) = ρ0 86 k := js_w_of (by omega) (by omega)
    have ck : (k : Int) + 1 = ((k + 1 : Nat) : Int) := by push_cast; rfl
    have cv : ∀ i : Int, cv_k ρ0 i (k + 1) = if (ρ0 86 k = 2 ∨ ρ0 86 k = 3) ∧ ρ0 90 k ≤ i ∧ i < ρ0 90 k + ρ0 91 k then ρ0 94 k else cv_k ρ0 i k := fun i => rfl
    by_cases q : ρ0 86 k = 2 ∨ ρ0 86 k = 3
    · have hk := hp.2.2 k (by omega) (by omega) (by omega)
      have cL : ((ρ0 91 k).toNat : Int) = ρ0 91 k := by omega
      have f91 : ρ 91 k = ρ0 91 k := h.1 _ _ (by omega)
      have f90 : ρ 90 k = ρ0 90 k := h.1 _ _ (by omega)
      have f94 : ρ 94 k = ρ0 94 k := h.1 _ _ (by omega)
      obtain ⟨ρ1, e1, o1, h1⟩ := r_an1 (E := E) (d := d) (ρ0 := ρ) (s := k) (c := ρ0 90 k) (v := ρ0 94 k) (L := (ρ0 91 k).toNat) (by omega) hk.1.2.1 (by omega) (by rw [f91]; omega) f90 f94 hk.2.2.2 (ρ0 91 k).toNat 0 ρ (by omega) (fun _ _ _ => rfl) (fun i i1 i2 => by omega)
      have e1' : js_J E d 264 57 [(2, 83), (0, (k : Int)), (0, 0)] [] ρ = js_J E d 264 121 [(2, 83), (0, (k : Int)), (0, ((ρ0 91 k).toNat : Int))] [] ρ1 := e1
      have hc := hk.1
      obtain ⟨ρ', u', e2, h2⟩ := ih (k + 1) ρ1 (0, ((ρ0 91 k).toNat : Int)) (by omega) ⟨fun a i g1 => by
        rw [o1 a i (by omega)]
        exact h.1 a i g1, fun i i1 i2 => by
        by_cases z : ρ0 90 k ≤ i ∧ i < ρ0 90 k + ρ0 91 k
        · rw [cv, if_pos ⟨q, z⟩]
          exact h1 i z.1 (by omega)
        · rw [cv, if_neg (fun hh => z hh.2), o1 _ _ (by omega), o1 _ _ (by omega)]
          exact h.2 i i1 i2⟩
      refine ⟨ρ', u', ?_, h2⟩
      have go : js_J E d 264 55 [(2, 83), (0, (k : Int)), u] [] ρ = js_J E d 264 24 [(2, 83), (0, ((k + 1 : Nat) : Int)), (0, ((ρ0 91 k).toNat : Int))] [] ρ1 := by rw [b_264_55, e1', b_264_121, ck]
      rw [b_264_24, e11, wk, wM, if_pos (show (k : Int) < M by omega), if_pos (show 0 ≤ (k : Int) ∧ (k : Int) < 400 by omega), e86, w86]
      by_cases q2 : ρ0 86 k = 2
      · rw [if_pos q2, go, e2]
      · rw [if_neg q2, if_pos (show ρ0 86 k = 3 by omega), go, e2]
    · obtain ⟨ρ', u', e2, h2⟩ := ih (k + 1) ρ u (by omega) ⟨h.1, fun i i1 i2 => by
        rw [cv, if_neg (fun hh => q hh.1)]
        exact h.2 i i1 i2⟩
      refine ⟨ρ', u', ?_, h2⟩
      rw [b_264_24, e11, wk, wM, if_pos (show (k : Int) < M by omega), if_pos (show 0 ≤ (k : Int) ∧ (k : Int) < 400 by omega), e86, w86, if_neg (fun hh => q (Or.inl hh)), if_neg (fun hh => q (Or.inr hh)), b_264_121, ck]
      exact e2
/-- the machine is as new -/
def an_R (M : Nat) (ρ ρ' : js_S) : Prop := (∀ a i : Int, ¬ (120 ≤ a ∧ a ≤ 122 ∨ a = 124) → ¬ (a = 83 ∧ (77 ≤ i ∧ i ≤ 83 ∨ i = 85)) → ρ' a i = ρ a i) ∧ (∀ i : Int, 0 ≤ i → i < 4096 → ρ' 120 i = cv_k ρ i M ∧ ρ' 120 (4096 + i) = 58659 * cv_k ρ i M) ∧ (∀ k : Int, 0 ≤ k → k < 2 → ρ' 121 k = 0 ∧ ρ' 122 k = 0 ∧ ρ' 124 k = 0) ∧ ∀ i : Int, 77 ≤ i ∧ i ≤ 83 ∨ i = 85 → ρ' 83 i = 0
theorem r_anew {ρ : js_S} (hp : pt_K M ρ) : ∃ ρ' : js_S, js_J E d 264 0 [(2, 83), (9, 0), (9, 0)] [] ρ = js_r0 E ρ' ∧ an_R M ρ ρ' := by
  obtain ⟨ρ1, e1, o1, h1⟩ := r_an0 (E := E) (d := d) (ρ0 := ρ) 8192 0 ρ (by omega) (fun _ _ _ => rfl) (fun i i1 i2 => by omega)
  have e1' : js_J E d 264 2 [(2, 83), (0, 0), (9, 0)] [] ρ = js_J E d 264 24 [(2, 83), (0, 0), (9, 0)] [] ρ1 := e1
  have k0 : an_K 0 ρ ρ1 := ⟨o1, fun i i1 i2 => ⟨h1 _ (by omega) (by omega), by
    rw [h1 _ (by omega) (by omega)]
    show (0 : Int) = 58659 * 0
    omega⟩⟩
  obtain ⟨ρ2, u, e2, o2, h2⟩ := r_ano (E := E) (d := d) hp M 0 ρ1 (9, 0) (by omega) k0
  have e2' : js_J E d 264 24 [(2, 83), (0, 0), (9, 0)] [] ρ1 = js_J E d 264 129 [(2, 83), (0, 0), u] [] ρ2 := e2
  have e3 : js_J E d 264 129 [(2, 83), (0, 0), u] [] ρ2 = js_J E d 264 129 [(2, 83), (0, 1), u] [] (js_up (js_up (js_up ρ2 121 0 0) 122 0 0) 124 0 0) := by
    rw [b_264_129, show js_w 0 = 0 from rfl, if_pos (by decide), if_pos (by decide)]
    rfl
  have a3 : ∀ a i : Int, ¬ ((a = 121 ∨ a = 122 ∨ a = 124) ∧ i = 0) → js_up (js_up (js_up ρ2 121 0 0) 122 0 0) 124 0 0 a i = ρ2 a i := fun a i g => by rw [js_up_ne _ (by omega), js_up_ne _ (by omega), js_up_ne _ (by omega)]
  have b3 : ∀ a : Int, a = 121 ∨ a = 122 ∨ a = 124 → js_up (js_up (js_up ρ2 121 0 0) 122 0 0) 124 0 0 a 0 = 0 := fun a g => by
    rcases g with g | g | g
    · subst g; rw [js_up_na _ (by decide), js_up_na _ (by decide), js_up_same]
    · subst g; rw [js_up_na _ (by decide), js_up_same]
    · subst g; exact js_up_same _ _ _ _
  generalize js_up (js_up (js_up ρ2 121 0 0) 122 0 0) 124 0 0 = ρ3 at e3 a3 b3
  have e4 : js_J E d 264 129 [(2, 83), (0, 1), u] [] ρ3 = js_J E d 264 129 [(2, 83), (0, 2), u] [] (js_up (js_up (js_up ρ3 121 1 0) 122 1 0) 124 1 0) := by
    rw [b_264_129, show js_w 1 = 1 from rfl, if_pos (by decide), if_pos (by decide)]
    rfl
  have a4 : ∀ a i : Int, ¬ ((a = 121 ∨ a = 122 ∨ a = 124) ∧ i = 1) → js_up (js_up (js_up ρ3 121 1 0) 122 1 0) 124 1 0 a i = ρ3 a i := fun a i g => by rw [js_up_ne _ (by omega), js_up_ne _ (by omega), js_up_ne _ (by omega)]
  have b4 : ∀ a : Int, a = 121 ∨ a = 122 ∨ a = 124 → js_up (js_up (js_up ρ3 121 1 0) 122 1 0) 124 1 0 a 1 = 0 := fun a g => by
    rcases g with g | g | g
    · subst g; rw [js_up_na _ (by decide), js_up_na _ (by decide), js_up_same]
    · subst g; rw [js_up_na _ (by decide), js_up_same]
    · subst g; exact js_up_same _ _ _ _
  generalize js_up (js_up (js_up ρ3 121 1 0) 122 1 0) 124 1 0 = ρ4 at e4 a4 b4
  have e5 : js_J E d 264 129 [(2, 83), (0, 2), u] [] ρ4 = js_r0 E (js_up (js_up (js_up (js_up (js_up (js_up (js_up (js_up ρ4 83 77 0) 83 78 0) 83 79 0) 83 80 0) 83 81 0) 83 82 0) 83 83 0) 83 85 0) := by
    rw [b_264_129, show js_w 2 = 2 from rfl, if_neg (by decide)]
  have a5 : ∀ a i : Int, ¬ (a = 83 ∧ (77 ≤ i ∧ i ≤ 83 ∨ i = 85)) → js_up (js_up (js_up (js_up (js_up (js_up (js_up (js_up ρ4 83 77 0) 83 78 0) 83 79 0) 83 80 0) 83 81 0) 83 82 0) 83 83 0) 83 85 0 a i = ρ4 a i := fun a i g => by rw [js_up_ne _ (by omega), js_up_ne _ (by omega), js_up_ne _ (by omega), js_up_ne _ (by omega), js_up_ne _ (by omega), js_up_ne _ (by omega), js_up_ne _ (by omega), js_up_ne _ (by omega)]
  have b5 : ∀ i : Int, 77 ≤ i ∧ i ≤ 83 ∨ i = 85 → js_up (js_up (js_up (js_up (js_up (js_up (js_up (js_up ρ4 83 77 0) 83 78 0) 83 79 0) 83 80 0) 83 81 0) 83 82 0) 83 83 0) 83 85 0 83 i = 0 := fun i g => by
    unfold js_up
    by_cases h85 : i = 85
    · rw [if_pos ⟨rfl, h85⟩]
    by_cases h83 : i = 83
    · rw [if_neg (fun hh => h85 hh.2), if_pos ⟨rfl, h83⟩]
    by_cases h82 : i = 82
    · rw [if_neg (fun hh => h85 hh.2), if_neg (fun hh => h83 hh.2), if_pos ⟨rfl, h82⟩]
    by_cases h81 : i = 81
    · rw [if_neg (fun hh => h85 hh.2), if_neg (fun hh => h83 hh.2), if_neg (fun hh => h82 hh.2), if_pos ⟨rfl, h81⟩]
    by_cases h80 : i = 80
    · rw [if_neg (fun hh => h85 hh.2), if_neg (fun hh => h83 hh.2), if_neg (fun hh => h82 hh.2), if_neg (fun hh => h81 hh.2), if_pos ⟨rfl, h80⟩]
    by_cases h79 : i = 79
    · rw [if_neg (fun hh => h85 hh.2), if_neg (fun hh => h83 hh.2), if_neg (fun hh => h82 hh.2), if_neg (fun hh => h81 hh.2), if_neg (fun hh => h80 hh.2), if_pos ⟨rfl, h79⟩]
    by_cases h78 : i = 78
    · rw [if_neg (fun hh => h85 hh.2), if_neg (fun hh => h83 hh.2), if_neg (fun hh => h82 hh.2), if_neg (fun hh => h81 hh.2), if_neg (fun hh => h80 hh.2), if_neg (fun hh => h79 hh.2), if_pos ⟨rfl, h78⟩]
    · rw [if_neg (fun hh => h85 hh.2), if_neg (fun hh => h83 hh.2), if_neg (fun hh => h82 hh.2), if_neg (fun hh => h81 hh.2), if_neg (fun hh => h80 hh.2), if_neg (fun hh => h79 hh.2), if_neg (fun hh => h78 hh.2), if_pos ⟨rfl, by omega⟩]
  generalize js_up (js_up (js_up (js_up (js_up (js_up (js_up (js_up ρ4 83 77 0) 83 78 0) 83 79 0) 83 80 0) 83 81 0) 83 82 0) 83 83 0) 83 85 0 = ρ5 at e5 a5 b5
  refine ⟨ρ5, by rw [b_264_0, e1', e2', e3, e4, e5], fun a i g1 g2 => ?_, fun i i1 i2 => ?_, fun k k1 k2 => ?_, b5⟩
  · rw [a5 a i g2, a4 a i (by omega), a3 a i (by omega), o2 a i (by omega)]
  · rw [a5 _ _ (by omega), a4 _ _ (by omega), a3 _ _ (by omega), a5 _ _ (by omega), a4 _ _ (by omega), a3 _ _ (by omega)]
    exact h2 i i1 i2
  · have c : ∀ a : Int, a = 121 ∨ a = 122 ∨ a = 124 → ρ5 a k = 0 := fun a g => by
      rw [a5 _ _ (by omega)]
      by_cases z : k = 1
      · rw [z]
        exact b4 a g
      · rw [a4 _ _ (by omega), show k = 0 by omega]
        exact b3 a g
    exact ⟨c 121 (by omega), c 122 (by omega), c 124 (by omega)⟩
end FG
