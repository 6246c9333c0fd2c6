/-! part 99.zzf: a name told to its end within a unit -/
theorem lo_c_one {ρ : js_S} {f m : Int} (hm : 0 ≤ m) : lo_c ρ f (m + 1).toNat = lo_c ρ f m.toNat + (if 5 ≤ ρ 86 m ∧ ρ 86 m ≤ 7 ∧ ρ 93 m = f then ρ 91 m else 0) := by
  have e : (m + 1).toNat = m.toNat + 1 := by omega
  have e2 : ((m.toNat : Nat) : Int) = m := by omega
  rw [e]
  simp only [lo_c]
  rw [e2]
/-- symbol m is told to its end in both: the unit's symbols and cells -/
theorem ux_new {E : js_E} {b F n t p N m s : Int} {B U : Int → Int} {X : Int → Prop} {σ ρ σ8 ρ9 : js_S} (hb : b = 0 ∨ b = 25) (hx : ux_R E b F B U X σ ρ) (hm : ρ 83 11 = m) (h8 : xs_R E b F B (fun i => X i ∨ i = m) σ8 ρ9) (sf : sf_R b n t p m σ σ8) (sg : sg_R N m ρ ρ9) (h11 : ρ9 83 11 = m + 1) (hs : σ8 (19 + b) m = s) (hF : sy_F σ8 ρ9 b m) (hk : 6 ≤ ρ9 86 m ∧ ρ9 86 m ≤ 7) (h93 : ρ9 93 m = F) (r92 : ρ9 92 m = 0 ∨ ρ9 92 m = 1) (r91 : 1 ≤ ρ9 91 m ∧ ρ9 91 m ≤ 4096) (r88 : -2000000000 ≤ ρ9 88 m ∧ ρ9 88 m ≤ ρ9 89 m ∧ ρ9 89 m ≤ 2000000000) (rty : ty_b (ρ9 87 m) (ρ9 88 m) (ρ9 89 m)) (s5 : σ8 s 5 = σ (8 + b) 9) (s11 : σ8 s 11 = σ (8 + b) 8) (l9 : σ8 (8 + b) 9 = σ (8 + b) 9 + ρ9 91 m) : ux_R E b F B U X (js_up σ8 s 13 1) (js_up ρ9 99 m 1) := by
  obtain ⟨hx1, hpl, hXb⟩ := hx
  have m0 : 0 ≤ m := by have := hx1.1.1.1; omega
  have hY := h8.1
  have hN := hY.2.2.2.2.2.1 m m0 (by omega)
  have hge := js_sym_ge hN.1
  rw [hs] at hge
  have nXm : ∀ i : Int, X i → i ≠ m := fun i hi hh => by
    have := hXb i hi
    omega
  have u : ∀ a i : Int, ¬ (a = 99 ∧ i = m) → js_up ρ9 99 m 1 a i = ρ9 a i := fun a i h => js_up_ne _ h
  have v : ∀ a i : Int, ¬ (a = s ∧ i = 13) → js_up σ8 s 13 1 a i = σ8 a i := fun a i h => js_up_ne _ h
  have e19 : ∀ i : Int, js_up σ8 s 13 1 (19 + b) i = σ8 (19 + b) i := fun i => v _ _ (by omega)
  have hY' := sy_Y_end (X' := X) hb hY m0 (by omega) hs hF (fun i hi => hi)
  have z : ∀ a i : Int, 86 ≤ a → a ≤ 97 → 0 ≤ i → i < m → ρ9 a i = ρ a i := fun a i g1 g2 g3 g4 => sg a i (by omega) (by omega) (by omega) (by omega) (by omega)
  refine ⟨⟨hY', ⟨Or.inl rfl, fun i hi => ?_, fun i g1 g2 g3 g4 => ?_⟩, fun i g1 g2 g3 => ?_, fun i g1 g2 => ?_, fun i g1 g2 g3 g4 => ?_, ?_, ?_⟩, ⟨fun i g1 g2 g3 g4 => ?_, ?_, ?_, ?_, hpl.2.2.2.2.1, fun i g1 g2 g3 => ?_⟩, fun i hi => ?_⟩
  · have := h8.2.1.2.1 i (Or.inl hi)
    have ne := nXm i hi
    unfold sy_S at this ⊢
    rw [if_neg (by omega)] at this ⊢
    rw [u _ _ (by omega)]
    exact this
  · rw [u _ _ (by omega)] at g2 g4
    have ne : i ≠ m := fun hh => by
      rw [hh] at g4
      omega
    rw [u _ _ (by omega), u _ _ (by omega), u _ _ (by omega)]
    exact h8.2.1.2.2 i g1 g2 (fun hh => hh.elim g3 ne) g4
  · rw [u _ _ (by omega)] at g2
    by_cases q : i = m
    · rw [q]
      unfold gs_P
      rw [u 86 _ (by omega), u 87 _ (by omega), u 88 _ (by omega), u 89 _ (by omega), u 91 _ (by omega), u 92 _ (by omega), u 93 _ (by omega), u 83 _ (by omega), u 83 _ (by omega)]
      exact ⟨r92, fun h => by omega, fun _ => ⟨r91.1, r91.2, r88.1, r88.2.1, r88.2.2, rty⟩, fun _ _ => by rw [h93]; exact h8.2.2.2.2.2.1.symm, fun h => by omega, fun h => by omega⟩
    · obtain ⟨a1, a2, a3, a4, a5, a6⟩ := h8.2.2.1 i g1 g2 (fun hh => hh.elim g3 q)
      unfold gs_P
      rw [u 86 i (by omega), u 87 i (by omega), u 88 i (by omega), u 89 i (by omega), u 91 i (by omega), u 92 i (by omega), u 93 i (by omega), u 96 i (by omega), u 99 i (by omega), u 83 _ (by omega), u 83 _ (by omega)]
      refine ⟨a1, fun h => ?_, a3, a4, fun h => ?_, a6⟩
      · obtain ⟨b1, b2⟩ := a2 h
        refine ⟨b1, ?_⟩
        rcases b2 with c | c | ⟨c1, c2, c3, c4⟩
        · exact Or.inl c
        · exact Or.inr (Or.inl c)
        · exact Or.inr (Or.inr ⟨c1, c2, by rw [u _ _ (by omega)]; exact c3, fun hh => c4 (Or.inl hh)⟩)
      · obtain ⟨b1, b2, b3, b4, b5, b6⟩ := a5 h
        refine ⟨b1, b2, b3, b4, fun x x1 x2 => ?_, b6⟩
        obtain ⟨c1, c2⟩ := b5 x x1 x2
        exact ⟨by rw [u _ _ (by omega)]; exact c1, fun hh => c2 (Or.inl hh)⟩
  · rw [u _ _ (by omega)] at g2
    have q2 := h8.2.2.2.1 i g1 g2
    rw [e19, v _ _ (by omega)]
    exact ⟨q2.1, q2.2.1, u9_of q2.2.2 (u _ _ (by omega)) (by rw [e19, v _ _ (by omega)])⟩
  · rw [u _ _ (by omega)] at g2
    rw [u _ _ (by omega)] at g4
    have ne : i ≠ m := fun hh => by
      rw [hh] at g4
      omega
    rw [e19, v _ _ (by omega)]
    exact h8.2.2.2.2.1 i g1 g2 (fun hh => hh.elim g3 ne) g4
  · rw [u _ _ (by omega)]
    exact h8.2.2.2.2.2.1
  · rw [v _ _ (by omega)]
    exact h8.2.2.2.2.2.2
  · rw [u _ _ (by omega)] at g2 g4
    rw [e19, v _ _ (by omega), v _ _ (by omega), u _ _ (by omega)]
    by_cases q : i = m
    · rw [q, hs, s5, s11, h93, lo_c_eq (ρ := ρ) m.toNat (fun a k h1 h2 h3 h4 => by rw [u _ _ (by omega)]; exact z a k h1 h2 h3 (by omega))]
      have := hpl.2.1
      rw [hm] at this
      exact ⟨this, hpl.2.2.1⟩
    · have g5 : i < m := by omega
      have k := hpl.1 i g1 (by omega) g3 (by rw [← z 86 i (by decide) (by decide) g1 g5]; exact g4)
      obtain ⟨f1, f2⟩ := sf.2.2.1 i g1 g5
      rw [f1, f2 5 (by decide), f2 11 (by decide), z 93 i (by decide) (by decide) g1 g5, lo_c_eq (ρ := ρ) i.toNat (fun a k h1 h2 h3 h4 => by rw [u _ _ (by omega)]; exact z a k h1 h2 h3 (by omega))]
      exact k
  · have k := hpl.2.1
    rw [hm] at k
    rw [v _ _ (by omega), u _ _ (by omega), h11, l9, lo_c_one m0, u _ _ (by omega), u _ _ (by omega), u _ _ (by omega), if_pos (show 5 ≤ ρ9 86 m ∧ ρ9 86 m ≤ 7 ∧ ρ9 93 m = F from ⟨by omega, hk.2, h93⟩), lo_c_eq (ρ := ρ) m.toNat (fun a k h1 h2 h3 h4 => by rw [u _ _ (by omega)]; exact z a k h1 h2 h3 (by omega)), k]
  · rw [v _ _ (by omega), sf.2.1 _ _ (by omega) (by omega) (by unfold sf_D ef_D; omega)]
    exact hpl.2.2.1
  · rw [v _ _ (by omega), sf.2.1 _ _ (by omega) (by omega) (by unfold sf_D ef_D; omega)]
    exact hpl.2.2.2.1
  · rw [u _ _ (by omega)] at g3
    rw [u _ _ (by omega), u _ _ (by omega)]
    by_cases q : i = m
    · rw [q]
      exact ⟨by omega, hk.2, h93⟩
    · rw [z 86 i (by decide) (by decide) g1 (by omega), z 93 i (by decide) (by decide) g1 (by omega)]
      exact hpl.2.2.2.2.2 i g1 g2 (by omega)
  · rw [u _ _ (by omega), h11]
    have := hXb i hi
    omega
/-- the visible flag of a symbol is set: nothing else -/
theorem sf_R_13 {b n t p m m' s v : Int} {σ : js_S} (hb : b = 0 ∨ b = 25) (hm : 0 ≤ m') (hm2 : m' < 400) (hs : σ (19 + b) m' = s) (hge : 137 ≤ s) : sf_R b n t p m σ (js_up σ s 13 v) := ⟨fr_R_sym hb hm hm2 hs hge, fun a i h1 h2 _ => js_up_na _ (by omega), fun i h1 h2 => ⟨js_up_na _ (by omega), fun k hk => js_up_ne _ (by omega)⟩, by rw [js_up_na _ (by omega)]; exact Int.le_refl _⟩
/-- a node is made, then a token taken: as if the token were taken first -/
theorem nt_swap {ρ2 ρ3 ρ4 : js_S} {k ty lo hi a b c : Int} (hw : nw_R ρ2 ρ3 k ty lo hi a b c) (t : ∀ a i : Int, ¬ (a = 83 ∧ 5 ≤ i ∧ i ≤ 9) → ρ4 a i = ρ3 a i) : ∃ ρ' : js_S, (∀ a i : Int, ¬ (a = 83 ∧ 5 ≤ i ∧ i ≤ 9) → ρ' a i = ρ2 a i) ∧ (∀ i : Int, 5 ≤ i → i ≤ 9 → ρ' 83 i = ρ4 83 i) ∧ nw_R ρ' ρ4 k ty lo hi a b c := by
  obtain ⟨hw1, ⟨hw2, hw3, hw4, hw5⟩, hw6, hw7, hw8, hw9, hwO⟩ := hw
  have o : ∀ a i : Int, ¬ (a = 83 ∧ 5 ≤ i ∧ i ≤ 9) → (fun x y => if x = 83 ∧ 5 ≤ y ∧ y ≤ 9 then ρ4 x y else ρ2 x y : js_S) a i = ρ2 a i := fun a i h => if_neg h
  have o2 : ∀ i : Int, 5 ≤ i → i ≤ 9 → (fun x y => if x = 83 ∧ 5 ≤ y ∧ y ≤ 9 then ρ4 x y else ρ2 x y : js_S) 83 i = ρ4 83 i := fun i h1 h2 => if_pos ⟨rfl, h1, h2⟩
  refine ⟨(fun x y => if x = 83 ∧ 5 ≤ y ∧ y ≤ 9 then ρ4 x y else ρ2 x y), o, o2, ?_⟩
  have e33 := o 83 33 (by omega)
  unfold nw_R
  rw [e33, t 83 33 (by omega), t _ _ (by omega), t _ _ (by omega), t _ _ (by omega), t _ _ (by omega), t _ _ (by omega), t _ _ (by omega), t _ _ (by omega), t _ _ (by omega)]
  refine ⟨hw1, ⟨hw2, hw3, hw4, hw5⟩, hw6, hw7, hw8, hw9, fun x i g1 g2 => ?_⟩
  by_cases q : x = 83 ∧ 5 ≤ i ∧ i ≤ 9
  · rw [q.1, o2 i q.2.1 q.2.2]
  · rw [t _ _ q, o _ _ q, hwO _ _ g1 g2]
/-- the type is set -/
def tp_S (ρ : js_S) (m : Int) : js_S := js_up (js_up (js_up ρ 87 m (ρ 83 30)) 88 m (ρ 83 31)) 89 m (ρ 83 32)
theorem tp_o {ρ : js_S} {m a i : Int} (h : ¬ (87 ≤ a ∧ a ≤ 89 ∧ i = m)) : tp_S ρ m a i = ρ a i := by
  unfold tp_S
  rw [js_up_ne _ (by omega), js_up_ne _ (by omega), js_up_ne _ (by omega)]
theorem tp_89 {ρ : js_S} {m : Int} : tp_S ρ m 89 m = ρ 83 32 := js_up_same _ _ _ _
theorem tp_88 {ρ : js_S} {m : Int} : tp_S ρ m 88 m = ρ 83 31 := by
  unfold tp_S
  rw [js_up_ne _ (by omega), js_up_same]
theorem tp_87 {ρ : js_S} {m : Int} : tp_S ρ m 87 m = ρ 83 30 := by
  unfold tp_S
  rw [js_up_ne _ (by omega), js_up_ne _ (by omega), js_up_same]
theorem r_tp {E : js_E} {e : Nat} {ρ : js_S} {m : Int} (hm : 0 ≤ m ∧ m < 400) : js_J E e 210 0 [(2, 83), (0, m)] [] ρ = js_r0 E (tp_S ρ m) := by
  rw [b_210_0, js_w_of (x := m) (by omega) (by omega), if_pos hm]
  rfl
