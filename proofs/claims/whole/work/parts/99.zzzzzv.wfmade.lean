/-! part 99.zzzzzv: the code that was made is as it should be -/
section WV
variable {B : Int → Int} {Bf : Int → Int → Int} {fb fr : Int → tr_T} {r : tr_T} {ρ ρ' : js_S} {M : Nat}
theorem po_a_st (h : ∀ i : Int, 0 ≤ i → i < M → 1 ≤ ρ 86 i ∧ ρ 86 i ≤ 3 → 0 ≤ ρ 91 i) : ∀ g m : Nat, g + m ≤ M → po_a ρ m ≤ po_a ρ (g + m) := by
  intro g
  induction g with
  | zero => intro m _; rw [Nat.zero_add]; exact Int.le_refl _
  | succ g ih =>
    intro m hm
    have a := ih m (by omega)
    have e : po_a ρ (g + m + 1) = po_a ρ (g + m) + (if 1 ≤ ρ 86 (g + m : Nat) ∧ ρ 86 (g + m : Nat) ≤ 3 then ρ 91 (g + m : Nat) else 0) := rfl
    rw [show g + 1 + m = g + m + 1 by omega]
    by_cases q : 1 ≤ ρ 86 (g + m : Nat) ∧ ρ 86 (g + m : Nat) ≤ 3
    · have b := h (g + m : Nat) (by omega) (by omega) q
      rw [e, if_pos q]
      omega
    · rw [e, if_neg q]
      omega
theorem lo_c_st {f : Int} (h : ∀ i : Int, 0 ≤ i → i < M → 5 ≤ ρ 86 i ∧ ρ 86 i ≤ 7 → 0 ≤ ρ 91 i) : ∀ g m : Nat, g + m ≤ M → lo_c ρ f m ≤ lo_c ρ f (g + m) := by
  intro g
  induction g with
  | zero => intro m _; rw [Nat.zero_add]; exact Int.le_refl _
  | succ g ih =>
    intro m hm
    have a := ih m (by omega)
    have e : lo_c ρ f (g + m + 1) = lo_c ρ f (g + m) + (if 5 ≤ ρ 86 (g + m : Nat) ∧ ρ 86 (g + m : Nat) ≤ 7 ∧ ρ 93 (g + m : Nat) = f then ρ 91 (g + m : Nat) else 0) := rfl
    rw [show g + 1 + m = g + m + 1 by omega]
    by_cases q : 5 ≤ ρ 86 (g + m : Nat) ∧ ρ 86 (g + m : Nat) ≤ 7 ∧ ρ 93 (g + m : Nat) = f
    · have b := h (g + m : Nat) (by omega) (by omega) ⟨q.1, q.2.1⟩
      rw [e, if_pos q]
      omega
    · rw [e, if_neg q]
      omega
theorem un_c_st (h11 : ρ 83 11 = M) (h : ∀ f : Int, 0 ≤ lo_c ρ f M) : ∀ g m : Nat, g + m ≤ M → un_c ρ fb fr m ≤ un_c ρ fb fr (g + m) := by
  intro g
  induction g with
  | zero => intro m _; rw [Nat.zero_add]; exact Int.le_refl _
  | succ g ih =>
    intro m hm
    have a := ih m (by omega)
    have e : un_c ρ fb fr (g + m + 1) = un_c ρ fb fr (g + m) + (if ρ 86 (g + m : Nat) = 4 then lo_c ρ (g + m : Nat) (ρ 83 11).toNat + max 0 (max (st_mt (fb (g + m : Nat)) 0) (xt_mt (fr (g + m : Nat)) 0)) else 0) := rfl
    rw [show g + 1 + m = g + m + 1 by omega]
    rw [h11, show ((M : Int)).toNat = M by omega] at e
    have b := h ((g + m : Nat) : Int)
    by_cases q : ρ 86 (g + m : Nat) = 4
    · rw [e, if_pos q]
      generalize max (st_mt (fb (g + m : Nat)) 0) (xt_mt (fr (g + m : Nat)) 0) = Q
      omega
    · rw [e, if_neg q]
      omega
/-- a variable or port -/
def wv_S (ρ : js_S) (M : Nat) (x : Int) : Prop := 0 ≤ x ∧ x < M ∧ (1 ≤ ρ 86 x ∧ ρ 86 x ≤ 3 ∨ 5 ≤ ρ 86 x ∧ ρ 86 x ≤ 7)
/-- a fun below level l -/
def wv_K (ρ : js_S) (M : Nat) (l x : Int) : Prop := 0 ≤ x ∧ x < M ∧ ρ 86 x = 4 ∧ 1 ≤ ρ 96 x ∧ ρ 96 x < l
/-- the funs' units -/
def wv_F (ρ : js_S) (fb fr : Int → tr_T) (M : Nat) (a z l : Int) : Prop := ∃ i : Nat, i < M ∧ ρ 86 i = 4 ∧ a = fn_p ρ fb fr i ∧ z = fn_p ρ fb fr i + st_ln (fb i) + xt_ln (fr i) + 1 ∧ l = ρ 96 i ∧ l ≤ 16
theorem wv_ln (hp : mp_R B Bf fb fr M ρ) {x : Int} (hx : wv_S ρ M x) : 1 ≤ ρ 91 x ∧ ρ 91 x ≤ 4096 := by
  have g := (hp.2.2.1 x hx.1 (by rw [hp.1.2]; exact hx.2.1) (fun q => q)).2.2.1 hx.2.2
  exact ⟨g.1, g.2.1⟩
theorem wv_c (hp : mp_R B Bf fb fr M ρ) {x : Int} (hx : wv_S ρ M x) : 0 ≤ ac_A ρ fb fr x ∧ ac_A ρ fb fr x + ρ 91 x ≤ un_c ρ fb fr M + lo_c ρ (-1) M + max 0 (st_mt r 0) := by
  have h11 := hp.1.2
  have tM : ((M : Int)).toNat = M := by omega
  have hl : ∀ i : Int, 0 ≤ i → i < M → 5 ≤ ρ 86 i ∧ ρ 86 i ≤ 7 → 0 ≤ ρ 91 i := fun i i1 i2 i3 => by
    have := (wv_ln hp (x := i) ⟨i1, i2, Or.inr i3⟩).1
    omega
  have hpo : ∀ i : Int, 0 ≤ i → i < M → 1 ≤ ρ 86 i ∧ ρ 86 i ≤ 3 → 0 ≤ ρ 91 i := fun i i1 i2 i3 => by
    have := (wv_ln hp (x := i) ⟨i1, i2, Or.inl i3⟩).1
    omega
  have l0 : ∀ f : Int, ∀ n : Nat, n ≤ M → 0 ≤ lo_c ρ f n := fun f n hn => by
    have := lo_c_st (f := f) hl n 0 (by omega)
    have z : lo_c ρ f 0 = 0 := rfl
    rw [Nat.add_zero] at this
    omega
  have p0 : ∀ n : Nat, n ≤ M → 0 ≤ po_a ρ n := fun n hn => by
    have := po_a_st hpo n 0 (by omega)
    have z : po_a ρ 0 = 0 := rfl
    rw [Nat.add_zero] at this
    omega
  have us := un_c_st (fb := fb) (fr := fr) h11 (fun f => l0 f M (by omega))
  have u0 : un_c ρ fb fr 0 = po_a ρ M := by
    show po_a ρ (ρ 83 11).toNat = _
    rw [h11, tM]
  have uM := us M 0 (by omega)
  rw [Nat.add_zero] at uM
  have lM := l0 (-1) M (by omega)
  have ln := wv_ln hp hx
  obtain ⟨x1, x2, x3⟩ := hx
  have tx : ((x.toNat : Nat) : Int) = x := by omega
  have pM := p0 M (by omega)
  unfold ac_A
  by_cases q : 1 ≤ ρ 86 x ∧ ρ 86 x ≤ 3
  · rw [if_pos q]
    have e : po_a ρ (x.toNat + 1) = po_a ρ x.toNat + (if 1 ≤ ρ 86 (x.toNat : Nat) ∧ ρ 86 (x.toNat : Nat) ≤ 3 then ρ 91 (x.toNat : Nat) else 0) := rfl
    rw [tx, if_pos q] at e
    have a := po_a_st hpo (M - (x.toNat + 1)) (x.toNat + 1) (by omega)
    rw [show M - (x.toNat + 1) + (x.toNat + 1) = M by omega] at a
    have b := p0 x.toNat (by omega)
    exact ⟨b, by omega⟩
  · have k5 : 5 ≤ ρ 86 x ∧ ρ 86 x ≤ 7 := by omega
    rw [if_neg q, if_neg (show ¬ ρ 86 x = 4 by omega), h11, tM]
    have h93 := hp.2.2.2.1 x x1 x2 k5
    have e : lo_c ρ (ρ 93 x) (x.toNat + 1) = lo_c ρ (ρ 93 x) x.toNat + (if 5 ≤ ρ 86 (x.toNat : Nat) ∧ ρ 86 (x.toNat : Nat) ≤ 7 ∧ ρ 93 (x.toNat : Nat) = ρ 93 x then ρ 91 (x.toNat : Nat) else 0) := rfl
    rw [tx, if_pos ⟨k5.1, k5.2, rfl⟩] at e
    have a := lo_c_st (f := ρ 93 x) hl (M - (x.toNat + 1)) (x.toNat + 1) (by omega)
    rw [show M - (x.toNat + 1) + (x.toNat + 1) = M by omega] at a
    have b := l0 (ρ 93 x) x.toNat (by omega)
    rcases h93 with f1 | ⟨f1, f2, f3⟩
    · rw [if_pos (show ρ 93 x < 0 by omega)]
      rw [f1] at a b e ⊢
      omega
    · rw [if_neg (show ¬ ρ 93 x < 0 by omega)]
      have tf : (((ρ 93 x).toNat : Nat) : Int) = ρ 93 x := by omega
      have eu : un_c ρ fb fr ((ρ 93 x).toNat + 1) = un_c ρ fb fr (ρ 93 x).toNat + (if ρ 86 ((ρ 93 x).toNat : Nat) = 4 then lo_c ρ ((ρ 93 x).toNat : Nat) (ρ 83 11).toNat + max 0 (max (st_mt (fb ((ρ 93 x).toNat : Nat)) 0) (xt_mt (fr ((ρ 93 x).toNat : Nat)) 0)) else 0) := rfl
      rw [tf, if_pos f3, h11, tM] at eu
      have c1 := us (M - ((ρ 93 x).toNat + 1)) ((ρ 93 x).toNat + 1) (by omega)
      rw [show M - ((ρ 93 x).toNat + 1) + ((ρ 93 x).toNat + 1) = M by omega] at c1
      have c2 := us (ρ 93 x).toNat 0 (by omega)
      rw [Nat.add_zero] at c2
      generalize max (st_mt (fb (ρ 93 x)) 0) (xt_mt (fr (ρ 93 x)) 0) = Q at eu
      omega
/-- from an INSTRUCTION of a tree to one of the machine -/
theorem wm_of {Fu : Int → Int → Int → Prop} {A : Int → Int} {tb N mt a z l p : Int} {S K : Int → Prop} {Z : Int → Int → Prop} {I : xt_I} (hk : rk_P A tb ρ' p I) (hi : wi_I S Z K mt a z p I) (hS : ∀ x : Int, S x → 1 ≤ ρ 91 x ∧ 0 ≤ A x ∧ A x + ρ 91 x ≤ N) (hZ : ∀ x c : Int, Z x c → ρ 91 x = c) (ht : 0 ≤ tb ∧ tb + mt ≤ N) (hK : ∀ x : Int, K x → ∃ z' l' : Int, Fu (A x) z' l' ∧ A x < z' ∧ 1 ≤ l' ∧ l' < l) : wm_P Fu N ρ' a z l p := by
  obtain ⟨k1, k2, k3, _, _⟩ := hk
  obtain ⟨⟨g1, g2⟩, hh⟩ := hi
  unfold wm_P
  rw [k1, k2, k3]
  rcases hh with ⟨h1, h2⟩ | ⟨h1, h2, h3⟩ | ⟨h1, h2, h3, h4⟩ | ⟨h1, h2, h3, c, h4, h5⟩ | ⟨h1, h2, h3, h4, h5⟩ | ⟨h1, h2, h3⟩ | ⟨h1, h2, h3⟩
  · exact Or.inl ⟨h2, g2⟩
  · rw [if_pos h1]
    exact Or.inr (Or.inl ⟨h2, g2, h3⟩)
  · have s := hS _ h3
    rw [if_neg (by omega), if_pos h1, h4]
    exact Or.inr (Or.inr (Or.inl ⟨h2, g2, by omega, by omega⟩))
  · have s := hS _ h3
    have c1 := hZ _ _ h4
    rw [if_neg (by omega), if_pos h1]
    exact Or.inr (Or.inr (Or.inl ⟨Or.inr h2, g2, by omega, by omega⟩))
  · have s := hS _ h3
    have c1 := hZ _ _ h5
    rw [if_neg (by omega), if_pos h1, h4]
    exact Or.inr (Or.inr (Or.inr (Or.inl ⟨h2, g2, by omega, by omega, by omega⟩)))
  · rw [if_neg (by omega), if_neg (by omega), if_pos h1]
    exact Or.inr (Or.inr (Or.inl ⟨h2, g2, by omega, by omega⟩))
  · rw [if_neg (by omega), if_neg (by omega), if_neg (by omega)]
    obtain ⟨z', l', f1, f2, f3⟩ := hK _ h3
    exact Or.inr (Or.inr (Or.inr (Or.inr (Or.inl ⟨h2, g2, z', l', f1, f2, f3⟩))))
/-- one unit -/
theorem wm_un {Fu : Int → Int → Int → Prop} {A : Int → Int} {tb N mt l P0 : Int} {tf tr : tr_T} {Il : xt_I} {S S1 K1 : Int → Prop} {Z K : Int → Int → Prop} {U' : Int → Int → Int → Prop} {V' : Int → Int → Int → Int → Prop} (hS : ∀ s : Int, S s → S1 s) (hK : ∀ s k : Int, K s k → K1 s ∧ ∀ j : Int, 0 ≤ j → j < k → S1 (s + 1 + j)) (hl : tf = .leaf ∨ xt_k tf = 90) (hw : st_w tf) (hg : st_g S Z K U' V' tf) (hr : tr = .leaf ∨ xt_e tr ∧ xt_w tr ∧ xt_g S Z K tr) (m1 : st_mt tf 0 ≤ mt) (m2 : xt_mt tr 0 ≤ mt) (hk : st_cd (rk_P A tb ρ') tf 0 P0 0 ∧ xt_cd (rk_P A tb ρ') tr 0 (P0 + st_ln tf) ∧ rk_P A tb ρ' (P0 + st_ln tf + xt_ln tr) Il) (hIl : Il.1 = 28 ∧ l ≤ 16 ∨ Il.1 = 29 ∧ l = 17) (hS1 : ∀ x : Int, S1 x → 1 ≤ ρ 91 x ∧ 0 ≤ A x ∧ A x + ρ 91 x ≤ N) (hZ : ∀ x c : Int, Z x c → ρ 91 x = c) (ht : 0 ≤ tb ∧ tb + mt ≤ N) (hK1 : ∀ x : Int, K1 x → ∃ z' l' : Int, Fu (A x) z' l' ∧ A x < z' ∧ 1 ≤ l' ∧ l' < l) (p : Int) (g1 : P0 ≤ p) (g2 : p < P0 + st_ln tf + xt_ln tr + 1) : wm_P Fu N ρ' P0 (P0 + st_ln tf + xt_ln tr + 1) l p := by
  have l1 := st_ln_0 tf
  have l2 := xt_ln_0 tr
  have lk := ls_k hl
  by_cases q1 : p < P0 + st_ln tf
  · have c := st_cd_w (mt := mt) (a := P0) (z := P0 + st_ln tf + xt_ln tr + 1) hS hK tf 0 P0 0 hw hg (Int.le_refl _) (fun q => by omega) (by omega) m1 (Int.le_refl _) (by omega) hk.1
    obtain ⟨I, a1, a2⟩ := st_cd_cov tf _ _ _ hw c p g1 q1
    exact wm_of a1 a2 hS1 hZ ht hK1
  by_cases q2 : p < P0 + st_ln tf + xt_ln tr
  · rcases hr with h | ⟨h1, h2, h3⟩
    · subst h
      have : xt_ln (Std.DTreeMap.Internal.Impl.leaf : tr_T) = 0 := rfl
      omega
    · have c := xt_cd_w (mt := mt) (a := P0) (z := P0 + st_ln tf + xt_ln tr + 1) hS hK tr 0 (P0 + st_ln tf) h2 (fun _ => h1.2.2) h3 (Int.le_refl _) m2 (by omega) (by omega) hk.2.1
      obtain ⟨I, a1, a2⟩ := xt_cd_cov tr _ _ h2 c p (by omega) q2
      exact wm_of a1 a2 hS1 hZ ht hK1
  · have e : p = P0 + st_ln tf + xt_ln tr := by omega
    have k1 := hk.2.2.1
    unfold wm_P
    rw [e, k1]
    rcases hIl with ⟨i1, i2⟩ | ⟨i1, i2⟩
    · exact Or.inr (Or.inr (Or.inr (Or.inr (Or.inr (Or.inl ⟨i1, i2⟩)))))
    · exact Or.inr (Or.inr (Or.inr (Or.inr (Or.inr (Or.inr ⟨i1, i2⟩)))))
end WV
