/-! part 99.zzzzzw: all the code that was made is as it should be -/
section WW
variable {B : Int → Int} {Bf : Int → Int → Int} {fb fr : Int → tr_T} {r : tr_T} {ρ ρ' : js_S} {M : Nat}
theorem wv_u (hp : mp_R B Bf fb fr M ρ) : (∀ g m : Nat, g + m ≤ M → un_c ρ fb fr m ≤ un_c ρ fb fr (g + m)) ∧ (∀ (f : Int) (n : Nat), n ≤ M → 0 ≤ lo_c ρ f n) ∧ 0 ≤ un_c ρ fb fr 0 := by
  have h11 := hp.1.2
  have tM : ((M : Int)).toNat = M := by omega
  have hl : ∀ i : Int, 0 ≤ i → i < M → 5 ≤ ρ 86 i ∧ ρ 86 i ≤ 7 → 0 ≤ ρ 91 i := fun i i1 i2 i3 => by
    have := (wv_ln hp (x := i) ⟨i1, i2, Or.inr i3⟩).1
    omega
  have hpo : ∀ i : Int, 0 ≤ i → i < M → 1 ≤ ρ 86 i ∧ ρ 86 i ≤ 3 → 0 ≤ ρ 91 i := fun i i1 i2 i3 => by
    have := (wv_ln hp (x := i) ⟨i1, i2, Or.inl i3⟩).1
    omega
  have l0 : ∀ f : Int, ∀ n : Nat, n ≤ M → 0 ≤ lo_c ρ f n := fun f n hn => by
    have := lo_c_st (f := f) hl n 0 (by omega)
    have z : lo_c ρ f 0 = 0 := rfl
    rw [Nat.add_zero] at this
    omega
  refine ⟨un_c_st h11 (fun f => l0 f M (by omega)), l0, ?_⟩
  show 0 ≤ po_a ρ (ρ 83 11).toNat
  rw [h11, tM]
  have := po_a_st hpo M 0 (by omega)
  have z : po_a ρ 0 = 0 := rfl
  rw [Nat.add_zero] at this
  omega
theorem wv_call (hp : mp_R B Bf fb fr M ρ) {l s k : Int} (h : 0 ≤ s ∧ s < M ∧ ρ 86 s = 4 ∧ ρ 91 s = k ∧ ρ 96 s < l) : wv_K ρ M l s ∧ ∀ j : Int, 0 ≤ j → j < k → wv_S ρ M (s + 1 + j) := by
  obtain ⟨s1, s2, s3, s4, s5⟩ := h
  have h11 := hp.1.2
  have gs := (hp.2.2.1 s s1 (by omega) (fun q => q)).2.2.2.2.1 s3
  refine ⟨⟨s1, s2, s3, gs.2.2.2.2.2.1, s5⟩, fun j j1 j2 => ?_⟩
  have f2 := gs.2.2.2.2.1 (1 + j) (by omega) (by omega)
  have f3 := gs.2.2.2.1
  unfold wv_S
  rw [show s + 1 + j = s + (1 + j) by omega, f2.1]
  exact ⟨by omega, by omega, Or.inr (by decide)⟩
theorem wv_f {l : Int} (hl : l ≤ 17) {x : Int} (hx : wv_K ρ M l x) : ∃ z' l' : Int, wv_F ρ fb fr M (ac_A ρ fb fr x) z' l' ∧ ac_A ρ fb fr x < z' ∧ 1 ≤ l' ∧ l' < l := by
  obtain ⟨x1, x2, x3, x4, x5⟩ := hx
  have tx : ((x.toNat : Nat) : Int) = x := by omega
  have e : ac_A ρ fb fr x = fn_p ρ fb fr x.toNat := by
    unfold ac_A
    rw [if_neg (by omega), if_pos x3]
  have l1 := st_ln_0 (fb x)
  have l2 := xt_ln_0 (fr x)
  refine ⟨fn_p ρ fb fr x.toNat + st_ln (fb x) + xt_ln (fr x) + 1, ρ 96 x, ⟨x.toNat, by omega, by rw [tx]; exact x3, e, by rw [tx], by rw [tx], by omega⟩, by rw [e]; omega, x4, x5⟩
theorem wc_make (hp : mp_R B Bf fb fr M ρ) (hc : mc_R B fb fr r M ρ) (hmf : mf_R B fb fr r M ρ ρ') (h8 : ρ' 83 49 ≤ 8192) : wc_P (wv_F ρ fb fr M) (fn_p ρ fb fr M) (fn_p ρ fb fr M + st_ln r + 1) (ρ' 83 48) ρ' := by
  have h11 := hp.1.2
  have tM : ((M : Int)).toNat = M := by omega
  obtain ⟨us, l0, u0⟩ := wv_u hp
  have codes := hmf.2.2.2.2.2 h8
  have m49 := hmf.2.1.1
  have m48 := hmf.2.1.2.1
  have p0 := fn_p_0 (ρ0 := ρ) (fb := fb) (fr := fr) M
  have r0 := st_ln_0 r
  have uM := us M 0 (by omega)
  rw [Nat.add_zero] at uM
  have lM := l0 (-1) M (by omega)
  have hS1 : ∀ x : Int, wv_S ρ M x → 1 ≤ ρ 91 x ∧ 0 ≤ ac_A ρ fb fr x ∧ ac_A ρ fb fr x + ρ 91 x ≤ ρ' 83 48 := fun x hx => by
    rw [m48]
    exact ⟨(wv_ln hp hx).1, wv_c hp hx⟩
  refine ⟨fun a z l hf p p1 p2 => ?_, fun p p1 p2 => ⟨⟨by omega, by omega⟩, ?_⟩⟩
  · obtain ⟨i, i1, i2, ea, ez, el, hl⟩ := hf
    subst ea ez el
    have le := fn_p_le (fb := fb) (fr := fr) i2 M i1
    have q0 := fn_p_0 (ρ0 := ρ) (fb := fb) (fr := fr) i
    have tn : (i : Int).toNat = i := by omega
    refine ⟨⟨by omega, by omega⟩, ?_⟩
    obtain ⟨⟨b1, b2, b3, _⟩, rt, _, ⟨mt1, mt2, _⟩, _⟩ := hp.2.2.2.2.2.2 i (by omega) (by omega) i2
    have kd := codes.1 i (by omega) (by omega) i2
    unfold kc_P at kd
    rw [tn] at kd
    have eu : un_c ρ fb fr (i + 1) = un_c ρ fb fr i + (if ρ 86 i = 4 then lo_c ρ i (ρ 83 11).toNat + max 0 (max (st_mt (fb i) 0) (xt_mt (fr i) 0)) else 0) := rfl
    rw [if_pos i2, h11, tM] at eu
    have c1 := us (M - (i + 1)) (i + 1) (by omega)
    rw [show M - (i + 1) + (i + 1) = M by omega] at c1
    have c2 := us i 0 (by omega)
    rw [Nat.add_zero] at c2
    have c3 := l0 i M (by omega)
    refine wm_un (S := sv_P ρ i) (S1 := wv_S ρ M) (K1 := wv_K ρ M (ρ 96 i)) (Z := sz_P ρ) (K := sk_F ρ i) (mt := max 0 (max (st_mt (fb i) 0) (xt_mt (fr i) 0))) (tb := tb_c ρ fb fr i) (fun s hs => ⟨hs.1, by have := hs.2.1; omega, hs.2.2.elim Or.inl (fun q => Or.inr ⟨q.1, q.2.1⟩)⟩) (fun s k hs => wv_call hp ⟨hs.1, by have := hs.2.1; omega, hs.2.2.1, hs.2.2.2.1, hs.2.2.2.2⟩) b1 b2 b3 ?_ (by omega) (by omega) kd (Or.inl ⟨rfl, hl⟩) hS1 (fun x c hz => hz.2.2) ?_ (fun x hx => wv_f (by omega) hx) p p1 p2
    · rcases rt with q | q
      · exact Or.inl q.1
      · exact Or.inr ⟨q.1, q.2.1, q.2.2.1⟩
    · unfold tb_c
      rw [tn, h11, tM, m48]
      generalize max (st_mt (fb i) 0) (xt_mt (fr i) 0) = Q at eu ⊢
      omega
  · obtain ⟨⟨b1, b2, b3, _⟩, _⟩ := hc
    have lf : xt_ln (Std.DTreeMap.Internal.Impl.leaf : tr_T) = 0 := rfl
    have lm : xt_mt (Std.DTreeMap.Internal.Impl.leaf : tr_T) 0 = 0 := rfl
    have w := wm_un (ρ := ρ) (ρ' := ρ') (Fu := wv_F ρ fb fr M) (N := ρ' 83 48) (l := 17) (P0 := fn_p ρ fb fr M) (tr := .leaf) (Il := (29, 0, 0, 0, 0, 1, 0)) (S := sv_P ρ (-1)) (S1 := wv_S ρ M) (K1 := wv_K ρ M 17) (Z := sz_P ρ) (K := sk_P ρ (-1)) (mt := max 0 (st_mt r 0)) (tb := un_c ρ fb fr M + lo_c ρ (-1) M) (fun s hs => ⟨hs.1, by have := hs.2.1; omega, hs.2.2.elim Or.inl (fun q => Or.inr ⟨q.1, q.2.1⟩)⟩) (fun s k hs => wv_call hp ⟨hs.1, by have := hs.2.1; omega, hs.2.2.1, hs.2.2.2.1, by
      have q := hs.2.2.2.2.2.1
      rw [if_pos (show (-1 : Int) < 0 by decide)] at q
      omega⟩) b1 b2 b3 (Or.inl rfl) (by omega) (by rw [lm]; omega) ⟨codes.2.1, trivial, by rw [lf, Int.add_zero]; exact codes.2.2⟩ (Or.inr ⟨rfl, rfl⟩) hS1 (fun x c hz => hz.2.2) ⟨by omega, by rw [m48]; omega⟩ (fun x hx => wv_f (by omega) hx) p p1 (by rw [lf]; omega)
    rw [lf, Int.add_zero] at w
    exact w
end WW
