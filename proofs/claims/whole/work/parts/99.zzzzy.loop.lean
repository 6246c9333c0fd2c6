/-! part 99.zzzzy: the reference makes all funs, one after the other -/
/-- what is known of a program that was read, by the reference's side -/
def mp_R (B : Int → Int) (Bf : Int → Int → Int) (fb fr : Int → tr_T) (M : Nat) (ρ0 : js_S) : Prop := (M ≤ 400 ∧ ρ0 83 11 = M) ∧ (∀ i : Int, 0 ≤ i → i < M → (0 ≤ ρ0 86 i ∧ ρ0 86 i ≤ 9) ∧ 0 ≤ ρ0 87 i ∧ ρ0 87 i < 1000) ∧ gs_R ρ0 (fun _ => False) ∧ (∀ i : Int, 0 ≤ i → i < M → 5 ≤ ρ0 86 i ∧ ρ0 86 i ≤ 7 → ρ0 93 i = -1 ∨ 0 ≤ ρ0 93 i ∧ ρ0 93 i < i ∧ ρ0 86 (ρ0 93 i) = 4) ∧ (0 ≤ ρ0 83 33 ∧ ρ0 83 33 ≤ 8200) ∧ fn_p ρ0 fb fr M ≤ 50000000 ∧ (∀ i : Int, 0 ≤ i → i < M → ρ0 86 i = 4 → ((fb i = .leaf ∨ xt_k (fb i) = 90) ∧ st_w (fb i) ∧ fn_G ρ0 i (fb i) ∧ st_nd ρ0 (fb i) 0 (ρ0 83 33) (ρ0 108 i) 0) ∧ (fr i = .leaf ∧ ρ0 109 i = -1 ∨ xt_e (fr i) ∧ xt_w (fr i) ∧ fx_G ρ0 i (fr i) ∧ xt_nd ρ0 0 (fr i) (ρ0 83 33) (ρ0 109 i) 0) ∧ ((∀ s : Int, 0 ≤ s → s < i → ρ0 86 s = 4 → Bf i s = B s) ∧ B i = min 400000 (st_cn (Bf i) (fb i) + xt_cn (Bf i) (fr i) + 1)) ∧ (st_mt (fb i) 0 ≤ 1024 ∧ xt_mt (fr i) 0 ≤ 1024 ∧ st_dp (fb i) ≤ 1210 ∧ xt_dp (fr i) ≤ 1210 ∧ fp_P ρ0 i) ∧ 0 ≤ B i ∧ B i ≤ 400000)
section RY
variable {E : js_E} {d : Nat} {B : Int → Int} {Bf : Int → Int → Int} {fb fr : Int → tr_T} {ρ0 : js_S} {M : Nat}
theorem fn_p_0 : ∀ n : Nat, 0 ≤ fn_p ρ0 fb fr n
  | 0 => Int.le_refl _
  | n + 1 => by
    have ih := fn_p_0 n
    have l1 := st_ln_0 (fb n)
    have l2 := xt_ln_0 (fr n)
    show 0 ≤ fn_p ρ0 fb fr n + _
    split <;> omega
/-- one fun -/
theorem mk_fun {n : Nat} {x1 : Int} {ux3 : js_v} {ρ : js_S} (hp : mp_R B Bf fb fr M ρ0) (hn : n < M) (h4 : ρ0 86 n = 4) (hd : 1225 ≤ d) (h : mk_R B fb fr n ρ0 ρ) : ∃ (ρ' : js_S) (v : Int), js_J E d 244 143 [(2, 83), (0, x1), (0, n), ux3, (9, 0)] [] ρ = js_J E d 244 143 [(2, 83), (0, x1), (0, (n : Int) + 1), (1, v), (9, 0)] [] ρ' ∧ mk_R B fb fr (n + 1) ρ0 ρ' := by
  obtain ⟨⟨hM, h11⟩, hv, hgs, h93, h33, hsz, hfun⟩ := hp
  obtain ⟨hb, hr, ⟨hBf, hBn⟩, ⟨mt1, mt2, dp1, dp2, _⟩, hB0⟩ := hfun n (by omega) (by omega) h4
  have h := h
  obtain ⟨hfr, ⟨k49, k48, k52, k46, k47⟩, hcell, ⟨hc1, hc2⟩, hbd, hcode⟩ := h
  have e11 : ρ 83 11 = M := by rw [hfr _ _ (by omega) (by decide) (by decide) (by decide) (by decide)]; exact h11
  have rows : ∀ a i : Int, 86 ≤ a → a ≤ 109 → a ≠ 90 → a ≠ 95 → ρ a i = ρ0 a i := fun a i g1 g2 g3 g4 => hfr a i (by omega) g3 g4 (by omega) (by omega)
  have r86 : ∀ x : Int, ρ 86 x = ρ0 86 x ∧ ρ 93 x = ρ0 93 x := fun x => ⟨rows _ _ (by decide) (by decide) (by decide) (by decide), rows _ _ (by decide) (by decide) (by decide) (by decide)⟩
  have lo : ∀ k : Nat, lo_c ρ n k = lo_c ρ0 n k := fun k => lo_c_eq3 k (fun i _ _ => ⟨rows _ _ (by decide) (by decide) (by decide) (by decide), rows _ _ (by decide) (by decide) (by decide) (by decide), rows _ _ (by decide) (by decide) (by decide) (by decide)⟩)
  obtain ⟨ρa, ea, pa1, ⟨pa2, pa3, pa4⟩, pa5⟩ := r_placeAll (E := E) (d := d - 1) (ρ0 := ρ) (M := M) (f := n) hM e11 (by omega) (fun i g1 g2 => by rw [(r86 i).1]; exact (hv i g1 (by omega)).1) (fun i g1 g2 g3 => by
    rw [(r86 i).1] at g3
    rw [(r86 i).2]
    have := h93 i g1 g2 g3
    omega)
  rw [e11] at pa1 pa2 pa3
  have tM : ((M : Int)).toNat = M := by omega
  rw [tM, lo] at pa2 pa3
  have fa : ∀ a i : Int, ¬ (a = 83 ∧ (i = 48 ∨ i = 53 ∨ i = 54)) → a ≠ 90 → ρa a i = ρ a i := fun a i g1 g2 => pa5 a i g1 (fun hh => g2 hh.1)
  have fa90 : ∀ x : Int, ¬ pk_V ρ n x → ρa 90 x = ρ 90 x := fun x hx => pa5 90 x (by omega) (fun hh => hx hh.2.2.2)
  have a49 : ρa 83 49 = fn_p ρ0 fb fr n := by rw [fa _ _ (by omega) (by decide)]; exact k49
  have wn : js_w (n : Int) = n := js_w_of (by omega) (by omega)
  have wM : js_w (M : Int) = M := js_w_of (by omega) (by omega)
  have hn4 : 0 ≤ (n : Int) ∧ (n : Int) < 400 := by omega
  have b90 : js_up ρa 90 n (ρa 83 49) 90 n = ρa 83 49 := js_up_same _ _ _ _
  have bO : ∀ a i : Int, ¬ (a = 90 ∧ i = n) → js_up ρa 90 n (ρa 83 49) a i = ρa a i := fun a i g => js_up_ne _ g
  have eq1 : js_J E d 244 143 [(2, 83), (0, x1), (0, n), ux3, (9, 0)] [] ρ = js_J E d 244 187 [(2, 83), (0, x1), (0, n), ux3, (9, 0)] [(0, 0), (0, js_up ρa 90 n (ρa 83 49) 108 n), (2, 83)] (js_up ρa 90 n (ρa 83 49)) := by
    rw [b_244_143, e11, wn, wM, if_pos (show (n : Int) < M by omega), if_pos hn4, (r86 n).1, h4, if_pos (show js_w 4 = 4 by decide), k_244_166 (by omega) ea, b_244_169, wn, if_pos hn4, bO _ _ (by omega)]
  generalize js_up ρa 90 n (ρa 83 49) = ρb at b90 bO eq1
  have fb0 : ∀ a i : Int, ¬ (a = 83 ∧ (i = 48 ∨ i = 53 ∨ i = 54)) → a ≠ 90 → ρb a i = ρ a i := fun a i g1 g2 => by rw [bO a i (by omega), fa a i g1 g2]
  have b49 : ρb 83 49 = fn_p ρ0 fb fr n := by rw [bO _ _ (by omega)]; exact a49
  have p0 := fn_p_0 (ρ0 := ρ0) (fb := fb) (fr := fr) n
  have pn := fn_p_le (ρ := ρ0) (fb := fb) (fr := fr) h4 M hn
  have l1 := st_ln_0 (fb n)
  have l2 := xt_ln_0 (fr n)
  have rowb : ∀ a i : Int, 100 ≤ a → a ≤ 109 → ρb a i = ρ0 a i := fun a i g1 g2 => by rw [fb0 a i (by omega) (by omega), rows a i (by omega) g2 (by omega) (by omega)]
  have e108 : ρb 108 n = ρ0 108 n := rowb _ _ (by decide) (by decide)
  have e109 : ρb 109 n = ρ0 109 n := rowb _ _ (by decide) (by decide)
  have hK : ∀ s k : Int, sk_F ρ0 n s k → (0 ≤ s ∧ s < ρ0 83 11 ∧ ρ0 86 s = 4 ∧ ρ0 91 s = k) ∧ ρb 95 s = Bf n s ∧ 0 ≤ Bf n s ∧ Bf n s ≤ 400000 := fun s k hs => by
    obtain ⟨s1, s2, s3, s4, _⟩ := hs
    have bs := hfun s s1 (by omega) s3
    rw [hBf s s1 s2 s3]
    refine ⟨⟨s1, by omega, s3, s4⟩, ?_, bs.2.2.2.2⟩
    rw [fb0 _ _ (by omega) (by decide)]
    exact hbd s s1 s2 s3
  have gk : gsk_R (Bf n) (sv_P ρ0 n) (sz_P ρ0) (sk_F ρ0 n) (su_U ρ0) (su_V ρ0) ρb := mk_gsk (by omega) (fun i g1 g2 => (hv i g1 (by omega)).2) hgs hK (fun a i g => by rw [fb0 a i (by omega) (by omega), rows a i (by omega) (by omega) (by omega) (by omega)])
  obtain ⟨ρe, v, w, e2, ⟨X, c49, c54⟩, ⟨cv, cv'⟩, code⟩ := r_body (E := E) (d := d) (ρ := ρb) (x1 := x1) (i := n) (N := ρ0 83 33) (ux3 := ux3) (fb := fb n) (fr := fr n) (by omega) hn4 gk (fun s k hs => (hK s k hs).2.2.1) ⟨hb.1, hb.2.1, hb.2.2.1, by rw [e108]; exact st_nd_fr hb.2.2.2 (fun a i g1 g2 => rowb a i g1 (by omega))⟩ (by
    rcases hr with ⟨r1, r2⟩ | ⟨r1, r2, r3, r4⟩
    · exact Or.inl ⟨r1, by rw [e109]; exact r2⟩
    · exact Or.inr ⟨r1, r2, r3, by rw [e109]; exact xt_nd_fr r4 (fun a i g1 g2 => rowb a i g1 (by omega))⟩) ⟨by rw [fb0 _ _ (by omega) (by decide)]; exact k52, h33.1, h33.2⟩ ⟨by omega, by omega⟩ ⟨by rw [bO _ _ (by omega)]; exact pa4, mt1, mt2⟩ ⟨dp1, dp2⟩
  have wv : js_l (v + 1) = v + 1 := js_l_of (by omega) (by omega)
  have wq : js_l 400000 = 400000 := by decide
  have bn : (if (400000 : Int) < v + 1 then 400000 else v + 1) = B n := by
    rw [hBn, ← cv']
    split <;> omega
  have f95 : js_up (js_up ρe 83 48 (ρe 83 48 + ρe 83 54)) 95 n (B n) 95 n = B n := js_up_same _ _ _ _
  have f48 : js_up (js_up ρe 83 48 (ρe 83 48 + ρe 83 54)) 95 n (B n) 83 48 = ρe 83 48 + ρe 83 54 := by rw [js_up_na _ (by decide), js_up_same]
  have fO : ∀ a i : Int, ¬ (a = 83 ∧ i = 48) → ¬ (a = 95 ∧ i = n) → js_up (js_up ρe 83 48 (ρe 83 48 + ρe 83 54)) 95 n (B n) a i = ρe a i := fun a i g1 g2 => by rw [js_up_ne _ g2, js_up_ne _ g1]
  refine ⟨js_up (js_up ρe 83 48 (ρe 83 48 + ρe 83 54)) 95 n (B n), v, ?_, ?_⟩
  · rw [eq1, e2, b_244_222 (by omega), wn, if_pos hn4, wv, wq, bn, b_244_252]
  generalize js_up (js_up ρe 83 48 (ρe 83 48 + ρe 83 54)) 95 n (B n) = ρf at f95 f48 fO ⊢
  have fe : ∀ a i : Int, ¬ (a = 83 ∧ (48 ≤ i ∧ i ≤ 49 ∨ i = 53 ∨ i = 54)) → a ≠ 90 → ¬ (a = 95 ∧ i = n) → a ≠ 110 → ¬ (111 ≤ a ∧ a ≤ 115 ∧ fn_p ρ0 fb fr n ≤ i) → ρf a i = ρ a i := fun a i g1 g2 g3 g4 g5 => by
    rw [fO a i (by omega) g3, X a i (by omega) (by omega) (by omega), fb0 a i (by omega) g2]
  have e53 : ρe 83 53 = tb_c ρ0 fb fr n := by
    rw [X _ _ (by omega) (by omega) (by omega), bO _ _ (by omega), pa3, k48]
    unfold tb_c
    rw [h11, tM]
    rfl
  have e48 : ρe 83 48 = un_c ρ0 fb fr n + lo_c ρ0 n M := by rw [X _ _ (by omega) (by omega) (by omega), bO _ _ (by omega), pa2, k48]
  have e90 : ∀ x : Int, ρe 90 x = ρb 90 x := fun x => X _ _ (by omega) (by omega) (by omega)
  have cell' : ∀ x : Int, 0 ≤ x → x < ρ0 83 11 → mk_S ρ0 (n + 1) x → ρe 90 x = ac_A ρ0 fb fr x := mk_cell (ρ := ρ) (ρa := ρa) hcell h4 k48 (fun x _ _ => lo _) r86 (by rw [h11]; exact pa1) fa90 (by rw [e90, b90]; exact a49) (fun x hx => by rw [e90, bO _ _ (by omega)])
  have pN := fn_p_new (ρ := ρ0) (fb := fb) (fr := fr) h4
  refine ⟨fun a i g1 g2 g3 g4 g5 => ?_, ⟨?_, ?_, ?_, ?_, ?_⟩, fun x g1 g2 g3 => ?_, ⟨fun x g1 g2 g3 => ?_, fun x g1 => ?_⟩, fun i g1 g2 g3 => ?_, fun hs i g1 g2 g3 => ?_⟩
  · rw [fe a i (by omega) g2 (by omega) g4 (by omega)]
    exact hfr a i g1 g2 g3 g4 g5
  · rw [fO _ _ (by omega) (by omega), c49, b49, pN]
    omega
  · show _ = un_c ρ0 fb fr n + _
    rw [f48, e48, c54, if_pos h4, h11, tM]
    omega
  · rw [fe _ _ (by omega) (by decide) (by omega) (by decide) (by omega)]
    exact k52
  · rw [fe _ _ (by omega) (by decide) (by omega) (by decide) (by omega)]
    exact k46
  · rw [fe _ _ (by omega) (by decide) (by omega) (by decide) (by omega)]
    exact k47
  · rw [fO _ _ (by omega) (by omega)]
    exact cell' x g1 g2 (by push_cast at g3; exact g3)
  · have ne : x ≠ n := fun hh => by rw [hh] at g3; omega
    rw [fO _ _ (by omega) (by omega), e90, bO _ _ (by omega), fa90 x (fun hh => by unfold pk_V at hh; rw [(r86 x).1] at hh; omega)]
    exact hc1 x g1 g2 g3
  · have ne : x ≠ n := fun hh => g1 (by rw [hh]; exact h4)
    rw [fe _ _ (by omega) (by decide) (by omega) (by decide) (by omega)]
    exact hc2 x g1
  · by_cases q : i = n
    · rw [q]
      exact f95
    · rw [fe _ _ (by omega) (by decide) (by omega) (by decide) (by omega)]
      exact hbd i g1 (by push_cast at g2; omega) g3
  · rw [fO _ _ (by omega) (by omega)] at hs
    by_cases q : i = n
    · rw [q]
      have cd := code hs
      rw [b49] at cd
      refine mk_code cell' e53 (fun x hx => ?_) (fun s k hs' => ?_) hb.2.2.1 (by
        rcases hr with r | r
        · exact Or.inl r.1
        · exact Or.inr r.2.2.1) cd (fun a p q1 q2 => fO a p (by omega) (by omega))
      · obtain ⟨x1', x2, x3⟩ := hx
        refine ⟨x1', x2, ?_⟩
        unfold mk_S
        omega
      · obtain ⟨s1, s2, s3, s4, _⟩ := hs'
        have fs := (hfun s s1 (by omega) s3).2.2.2.1.2.2.2.2
        have gs := (hgs s s1 (by omega) (fun h => h)).2.2.2.2.1 s3
        refine ⟨⟨s1, by omega, Or.inr (Or.inl ⟨s3, by omega⟩)⟩, fun j j1 j2 => ?_⟩
        have f1 := fs (1 + j) (by omega) (by omega)
        have f2 := gs.2.2.2.2.1 (1 + j) (by omega) (by omega)
        rw [show s + 1 + j = s + (1 + j) by omega]
        refine ⟨by omega, f1.1, Or.inr (Or.inr ⟨?_, ?_, ?_, ?_⟩)⟩
        · rw [f2.1]; decide
        · rw [f2.1]; decide
        · rw [f1.2]; exact s1
        · rw [f1.2]; omega
    · have gi : i < n := by push_cast at g2; omega
      have ti : ((i.toNat : Nat) : Int) = i := by omega
      have le : fn_p ρ0 fb fr i.toNat + st_ln (fb i) + xt_ln (fr i) + 1 ≤ fn_p ρ0 fb fr n := by
        have a := fn_p_le (ρ := ρ0) (fb := fb) (fr := fr) (i := i.toNat) (by rw [ti]; exact g3) n (by omega)
        rw [ti] at a
        exact a
      refine kc_fr (hcode (by omega) i g1 gi g3) le (fun a p q1 q2 q3 => ?_)
      rw [fe a p (by omega) (by omega) (by omega) (by omega) (by omega)]
/-- all funs -/
theorem mk_loop {x1 : Int} (hp : mp_R B Bf fb fr M ρ0) (hd : 1225 ≤ d) : ∀ (g n : Nat) (ρ : js_S) (ux3 : js_v), g + n = M → mk_R B fb fr n ρ0 ρ → ∃ (ρ' : js_S) (vx3 : js_v), js_J E d 244 143 [(2, 83), (0, x1), (0, n), ux3, (9, 0)] [] ρ = js_J E d 244 260 [(2, 83), (0, x1), (0, M), vx3, (9, 0)] [(0, -1), (2, 83)] ρ' ∧ mk_R B fb fr M ρ0 ρ' := by
  have hM := hp.1.1
  have h11 := hp.1.2
  intro g
  induction g with
  | zero =>
    intro n ρ ux3 hg h
    have hn : n = M := by omega
    subst hn
    have e11 : ρ 83 11 = n := by rw [h.1 _ _ (by omega) (by decide) (by decide) (by decide) (by decide)]; exact h11
    refine ⟨ρ, ux3, ?_, h⟩
    rw [b_244_143, e11, if_neg (show ¬ js_w (n : Int) < js_w (n : Int) by omega)]
  | succ g ih =>
    intro n ρ ux3 hg h
    by_cases q : ρ0 86 n = 4
    · obtain ⟨ρ1, v, e1, h1⟩ := mk_fun (E := E) (x1 := x1) (ux3 := ux3) hp (by omega) q hd h
      obtain ⟨ρ', vx3, e2, h2⟩ := ih (n + 1) ρ1 (1, v) (by omega) h1
      refine ⟨ρ', vx3, ?_, h2⟩
      rw [e1, show (n : Int) + 1 = ((n + 1 : Nat) : Int) by push_cast; rfl, e2]
    · have h1 := mk_skip h q (fun i g1 g2 g3 g4 => by
        have := hp.2.2.2.1 i g1 (by omega) g3
        rcases this with a | a
        · omega
        · exact a.2.2)
      obtain ⟨ρ', vx3, e2, h2⟩ := ih (n + 1) ρ ux3 (by omega) h1
      refine ⟨ρ', vx3, ?_, h2⟩
      have e11 : ρ 83 11 = M := by rw [h.1 _ _ (by omega) (by decide) (by decide) (by decide) (by decide)]; exact h11
      have e86 : ρ 86 n = ρ0 86 n := h.1 _ _ (by omega) (by decide) (by decide) (by decide) (by decide)
      have k9 := (hp.2.1 n (by omega) (by omega)).1
      rw [b_244_143, e11, js_w_of (x := (n : Int)) (by omega) (by omega), js_w_of (x := (M : Int)) (by omega) (by omega), if_pos (show (n : Int) < M by omega), if_pos (show 0 ≤ (n : Int) ∧ (n : Int) < 400 by omega), e86, js_w_of (x := ρ0 86 n) (by omega) (by omega), if_neg q, b_244_252, show (n : Int) + 1 = ((n + 1 : Nat) : Int) by push_cast; rfl, e2]
end RY
