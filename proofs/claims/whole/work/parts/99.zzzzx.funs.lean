/-! part 99.zzzzx: the reference makes the code of all funs -/
/-- where the TEMPS of fun i begin -/
def tb_c (ρ : js_S) (fb fr : Int → tr_T) (i : Int) : Int := un_c ρ fb fr i.toNat + lo_c ρ i (ρ 83 11).toNat
/-- the code of fun i -/
def kc_P (A : Int → Int) (fb fr : Int → tr_T) (ρ0 ρ : js_S) (i : Int) : Prop := st_cd (rk_P A (tb_c ρ0 fb fr i) ρ) (fb i) 0 (fn_p ρ0 fb fr i.toNat) 0 ∧ xt_cd (rk_P A (tb_c ρ0 fb fr i) ρ) (fr i) 0 (fn_p ρ0 fb fr i.toNat + st_ln (fb i)) ∧ rk_P A (tb_c ρ0 fb fr i) ρ (fn_p ρ0 fb fr i.toNat + st_ln (fb i) + xt_ln (fr i)) (28, 0, 0, 0, 0, 1, 0)
theorem kc_fr {A : Int → Int} {fb fr : Int → tr_T} {ρ0 ρ ρ' : js_S} {i n : Int} (h : kc_P A fb fr ρ0 ρ i) (hn : fn_p ρ0 fb fr i.toNat + st_ln (fb i) + xt_ln (fr i) + 1 ≤ n) (ho : ∀ a p : Int, 111 ≤ a → a ≤ 115 → p < n → ρ' a p = ρ a p) : kc_P A fb fr ρ0 ρ' i := by
  have l1 := st_ln_0 (fb i)
  have l2 := xt_ln_0 (fr i)
  exact ⟨st_cd_of _ _ _ _ (fun p I g1 g2 hI => rk_fr hI (fun a q1 q2 => ho a p q1 q2 (by omega))) h.1, xt_cd_of _ _ _ (fun p I g1 g2 hI => rk_fr hI (fun a q1 q2 => ho a p q1 q2 (by omega))) h.2.1, rk_fr h.2.2 (fun a q1 q2 => ho a _ q1 q2 (by omega))⟩
/-- SYMBOLS that have their cells -/
def mk_S (ρ0 : js_S) (n x : Int) : Prop := 1 ≤ ρ0 86 x ∧ ρ0 86 x ≤ 3 ∨ ρ0 86 x = 4 ∧ x < n ∨ 5 ≤ ρ0 86 x ∧ ρ0 86 x ≤ 7 ∧ 0 ≤ ρ0 93 x ∧ ρ0 93 x < n
/-- the funs among the first n SYMBOLS are made -/
def mk_R (B : Int → Int) (fb fr : Int → tr_T) (n : Nat) (ρ0 ρ : js_S) : Prop := (∀ a i : Int, ¬ (a = 83 ∧ (46 ≤ i ∧ i ≤ 50 ∨ 52 ≤ i ∧ i ≤ 54)) → a ≠ 90 → a ≠ 95 → a ≠ 110 → ¬ (111 ≤ a ∧ a ≤ 115) → ρ a i = ρ0 a i) ∧ (ρ 83 49 = fn_p ρ0 fb fr n ∧ ρ 83 48 = un_c ρ0 fb fr n ∧ ρ 83 52 = 0 ∧ ρ 83 46 = po_k ρ0 1 (ρ0 83 11).toNat ∧ ρ 83 47 = po_k ρ0 2 (ρ0 83 11).toNat) ∧ (∀ x : Int, 0 ≤ x → x < ρ0 83 11 → mk_S ρ0 n x → ρ 90 x = ac_A ρ0 fb fr x) ∧ ((∀ x : Int, 0 ≤ x → x < ρ0 83 11 → ρ0 86 x = 0 ∨ 8 ≤ ρ0 86 x → ρ 90 x = ρ0 90 x) ∧ ∀ x : Int, ρ0 86 x ≠ 4 → ρ 95 x = ρ0 95 x) ∧ (∀ i : Int, 0 ≤ i → i < n → ρ0 86 i = 4 → ρ 95 i = B i) ∧ (ρ 83 49 ≤ 8192 → ∀ i : Int, 0 ≤ i → i < n → ρ0 86 i = 4 → kc_P (ac_A ρ0 fb fr) fb fr ρ0 ρ i)
section RX
variable {E : js_E} {d : Nat} {b : Int} {B : Int → Int} {Bf : Int → Int → Int} {U : Int → Int} {fb fr : Int → tr_T} {σ ρ0 : js_S}
theorem mk_skip {n : Nat} {ρ : js_S} (h : mk_R B fb fr n ρ0 ρ) (h4 : ρ0 86 n ≠ 4) (h93 : ∀ i : Int, 0 ≤ i → i < ρ0 83 11 → 5 ≤ ρ0 86 i ∧ ρ0 86 i ≤ 7 → 0 ≤ ρ0 93 i → ρ0 86 (ρ0 93 i) = 4) : mk_R B fb fr (n + 1) ρ0 ρ := by
  obtain ⟨hfr, ⟨k49, k48, k52, k46, k47⟩, hcell, hc, hbd, hcode⟩ := h
  have p1 : fn_p ρ0 fb fr (n + 1) = fn_p ρ0 fb fr n := fn_p_up (n + 1) (by omega) (fun i g1 g2 => by
    have : i = n := by push_cast at g2; omega
    rw [this]
    exact h4)
  have p2 : un_c ρ0 fb fr (n + 1) = un_c ρ0 fb fr n := by
    show un_c ρ0 fb fr n + _ = _
    rw [if_neg h4, Int.add_zero]
  refine ⟨hfr, ⟨by rw [p1]; exact k49, by rw [p2]; exact k48, k52, k46, k47⟩, fun x g1 g2 g3 => hcell x g1 g2 ?_, hc, fun i g1 g2 g3 => hbd i g1 ?_ g3, fun hs i g1 g2 g3 => hcode hs i g1 ?_ g3⟩
  · rcases g3 with q | q | q
    · exact Or.inl q
    · refine Or.inr (Or.inl ⟨q.1, ?_⟩)
      have ne : x ≠ n := fun hh => h4 (hh ▸ q.1)
      have := q.2
      push_cast at this
      omega
    · refine Or.inr (Or.inr ⟨q.1, q.2.1, q.2.2.1, ?_⟩)
      have a := h93 x g1 g2 ⟨q.1, q.2.1⟩ q.2.2.1
      have ne : ρ0 93 x ≠ n := fun hh => h4 (by rw [hh] at a; exact a)
      have := q.2.2.2
      push_cast at this
      omega
  · have ne : i ≠ n := fun hh => h4 (hh ▸ g3)
    push_cast at g2
    omega
  · have ne : i ≠ n := fun hh => h4 (hh ▸ g3)
    push_cast at g2
    omega
/-- cells behind placing a fun's variables -/
theorem mk_cell {n : Nat} {ρ ρa ρe : js_S} (hcell : ∀ x : Int, 0 ≤ x → x < ρ0 83 11 → mk_S ρ0 n x → ρ 90 x = ac_A ρ0 fb fr x) (h4 : ρ0 86 n = 4) (k48 : ρ 83 48 = un_c ρ0 fb fr n) (lo : ∀ x : Int, 0 ≤ x → x < ρ0 83 11 → lo_c ρ n x.toNat = lo_c ρ0 n x.toNat) (rw86 : ∀ x : Int, ρ 86 x = ρ0 86 x ∧ ρ 93 x = ρ0 93 x) (pa1 : ∀ x : Int, 0 ≤ x → x < ρ0 83 11 → pk_V ρ n x → ρa 90 x = ρ 83 48 + lo_c ρ n x.toNat) (pa5 : ∀ x : Int, ¬ pk_V ρ n x → ρa 90 x = ρ 90 x) (en : ρe 90 n = fn_p ρ0 fb fr n) (eo : ∀ x : Int, x ≠ n → ρe 90 x = ρa 90 x) (x : Int) (g1 : 0 ≤ x) (g2 : x < ρ0 83 11) (g3 : mk_S ρ0 (n + 1) x) : ρe 90 x = ac_A ρ0 fb fr x := by
  by_cases q : x = n
  · rw [q, en]
    unfold ac_A
    rw [if_neg (by omega), if_pos h4]
    rfl
  · rw [eo x q]
    by_cases qv : pk_V ρ n x
    · rw [pa1 x g1 g2 qv, k48, lo x g1 g2]
      unfold pk_V at qv
      rw [(rw86 x).1, (rw86 x).2] at qv
      unfold ac_A
      rw [if_neg (by omega), if_neg (by omega), qv.2.2, if_neg (by omega)]
      rfl
    · rw [pa5 x qv]
      refine hcell x g1 g2 ?_
      unfold pk_V at qv
      rw [(rw86 x).1, (rw86 x).2] at qv
      unfold mk_S at g3 ⊢
      omega
/-- the code of the new fun -/
theorem mk_code {n : Nat} {ρe ρf : js_S} {S : Int → Prop} {Z K : Int → Int → Prop} {U' : Int → Int → Int → Prop} {V' : Int → Int → Int → Int → Prop} (hc : ∀ x : Int, 0 ≤ x → x < ρ0 83 11 → mk_S ρ0 (n + 1) x → ρe 90 x = ac_A ρ0 fb fr x) (h53 : ρe 83 53 = tb_c ρ0 fb fr n) (hS : ∀ x : Int, S x → 0 ≤ x ∧ x < ρ0 83 11 ∧ mk_S ρ0 (n + 1) x) (hK : ∀ s k : Int, K s k → (0 ≤ s ∧ s < ρ0 83 11 ∧ mk_S ρ0 (n + 1) s) ∧ ∀ j : Int, 0 ≤ j → j < k → 0 ≤ s + 1 + j ∧ s + 1 + j < ρ0 83 11 ∧ mk_S ρ0 (n + 1) (s + 1 + j)) (hg : st_g S Z K U' V' (fb n)) (hg2 : fr n = .leaf ∨ xt_g S Z K (fr n)) (code : st_cd (ri_P ρe) (fb n) 0 (fn_p ρ0 fb fr n) 0 ∧ xt_cd (ri_P ρe) (fr n) 0 (fn_p ρ0 fb fr n + st_ln (fb n)) ∧ ri_P ρe (fn_p ρ0 fb fr n + st_ln (fb n) + xt_ln (fr n)) (28, 0, 0, 0, 0, 1, 0)) (ho : ∀ a p : Int, 111 ≤ a → a ≤ 115 → ρf a p = ρe a p) : kc_P (ac_A ρ0 fb fr) fb fr ρ0 ρf n := by
  have cv : ∀ (i : Int) (I : xt_I), ri_P ρe i I ∧ xg_I (fun x => 0 ≤ x ∧ x < ρ0 83 11 ∧ mk_S ρ0 (n + 1) x) (fun x => 0 ≤ x ∧ x < ρ0 83 11 ∧ mk_S ρ0 (n + 1) x) I → rk_P (ac_A ρ0 fb fr) (tb_c ρ0 fb fr n) ρf i I := fun i I h => rk_fr (rk_ri h.1 h.2 (fun x hx => hc x hx.1 hx.2.1 hx.2.2) (fun x hx => hc x hx.1 hx.2.1 hx.2.2) h53) (fun a q1 q2 => ho a i q1 q2)
  have tn : (n : Int).toNat = n := by omega
  unfold kc_P
  rw [tn]
  refine ⟨st_cd_of _ _ _ _ (fun i I _ _ hI => cv i I hI) (st_cd_g hS hK (fb n) _ _ _ hg code.1), ?_, cv _ _ ⟨code.2.2, xg_0⟩⟩
  rcases hg2 with q | q
  · rw [q]
    trivial
  · exact xt_cd_of _ _ _ (fun i I _ _ hI => cv i I hI) (xt_cd_g hS hK (fr n) _ _ q code.2.1)
end RX
