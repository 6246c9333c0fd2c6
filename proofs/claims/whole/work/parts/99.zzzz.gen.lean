/-! part 99.zzzz: the reference makes the code of a TERM: what is to be shown -/
/-- ranges that an int holds: xt_e has them -/
def xt_r (_ : tr_T) : Prop := True
theorem xt_r_n {k ty lo hi a b c : Int} {l r : tr_T} : xt_r (tr_n k ty lo hi a b c l r) = (True ∧ xt_r l ∧ xt_r r) := propext ⟨fun _ => ⟨trivial, trivial, trivial⟩, fun _ => trivial⟩
theorem xt_rq {k ty lo hi a b c : Int} {l r : tr_T} (h : xt_e (tr_n k ty lo hi a b c l r)) : (((-2147483648 ≤ lo ∧ lo < 2147483648) ∧ -2147483648 ≤ hi ∧ hi < 2147483648) ∧ (k = 9 → -2147483648 ≤ b ∧ b < 2147483648)) ∧ xt_r l ∧ xt_r r := ⟨⟨h.2.2.1, h.2.2.2.1⟩, trivial, trivial⟩
/-- of symbols: variables, lengths, funs -/
def gk_R (B : Int → Int) (S : Int → Prop) (Z K : Int → Int → Prop) (ρ : js_S) : Prop := (∀ s : Int, S s → 0 ≤ s ∧ s < 400) ∧ (∀ s c : Int, Z s c → (0 ≤ s ∧ s < 400) ∧ ρ 91 s = c) ∧ ∀ s k : Int, K s k → (0 ≤ s ∧ s + k < 400) ∧ ρ 95 s = B s ∧ 0 ≤ B s ∧ B s ≤ 400000
/-- what rows of code keep -/
def gy_R (n : Int) (ρ ρ' : js_S) : Prop := (∀ a i : Int, 111 ≤ a → a ≤ 115 → i < n → ρ' a i = ρ a i) ∧ (∀ i : Int, ρ' 90 i = ρ 90 i) ∧ ρ' 83 53 = ρ 83 53
theorem gy_gx {n q : Int} {ρ ρ' : js_S} (h : gx_R n q ρ ρ') : gy_R n ρ ρ' := ⟨fun a i g1 g2 g3 => h a i (by omega) (by omega) (by omega), fun i => h _ _ (by omega) (by omega) (by omega), h _ _ (by omega) (by omega) (by omega)⟩
theorem gy_trans {n n' : Int} {ρ ρ' ρ'' : js_S} (h : gy_R n ρ ρ') (h2 : gy_R n' ρ' ρ'') (hn : n ≤ n') : gy_R n ρ ρ'' := ⟨fun a i g1 g2 g3 => (h2.1 a i g1 g2 (by omega)).trans (h.1 a i g1 g2 g3), fun i => (h2.2.1 i).trans (h.2.1 i), h2.2.2.trans h.2.2⟩
theorem gy_mono {n n' : Int} {ρ ρ' : js_S} (h : gy_R n ρ ρ') (hn : n' ≤ n) : gy_R n' ρ ρ' := ⟨fun a i g1 g2 g3 => h.1 a i g1 g2 (by omega), h.2⟩
theorem gy_gm {ρ ρ' : js_S} {op f s lo hi : Int} (h : gm_R ρ ρ' op f s lo hi) : gy_R (ρ 83 49) ρ ρ' := gy_gx (gm_gx (q := 0) h)
theorem gy_of {n : Int} {ρ ρ' : js_S} (h : ∀ a i : Int, a ≠ 83 ∨ i = 53 → a ≠ 110 → ρ' a i = ρ a i) : gy_R n ρ ρ' := ⟨fun a i g1 g2 g3 => h a i (by omega) (by omega), fun i => h _ _ (by omega) (by omega), h _ _ (by omega) (by omega)⟩
theorem ri_gy {n i : Int} {ρ ρ' : js_S} {I : xt_I} (h : gy_R n ρ ρ') (hi : i < n) (hI : ri_P ρ i I) : ri_P ρ' i I := by
  obtain ⟨a1, a2, a3, a4, a5⟩ := hI
  have e : ∀ a : Int, 111 ≤ a → a ≤ 115 → ρ' a i = ρ a i := fun a g1 g2 => h.1 a i g1 g2 hi
  unfold ri_P
  rw [e 111 (by decide) (by decide), e 112 (by decide) (by decide), e 113 (by decide) (by decide), e 114 (by decide) (by decide), e 115 (by decide) (by decide), h.2.1, h.2.2]
  exact ⟨a1, a2, a3, a4, a5⟩
theorem xr_gy {n t p : Int} {ρ ρ' : js_S} {e : tr_T} (h : gy_R n ρ ρ') (hp : p + xt_ln e ≤ n) (hc : xt_cd (ri_P ρ) e t p) : xt_cd (ri_P ρ') e t p := xt_cd_of e t p (fun i I g1 g2 hI => ri_gy h (by omega) hI) hc
/-- code was made of tree e, with t TEMPS in use -/
def gr_R (t : Int) (ρ ρ' : js_S) (e : tr_T) : Prop := gx_R (ρ 83 49) (ρ 83 52) ρ ρ' ∧ ρ' 83 49 = ρ 83 49 + xt_ln e ∧ ρ' 83 54 = max (ρ 83 54) (xt_mt e t) ∧ (ρ' 83 49 ≤ 8192 → xt_cd (ri_P ρ') e t (ρ 83 49))
/-- the reference's count v, for a count c of a tree of length k -/
def gc_P (c k v : Int) : Prop := (0 ≤ v ∧ v ≤ 1000000000000000 + k) ∧ min 400000 v = min 400000 c
/-- ahead of making code of node n, tree e -/
def gnp_R (B : Int → Int) (S : Int → Prop) (Z K : Int → Int → Prop) (ρ : js_S) (e : tr_T) (n t M N m : Int) : Prop := gk_R B S Z K ρ ∧ xt_nd ρ M e N n m ∧ (xt_e e ∧ xt_w e ∧ xt_g S Z K e ∧ xt_r e) ∧ (0 ≤ ρ 83 52 ∧ ρ 83 52 + N ≤ 66000) ∧ (0 ≤ ρ 83 49 ∧ ρ 83 49 + xt_ln e ≤ 100000000) ∧ (0 ≤ ρ 83 54 ∧ ρ 83 54 ≤ 1024 ∧ xt_mt e t ≤ 1024) ∧ 0 ≤ t ∧ t ≤ 1024
def gsp_P (E : js_E) (B : Int → Int) (S : Int → Prop) (Z K : Int → Int → Prop) (e : tr_T) : Prop := ∀ (f : Nat) (ρ : js_S) (n t M N m bs x1 : Int), gnp_R B S Z K ρ e n t M N m → (0 ≤ bs ∧ bs ≤ ρ 83 52) → xt_dp e ≤ (f : Int) → ∃ (ρ' : js_S) (v x4 : Int) (ux7 : js_v), js_J E f 248 8 [(2, 83), (0, x1), (0, t), (0, bs), (0, n), (9, 0), (9, 0), (9, 0)] [] ρ = js_J E f 248 85 [(2, 83), (0, x1), (0, t), (0, bs), (0, x4), (1, v), (9, 0), ux7] [] ρ' ∧ gr_R t ρ ρ' e ∧ gc_P (xt_cn B e) (xt_ln e) v
def gen_P (E : js_E) (B : Int → Int) (S : Int → Prop) (Z K : Int → Int → Prop) (e : tr_T) : Prop := ∀ (f : Nat) (ρ : js_S) (n t M N m : Int), gnp_R B S Z K ρ e n t M N m → xt_dp e ≤ (f : Int) → ∃ (ρ' : js_S) (v : Int), js_J E f 248 0 [(2, 83), (0, n), (0, t), (9, 0), (9, 0), (9, 0), (9, 0), (9, 0)] [] ρ = js_r E (1, v) ρ' ∧ gr_R t ρ ρ' e ∧ gc_P (xt_cn B e) (xt_ln e) v
/-- an atom: at depth f - 1 -/
def gat_P (E : js_E) (B : Int → Int) (S : Int → Prop) (Z K : Int → Int → Prop) (e : tr_T) : Prop := ∀ (f : Nat) (ρ : js_S) (n t M N m : Int), gnp_R B S Z K ρ e n t M N m → xt_dp e ≤ (f : Int) + 1 → ∃ (ρ' : js_S) (v : Int), js_J E f 249 0 [(2, 83), (0, n), (0, t), (9, 0), (9, 0), (9, 0), (9, 0), (9, 0), (9, 0), (9, 0), (9, 0), (9, 0), (9, 0), (9, 0), (9, 0), (9, 0), (9, 0), (9, 0)] [] ρ = js_r E (1, v) ρ' ∧ gr_R t ρ ρ' e ∧ gc_P (xt_cn B e) (xt_ln e) v
theorem xt_nd_k {ρ : js_S} {e : tr_T} {M N n m : Int} (h : xt_nd ρ M e N n m) (he : xt_e e) : ρ 100 n = xt_k e := by
  cases e with
  | leaf =>
    unfold xt_e at he
    have : xt_k (Std.DTreeMap.Internal.Impl.leaf : tr_T) = 0 := rfl
    omega
  | inner z d v l r =>
    have hk : xt_k (.inner z d v l r) = d.1 := rfl
    unfold xt_e at he
    rw [hk] at he
    rw [xt_nd, if_neg (by omega), if_neg (by omega)] at h
    rw [hk]
    exact h.1.2.2.1
theorem xt_nd_fr {ρ ρ' : js_S} {e : tr_T} {M N n m : Int} (h : xt_nd ρ M e N n m) (h2 : ∀ a i : Int, 100 ≤ a → a ≤ 107 → ρ' a i = ρ a i) : xt_nd ρ' M e N n m := xt_nd_of e N n m (fun a i g1 g2 _ _ => h2 a i g1 (by omega)) (fun i _ _ _ => h2 _ _ (by decide) (by decide)) h
theorem gk_fr {B : Int → Int} {S : Int → Prop} {Z K : Int → Int → Prop} {ρ ρ' : js_S} (h : gk_R B S Z K ρ) (h1 : ∀ i : Int, ρ' 91 i = ρ 91 i) (h2 : ∀ i : Int, ρ' 95 i = ρ 95 i) : gk_R B S Z K ρ' := ⟨h.1, fun s c hs => ⟨(h.2.1 s c hs).1, by rw [h1]; exact (h.2.1 s c hs).2⟩, fun s k hs => ⟨(h.2.2 s k hs).1, by rw [h2]; exact (h.2.2 s k hs).2.1, (h.2.2 s k hs).2.2⟩⟩
/-- ahead of a part of it -/
theorem gp_of {B : Int → Int} {S : Int → Prop} {Z K : Int → Int → Prop} {ρ ρ' : js_S} {e : tr_T} {n t M N m : Int} (hk : gk_R B S Z K ρ) (hn : xt_nd ρ M e N n m) (hw : xt_e e ∧ xt_w e ∧ xt_g S Z K e ∧ xt_r e) (hf : ∀ a i : Int, a = 91 ∨ a = 95 ∨ 100 ≤ a ∧ a ≤ 107 → ρ' a i = ρ a i) (h52 : 0 ≤ ρ' 83 52 ∧ ρ' 83 52 + N ≤ 66000) (h49 : 0 ≤ ρ' 83 49 ∧ ρ' 83 49 + xt_ln e ≤ 100000000) (h54 : 0 ≤ ρ' 83 54 ∧ ρ' 83 54 ≤ 1024 ∧ xt_mt e t ≤ 1024) (ht : 0 ≤ t ∧ t ≤ 1024) : gnp_R B S Z K ρ' e n t M N m := ⟨gk_fr hk (fun i => hf _ _ (by omega)) (fun i => hf _ _ (by omega)), xt_nd_fr hn (fun a i g1 g2 => hf _ _ (by omega)), hw, h52, h49, h54, ht⟩
section GN
variable {E : js_E} {B : Int → Int} {S : Int → Prop} {Z K : Int → Int → Prop} {e : tr_T}
theorem gen_of (h : gsp_P E B S Z K e) : gen_P E B S Z K e := by
  intro f ρ n t M N m hp hf
  have h52 := hp.2.2.2.1
  have hnd := xt_nd_in hp.2.1 hp.2.2.1.1
  obtain ⟨ρ', v, x4, ux7, e1, h1, h2⟩ := h f ρ n t M N m (ρ 83 52) n hp ⟨h52.1, Int.le_refl _⟩ hf
  have e52 : ρ' 83 52 = ρ 83 52 := h1.1 _ _ (by omega) (by omega) (by omega)
  refine ⟨ρ', v, ?_, h1, h2⟩
  rw [b_248_0, e1, b_248_85, e52, if_neg (Int.lt_irrefl _)]
theorem gsp_at (h : gat_P E B S Z K e) (hk : xt_k e ≠ 4 ∧ xt_k e ≠ 6 ∧ xt_k e ≠ 7) : gsp_P E B S Z K e := by
  intro f ρ n t M N m bs x1 hp hbs hf
  have h52 := hp.2.2.2.1
  have he := hp.2.2.1.1
  have hnd := xt_nd_in hp.2.1 he
  have h100 : ρ 100 n = xt_k e := xt_nd_k hp.2.1 he
  have d6 := xt_dp_6 e
  have w : js_w n = n := js_w_of (by omega) (by omega)
  have wk : js_w (xt_k e) = xt_k e := by
    unfold xt_e at he
    exact js_w_of (by omega) (by omega)
  obtain ⟨ρ', v, e1, h1, h2⟩ := h (f - 1) ρ n t M N m hp (by omega)
  refine ⟨ρ', v, n, (9, 0), ?_, h1, h2⟩
  rw [b_248_8, w, if_pos (show 0 ≤ n ∧ n < 66000 by omega), h100, wk, if_neg hk.1, if_neg hk.2.1, if_neg hk.2.2, k_248_80 (by omega) e1, b_248_83]
end GN
