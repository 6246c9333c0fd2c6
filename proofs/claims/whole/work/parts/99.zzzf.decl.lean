/-! part 99.zzzf: between two declarations: what is known of funs, variables and ports -/
def fn_u (ρ : js_S) : Nat → Int
  | 0 => 0
  | n + 1 => fn_u ρ n + (if ρ 86 n = 4 then 1 else 0)
def fn_p (ρ : js_S) (fb fr : Int → tr_T) : Nat → Int
  | 0 => 0
  | n + 1 => fn_p ρ fb fr n + (if ρ 86 n = 4 then st_ln (fb n) + xt_ln (fr n) + 1 else 0)
def po_a (ρ : js_S) : Nat → Int
  | 0 => 0
  | n + 1 => po_a ρ n + (if 1 ≤ ρ 86 n ∧ ρ 86 n ≤ 3 then ρ 91 n else 0)
def po_k (ρ : js_S) (k : Int) : Nat → Int
  | 0 => 0
  | n + 1 => po_k ρ k n + (if ρ 86 n = k then ρ 91 n else 0)
theorem fn_u_eq {ρ ρ' : js_S} : ∀ n : Nat, (∀ i : Int, 0 ≤ i → i < n → ρ' 86 i = ρ 86 i) → fn_u ρ' n = fn_u ρ n
  | 0, _ => rfl
  | n + 1, h => by
    show fn_u ρ' n + _ = fn_u ρ n + _
    rw [fn_u_eq n (fun i g1 g2 => h i g1 (by push_cast; omega)), h n (by omega) (by push_cast; omega)]
theorem fn_p_eq {ρ ρ' : js_S} {fb fr fb' fr' : Int → tr_T} : ∀ n : Nat, (∀ i : Int, 0 ≤ i → i < n → ρ' 86 i = ρ 86 i ∧ (ρ 86 i = 4 → fb' i = fb i ∧ fr' i = fr i)) → fn_p ρ' fb' fr' n = fn_p ρ fb fr n
  | 0, _ => rfl
  | n + 1, h => by
    have a := h n (by omega) (by push_cast; omega)
    show fn_p ρ' fb' fr' n + _ = fn_p ρ fb fr n + _
    rw [fn_p_eq n (fun i g1 g2 => h i g1 (by push_cast; omega)), a.1]
    by_cases q : ρ 86 n = 4
    · rw [if_pos q, if_pos q, (a.2 q).1, (a.2 q).2]
    · rw [if_neg q, if_neg q]
theorem po_a_eq {ρ ρ' : js_S} : ∀ n : Nat, (∀ i : Int, 0 ≤ i → i < n → ρ' 86 i = ρ 86 i ∧ ρ' 91 i = ρ 91 i) → po_a ρ' n = po_a ρ n
  | 0, _ => rfl
  | n + 1, h => by
    have a := h n (by omega) (by push_cast; omega)
    show po_a ρ' n + _ = po_a ρ n + _
    rw [po_a_eq n (fun i g1 g2 => h i g1 (by push_cast; omega)), a.1]
    by_cases q : 1 ≤ ρ 86 n ∧ ρ 86 n ≤ 3
    · rw [if_pos q, if_pos q, a.2]
    · rw [if_neg q, if_neg q]
theorem po_k_eq {ρ ρ' : js_S} {k : Int} : ∀ n : Nat, (∀ i : Int, 0 ≤ i → i < n → ρ' 86 i = ρ 86 i ∧ ρ' 91 i = ρ 91 i) → po_k ρ' k n = po_k ρ k n
  | 0, _ => rfl
  | n + 1, h => by
    have a := h n (by omega) (by push_cast; omega)
    show po_k ρ' k n + _ = po_k ρ k n + _
    rw [po_k_eq n (fun i g1 g2 => h i g1 (by push_cast; omega)), a.1]
    by_cases q : ρ 86 n = k
    · rw [if_pos q, if_pos q, a.2]
    · rw [if_neg q, if_neg q]
/-- symbols from m to n add nothing -/
theorem fn_u_up {ρ : js_S} {m : Nat} : ∀ n : Nat, m ≤ n → (∀ i : Int, m ≤ i → i < n → ρ 86 i ≠ 4) → fn_u ρ n = fn_u ρ m
  | 0, h, _ => by
    have : m = 0 := by omega
    rw [this]
  | n + 1, h, h2 => by
    by_cases q : m = n + 1
    · rw [q]
    · show fn_u ρ n + _ = _
      rw [fn_u_up n (by omega) (fun i g1 g2 => h2 i g1 (by push_cast; omega)), if_neg (h2 n (by omega) (by push_cast; omega)), Int.add_zero]
theorem fn_p_up {ρ : js_S} {fb fr : Int → tr_T} {m : Nat} : ∀ n : Nat, m ≤ n → (∀ i : Int, m ≤ i → i < n → ρ 86 i ≠ 4) → fn_p ρ fb fr n = fn_p ρ fb fr m
  | 0, h, _ => by
    have : m = 0 := by omega
    rw [this]
  | n + 1, h, h2 => by
    by_cases q : m = n + 1
    · rw [q]
    · show fn_p ρ fb fr n + _ = _
      rw [fn_p_up n (by omega) (fun i g1 g2 => h2 i g1 (by push_cast; omega)), if_neg (h2 n (by omega) (by push_cast; omega)), Int.add_zero]
theorem po_a_up {ρ : js_S} {m : Nat} : ∀ n : Nat, m ≤ n → (∀ i : Int, m ≤ i → i < n → ρ 86 i < 1 ∨ 3 < ρ 86 i) → po_a ρ n = po_a ρ m
  | 0, h, _ => by
    have : m = 0 := by omega
    rw [this]
  | n + 1, h, h2 => by
    by_cases q : m = n + 1
    · rw [q]
    · have a := h2 n (by omega) (by push_cast; omega)
      show po_a ρ n + _ = _
      rw [po_a_up n (by omega) (fun i g1 g2 => h2 i g1 (by push_cast; omega)), if_neg (by omega), Int.add_zero]
theorem po_k_up {ρ : js_S} {k : Int} {m : Nat} : ∀ n : Nat, m ≤ n → (∀ i : Int, m ≤ i → i < n → ρ 86 i ≠ k) → po_k ρ k n = po_k ρ k m
  | 0, h, _ => by
    have : m = 0 := by omega
    rw [this]
  | n + 1, h, h2 => by
    by_cases q : m = n + 1
    · rw [q]
    · show po_k ρ k n + _ = _
      rw [po_k_up n (by omega) (fun i g1 g2 => h2 i g1 (by push_cast; omega)), if_neg (h2 n (by omega) (by push_cast; omega)), Int.add_zero]
theorem lo_c_up {ρ : js_S} {f : Int} {m : Nat} : ∀ n : Nat, m ≤ n → (∀ i : Int, m ≤ i → i < n → ¬ (5 ≤ ρ 86 i ∧ ρ 86 i ≤ 7 ∧ ρ 93 i = f)) → lo_c ρ f n = lo_c ρ f m
  | 0, h, _ => by
    have : m = 0 := by omega
    rw [this]
  | n + 1, h, h2 => by
    by_cases q : m = n + 1
    · rw [q]
    · show lo_c ρ f n + _ = _
      rw [lo_c_up n (by omega) (fun i g1 g2 => h2 i g1 (by push_cast; omega)), if_neg (h2 n (by omega) (by push_cast; omega)), Int.add_zero]
theorem fn_u_0 {ρ : js_S} : ∀ n : Nat, 0 ≤ fn_u ρ n ∧ fn_u ρ n ≤ n
  | 0 => ⟨Int.le_refl _, Int.le_refl _⟩
  | n + 1 => by
    have a := fn_u_0 (ρ := ρ) n
    show 0 ≤ fn_u ρ n + _ ∧ fn_u ρ n + _ ≤ _
    push_cast
    split <;> omega
theorem fn_p_le {ρ : js_S} {fb fr : Int → tr_T} {i : Nat} (h4 : ρ 86 i = 4) : ∀ n : Nat, i < n → fn_p ρ fb fr i + st_ln (fb i) + xt_ln (fr i) + 1 ≤ fn_p ρ fb fr n
  | 0, h => absurd h (by omega)
  | n + 1, h => by
    show _ ≤ fn_p ρ fb fr n + _
    by_cases q : i = n
    · rw [← q, if_pos h4]
      omega
    · have a := fn_p_le (fb := fb) (fr := fr) h4 n (by omega)
      have b1 := st_ln_0 (fb n)
      have b2 := xt_ln_0 (fr n)
      split <;> omega
theorem fn_u_lt {ρ : js_S} {i : Nat} (h4 : ρ 86 i = 4) : ∀ n : Nat, i < n → fn_u ρ i < fn_u ρ n
  | 0, h => absurd h (by omega)
  | n + 1, h => by
    show _ < fn_u ρ n + _
    by_cases q : i = n
    · rw [← q, if_pos h4]
      omega
    · have a := fn_u_lt h4 n (by omega)
      split <;> omega
/-- what a fun f may call -/
def sk_F (ρ : js_S) (f s k : Int) : Prop := 0 ≤ s ∧ s < f ∧ ρ 86 s = 4 ∧ ρ 91 s = k ∧ ρ 96 s < ρ 96 f
def fx_G (ρ : js_S) (f : Int) (e : tr_T) : Prop := xt_g (sv_P ρ f) (sz_P ρ) (sk_F ρ f) e
def fn_G (ρ : js_S) (f : Int) (e : tr_T) : Prop := st_g (sv_P ρ f) (sz_P ρ) (sk_F ρ f) (su_U ρ) (su_V ρ) e
theorem sv_P_of {ρ ρ' : js_S} {F s : Int} (hs : sv_P ρ F s) (h1 : ρ 83 11 ≤ ρ' 83 11) (h2 : ∀ a i : Int, 86 ≤ a → a ≤ 97 → 0 ≤ i → i < ρ 83 11 → ρ' a i = ρ a i) : sv_P ρ' F s := by
  obtain ⟨a1, a2, a3⟩ := hs
  refine ⟨a1, by omega, ?_⟩
  rw [h2 86 s (by decide) (by decide) a1 a2, h2 93 s (by decide) (by decide) a1 a2]
  exact a3
theorem sz_P_of {ρ ρ' : js_S} {s c : Int} (hs : sz_P ρ s c) (h1 : ρ 83 11 ≤ ρ' 83 11) (h2 : ∀ a i : Int, 86 ≤ a → a ≤ 97 → 0 ≤ i → i < ρ 83 11 → ρ' a i = ρ a i) : sz_P ρ' s c := by
  obtain ⟨a1, a2, a3⟩ := hs
  refine ⟨a1, by omega, ?_⟩
  rw [h2 91 s (by decide) (by decide) a1 a2]
  exact a3
theorem sk_F_of {ρ ρ' : js_S} {f s c : Int} (hs : sk_F ρ f s c) (hf : f < ρ 83 11) (h2 : ∀ a i : Int, 86 ≤ a → a ≤ 97 → 0 ≤ i → i < ρ 83 11 → ρ' a i = ρ a i) : sk_F ρ' f s c := by
  obtain ⟨a1, a2, a3⟩ := hs
  refine ⟨a1, a2, ?_⟩
  rw [h2 86 s (by decide) (by decide) a1 (by omega), h2 91 s (by decide) (by decide) a1 (by omega), h2 96 s (by decide) (by decide) a1 (by omega), h2 96 f (by decide) (by decide) (by omega) hf]
  exact a3
theorem su_U_of {ρ ρ' : js_S} {s x y : Int} (hs : su_U ρ s x y) (h1 : ρ 83 11 ≤ ρ' 83 11) (h2 : ∀ a i : Int, 86 ≤ a → a ≤ 97 → 0 ≤ i → i < ρ 83 11 → ρ' a i = ρ a i) : su_U ρ' s x y := by
  obtain ⟨a1, a2, a3⟩ := hs
  refine ⟨a1, by omega, ?_⟩
  rw [h2 88 s (by decide) (by decide) a1 a2, h2 89 s (by decide) (by decide) a1 a2]
  exact a3
theorem su_V_of {ρ ρ' : js_S} {s v x y : Int} (hs : su_V ρ s v x y) (h1 : ρ 83 11 ≤ ρ' 83 11) (h2 : ∀ a i : Int, 86 ≤ a → a ≤ 97 → 0 ≤ i → i < ρ 83 11 → ρ' a i = ρ a i) : su_V ρ' s v x y := by
  obtain ⟨a1, a2, a3⟩ := hs
  refine ⟨a1, by omega, ?_⟩
  rw [h2 87 s (by decide) (by decide) a1 a2, h2 88 s (by decide) (by decide) a1 a2, h2 89 s (by decide) (by decide) a1 a2]
  exact a3
theorem fx_G_of {ρ ρ' : js_S} {f : Int} {e : tr_T} (h : fx_G ρ f e) (hf : f < ρ 83 11) (h1 : ρ 83 11 ≤ ρ' 83 11) (h2 : ∀ a i : Int, 86 ≤ a → a ≤ 97 → 0 ≤ i → i < ρ 83 11 → ρ' a i = ρ a i) : fx_G ρ' f e := xt_g_of (fun _ hs => sv_P_of hs h1 h2) (fun _ _ hs => sz_P_of hs h1 h2) (fun _ _ hs => sk_F_of hs hf h2) e h
theorem fn_G_of {ρ ρ' : js_S} {f : Int} {e : tr_T} (h : fn_G ρ f e) (hf : f < ρ 83 11) (h1 : ρ 83 11 ≤ ρ' 83 11) (h2 : ∀ a i : Int, 86 ≤ a → a ≤ 97 → 0 ≤ i → i < ρ 83 11 → ρ' a i = ρ a i) : fn_G ρ' f e := st_g_of (fun _ hs => sv_P_of hs h1 h2) (fun _ _ hs => sz_P_of hs h1 h2) (fun _ _ hs => sk_F_of hs hf h2) (fun _ _ _ hs => su_U_of hs h1 h2) (fun _ _ _ _ hs => su_V_of hs h1 h2) e h
/-- parameters are the fun's own -/
def fp_P (ρ : js_S) (i : Int) : Prop := ∀ k : Int, 1 ≤ k → k ≤ ρ 91 i → i + k < ρ 83 11 ∧ ρ 93 (i + k) = i
theorem fp_of {ρ ρ' : js_S} {i : Int} (h : fp_P ρ i) (hi : 0 ≤ i ∧ i < ρ 83 11) (h11 : ρ 83 11 ≤ ρ' 83 11) (r1 : ∀ a k : Int, 86 ≤ a → a ≤ 97 → 0 ≤ k → k < ρ 83 11 → ρ' a k = ρ a k) : fp_P ρ' i := fun k k1 k2 => by
  rw [r1 91 i (by decide) (by decide) hi.1 hi.2] at k2
  have a := h k k1 k2
  exact ⟨by omega, by rw [r1 93 (i + k) (by decide) (by decide) (by omega) a.1]; exact a.2⟩
/-- fun i: its trees fb i (what it does) and fr i (what it returns), its code -/
def fn_R (b : Int) (B : Int → Int) (Bf : Int → Int → Int) (U : Int → Int) (fb fr : Int → tr_T) (σ ρ : js_S) (i : Int) : Prop := (σ (σ (19 + b) i) 5 = fn_p ρ fb fr i.toNat ∧ U i = fn_u ρ i.toNat ∧ σ (σ (19 + b) i) 11 = -1) ∧ ((fb i = .leaf ∨ xt_k (fb i) = 90) ∧ st_w (fb i) ∧ fn_G ρ i (fb i) ∧ st_nd ρ (fb i) 0 (ρ 83 33) (ρ 108 i) 0) ∧ (fr i = .leaf ∧ ρ 109 i = -1 ∨ xt_e (fr i) ∧ xt_w (fr i) ∧ fx_G ρ i (fr i) ∧ xt_nd ρ 0 (fr i) (ρ 83 33) (ρ 109 i) 0) ∧ ((∀ s : Int, 0 ≤ s → s < i → ρ 86 s = 4 → Bf i s = B s) ∧ B i = min 400000 (st_cn (Bf i) (fb i) + xt_cn (Bf i) (fr i) + 1) ∧ 0 ≤ st_cn (Bf i) (fb i) ∧ 0 ≤ xt_cn (Bf i) (fr i)) ∧ (σ (15 + b) (U i) = lo_c ρ i (ρ 83 11).toNat ∧ σ (16 + b) (U i) = max 0 (max (st_mt (fb i) 0) (xt_mt (fr i) 0)) ∧ st_mt (fb i) 0 ≤ 1024 ∧ xt_mt (fr i) 0 ≤ 1024 ∧ st_dp (fb i) ≤ 1210 ∧ xt_dp (fr i) ≤ 1210 ∧ fp_P ρ i) ∧ (σ (8 + b) 6 ≤ 8192 → st_cd (ci_P σ b (U i)) (fb i) 0 (fn_p ρ fb fr i.toNat) 0 ∧ xt_cd (ci_P σ b (U i)) (fr i) 0 (fn_p ρ fb fr i.toNat + st_ln (fb i)) ∧ ci_P σ b (U i) (fn_p ρ fb fr i.toNat + st_ln (fb i) + xt_ln (fr i)) (28, 0, 0, 0, 0, 1, 0))
theorem fn_R_of {b i : Int} {B B' : Int → Int} {Bf Bf' : Int → Int → Int} {U U' : Int → Int} {fb fr fb' fr' : Int → tr_T} {σ ρ σ' ρ' : js_S} (h : fn_R b B Bf U fb fr σ ρ i) (hi : 0 ≤ i ∧ i < ρ 83 11) (hU : U' i = U i) (hB : ∀ s : Int, 0 ≤ s → s ≤ i → B' s = B s) (hBf : Bf' i = Bf i) (hfb : ∀ s : Int, 0 ≤ s → s ≤ i → fb' s = fb s ∧ fr' s = fr s) (h11 : ρ 83 11 ≤ ρ' 83 11) (r1 : ∀ a k : Int, 86 ≤ a → a ≤ 97 → 0 ≤ k → k < ρ 83 11 → ρ' a k = ρ a k) (hlo : lo_c ρ' i (ρ' 83 11).toNat = lo_c ρ i (ρ 83 11).toNat) (n1 : ∀ a k : Int, 100 ≤ a → a ≤ 107 → 0 ≤ k → k < ρ 83 33 → ρ' a k = ρ a k) (n2 : ρ' 108 i = ρ 108 i ∧ ρ' 109 i = ρ 109 i) (n3 : ρ 83 33 ≤ ρ' 83 33) (c5 : ∀ k : Int, k ≠ 13 → σ' (σ' (19 + b) i) k = σ (σ (19 + b) i) k) (c15 : σ' (15 + b) (U i) = σ (15 + b) (U i) ∧ σ' (16 + b) (U i) = σ (16 + b) (U i)) (c6 : σ (8 + b) 6 ≤ σ' (8 + b) 6) (cc : ∀ (p : Int) (I : xt_I), p < σ (8 + b) 6 → ci_P σ b (U i) p I → ci_P σ' b (U i) p I) (hpn : fn_p ρ fb fr i.toNat + st_ln (fb i) + xt_ln (fr i) + 1 ≤ σ (8 + b) 6) : fn_R b B' Bf' U' fb' fr' σ' ρ' i := by
  obtain ⟨⟨a1, a2, a3⟩, ⟨b1, b2, b3, b4⟩, hr, ⟨d1, d2, d3, d4⟩, ⟨e1, e2, e3, e4, e5, e6, e7⟩, hc⟩ := h
  have fi := hfb i hi.1 (Int.le_refl _)
  have eu : fn_u ρ' i.toNat = fn_u ρ i.toNat := fn_u_eq _ (fun k g1 g2 => r1 _ _ (by decide) (by decide) g1 (by omega))
  have ep : fn_p ρ' fb' fr' i.toNat = fn_p ρ fb fr i.toNat := fn_p_eq _ (fun k g1 g2 => ⟨r1 _ _ (by decide) (by decide) g1 (by omega), fun _ => hfb k g1 (by omega)⟩)
  have l1 := st_ln_0 (fb i)
  have l2 := xt_ln_0 (fr i)
  unfold fn_R
  rw [hU, fi.1, fi.2, ep, eu, c5 5 (by decide), c5 11 (by decide), hBf, n2.1, n2.2, hlo, c15.1, c15.2, hB i hi.1 (Int.le_refl _)]
  refine ⟨⟨a1, a2, a3⟩, ⟨b1, b2, fn_G_of b3 hi.2 h11 r1, ?_⟩, ?_, ⟨fun s g1 g2 g3 => ?_, d2, d3, d4⟩, ⟨e1, e2, e3, e4, e5, e6, fp_of e7 hi h11 r1⟩, fun hs => ?_⟩
  · exact st_nd_of _ _ _ _ _ _ _ (Int.le_refl _) n3 (fun a k g1 g2 g3 g4 => n1 a k (by omega) (by omega) g3 g4) (fun k g3 g4 _ => n1 _ _ (by decide) (by decide) g3 g4) b4
  · rcases hr with h | ⟨h1, h2, h3, h4⟩
    · exact Or.inl h
    · refine Or.inr ⟨h1, h2, fx_G_of h3 hi.2 h11 r1, ?_⟩
      exact xt_nd_up (Int.le_refl _) _ _ _ _ _ n3 (xt_nd_of _ _ _ _ (fun a k g1 g2 g3 g4 => n1 a k (by omega) (by omega) g3 g4) (fun k g3 g4 _ => n1 _ _ (by decide) (by decide) g3 g4) h4)
  · rw [r1 86 s (by decide) (by decide) g1 (by omega)] at g3
    rw [d1 s g1 g2 g3, hB s g1 (by omega)]
  · obtain ⟨k1, k2, k3⟩ := hc (by omega)
    exact ⟨st_cd_of _ _ _ _ (fun p I g1 g2 hI => cc p I (by omega) hI) k1, xt_cd_of _ _ _ (fun p I g1 g2 hI => cc p I (by omega) hI) k2, cc _ _ (by omega) k3⟩
/-- between two declarations -/
def dl_R (E : js_E) (b : Int) (B : Int → Int) (Bf : Int → Int → Int) (U : Int → Int) (fb fr : Int → tr_T) (σ ρ : js_S) (j : Nat) : Prop := (dc_R E.1 σ ρ b ∧ gs_R ρ (fun _ => False)) ∧ ((∀ i : Int, 0 ≤ i → i < ρ 83 11 → -1 ≤ σ (σ (19 + b) i) 11 ∧ σ (σ (19 + b) i) 11 < 1000 ∧ u9_P σ ρ b i) ∧ (∀ i : Int, 0 ≤ i → i < ρ 83 11 → ρ 86 i = 4 → σ (σ (19 + b) i) 9 = B i ∧ 0 ≤ B i ∧ B i ≤ 400000)) ∧ (σ (7 + b) 3 = -1 ∧ σ (8 + b) 7 = 0 ∧ σ (8 + b) 9 = 0 ∧ σ (8 + b) 10 = 0 ∧ σ (8 + b) 11 = 0 ∧ σ (8 + b) 12 = 0 ∧ σ (22 + b) 0 = -1 ∧ σ (23 + b) 15 = 0 ∧ ρ 83 10 = 0) ∧ ((0 ≤ σ (8 + b) 6 ∧ σ (8 + b) 6 ≤ 5000 * j) ∧ 0 ≤ ρ 83 33 ∧ ρ 83 33 ≤ j) ∧ (∀ i : Int, 0 ≤ i → i < ρ 83 11 → 5 ≤ ρ 86 i ∧ ρ 86 i ≤ 7 → (0 ≤ ρ 93 i ∧ ρ 93 i < i ∧ ρ 86 (ρ 93 i) = 4) ∧ σ (σ (19 + b) i) 5 = lo_c ρ (ρ 93 i) i.toNat ∧ σ (σ (19 + b) i) 11 = U (ρ 93 i)) ∧ (σ (8 + b) 8 = fn_u ρ (ρ 83 11).toNat ∧ σ (8 + b) 6 = fn_p ρ fb fr (ρ 83 11).toNat) ∧ (∀ i : Int, 0 ≤ i → i < ρ 83 11 → ρ 86 i = 4 → fn_R b B Bf U fb fr σ ρ i) ∧ ((∀ i : Int, 0 ≤ i → i < ρ 83 11 → 1 ≤ ρ 86 i ∧ ρ 86 i ≤ 3 → σ (σ (19 + b) i) 5 = po_a ρ i.toNat ∧ σ (σ (19 + b) i) 11 = -1) ∧ (∀ i : Int, 0 ≤ i → i < ρ 83 11 → ρ 86 i = 0 ∨ 8 ≤ ρ 86 i → σ (σ (19 + b) i) 5 = -1 ∧ σ (σ (19 + b) i) 11 = -1)) ∧ (σ (7 + b) 2 = po_a ρ (ρ 83 11).toNat ∧ σ (7 + b) 5 = po_k ρ 1 (ρ 83 11).toNat ∧ σ (7 + b) 6 = po_k ρ 2 (ρ 83 11).toNat)
theorem gs_P_of {ρ ρ' : js_S} {i : Int} (h : gs_P ρ (fun _ => False) i) (hi : 0 ≤ i ∧ i < ρ 83 11) (h11 : ρ 83 11 ≤ ρ' 83 11) (r1 : ∀ a k : Int, 86 ≤ a → a ≤ 97 → 0 ≤ k → k < ρ 83 11 → ρ' a k = ρ a k) (r99 : ρ' 99 i = ρ 99 i) (r26 : ρ' 83 26 = ρ 83 26) : gs_P ρ' (fun _ => False) i := by
  obtain ⟨a1, a2, a3, a4, a5, a6⟩ := h
  have o : ∀ a : Int, 86 ≤ a → a ≤ 97 → ρ' a i = ρ a i := fun a g1 g2 => r1 a i g1 g2 hi.1 hi.2
  unfold gs_P
  rw [o 86 (by decide) (by decide), o 87 (by decide) (by decide), o 88 (by decide) (by decide), o 89 (by decide) (by decide), o 91 (by decide) (by decide), o 92 (by decide) (by decide), o 93 (by decide) (by decide), o 96 (by decide) (by decide), r99, r26]
  refine ⟨a1, fun q => ?_, a3, a4, fun q => ?_, a6⟩
  · obtain ⟨b1, b2⟩ := a2 q
    refine ⟨b1, ?_⟩
    rcases b2 with c | c | ⟨c1, c2, c3, c4⟩
    · exact Or.inl c
    · exact Or.inr (Or.inl c)
    · exact Or.inr (Or.inr ⟨c1, by omega, by rw [r1 86 _ (by decide) (by decide) (by omega) c2]; exact c3, c4⟩)
  · obtain ⟨b1, b2, b3, b4, b5, b6⟩ := a5 q
    refine ⟨b1, b2, b3, by omega, fun x x1 x2 => ?_, b6⟩
    obtain ⟨c1, c2⟩ := b5 x x1 x2
    exact ⟨by rw [r1 86 _ (by decide) (by decide) (by omega) (by omega)]; exact c1, c2⟩
/-- visible in both, before and behind -/
theorem sy_99 {M b i : Int} {X X' : Int → Prop} {σ ρ σ' ρ' : js_S} (h : sy_Y M σ ρ b 0 0 X) (h' : sy_Y M σ' ρ' b 0 0 X') (hi : 0 ≤ i) (h1 : i < ρ 83 11) (h1' : i < ρ' 83 11) (c : σ' (19 + b) i = σ (19 + b) i ∧ ∀ k : Int, σ' (σ (19 + b) i) k = σ (σ (19 + b) i) k) : ρ' 99 i = ρ 99 i := by
  have a := (h.2.2.2.2.2.1 i hi h1).2.2.1
  have a' := (h'.2.2.2.2.2.1 i hi h1').2.2.1
  rw [sy_S_id] at a a'
  rw [← a', ← a, c.1, c.2]
/-- const, type, in, out and state -/
theorem dl_step {E : js_E} {b m : Int} {B : Int → Int} {Bf : Int → Int → Int} {U : Int → Int} {fb fr : Int → tr_T} {σ ρ σ' ρ' : js_S} {j j' : Nat} (hb : b = 0 ∨ b = 25) (h : dl_R E b B Bf U fb fr σ ρ j) (hm : ρ 83 11 = m) (hj : j ≤ j') (hdc : dc_R E.1 σ' ρ' b) (hm' : m ≤ ρ' 83 11) (c1 : ∀ a i : Int, 6 + b ≤ a → a ≤ 30 + b → a ≠ 19 + b → a ≠ 20 + b → a ≠ 21 + b → a ≠ 7 + b → σ' a i = σ a i) (c3 : σ' (7 + b) 3 = σ (7 + b) 3) (c2 : ∀ i : Int, 0 ≤ i → i < m → σ' (19 + b) i = σ (19 + b) i ∧ ∀ k : Int, σ' (σ (19 + b) i) k = σ (σ (19 + b) i) k) (r1 : ∀ a i : Int, 86 ≤ a → a ≤ 97 → 0 ≤ i → i < m → ρ' a i = ρ a i) (r2 : gf_R ρ ρ') (nk : ∀ i : Int, m ≤ i → i < ρ' 83 11 → (ρ' 86 i = 0 ∨ 1 ≤ ρ' 86 i ∧ ρ' 86 i ≤ 3 ∨ 8 ≤ ρ' 86 i) ∧ gs_P ρ' (fun _ => False) i ∧ σ' (σ' (19 + b) i) 9 = 0 ∧ σ' (σ' (19 + b) i) 11 = -1 ∧ (1 ≤ ρ' 86 i ∧ ρ' 86 i ≤ 3 → σ' (σ' (19 + b) i) 5 = po_a ρ' i.toNat) ∧ (ρ' 86 i = 0 ∨ 8 ≤ ρ' 86 i → σ' (σ' (19 + b) i) 5 = -1)) (tt : σ' (7 + b) 2 = po_a ρ' (ρ' 83 11).toNat ∧ σ' (7 + b) 5 = po_k ρ' 1 (ρ' 83 11).toNat ∧ σ' (7 + b) 6 = po_k ρ' 2 (ρ' 83 11).toNat) : dl_R E b B Bf U fb fr σ' ρ' j' := by
  obtain ⟨⟨hD, hG⟩, ⟨hu, hB⟩, ⟨d1, d2, d3, d4, d5, d6, d7, d8, d9⟩, ⟨⟨n1, n2⟩, n3, n4⟩, hl, ⟨hfu, hfp⟩, hfn, ⟨hp1, hp2⟩, _⟩ := h
  have m0 : 0 ≤ m := by have := hD.1.1.1; omega
  have e33 : ρ' 83 33 = ρ 83 33 := r2 _ _ (by omega)
  have g8 : ∀ k : Int, σ' (8 + b) k = σ (8 + b) k := fun k => c1 _ _ (by omega) (by omega) (by omega) (by omega) (by omega) (by omega)
  have ge : ∀ i : Int, 0 ≤ i → i < m → 137 ≤ σ (19 + b) i := fun i g1 g2 => js_sym_ge (hD.1.2.2.2.2.2.1 i g1 (by omega)).1
  have fu : fn_u ρ' (ρ' 83 11).toNat = fn_u ρ (ρ 83 11).toNat := by
    rw [fn_u_up (m := m.toNat) _ (by omega) (fun i g1 g2 => by have := (nk i (by omega) (by omega)).1; omega), fn_u_eq _ (fun i g1 g2 => r1 86 i (by decide) (by decide) g1 (by omega)), hm]
  have fp : fn_p ρ' fb fr (ρ' 83 11).toNat = fn_p ρ fb fr (ρ 83 11).toNat := by
    rw [fn_p_up (m := m.toNat) _ (by omega) (fun i g1 g2 => by have := (nk i (by omega) (by omega)).1; omega), fn_p_eq _ (fun i g1 g2 => ⟨r1 86 i (by decide) (by decide) g1 (by omega), fun _ => ⟨rfl, rfl⟩⟩), hm]
  have fl : ∀ f : Int, lo_c ρ' f (ρ' 83 11).toNat = lo_c ρ f (ρ 83 11).toNat := fun f => by
    rw [lo_c_up (m := m.toNat) _ (by omega) (fun i g1 g2 => by have := (nk i (by omega) (by omega)).1; omega), lo_c_eq _ (fun a i h1 h2 g1 g2 => r1 a i h1 h2 g1 (by omega)), hm]
  refine ⟨⟨hdc, fun i g1 g2 _ => ?_⟩, ⟨fun i g1 g2 => ?_, fun i g1 g2 g3 => ?_⟩, ⟨by rw [c3]; exact d1, by rw [g8]; exact d2, by rw [g8]; exact d3, by rw [g8]; exact d4, by rw [g8]; exact d5, by rw [g8]; exact d6, by rw [c1 _ _ (by omega) (by omega) (by omega) (by omega) (by omega) (by omega)]; exact d7, by rw [c1 _ _ (by omega) (by omega) (by omega) (by omega) (by omega) (by omega)]; exact d8, by rw [r2 _ _ (by omega)]; exact d9⟩, ⟨⟨by rw [g8]; exact n1, by rw [g8]; omega⟩, by omega, by omega⟩, fun i g1 g2 g3 => ?_, ⟨by rw [g8, fu]; exact hfu, by rw [g8, fp]; exact hfp⟩, fun i g1 g2 g3 => ?_, ⟨fun i g1 g2 g3 => ?_, fun i g1 g2 g3 => ?_⟩, tt⟩
  · by_cases q : i < m
    · exact gs_P_of (hG i g1 (by omega) (fun h => h)) ⟨g1, by omega⟩ (by omega) (fun a k h1 h2 h3 h4 => r1 a k h1 h2 h3 (by omega)) (sy_99 hD.1 hdc.1 g1 (by omega) g2 (c2 i g1 q)) (by rw [hdc.2.2, hD.2.2])
    · exact (nk i (by omega) g2).2.1
  · by_cases q : i < m
    · have a := hu i g1 (by omega)
      rw [(c2 i g1 q).1, (c2 i g1 q).2]
      exact ⟨a.1, a.2.1, u9_of a.2.2 (r1 _ _ (by decide) (by decide) g1 q) (by rw [(c2 i g1 q).1, (c2 i g1 q).2])⟩
    · have a := nk i (by omega) g2
      rw [a.2.2.2.1]
      exact ⟨by decide, by decide, fun _ => a.2.2.1⟩
  · by_cases q : i < m
    · rw [r1 _ _ (by decide) (by decide) g1 q] at g3
      rw [(c2 i g1 q).1, (c2 i g1 q).2]
      exact hB i g1 (by omega) g3
    · have := (nk i (by omega) g2).1
      omega
  · by_cases q : i < m
    · rw [r1 86 _ (by decide) (by decide) g1 q] at g3
      obtain ⟨⟨a1, a2, a3⟩, a4, a5⟩ := hl i g1 (by omega) g3
      rw [r1 93 _ (by decide) (by decide) g1 q, r1 86 _ (by decide) (by decide) a1 (by omega), (c2 i g1 q).1, (c2 i g1 q).2, (c2 i g1 q).2, lo_c_eq (ρ := ρ) _ (fun a k h1 h2 h3 h4 => r1 a k h1 h2 h3 (by omega))]
      exact ⟨⟨a1, a2, a3⟩, a4, a5⟩
    · have := (nk i (by omega) g2).1
      omega
  · by_cases q : i < m
    · rw [r1 86 _ (by decide) (by decide) g1 q] at g3
      have it : ((i.toNat : Nat) : Int) = i := by omega
      have hpn := fn_p_le (ρ := ρ) (fb := fb) (fr := fr) (i := i.toNat) (by rw [it]; exact g3) (ρ 83 11).toNat (by omega)
      rw [it] at hpn
      refine fn_R_of (hfn i g1 (by omega) g3) ⟨g1, by omega⟩ rfl (fun _ _ _ => rfl) rfl (fun _ _ _ => ⟨rfl, rfl⟩) (by omega) (fun a k h1 h2 h3 h4 => r1 a k h1 h2 h3 (by omega)) (fl i) (fun a k h1 h2 h3 h4 => r2 a k (by omega)) ⟨r2 _ _ (by omega), r2 _ _ (by omega)⟩ (by omega) (fun k _ => by rw [(c2 i g1 q).1, (c2 i g1 q).2]) ⟨c1 _ _ (by omega) (by omega) (by omega) (by omega) (by omega) (by omega), c1 _ _ (by omega) (by omega) (by omega) (by omega) (by omega) (by omega)⟩ (by rw [g8]; exact Int.le_refl _) (fun p I hp hI => ?_) (by rw [hfp]; exact hpn)
      have told : σ (7 + b) 1 = ρ 83 11 := hD.1.2.2.2.2.1
      have told' : σ' (7 + b) 1 = ρ' 83 11 := hdc.1.2.2.2.2.1
      exact ci_P_of hI (fun a h1 h2 => c1 _ _ (by omega) (by omega) (by omega) (by omega) (by omega) (by omega)) (by omega) (fun s h1 h2 => (c2 s h1 (by omega)).1) (fun s k h1 h2 _ => (c2 s h1 (by omega)).2 k)
    · have := (nk i (by omega) g2).1
      omega
  · by_cases q : i < m
    · rw [r1 86 _ (by decide) (by decide) g1 q] at g3
      rw [(c2 i g1 q).1, (c2 i g1 q).2, (c2 i g1 q).2, po_a_eq (ρ := ρ) _ (fun k h3 h4 => ⟨r1 _ _ (by decide) (by decide) h3 (by omega), r1 _ _ (by decide) (by decide) h3 (by omega)⟩)]
      exact hp1 i g1 (by omega) g3
    · have a := nk i (by omega) g2
      exact ⟨a.2.2.2.2.1 g3, a.2.2.2.1⟩
  · by_cases q : i < m
    · rw [r1 86 _ (by decide) (by decide) g1 q] at g3
      rw [(c2 i g1 q).1, (c2 i g1 q).2, (c2 i g1 q).2]
      exact hp2 i g1 (by omega) g3
    · have a := nk i (by omega) g2
      exact ⟨a.2.2.2.2.2 g3, a.2.2.2.1⟩
