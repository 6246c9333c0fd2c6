/-! part 99.zzzzzc: a program that was read by both is made by both, or is too large for both -/
section YM0
variable {ρ : js_S} {M : Nat} {fb fr : Int → tr_T}
theorem lo_c_in {f : Int} (hM : M ≤ 400) (h : ∀ i : Int, 0 ≤ i → i < M → 5 ≤ ρ 86 i ∧ ρ 86 i ≤ 7 → 0 ≤ ρ 91 i ∧ ρ 91 i ≤ 4096) : ∀ n : Nat, n ≤ M → 0 ≤ lo_c ρ f n ∧ lo_c ρ f n ≤ 4096 * n
  | 0, _ => ⟨Int.le_refl _, Int.le_refl _⟩
  | n + 1, hn => by
    have ih := lo_c_in (f := f) hM h n (by omega)
    have e : lo_c ρ f (n + 1) = lo_c ρ f n + (if 5 ≤ ρ 86 n ∧ ρ 86 n ≤ 7 ∧ ρ 93 n = f then ρ 91 n else 0) := rfl
    rw [e]
    by_cases q : 5 ≤ ρ 86 n ∧ ρ 86 n ≤ 7 ∧ ρ 93 n = f
    · have a := h n (by omega) (by omega) ⟨q.1, q.2.1⟩
      rw [if_pos q]
      push_cast
      omega
    · rw [if_neg q]
      push_cast
      omega
theorem po_a_in (h : ∀ i : Int, 0 ≤ i → i < M → 1 ≤ ρ 86 i ∧ ρ 86 i ≤ 3 → 0 ≤ ρ 91 i ∧ ρ 91 i ≤ 4096) : ∀ n : Nat, n ≤ M → 0 ≤ po_a ρ n ∧ po_a ρ n ≤ 4096 * n
  | 0, _ => ⟨Int.le_refl _, Int.le_refl _⟩
  | n + 1, hn => by
    have ih := po_a_in h n (by omega)
    have e : po_a ρ (n + 1) = po_a ρ n + (if 1 ≤ ρ 86 n ∧ ρ 86 n ≤ 3 then ρ 91 n else 0) := rfl
    rw [e]
    by_cases q : 1 ≤ ρ 86 n ∧ ρ 86 n ≤ 3
    · have a := h n (by omega) (by omega) q
      rw [if_pos q]
      push_cast
      omega
    · rw [if_neg q]
      push_cast
      omega
theorem un_c_in (hM : M ≤ 400) (h11 : ρ 83 11 = M) (h1 : ∀ i : Int, 0 ≤ i → i < M → 1 ≤ ρ 86 i ∧ ρ 86 i ≤ 3 → 0 ≤ ρ 91 i ∧ ρ 91 i ≤ 4096) (h5 : ∀ i : Int, 0 ≤ i → i < M → 5 ≤ ρ 86 i ∧ ρ 86 i ≤ 7 → 0 ≤ ρ 91 i ∧ ρ 91 i ≤ 4096) (h4 : ∀ i : Int, 0 ≤ i → i < M → ρ 86 i = 4 → st_mt (fb i) 0 ≤ 1024 ∧ xt_mt (fr i) 0 ≤ 1024) : ∀ n : Nat, n ≤ M → 0 ≤ un_c ρ fb fr n ∧ un_c ρ fb fr n ≤ 1638400 + 1639424 * n
  | 0, _ => by
    have a := po_a_in h1 M (Nat.le_refl _)
    show 0 ≤ po_a ρ (ρ 83 11).toNat ∧ po_a ρ (ρ 83 11).toNat ≤ _
    rw [h11, show ((M : Int)).toNat = M by omega]
    push_cast
    omega
  | n + 1, hn => by
    have ih := un_c_in hM h11 h1 h5 h4 n (by omega)
    have e : un_c ρ fb fr (n + 1) = un_c ρ fb fr n + (if ρ 86 n = 4 then lo_c ρ n (ρ 83 11).toNat + max 0 (max (st_mt (fb n) 0) (xt_mt (fr n) 0)) else 0) := rfl
    have l := lo_c_in (f := n) hM h5 M (Nat.le_refl _)
    rw [e, h11, show ((M : Int)).toNat = M by omega]
    by_cases q : ρ 86 n = 4
    · have a := h4 n (by omega) (by omega) q
      rw [if_pos q]
      push_cast
      omega
    · rw [if_neg q]
      push_cast
      omega
end YM0
/-- all of the program's cells -/
def ce_T (fb fr : Int → tr_T) (r : tr_T) (M : Nat) (ρ : js_S) : Int := un_c ρ fb fr M + lo_c ρ (-1) M + max 0 (st_mt r 0)
section YM1
variable {E : js_E} {d : Nat} {b : Int} {B : Int → Int} {Bf : Int → Int → Int} {U : Int → Int} {fb fr : Int → tr_T} {r : tr_T} {σ ρ : js_S} {j M : Nat}
theorem ce_T_in (hp : mp_R B Bf fb fr M ρ) (hc : mc_R B fb fr r M ρ) : 0 ≤ ce_T fb fr r M ρ ∧ ce_T fb fr r M ρ < 2000000000 := by
  have g : ∀ i : Int, 0 ≤ i → i < M → 1 ≤ ρ 86 i ∧ ρ 86 i ≤ 3 ∨ 5 ≤ ρ 86 i ∧ ρ 86 i ≤ 7 → 0 ≤ ρ 91 i ∧ ρ 91 i ≤ 4096 := fun i g1 g2 g3 => by
    have a := (hp.2.2.1 i g1 (by rw [hp.1.2]; exact g2) (fun h => h)).2.2.1 g3
    omega
  have a := un_c_in (fb := fb) (fr := fr) hp.1.1 hp.1.2 (fun i g1 g2 g3 => g i g1 g2 (Or.inl g3)) (fun i g1 g2 g3 => g i g1 g2 (Or.inr g3)) (fun i g1 g2 g3 => by
    have k := (hp.2.2.2.2.2.2 i g1 g2 g3).2.2.2.1
    exact ⟨k.1, k.2.1⟩) M (Nat.le_refl _)
  have l := lo_c_in (ρ := ρ) (f := -1) hp.1.1 (fun i g1 g2 g3 => g i g1 g2 (Or.inr g3)) M (Nat.le_refl _)
  have m := hc.2.1
  have hM := hp.1.1
  unfold ce_T
  omega
theorem pg_mp (h : pg_R E b B Bf U fb fr r σ ρ j) (hM : ρ 83 11 = M) (hj : j ≤ 8193) : mp_R B Bf fb fr M ρ ∧ mc_R B fb fr r M ρ := by
  obtain ⟨⟨hY, _, hgs, _⟩, hvar, hfun, _, _, ⟨_, _, u6, _⟩, hcyc, _, ⟨⟨s0, s1⟩, n0, n1, _⟩⟩ := h
  rw [hM] at hvar hfun u6
  have tM : ((M : Int)).toNat = M := by omega
  rw [tM] at u6
  have l := st_ln_0 r
  have m4 := hY.1.2.1
  refine ⟨⟨⟨by omega, hM⟩, fun i g1 g2 => ?_, hgs, fun i g1 g2 g3 => (hvar i g1 g2 g3).1, ⟨n0, by omega⟩, by omega, fun i g1 g2 g3 => ?_⟩, ⟨hcyc.1, hcyc.2.1, hcyc.2.2.1, hcyc.2.2.2.1⟩, hcyc.2.2.2.2.2.1, hcyc.2.2.2.2.2.2, by omega⟩
  · have a := hY.2.1 i g1 (by omega)
    exact ⟨⟨a.1, a.2.1⟩, a.2.2.1, a.2.2.2.1⟩
  · obtain ⟨⟨_, b1, b2, ⟨b3, b4, _⟩, ⟨_, _, b5⟩, _⟩, b6⟩ := hfun i g1 g2 g3
    exact ⟨b1, b2, ⟨b3, b4⟩, b5, b6⟩
/-- too large -/
def lg_P (B : Int → Int) (fb fr : Int → tr_T) (r : tr_T) (M : Nat) (ρ : js_S) (C : Int) : Prop := 8192 < fn_p ρ fb fr M + st_ln r + 1 ∨ C < ce_T fb fr r M ρ ∨ 100000 < st_cn B r + 1
theorem r_make {C : Int} (hp : mp_R B Bf fb fr M ρ) (hc : mc_R B fb fr r M ρ) (hd : 1225 ≤ d) (h55 : ρ 83 55 = C) (hC : 0 ≤ C ∧ C < 2147483648) (h9 : ρ 83 9 = 0) (hcn : 0 ≤ st_cn B r) : ∃ ρf : js_S, mf_R B fb fr r M ρ ρf ∧ (lg_P B fb fr r M ρ C → ∃ w : Int, js_J E d 244 0 [(2, 83), (9, 0), (9, 0), (9, 0), (9, 0)] [] ρ = js_r0 E (js_up (rx_bad ρf 11 (ρ 83 4)) 83 51 w)) ∧ (¬ lg_P B fb fr r M ρ C → js_J E d 244 0 [(2, 83), (9, 0), (9, 0), (9, 0), (9, 0)] [] ρ = js_r0 E (js_up ρf 83 51 (st_cn B r + 1))) := by
  obtain ⟨ρ1, v, w, e1, hmf, hv, hv'⟩ := mk_all (E := E) hp hc hd
  have o : ∀ a i : Int, ¬ (a = 83 ∧ i = 48) → js_up ρ1 83 48 (ρ1 83 48 + ρ1 83 54) a i = ρ1 a i := fun a i g => js_up_ne _ g
  have o48 : js_up ρ1 83 48 (ρ1 83 48 + ρ1 83 54) 83 48 = ρ1 83 48 + ρ1 83 54 := js_up_same _ _ _ _
  have eq1 : js_J E d 244 291 [(2, 83), (0, 0), (1, v + 1), (9, 0), (9, 0)] [(0, w)] ρ1 = (if 8192 < js_w (ρ1 83 49) then js_J E d 244 334 [(2, 83), (0, 0), (1, v + 1), (9, 0), (9, 0)] [] (js_up ρ1 83 48 (ρ1 83 48 + ρ1 83 54)) else (if js_w (ρ1 83 55) < js_w (ρ1 83 48 + ρ1 83 54) then js_J E d 244 334 [(2, 83), (0, 0), (1, v + 1), (9, 0), (9, 0)] [] (js_up ρ1 83 48 (ρ1 83 48 + ρ1 83 54)) else (if 100000 < js_l (v + 1) then js_J E d 244 334 [(2, 83), (0, 0), (1, v + 1), (9, 0), (9, 0)] [] (js_up ρ1 83 48 (ρ1 83 48 + ρ1 83 54)) else js_J E d 244 344 [(2, 83), (0, 0), (1, v + 1), (9, 0), (9, 0)] [] (js_up ρ1 83 48 (ρ1 83 48 + ρ1 83 54))))) := b_244_291
  rw [← o48, ← o 83 49 (by omega), ← o 83 55 (by omega)] at eq1
  rw [o48] at eq1
  generalize hρf : js_up ρ1 83 48 (ρ1 83 48 + ρ1 83 54) = ρf at hmf o o48 eq1
  have c49 := hmf.2.1.1
  have c48 := hmf.2.1.2.1
  have c55 : ρf 83 55 = C := by rw [hmf.1 _ _ (by omega) (by decide) (by decide) (by decide) (by decide)]; exact h55
  have c9 : ρf 83 9 = 0 := by rw [hmf.1 _ _ (by omega) (by decide) (by decide) (by decide) (by decide)]; exact h9
  have c4 : ρf 83 4 = ρ 83 4 := hmf.1 _ _ (by omega) (by decide) (by decide) (by decide) (by decide)
  have ct := ce_T_in hp hc
  have et : ce_T fb fr r M ρ = un_c ρ fb fr M + lo_c ρ (-1) M + max 0 (st_mt r 0) := rfl
  rw [← et] at c48
  have sz := hc.2.2.2
  have p0 := fn_p_0 (ρ0 := ρ) (fb := fb) (fr := fr) M
  have l0 := st_ln_0 r
  have w49 : js_w (ρf 83 49) = fn_p ρ fb fr M + st_ln r + 1 := by rw [c49]; exact js_w_of (by omega) (by omega)
  have w48 : js_w (ρ1 83 48 + ρ1 83 54) = ce_T fb fr r M ρ := by rw [← o48, c48]; exact js_w_of (by omega) (by omega)
  have w55 : js_w (ρf 83 55) = C := by rw [c55]; exact js_w_of (by omega) (by omega)
  have wv : js_l (v + 1) = v + 1 := js_l_of (by omega) (by omega)
  rw [w49, w48, w55, wv] at eq1
  have bad : ∃ w : Int, js_J E d 244 334 [(2, 83), (0, 0), (1, v + 1), (9, 0), (9, 0)] [] ρf = js_r0 E (js_up (rx_bad ρf 11 (ρ 83 4)) 83 51 w) := by
    refine ⟨if js_l 2147483647 < js_l (v + 1) then 2147483647 else v + 1, ?_⟩
    rw [b_244_334, c4, k_244_341 (by omega) (r_bad (by omega) (by omega)), b_244_344 (by omega)]
  refine ⟨ρf, hmf, fun hl => ?_, fun hl => ?_⟩
  · obtain ⟨w2, e2⟩ := bad
    refine ⟨w2, ?_⟩
    rw [e1, eq1]
    unfold lg_P at hl
    by_cases q1 : 8192 < fn_p ρ fb fr M + st_ln r + 1
    · rw [if_pos q1]
      exact e2
    by_cases q2 : C < ce_T fb fr r M ρ
    · rw [if_neg q1, if_pos q2]
      exact e2
    · rw [if_neg q1, if_neg q2, if_pos (by omega)]
      exact e2
  · unfold lg_P at hl
    have ev : v + 1 = st_cn B r + 1 := by omega
    have wm : js_l 2147483647 = 2147483647 := by decide
    rw [e1, eq1, if_neg (by omega), if_neg (by omega), if_neg (by omega), b_244_344 (by omega), wv, wm, if_neg (by omega), ev]
end YM1
