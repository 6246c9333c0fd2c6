/-! part 99.zzzzg: the reference makes the code of statements: what is to be shown; lists; simple statements -/
/-- ranges that an int holds: xt_e and st_w have them -/
def st_r (_ : tr_T) : Prop := True
def gsk_R (B : Int → Int) (S : Int → Prop) (Z K : Int → Int → Prop) (U : Int → Int → Int → Prop) (V : Int → Int → Int → Int → Prop) (ρ : js_S) : Prop := gk_R B S Z K ρ ∧ (∀ s x y : Int, U s x y → (0 ≤ s ∧ s < 400) ∧ (ρ 88 s = x ∧ ρ 89 s = y) ∧ -2000000000 ≤ x ∧ x ≤ y ∧ y ≤ 2000000000) ∧ ∀ s v x y : Int, V s v x y → (0 ≤ s ∧ s < 400) ∧ (ρ 87 s = 0 ∧ x = v ∧ y = v ∨ ρ 87 s ≠ 0 ∧ x = ρ 88 s ∧ y = ρ 89 s) ∧ (0 ≤ ρ 87 s ∧ ρ 87 s < 1000) ∧ (-2147483648 ≤ v ∧ v < 2147483648) ∧ (-2147483648 ≤ x ∧ x < 2147483648) ∧ -2147483648 ≤ y ∧ y < 2147483648
def gsr_R (t z : Int) (ρ ρ' : js_S) (s : tr_T) : Prop := gx_R (ρ 83 49) (ρ 83 52) ρ ρ' ∧ ρ' 83 49 = ρ 83 49 + st_ln s ∧ ρ' 83 54 = max (ρ 83 54) (st_mt s t) ∧ (ρ' 83 49 ≤ 8192 → st_cd (ri_P ρ') s t (ρ 83 49) z)
def gsc_P (c k v : Int) : Prop := (0 ≤ v ∧ v ≤ 3000000000000000 + k) ∧ min 400000 v = min 400000 c
def gsq_R (B : Int → Int) (S : Int → Prop) (Z K : Int → Int → Prop) (U : Int → Int → Int → Prop) (V : Int → Int → Int → Int → Prop) (ρ : js_S) (s : tr_T) (n t M N m : Int) : Prop := gsk_R B S Z K U V ρ ∧ st_nd ρ s M N n m ∧ (st_w s ∧ st_g S Z K U V s ∧ st_r s) ∧ (0 ≤ ρ 83 52 ∧ ρ 83 52 + N ≤ 8200) ∧ (0 ≤ ρ 83 49 ∧ ρ 83 49 + st_ln s ≤ 100000000) ∧ (0 ≤ ρ 83 54 ∧ ρ 83 54 ≤ 1024 ∧ st_mt s t ≤ 1024) ∧ 0 ≤ t ∧ t ≤ 1024
def gst_P (E : js_E) (B : Int → Int) (S : Int → Prop) (Z K : Int → Int → Prop) (U : Int → Int → Int → Prop) (V : Int → Int → Int → Int → Prop) (s : tr_T) : Prop := ∀ (f : Nat) (ρ : js_S) (n t M N : Int), gsq_R B S Z K U V ρ s n t M N 0 → st_dp s ≤ (f : Int) → ∃ (ρ' : js_S) (v : Int), js_J E f 247 0 [(2, 83), (0, n), (0, t), (9, 0), (9, 0), (9, 0), (9, 0)] [] ρ = js_r E (1, v) ρ' ∧ gsr_R t (ρ 83 49 + st_ln s) ρ ρ' s ∧ gsc_P (st_cn B s) (st_ln s) v
/-- a list, from the count x3 on -/
def gli_P (E : js_E) (B : Int → Int) (S : Int → Prop) (Z K : Int → Int → Prop) (U : Int → Int → Int → Prop) (V : Int → Int → Int → Int → Prop) (s : tr_T) : Prop := ∀ (f : Nat) (ρ : js_S) (n t M N x1 x3 z : Int), gsq_R B S Z K U V ρ s n t M N 0 → 0 ≤ x3 ∧ x3 ≤ 1000000000000000 → st_dp s ≤ (f : Int) → ∃ (ρ' : js_S) (v : Int), js_J E f 246 5 [(2, 83), (0, x1), (0, t), (1, x3), (9, 0), (0, n)] [] ρ = js_r E (1, v) ρ' ∧ gsr_R t z ρ ρ' s ∧ (0 ≤ v ∧ v ≤ 1000000000000000) ∧ min 400000 v = min 400000 (x3 + st_cn B s)
theorem gsk_fr {B : Int → Int} {S : Int → Prop} {Z K : Int → Int → Prop} {U : Int → Int → Int → Prop} {V : Int → Int → Int → Int → Prop} {ρ ρ' : js_S} (h : gsk_R B S Z K U V ρ) (hf : ∀ a i : Int, a = 87 ∨ a = 88 ∨ a = 89 ∨ a = 91 ∨ a = 95 → ρ' a i = ρ a i) : gsk_R B S Z K U V ρ' := by
  have e87 : ∀ i : Int, ρ' 87 i = ρ 87 i := fun i => hf _ _ (by omega)
  have e88 : ∀ i : Int, ρ' 88 i = ρ 88 i := fun i => hf _ _ (by omega)
  have e89 : ∀ i : Int, ρ' 89 i = ρ 89 i := fun i => hf _ _ (by omega)
  refine ⟨gk_fr h.1 (fun i => hf _ _ (by omega)) (fun i => hf _ _ (by omega)), fun s x y hs => ?_, fun s v x y hs => ?_⟩
  · rw [e88, e89]
    exact h.2.1 s x y hs
  · rw [e87, e88, e89]
    exact h.2.2 s v x y hs
theorem st_nd_fr {ρ ρ' : js_S} {e : tr_T} {M N n m : Int} (h : st_nd ρ e M N n m) (h2 : ∀ a i : Int, 100 ≤ a → a ≤ 107 → ρ' a i = ρ a i) : st_nd ρ' e M N n m := st_nd_of e _ _ _ _ _ _ (Int.le_refl _) (Int.le_refl _) (fun a i g1 g2 _ _ => h2 a i (by omega) (by omega)) (fun i _ _ _ => h2 _ _ (by decide) (by decide)) h
theorem sr_gy {n t p z : Int} {ρ ρ' : js_S} {e : tr_T} (h : gy_R n ρ ρ') (hp : p + st_ln e ≤ n) (hc : st_cd (ri_P ρ) e t p z) : st_cd (ri_P ρ') e t p z := st_cd_of e t p z (fun i I g1 g2 hI => ri_gy h (by omega) hI) hc
theorem st_dp_7 (e : tr_T) : 7 ≤ st_dp e := by
  induction e with
  | leaf => show (7 : Int) ≤ 8; decide
  | inner z d v l r ihl ihr =>
    have h1 := xt_dp_6 l
    have h2 := xt_dp_6 r
    rw [st_dp]
    repeat' split
    all_goals omega
theorem gsc_of {c k v x : Int} (h : gc_P c k v) (hx : 0 ≤ x) (hk : 0 ≤ k) : gsc_P (c + x) (k + x) (v + x) := by
  unfold gc_P at h
  unfold gsc_P
  omega
theorem gli_m {a x z p1 p2 : Int} (h1 : p1 = max a x) (h2 : p2 = max p1 z) : p2 = max a (max x z) := by omega
theorem gli_c {x3 v1 v2 c1 c2 k1 : Int} (h : gsc_P c1 k1 v1) (h3 : 0 ≤ x3) (h2 : min 400000 v2 = min 400000 (min 1000000000000000 (x3 + v1) + c2)) (hc : 0 ≤ c2) : min 400000 v2 = min 400000 (x3 + (c1 + c2)) := by
  unfold gsc_P at h
  omega
section SR
variable {ty lo hi a b c : Int} {l r : tr_T}
theorem st_r90 : st_r (tr_n 90 ty lo hi a b c l r) = (st_r l ∧ st_r r) := propext ⟨fun _ => ⟨trivial, trivial⟩, fun _ => trivial⟩
theorem st_r20 : st_r (tr_n 20 ty lo hi a b c l r) = xt_r l := rfl
theorem st_r21 : st_r (tr_n 21 ty lo hi a b c l r) = (xt_r l ∧ xt_r r) := propext ⟨fun _ => ⟨trivial, trivial⟩, fun _ => trivial⟩
theorem st_r23 : st_r (tr_n 23 ty lo hi a b c l r) = xt_r l := rfl
theorem st_r28 : st_r (tr_n 28 ty lo hi a b c l r) = xt_r l := rfl
theorem st_r24 : st_r (tr_n 24 ty lo hi a b c l r) = (xt_r l ∧ st_r r) := propext ⟨fun _ => ⟨trivial, trivial⟩, fun _ => trivial⟩
theorem st_r26 : st_r (tr_n 26 ty lo hi a b c l r) = (xt_r l ∧ st_r r) := propext ⟨fun _ => ⟨trivial, trivial⟩, fun _ => trivial⟩
theorem st_r27 : st_r (tr_n 27 ty lo hi a b c l r) = (st_r l ∧ st_r r) := propext ⟨fun _ => ⟨trivial, trivial⟩, fun _ => trivial⟩
theorem st_r92 : st_r (tr_n 92 ty lo hi a b c l r) = (st_r l ∧ st_r r) := propext ⟨fun _ => ⟨trivial, trivial⟩, fun _ => trivial⟩
theorem st_r93 : st_r (tr_n 93 ty lo hi a b c l r) = (st_r l ∧ st_r r) := propext ⟨fun _ => ⟨trivial, trivial⟩, fun _ => trivial⟩
end SR
section GG
variable {E : js_E} {B : Int → Int} {S : Int → Prop} {Z K : Int → Int → Prop} {U : Int → Int → Int → Prop} {V : Int → Int → Int → Int → Prop} {ty lo hi a b c : Int} {l r : tr_T}
theorem gli_0 : gli_P E B S Z K U V .leaf := by
  intro f ρ n t M N x1 x3 z hp hx hf
  have hn : n = -1 := hp.2.1
  have h54 := hp.2.2.2.2.2.1
  have el : st_ln (.leaf : tr_T) = 0 := rfl
  have em : st_mt (.leaf : tr_T) t = 0 := rfl
  have ec : st_cn B (.leaf : tr_T) = 0 := rfl
  refine ⟨ρ, x3, ?_, ⟨gx_refl _ _ _, by rw [el, Int.add_zero], by rw [em]; omega, fun _ => trivial⟩, hx, by rw [ec, Int.add_zero]⟩
  rw [b_246_5, hn, if_pos (show js_w (-1) < 0 by decide)]
theorem gli_90 (hl : gst_P E B S Z K U V l) (hq : gli_P E B S Z K U V r) (hc : 0 ≤ st_cn B r) : gli_P E B S Z K U V (tr_n 90 ty lo hi a b c l r) := by
  intro f ρ n t M N x1 x3 z hp hx hf
  obtain ⟨hk, hn, ⟨hw, hg, hr⟩, h52, h49, h54, ht⟩ := hp
  rw [st_nd90] at hn
  rw [st_g90] at hg
  rw [st_w90] at hw
  rw [st_ln90] at h49
  rw [st_mt90] at h54
  rw [st_r90] at hr
  have hr' : st_r l ∧ st_r r := hr
  have ed : st_dp (tr_n 90 ty lo hi a b c l r) = max (1 + st_dp l) (st_dp r) := rfl
  rw [ed] at hf
  have hfl : 1 + st_dp l ≤ f ∧ st_dp r ≤ f := by omega
  have hmt : st_mt l t ≤ 1024 ∧ st_mt r t ≤ 1024 := by omega
  have h54' : 0 ≤ ρ 83 54 ∧ ρ 83 54 ≤ 1024 := ⟨h54.1, h54.2.1⟩
  clear hf ed h54
  obtain ⟨n1, n2, n7, n8⟩ := hn
  have l1 := st_ln_0 l
  have l2 := st_ln_0 r
  have d8 := st_dp_7 l
  have w : js_w n = n := js_w_of (by omega) (by omega)
  have hn6 : 0 ≤ n ∧ n < 66000 := by omega
  obtain ⟨ρ1, v1, e1, ⟨g1, k1, t1, d1⟩, c1⟩ := hl (f - 1) ρ n t M N ⟨hk, n7, ⟨hw.2.1, hg.1, hr'.1⟩, h52, ⟨h49.1, by omega⟩, ⟨h54'.1, h54'.2, hmt.1⟩, ht⟩ (by omega)
  have q1 : ρ1 83 52 = ρ 83 52 := g1 _ _ (by omega) (by omega) (by omega)
  have i107 : ρ1 107 n = ρ 107 n := g1 _ _ (by omega) (by omega) (by omega)
  have b154 : 0 ≤ ρ1 83 54 ∧ ρ1 83 54 ≤ 1024 := by omega
  have vb : 0 ≤ x3 + v1 ∧ x3 + v1 < 9000000000000000000 := by
    have a1 := c1.1
    omega
  obtain ⟨ρ2, v2, e2, ⟨g2, k2, t2, d2⟩, c2, c2'⟩ := hq f ρ1 (ρ 107 n) t (n + 1) N x1 (min 1000000000000000 (x3 + v1)) z ⟨gsk_fr hk (fun x i q => g1 x i (by omega) (by omega) (by omega)), st_nd_fr n8 (fun x i q1 q2 => g1 x i (by omega) (by omega) (by omega)), ⟨hw.2.2.2, hg.2, hr'.2⟩, ⟨by omega, by omega⟩, ⟨by omega, by omega⟩, ⟨b154.1, b154.2, hmt.2⟩, ht⟩ (by omega) hfl.2
  rw [q1] at g2
  refine ⟨ρ2, v2, ?_, ⟨gx_trans g1 g2 (by omega) (Int.le_refl _), by rw [st_ln90]; omega, ?_, fun hs => ?_⟩, c2, ?_⟩
  · rw [b_246_5, w, if_neg (show ¬ n < 0 by omega), k_246_15 (by omega) e1, b_246_18, k_246_19 (by omega) (r_bound vb), b_246_22, w, if_pos hn6, i107]
    exact e2
  · rw [st_mt90]
    exact gli_m t1 t2
  · rw [st_cd90]
    have e := d2 hs
    rw [k1] at e
    exact ⟨sr_gy (gy_mono (gy_gx g2) (Int.le_refl _)) (by omega) (d1 (by omega)), e⟩
  · rw [st_cn90]
    exact gli_c c1 hx.1 c2' hc
/-- a TERM inside a statement -/
theorem gnp_st {ρ ρ' : js_S} {e : tr_T} {n t M N : Int} (hk : gsk_R B S Z K U V ρ) (hn : xt_nd ρ M e N n 0) (hw : xt_e e ∧ xt_w e ∧ xt_g S Z K e ∧ xt_r e) (hf : ∀ x i : Int, x = 91 ∨ x = 95 ∨ 100 ≤ x ∧ x ≤ 107 → ρ' x i = ρ x i) (h52 : 0 ≤ ρ' 83 52 ∧ ρ' 83 52 + N ≤ 66000) (h49 : 0 ≤ ρ' 83 49 ∧ ρ' 83 49 + xt_ln e ≤ 100000000) (h54 : 0 ≤ ρ' 83 54 ∧ ρ' 83 54 ≤ 1024 ∧ xt_mt e t ≤ 1024) (ht : 0 ≤ t ∧ t ≤ 1024) : gnp_R B S Z K ρ' e n t M N 0 := gp_of hk.1 hn hw hf h52 h49 h54 ht
theorem gst_20 : gst_P E B S Z K U V (tr_n 20 ty lo hi a b c l r) := by
  intro f ρ n t M N hp hf
  obtain ⟨hk, hn, ⟨hw, hg, hr⟩, h52, h49, h54, ht⟩ := hp
  rw [st_nd20] at hn
  rw [st_g20] at hg
  rw [st_w20] at hw
  rw [st_r20] at hr
  rw [st_ln20] at h49
  rw [st_mt20] at h54
  have ed : st_dp (tr_n 20 ty lo hi a b c l r) = 1 + xt_dp l := rfl
  rw [ed] at hf
  have d6 := xt_dp_6 l
  obtain ⟨n1, n2, n3, n7, n8⟩ := hn
  have ha := hk.1.1 a hg.1
  have l1 := xt_ln_0 l
  have w : js_w n = n := js_w_of (by omega) (by omega)
  have wa : js_w a = a := js_w_of (by omega) (by omega)
  have hn6 : 0 ≤ n ∧ n < 66000 := by omega
  obtain ⟨ρ1, v1, e1, h1, c1⟩ := gen_term (E := E) (B := B) (S := S) (Z := Z) (K := K) l hw.1 hw.2 (f - 1) ρ (ρ 103 n) t M n 0 (gnp_st hk n8 ⟨hw.1, hw.2, hg.2, hr⟩ (fun _ _ _ => rfl) ⟨h52.1, by omega⟩ ⟨h49.1, by omega⟩ h54 ht) (by omega)
  have b49 := h1.2.1
  obtain ⟨ρ2, e2, h2⟩ := r_plain (E := E) (f := f - 1) (ρ := ρ1) (x1 := 2) (x2 := ρ1 90 a) (x3 := 0) (by omega) ⟨by omega, by omega⟩
  obtain ⟨k1, k2, k3, k4⟩ := gr_one (k := 1) (x := a) (y := 0) h1 h2 (by rw [if_neg (by decide), if_pos rfl, Int.add_zero])
  have cc := gsc_of (x := 1) c1 (by decide) l1
  refine ⟨ρ2, v1 + 1, ?_, ⟨k1, by rw [st_ln20]; omega, by rw [st_mt20]; exact k3, fun hs' => by rw [st_cd20]; exact k4 hs'⟩, by rw [st_cn20, st_ln20]; exact cc⟩
  rw [b_247_0, w, if_pos hn6, n3, n7, s_247_13_20 (by decide), b_247_60, w, if_pos hn6, k_247_68 (by omega) e1, b_247_71, wa, if_pos ha, k_247_82 (by omega) e2, b_247_85]
theorem gst_23 : gst_P E B S Z K U V (tr_n 23 ty lo hi a b c l r) := by
  intro f ρ n t M N hp hf
  obtain ⟨hk, hn, ⟨hw, hg, hr⟩, h52, h49, h54, ht⟩ := hp
  rw [st_nd23] at hn
  rw [st_g23] at hg
  rw [st_w23] at hw
  rw [st_r23] at hr
  rw [st_ln23] at h49
  rw [st_mt23] at h54
  have ed : st_dp (tr_n 23 ty lo hi a b c l r) = 1 + xt_dp l := rfl
  rw [ed] at hf
  have d6 := xt_dp_6 l
  obtain ⟨n1, n2, n3, n8⟩ := hn
  have l1 := xt_ln_0 l
  have w : js_w n = n := js_w_of (by omega) (by omega)
  have hn6 : 0 ≤ n ∧ n < 66000 := by omega
  obtain ⟨ρ1, v1, e1, h1, c1⟩ := gen_term (E := E) (B := B) (S := S) (Z := Z) (K := K) l hw.1 hw.2 (f - 1) ρ (ρ 102 n) t M n 0 (gnp_st hk n8 ⟨hw.1, hw.2, hg, hr⟩ (fun _ _ _ => rfl) ⟨h52.1, by omega⟩ ⟨h49.1, by omega⟩ h54 ht) (by omega)
  have b49 := h1.2.1
  obtain ⟨ρ2, e2, h2⟩ := r_plain (E := E) (f := f - 1) (ρ := ρ1) (x1 := 30) (x2 := 0) (x3 := 0) (by omega) ⟨by omega, by omega⟩
  obtain ⟨k1, k2, k3, k4⟩ := gr_one (k := 0) (x := 0) (y := 0) h1 h2 (if_pos rfl).symm
  have cc := gsc_of (x := 1) c1 (by decide) l1
  refine ⟨ρ2, v1 + 1, ?_, ⟨k1, by rw [st_ln23]; omega, by rw [st_mt23]; exact k3, fun hs' => by rw [st_cd23]; exact k4 hs'⟩, by rw [st_cn23, st_ln23]; exact cc⟩
  rw [b_247_0, w, if_pos hn6, n3, s_247_13_23 (by decide), b_247_316, k_247_319 (by omega) e1, b_247_322, k_247_329 (by omega) e2, b_247_332]
theorem gst_28 : gst_P E B S Z K U V (tr_n 28 ty lo hi a b c l r) := by
  intro f ρ n t M N hp hf
  obtain ⟨hk, hn, ⟨hw, hg, hr⟩, h52, h49, h54, ht⟩ := hp
  rw [st_nd28] at hn
  rw [st_g28] at hg
  rw [st_w28] at hw
  rw [st_r28] at hr
  rw [st_ln28] at h49
  rw [st_mt28] at h54
  have ed : st_dp (tr_n 28 ty lo hi a b c l r) = 1 + xt_dp l := rfl
  rw [ed] at hf
  have d6 := xt_dp_6 l
  obtain ⟨n1, n2, n3, n8⟩ := hn
  have l1 := xt_ln_0 l
  have w : js_w n = n := js_w_of (by omega) (by omega)
  have hn6 : 0 ≤ n ∧ n < 66000 := by omega
  obtain ⟨ρ1, v1, e1, h1, c1⟩ := gen_term (E := E) (B := B) (S := S) (Z := Z) (K := K) l hw.1 hw.2.1 (f - 1) ρ (ρ 102 n) t M n 0 (gnp_st hk n8 ⟨hw.1, hw.2.1, hg, hr⟩ (fun _ _ _ => rfl) ⟨h52.1, by omega⟩ ⟨h49.1, by omega⟩ h54 ht) (by omega)
  have cc := gsc_of (x := 0) c1 (by decide) l1
  rw [Int.add_zero, Int.add_zero, Int.add_zero] at cc
  refine ⟨ρ1, v1, ?_, ⟨h1.1, by rw [st_ln28]; exact h1.2.1, by rw [st_mt28]; exact h1.2.2.1, fun hs' => by rw [st_cd28]; exact h1.2.2.2 hs'⟩, by rw [st_cn28, st_ln28]; exact cc⟩
  rw [b_247_0, w, if_pos hn6, n3, s_247_13_d (Or.inr (by decide)), b_247_359, k_247_362 (by omega) e1, b_247_365]
end GG
