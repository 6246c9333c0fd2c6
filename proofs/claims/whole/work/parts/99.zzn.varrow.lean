/-! part 99.zzn: var of a row in step -/
section SJ
variable {E : js_E} {d e : Nat} {b F : Int} {B U : Int → Int} {X : Int → Prop} {σ ρ : js_S} {j : Nat}
/-- the STORES of a row from cell k on -/
def so_R (b u m k c : Int) (σ σ' : js_S) : Prop := (hg_R σ' b ∧ cz_R σ' b) ∧ σ' (8 + b) 6 = σ (8 + b) 6 + (c - k) ∧ σ' (8 + b) 7 = min 400000 (σ (8 + b) 7 + (c - k)) ∧ (σ' (8 + b) 6 ≤ 8192 → ∀ i : Int, k ≤ i → i < c → ci_P σ' b u (σ (8 + b) 6 + (i - k)) (2, 1, m, i, 0, 1, 0)) ∧ ∀ a i : Int, ¬ (a = 8 + b ∧ (i = 6 ∨ i = 7)) → ¬ (9 + b ≤ a ∧ a ≤ 14 + b ∧ σ (8 + b) 6 ≤ i) → σ' a i = σ a i
theorem c_stores {u m s c : Int} (hb : b = 0 ∨ b = 25) (hm : 0 ≤ m) (hd : 6 ≤ d) (hc : c ≤ 4096) : ∀ (n : Nat) (k : Int) (σ : js_S), 0 ≤ k → c - k = n → hg_R σ b → cz_R σ b → σ (8 + b) 6 + n ≤ 50000000 → js_desc E.1 σ s = some (0, 11, js_sym) → σ s 6 = c → σ (19 + b) m = s → m < σ (7 + b) 1 → -1 ≤ σ s 11 ∧ σ s 11 < 1000 → ∃ σ' : js_S, js_J E d 57 141 [(2, 22 + b), (2, s), (0, k)] [] σ = js_J E d 57 170 [(2, 22 + b), (2, s), (0, c)] [(0, 59), (2, 1)] σ' ∧ so_R b u m k c σ σ' := by
  intro n
  induction n with
  | zero =>
    intro k σ hk hn hg hz hs hds h6 h19 hm7 hu
    have e : k = c := by omega
    refine ⟨σ, ?_, ⟨hg, hz⟩, by omega, ?_, fun _ i g1 g2 => absurd g2 (by omega), fun _ _ _ _ => rfl⟩
    · rw [b_57_141 hds hb, h6, js_w_of (x := k) (by omega) (by omega), js_w_of (x := c) (by omega) (by omega), if_neg (by omega), e]
    · have := hz.2.2
      omega
  | succ n ih =>
    intro k σ hk hn hg hz hs hds h6 h19 hm7 hu
    have hge := js_sym_ge hds
    push_cast at hn hs
    obtain ⟨σ1, e1, n1⟩ := c_store (E := E) (d := d - 1) (σ := σ) (x := s) (y := k) hb hz (by omega) hds hu.1 hu.2
    have O1 := n1.2.2.2
    have c1 := cl_e1 (u := u) (m := m) hb (cl_0 hg hz) n1 (by omega) h19 hm hm7
    have q6 := n1.1
    have q7 := n1.2.1
    have r : ∀ i : Int, σ1 s i = σ s i := fun i => O1 _ _ (by omega) (by omega)
    obtain ⟨σ', e2, ⟨hg', hz'⟩, a6, a7, ac, aO⟩ := ih (k + 1) σ1 (by omega) (by omega) c1.1.1 c1.1.2 (by omega) (cl_desc hb c1 hds) (by rw [r]; exact h6) (by rw [O1 _ _ (by omega) (by omega)]; exact h19) (by rw [O1 _ _ (by omega) (by omega)]; exact hm7) (by rw [r]; exact hu)
    refine ⟨σ', ?_, ⟨hg', hz'⟩, by omega, ?_, fun hs2 i g1 g2 => ?_, fun a i g1 g2 => ?_⟩
    · rw [b_57_141 hds hb, h6, js_w_of (x := k) (by omega) (by omega), js_w_of (x := c) (by omega) (by omega), if_pos (by omega), k_57_155 hb (by omega) e1, b_57_158, e2]
    · have := hz.2.2
      omega
    · by_cases q : i = k
      · have i0 := (c1.2.2.2.1 (by omega)).1
        have F1 : ef_R b (σ1 (8 + b) 6) 0 0 σ1 σ' := fun a i g => aO a i (fun hh => g (ef_D8 ⟨hh.1, by omega⟩)) (fun hh => g (ef_D9 hh))
        have := ci_sf hb (sf_R_ef hb c1.1.1 F1) (by omega) i0
        have e0 : σ (8 + b) 6 + (i - k) = σ (8 + b) 6 := by omega
        rw [e0, q]
        exact this
      · have := ac hs2 i (by omega) g2
        have e0 : σ (8 + b) 6 + (i - k) = σ1 (8 + b) 6 + (i - (k + 1)) := by omega
        rw [e0]
        exact this
    · rw [aO a i g1 (by omega), O1 a i g1 (by omega)]
/-- highOf for the type of a row -/
theorem c_high2 {ty v lo hi : Int} (hb : b = 0 ∨ b = 25) (hx : xs_R E b F B X σ ρ) (h0 : 0 ≤ ty ∧ ty < 1000) (ht : ty_b ty lo hi) (htx : 3 ≤ ty → ty - 3 < ρ 83 11 ∧ ρ 86 (ty - 3) = 8 ∧ ¬ X (ty - 3) ∧ lo = 0 ∧ hi = ρ 89 (ty - 3)) : js_J E d 58 0 [(2, 7 + b), (0, ty), (0, v), (9, 0)] [] σ = js_r E (0, if ty = 0 then v else hi) σ := by
  have h400 := hx.1.1.2.1
  rw [b_58_0 hb, js_w_of (x := ty) (by omega) (by omega), js_w_of (x := ty - 3) (by omega) (by omega)]
  by_cases q0 : ty = 0
  · rw [if_pos q0, if_pos q0]
  · have n2 := ht.1
    rw [if_neg q0, if_neg q0]
    by_cases q1 : ty = 1
    · rw [if_pos (show ty - 3 < 0 by omega), (ht.2 q1).2]
    · obtain ⟨h1, h2, h3, h4, h5⟩ := htx (by omega)
      have hsym := (hx.1.2.2.2.2.2.1 (ty - 3) (by omega) h1).1
      have hge := js_sym_ge hsym
      have hf := hx.1.2.2.2.2.2.2 (ty - 3) (by omega) h1 h3
      rw [if_neg (show ¬ ty - 3 < 0 by omega), hx.1.2.2.2.2.1, js_w_of (x := ρ 83 11) (by omega) (by omega), if_pos h1, if_pos (show 0 ≤ ty - 3 ∧ ty - 3 < 400 by omega), if_neg (show ¬ σ (19 + b) (ty - 3) < 0 by omega), b_58_31 hb, js_w_of (x := ty - 3) (by omega) (by omega), if_pos (show 0 ≤ ty - 3 ∧ ty - 3 < 400 by omega), b_58_37 hsym, hf.2.2.2.1, h5]
end SJ
/-- a row was told and filled -/
theorem ss_row {b F m v lo hi : Int} {B : Int → Int} {σ ρ σ6 ρ7 σ7 σ8 σ9 ρ8 ρ9 : js_S} {j j6 : Nat} (hb : b = 0 ∨ b = 25) (hg : hg_R σ b) (hn : xn_R b σ ρ (j + 1)) (hj : j + 1 < j6) (f6 : cf_R b σ σ6) (tf7 : tf_R ρ ρ7) (n7 : em_R b σ6 σ7 0 v 0 lo hi 0) (so : so_R b (σ (8 + b) 8) m 0 (ρ 91 m) σ7 σ8) (f9 : tk_fr σ8 σ9) (hw : nw_R ρ7 ρ8 22 0 0 0 m v 0) (t9 : ∀ a i : Int, ¬ (a = 83 ∧ 5 ≤ i ∧ i ≤ 9) → ρ9 a i = ρ8 a i) (r9 : rd_R σ9 ρ9 (j6 + 1)) (hm : 0 ≤ m ∧ m < ρ 83 11) (k86 : 5 ≤ ρ 86 m ∧ ρ 86 m ≤ 7) (k93 : ρ 93 m = F) (k91 : 1 ≤ ρ 91 m ∧ ρ 91 m ≤ 4096) (hv : (ρ 87 m = 0 ∧ lo = v ∧ hi = v) ∨ (ρ 87 m ≠ 0 ∧ lo = ρ 88 m ∧ hi = ρ 89 m)) (hzz : 0 ≤ zz_b b σ ρ) (hvr : -2000000000 ≤ v ∧ v ≤ 2000000000) (h88 : -2000000000 ≤ ρ 88 m ∧ ρ 88 m ≤ ρ 89 m ∧ ρ 89 m ≤ 2000000000) : ss_R b F B σ ρ j σ9 ρ9 (j6 + 1) (ρ7 83 33) (tr_n 22 0 lo hi m v (ρ 91 m) .leaf .leaf) := by
  obtain ⟨hn1, hn2, hn3, hn4, hn5, hn6, hn7⟩ := hn
  have u6 : ∀ k : Int, σ6 (8 + b) k = σ (8 + b) k := fun k => f6 _ _ (by omega) (by omega) (by omega)
  obtain ⟨⟨hg8, hz8⟩, s6, s7, sc, sO⟩ := so
  have nO := n7.2.2.2
  have n6 := n7.1
  have n77 := n7.2.1
  have u66 := u6 6
  have u67 := u6 7
  have w9 : ∀ k : Int, σ9 (8 + b) k = σ8 (8 + b) k := fun k => f9 _ _ (by omega) (by omega)
  have wk : ∀ k : Int, k ≠ 6 → k ≠ 7 → σ9 (8 + b) k = σ (8 + b) k := fun k g1 g2 => by rw [w9, sO _ _ (by omega) (by omega), nO _ _ (by omega) (by omega), u6]
  have w15 : σ9 (23 + b) 15 = σ (23 + b) 15 := by rw [f9 _ _ (by omega) (by omega), sO _ _ (by omega) (by omega), nO _ _ (by omega) (by omega), f6 _ _ (by omega) (by omega) (by omega)]
  have w96 := w9 6
  have w97 := w9 7
  have F06 : ∀ n t p : Int, ef_R b n t p σ σ6 := fun n t p => ef_R_cf f6
  have F67 : ef_R b (σ6 (8 + b) 6) 0 0 σ6 σ7 := ef_R_em n7 (Int.le_refl _)
  have F78 : ∀ n t p : Int, n ≤ σ7 (8 + b) 6 → ef_R b n t p σ7 σ8 := fun n t p h a i g => sO a i (fun hh => g (ef_D8 ⟨hh.1, by omega⟩)) (fun hh => g (ef_D9 ⟨hh.1, hh.2.1, by omega⟩))
  have F89 : ∀ n t p : Int, ef_R b n t p σ8 σ9 := fun n t p => ef_R_tk f9
  have F09 : ef_R b (σ (8 + b) 6) (σ (8 + b) 10) (σ (23 + b) 15) σ σ9 := ef_R_trans (F06 _ _ _) (ef_R_trans (ef_R_em n7 (by omega)) (ef_R_trans (F78 _ _ _ (by omega)) (F89 _ _ _)))
  have hwO := hw.2.2.2.2.2.2
  have e33 : ρ7 83 33 = ρ 83 33 := tf7 _ _ (by omega)
  have G09 : eg_R (ρ 83 33) ρ ρ9 := eg_R_trans (eg_R_tf tf7) (eg_R_trans (eg_R_nw hw) (eg_R_t9 (N := ρ7 83 33) t9) (Int.le_refl _)) (by omega)
  have h33 : ρ9 83 33 = ρ 83 33 + 1 := by rw [t9 _ _ (by omega), hw.1, e33]
  have nd : ∀ a : Int, 100 ≤ a → ρ9 a (ρ7 83 33) = ρ8 a (ρ7 83 33) := fun a g => t9 _ _ (by omega)
  have zr : ∀ a i : Int, 86 ≤ a → a ≤ 97 → ρ9 a i = ρ a i := fun a i g1 g2 => G09 _ _ (by omega) (by omega)
  have e11 : ρ9 83 11 = ρ 83 11 := G09 _ _ (by omega) (by omega)
  refine ⟨⟨r9, by omega, ?_, F09, G09, by omega, by push_cast; omega⟩, ⟨0, by decide, by decide, ?_, ?_⟩, ⟨⟨w15, wk 10 (by decide) (by decide), ?_, ?_, ?_⟩, fun hs => ?_⟩, ⟨?_, ⟨show (20 : Int) ≤ 22 ∧ (22 : Int) ≤ 28 ∧ (22 : Int) ≠ 25 by decide, ?_, ?_⟩, ⟨?_, ?_, ?_⟩, by omega, by omega, ?_, st_dz (x := 8) rfl (by omega)⟩⟩
  · rw [t9 _ _ (by omega), hwO _ _ (by omega) (by omega), tf7 _ _ (by omega)]
  · rw [t9 _ _ (by omega), hwO _ _ (by omega) (by omega), tf7 _ _ (by omega)]
    omega
  · rw [wk 12 (by decide) (by decide)]
    omega
  · rw [st_ln22]
    omega
  · rw [st_cn22]
    omega
  · rw [st_mt22, wk 11 (by decide) (by decide)]
    omega
  · have i0 : ci_P σ7 b (σ (8 + b) 8) (σ6 (8 + b) 6) (0, 0, v, 0, 0, lo, hi) := em_ci0 n7 (by omega)
    have hg7 : hg_R σ7 b := hg_ef hb (hg_ef hb hg (F06 0 0 0)) F67
    have k1 := ci_sf hb (sf_R_ef hb hg7 (ef_R_trans (F78 (σ7 (8 + b) 6) 0 0 (Int.le_refl _)) (F89 _ _ _))) (by omega) i0
    rw [u66] at k1
    rw [st_cd22]
    refine ⟨k1, fun k g1 g2 => ?_⟩
    have k2 := ci_sf hb (sf_R_ef hb hg8 (F89 (σ8 (8 + b) 6) 0 0)) (by omega) (sc (by omega) k g1 g2)
    have e0 : σ7 (8 + b) 6 + (k - 0) = σ (8 + b) 6 + 1 + k := by omega
    rw [e0] at k2
    exact k2
  · rw [st_nd22, nd 100 (by decide), nd 102 (by decide), nd 103 (by decide)]
    exact ⟨⟨by omega, by omega⟩, by omega, hw.2.1.1, hw.2.2.1, hw.2.2.2.1⟩
  · rw [st_w22]
    exact k91.1
  · unfold st_G
    rw [st_g22]
    refine ⟨⟨hm.1, by omega, Or.inr ?_⟩, ⟨hm.1, by omega, zr 91 m (by decide) (by decide)⟩, ⟨hm.1, by omega, ?_⟩⟩
    · rw [zr 86 m (by decide) (by decide), zr 93 m (by decide) (by decide)]
      exact ⟨k86.1, k86.2, k93⟩
    · rw [zr 87 m (by decide) (by decide), zr 88 m (by decide) (by decide), zr 89 m (by decide) (by decide)]
      exact ⟨hv, hvr, by rcases hv with h | h <;> omega⟩
  · rw [st_ln22]
    push_cast
    omega
  · rw [st_cn22]
    omega
  · rw [st_mt22]
    decide
  · rw [nd 107 (by decide)]
    exact hw.2.2.2.2.2.1
section SK
variable {E : js_E} {d e : Nat} {b F : Int} {B U : Int → Int} {X : Int → Prop} {σ ρ : js_S} {j : Nat}
/-- a variable that is a row -/
theorem y_varR {m s : Int} {σ5 ρ5 : js_S} {j5 : Nat} (hb : b = 0 ∨ b = 25) (hx : ux_R E b F B U X σ ρ) (hn : xn_R b σ ρ j) (hm : ρ 83 11 = m) (hm4 : m < 400) (hv : vh_R E b F m s B X σ ρ j σ5 ρ5 j5) (h92 : ρ5 92 m ≠ 0) (hp : σ (23 + b) 15 ≤ 6 * ρ 83 10) (hR0 : ρ 83 10 ≤ 64) (hd : 12 ≤ d) (he : 7 ≤ e) : sq_P E b F B U X σ ρ j (js_J E d 57 61 [(2, 22 + b), (2, s), (9, 0)] [] σ5) (js_J E e 214 44 [(2, 83), (0, m), (9, 0)] [(0, m), (2, 83)] ρ5) := by
  have m0 : 0 ≤ m := by have := hx.1.1.1.1; omega
  have va := va_of hb hx hm hv
  have va' := va
  obtain ⟨xa, ⟨ra, hja⟩, sfa, sga, ⟨h11, h10, h33, h44⟩, ⟨h8, h9, h15, h71⟩, ⟨hds, h19⟩, hF, ⟨k6, k7, k93, k92, k91, k91', k88, k88', k89, kty⟩, ⟨s5, s11⟩⟩ := va
  have hna := va_xn va' hn
  have hin := hv.2.2.2.2.2.2.2.2.2.1
  have htx := hv.2.2.2.2.2.2.2.2.2.2
  have s0 := hv.2.2.2.2.2.2.2.1.1
  have k94 := hv.2.2.2.2.2.2.2.2.1.2.2.1
  obtain ⟨i1, i2, i3, i4, i5, i6⟩ := hin
  have hge := js_sym_ge hds
  have hj5 := rd_j ra
  have hpl := hx.2.1
  have t59 : tk_m 59 = 59 := by decide
  have wm : js_w m = m := js_w_of (by omega) (by omega)
  have gm : 0 ≤ m ∧ m < 400 := ⟨m0, hm4⟩
  have hF' := hF
  unfold sy_F at hF
  rw [h19, tp_87, tp_88, tp_89] at hF
  have t92 : tp_S ρ5 m 92 m = ρ5 92 m := tp_o (by omega)
  have n92 : ¬ js_w (ρ5 92 m) = 0 := by
    rw [t92] at k92
    rw [js_w_of (by omega) (by omega)]
    exact h92
  have f12 : σ5 s 12 = ρ5 92 m := by rw [hF.2.2.2.2.2.2.2.2, t92]
  have fr5 : fr_R b σ σ5 := sfa.1
  have rf5 : rf_R ρ (tp_S ρ5 m) := rf_R_sg sga
  have lift : ∀ {ρ' : js_S} {R : Option (Outcome × ip_W)}, xf_P E b σ5 (tp_S ρ5 m) ρ' R → sF_P E b σ ρ ρ' R := fun h => sF_up fr5 rf5 (sF_xf hb xa h)
  have t94 : tp_S ρ5 m 94 m = 0 := by rw [tp_o (by omega)]; exact k94
  rw [b_57_61 hds hb, f12, if_neg n92, k_214_44 (by omega) (r_tp gm), b_214_47, wm, if_pos gm, t92, if_neg n92]
  obtain ⟨r203, ρ6, e216, vf6, hor6⟩ := y_readFor (E := E) (d := d - 1) (e := e - 1) hb xa.1 ra (by omega) (by omega) xa.2.1 (n := m) (x := s) (Or.inr rfl) m0 hm4 (by omega) hds s0 (by rw [tp_87]; exact hF.2.1) (by rw [tp_88]; exact hF.2.2.1) (by rw [tp_89]; exact hF.2.2.2.1) (by rw [tp_88]; omega) (by rw [tp_89]; omega)
  rw [k_214_57 (by omega) r203, b_214_60, k_214_62 (by omega) e216, b_214_65]
  rcases hor6 with ⟨ok6, σ6, j6, c6, R6, hY6, f6, hj6, v1, v2, e28⟩ | ⟨hF6, σ6, c6, f6⟩
  · rw [tp_88] at v1
    rw [tp_89] at v2
    rw [k_214_66 (by omega) (r_next' ok6 (by omega)), b_214_69, wm, if_pos gm]
    have x28 : rx_next ρ6 83 28 = ρ6 94 m := by rw [rx_next_o _ (by omega)]; exact e28
    rw [x28]
    have tf7 : tf_R (tp_S ρ5 m) (js_up (rx_next ρ6) 94 m 0) := fun a i g => by
      by_cases q : a = 94 ∧ i = m
      · rw [q.1, q.2, js_up_same, t94]
      · rw [js_up_ne _ q, rx_next_o _ (by omega), vf6 _ _ (by omega) q]
    have R7 : rd_R σ6 (js_up (rx_next ρ6) 94 m 0) j6 := rd_R_of R6 (fun _ _ => rfl) (fun _ _ _ _ => rfl) (fun i _ _ => js_up_na _ (by decide)) (fun i => js_up_na _ (by decide))
    generalize ρ6 94 m = v at c6 v1 v2 ⊢
    generalize js_up (rx_next ρ6) 94 m 0 = ρ7 at tf7 R7 ⊢
    clear R6 hY6 vf6 e216 x28 e28 ok6
    have x6 := xs_R_ef hb xa (ef_R_cf (n := 0) (t := 0) (p := 0) f6) (eg_R_tf (N := 0) tf7)
    have fld : ∀ k : Int, σ6 s k = σ5 s k := fun k => f6 _ _ (by omega) (by omega) (by omega)
    have hds6 : js_desc E.1 σ6 s = some (0, 11, js_sym) := js_desc_mono hds (by rw [f6 _ _ (by omega) (by omega) (by omega)]; exact Int.le_refl _) (fun _ => fld _)
    have e196 : σ6 (19 + b) m = s := by rw [f6 _ _ (by omega) (by omega) (by omega)]; exact h19
    have z11 : ρ7 83 11 = m + 1 := by rw [tf7 _ _ (by omega)]; exact h11
    have z33 : ρ7 83 33 = tp_S ρ5 m 83 33 := tf7 _ _ (by omega)
    have hj7 := rd_j R7
    have hna0 := hna
    unfold xn_R at hna0
    have u6 : ∀ k : Int, σ6 (8 + b) k = σ5 (8 + b) k := fun k => f6 _ _ (by omega) (by omega) (by omega)
    have u66 := u6 6
    have u67 := u6 7
    have hz6 : cz_R σ6 b := by
      unfold cz_R
      omega
    have hu0 := x6.2.2.2.1 m m0 (by omega)
    have hu := And.intro hu0.1 hu0.2.1
    rw [e196] at hu
    have hh : js_J E (d - 1) 58 0 [(2, 7 + b), (0, ρ5 83 30), (0, v), (9, 0)] [] σ6 = js_r E (0, if ρ5 83 30 = 0 then v else ρ5 83 32) σ6 := c_high2 (lo := ρ5 83 31) (hi := ρ5 83 32) hb x6 ⟨i1, i2⟩ i6 (fun h3 => by
      obtain ⟨y1, y2, y3, y4, y5⟩ := htx h3
      have e11 : ρ5 83 11 = m + 1 := by
        have := h11
        rw [tp_o (by omega)] at this
        exact this
      have ne : ρ5 83 30 - 3 ≠ m := fun hh => y3 (Or.inr hh)
      rw [z11, tf7 86 _ (by omega), tf7 89 _ (by omega), tp_o (by omega), tp_o (by omega)]
      exact ⟨by omega, y2, y3, y4, y5⟩)
    obtain ⟨σ7, e7, n7⟩ := c_set (E := E) (d := d - 1) (σ := σ6) (op := 0) (x := v) (lo := if ρ5 83 30 = 0 then v else 0) (hi := if ρ5 83 30 = 0 then v else ρ5 83 32) hb hz6 (by omega)
    have c7 := cl_e0 (u := 0) hb (cl_0 (xs_hg x6) hz6) n7 (by omega)
    have nO := n7.2.2.2
    have n6 := n7.1
    have t91 : tp_S ρ5 m 91 m = σ5 s 6 := hF.2.2.2.2.1.symm
    obtain ⟨σ8, e8, so8⟩ := c_stores (E := E) (d := d) (u := σ5 (8 + b) 8) (m := m) (s := s) (c := tp_S ρ5 m 91 m) hb m0 (by omega) (by omega) ((tp_S ρ5 m 91 m).toNat) 0 σ7 (by decide) (by omega) c7.1.1 c7.1.2 (by omega) (cl_desc hb c7 hds6) (by rw [nO _ _ (by omega) (by omega), fld]; exact t91.symm) (by rw [nO _ _ (by omega) (by omega)]; exact e196) (by rw [nO _ _ (by omega) (by omega), f6 _ _ (by omega) (by omega) (by omega), h71]; omega) (by rw [nO _ _ (by omega) (by omega)]; exact hu)
    have cls : js_J E d 57 73 [(2, 22 + b), (2, s), (9, 0)] [(2, s), (2, 21 + b)] σ5 = js_J E d 57 170 [(2, 22 + b), (2, s), (0, tp_S ρ5 m 91 m)] [(0, 59), (2, 1)] σ8 := by
      have lo : js_J E d 57 76 [(2, 22 + b), (2, s), (9, 0)] [(0, v)] σ6 = js_J E d 57 95 [(2, 22 + b), (2, s), (0, v)] [(0, if ρ5 83 30 = 0 then v else 0), (0, v), (0, 0), (2, 8 + b)] σ6 := by
        rw [b_57_76 hb hds6, fld, hF.2.1, js_w_of (x := ρ5 83 30) (by omega) (by omega)]
        by_cases q : ρ5 83 30 = 0
        · rw [if_pos q, if_pos q]
        · rw [if_neg q, if_neg q]
      rw [k_57_73 hb (by omega) c6, lo, b_57_95 hb hds6, fld, hF.2.1, k_57_104 hb (by omega) hh, k_57_107 hb (by omega) e7, b_57_110, b_57_139, e8]
    obtain ⟨ρ8, er8, hw⟩ := r_node (E := E) (e := e - 1) (ρ := ρ7) (k := 22) (ty := 0) (lo := 0) (hi := 0) (a := m) (b := v) (c := 0) R7.2.2.1.2.2.1 (by omega) (by omega) (by decide) (by decide)
    have hwO := hw.2.2.2.2.2.2
    rw [cls, k_214_88 (by omega) er8, b_214_91]
    have sO := so8.2.2.2.2
    have F58 : ef_R b (σ5 (8 + b) 6) (σ5 (8 + b) 10) (σ5 (23 + b) 15) σ5 σ8 := ef_R_trans (ef_R_cf f6) (ef_R_trans (ef_R_em n7 (by omega)) (fun a i g => sO a i (fun hh => g (ef_D8 ⟨hh.1, by omega⟩)) (fun hh => g (ef_D9 ⟨hh.1, hh.2.1, by omega⟩))))
    have G58 : eg_R (tp_S ρ5 m 83 33) (tp_S ρ5 m) ρ8 := eg_R_trans (eg_R_tf tf7) (eg_R_nw hw) (by omega)
    have x8 := xs_R_ef hb xa F58 G58
    have r8 : rd_R σ8 ρ8 j6 := rd_R_of R7 (fun i _ => by rw [sO _ _ (by omega) (by omega), nO _ _ (by omega) (by omega)]) (fun a i _ _ => by rw [sO _ _ (by omega) (by omega), nO _ _ (by omega) (by omega)]) (fun i _ _ => hwO _ _ (by omega) (by omega)) (fun i => hwO _ _ (by omega) (by omega))
    obtain ⟨ρ9, e9, t89, hor⟩ := y_take (E := E) (d := d - 1) (e := e - 1) (k := 59) x8.1.2.2.1 r8 (by omega) (by omega) (by unfold tk_V; omega) (by decide)
    rw [t59] at hor
    rw [b_214_125, k_214_128 (by omega) e9]
    rcases hor with ⟨σ9, j9, c9, R9, f9, hj9⟩ | ⟨hF9, c9⟩
    · subst hj9
      have o9 : ρ9 83 9 = 0 := R9.2.2.1.2.2.1
      have hds8 : js_desc E.1 σ8 s = some (0, 11, js_sym) := js_desc_mono hds6 (by rw [sO _ _ (by omega) (by omega), nO _ _ (by omega) (by omega)]; exact Int.le_refl _) (fun _ => by rw [sO _ _ (by omega) (by omega), nO _ _ (by omega) (by omega)])
      have hds9 : js_desc E.1 σ9 s = some (0, 11, js_sym) := js_desc_mono hds8 (by rw [f9 _ _ (by omega) (by omega)]; exact Int.le_refl _) (fun _ => f9 _ _ (by omega) (by omega))
      rw [k_57_170 (by omega) c9, b_57_173 hds9, b_214_131, o9, if_pos (show js_w 0 = 0 from rfl), wm, if_pos gm, js_iand11]
      have hvv : (tp_S ρ5 m 87 m = 0 ∧ (if ρ5 83 30 = 0 then v else 0) = v ∧ (if ρ5 83 30 = 0 then v else ρ5 83 32) = v) ∨ (tp_S ρ5 m 87 m ≠ 0 ∧ (if ρ5 83 30 = 0 then v else 0) = tp_S ρ5 m 88 m ∧ (if ρ5 83 30 = 0 then v else ρ5 83 32) = tp_S ρ5 m 89 m) := by
        rw [tp_87, tp_88, tp_89]
        by_cases q : ρ5 83 30 = 0
        · rw [if_pos q, if_pos q]
          exact Or.inl ⟨q, rfl, rfl⟩
        · rw [if_neg q, if_neg q]
          refine Or.inr ⟨q, ?_, rfl⟩
          have n2 := i6.1
          by_cases q1 : ρ5 83 30 = 1
          · exact (i6.2 q1).1.symm
          · exact (htx (by omega)).2.2.2.1.symm
      have hn5 : xn_R b σ5 (tp_S ρ5 m) (j5 - 1 + 1) := by
        have e1 : j5 - 1 + 1 = j5 := by omega
        rw [e1]
        exact hna
      have hzz : 0 ≤ zz_b b σ5 (tp_S ρ5 m) := by
        have q1 := va'.2.2.2.2.1.2.1
        have q2 := va'.2.2.2.2.2.1.2.2.1
        unfold zz_b
        omega
      have ss := ss_row (B := B) (j := j5 - 1) (j6 := j6) hb (xs_hg xa) hn5 (by omega) f6 tf7 n7 so8 f9 hw t89 R9 ⟨m0, by omega⟩ ⟨by omega, k7⟩ k93 ⟨k91, k91'⟩ hvv hzz ⟨by omega, by omega⟩ ⟨va'.2.2.2.2.2.2.2.2.1.2.2.2.2.2.2.1, va'.2.2.2.2.2.2.2.2.1.2.2.2.2.2.2.2.1, va'.2.2.2.2.2.2.2.2.1.2.2.2.2.2.2.2.2.1⟩
      exact Or.inl ⟨js_up σ9 s 13 1, js_up ρ9 99 m 1, j6 + 1, ρ7 83 33, _, rfl, rfl, sr_va hb hx hm hm4 va' ss⟩
    · have n9 : ¬ js_w (ρ9 83 9) = 0 := by have := rx_F_9 hF9; omega
      rw [kt_57_170 (by omega) c9, b_214_131, if_neg n9]
      exact Or.inr ⟨ρ9, ρ7 83 33, rfl, lift ⟨hF9, eg_R_trans (N' := tp_S ρ5 m 83 33) G58 (eg_R_t9 t89) (Int.le_refl _), σ8, rfl, F58⟩⟩
  · have hFF : rx_F (js_up ρ6 94 m 0) := rx_F_na hF6 (by decide)
    have tf7 : tf_R (tp_S ρ5 m) (js_up ρ6 94 m 0) := fun a i g => by
      by_cases q : a = 94 ∧ i = m
      · rw [q.1, q.2, js_up_same, t94]
      · rw [js_up_ne _ q, vf6 _ _ (by omega) q]
    have e9 : js_up ρ6 94 m 0 83 9 = ρ6 83 9 := js_up_na _ (by decide)
    rw [k_214_66 (by omega) (r_nextF hF6.1 hF6.2.1), b_214_69, wm, if_pos gm, k_214_88 (by omega) (r_nodeF hFF), b_214_91, r_214_128F hFF (by omega), kt_57_73 hb (by omega) c6]
    exact Or.inr ⟨js_up ρ6 94 m 0, 0, rfl, lift ⟨hFF, eg_R_tf tf7, σ6, by rw [e9], ef_R_cf f6⟩⟩
/-- var -/
theorem y_var (hb : b = 0 ∨ b = 25) (hx : ux_R E b F B U X σ ρ) (hn : xn_R b σ ρ j) (hR : rd_R σ ρ j) (h5 : ρ 83 5 = 305) (ht : σ (8 + b) 10 ≤ 12 * ρ 83 10) (hp : σ (23 + b) 15 ≤ 6 * ρ 83 10) (hd : 4 * (65 - ρ 83 10) + 26 ≤ (d : Int)) (he : 12 * (65 - ρ 83 10) + 27 ≤ (e : Int)) : sq_P E b F B U X σ ρ j (js_J E d 57 0 [(2, 22 + b), (9, 0), (9, 0)] [] σ) (js_J E e 214 0 [(2, 83), (9, 0), (9, 0)] [] ρ) := by
  have D1 := hR.2.2.2.2.2
  rcases y_vhead (E := E) (d := d) (e := e) hb hx hR h5 (by omega) (by omega) with ⟨σ5, ρ5, j5, s, ec, er, hv⟩ | ⟨ρ', er, hf⟩
  · have m4 : ρ 83 11 < 400 := by
      have k := hv.1.1.1.2.1
      have k2 := hv.2.2.2.2.1.1
      omega
    rw [ec, er]
    by_cases q : ρ5 92 (ρ 83 11) = 0
    · exact y_var1 hb hx hn rfl m4 hv q ht hp hd he
    · exact y_varR hb hx hn rfl m4 hv q hp D1 (by omega) (by omega)
  · rw [er]
    exact Or.inr ⟨ρ', -1, rfl, hf⟩
end SK
