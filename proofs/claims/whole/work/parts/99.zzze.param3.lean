/-! part 99.zzze: the loop of the parameters -/
section FC
variable {E : js_E} {d e : Nat} {b : Int} {σ0 ρ0 σ ρ : js_S} {j : Nat}
theorem pa_k3 {m n : Int} {ρ2 ρ3 : js_S} (h0 : 0 ≤ m) (n0 : 0 ≤ n) (h11 : ρ 83 11 = m + 1 + n) (hk : kx_R ρ (m + 1) (m + 1 + n) (fun i => i = m)) (hp : ∀ i : Int, m < i → i < m + 1 + n → ρ 86 i = 5) (h99 : ρ 99 m = 0) (m11 : ρ3 83 11 = m + 1 + n + 1) (x86 : ρ2 86 (m + 1 + n) = 5) (x99 : ρ2 99 (m + 1 + n) = 0) (hgr : ∀ a i : Int, 86 ≤ a → a ≤ 99 → a ≠ 98 → i ≠ m + 1 + n → ρ2 a i = ρ a i) (t3 : ∀ a i : Int, 86 ≤ a → ρ3 a i = ρ2 a i) : kx_R ρ3 (m + 1) (m + 1 + n) (fun i => i = m ∨ i = m + 1 + n) := by
  have o : ∀ a i : Int, 86 ≤ a → a ≤ 99 → a ≠ 98 → i ≠ m + 1 + n → ρ3 a i = ρ a i := fun a i g1 g2 g3 g4 => by rw [t3 _ _ g1, hgr _ _ g1 g2 g3 g4]
  refine ⟨Or.inr (fun i g1 g2 => ?_), fun i hi => ?_, fun i g1 g2 g3 g4 => ?_⟩
  · by_cases q : i = m + 1 + n
    · rw [q, t3 _ _ (by decide)]
      exact x86
    · rw [o 86 i (by decide) (by decide) (by decide) q]
      exact hp i (by omega) (by omega)
  · unfold sy_S
    rcases hi with hi | hi
    · rw [hi, if_neg (by omega), o 99 m (by decide) (by decide) (by decide) (by omega), h99]
      decide
    · rw [hi, if_neg (by omega), t3 _ _ (by decide), x99]
      decide
  · have q : i ≠ m + 1 + n := fun hh => g3 (Or.inr hh)
    rw [o 86 i (by decide) (by decide) (by decide) q] at g4
    rw [o 87 i (by decide) (by decide) (by decide) q, o 89 i (by decide) (by decide) (by decide) q, o 91 i (by decide) (by decide) (by decide) q]
    exact hk.2.2 i g1 (by omega) (fun hh => g3 (Or.inl hh)) g4
/-- behind the TYPE of a parameter -/
theorem pa_tail {m s n x : Int} {τ ρ2 σ4 ρ4 : js_S} {j4 : Nat} (hb : b = 0 ∨ b = 25) (hI : pa_I E b m s n σ0 ρ0 σ ρ) (hn8 : n < 8) (hg : gt_R E.1 b (m + 1) (m + 1 + n) (m + 1 + n) 5 x (fun i => i = m) σ ρ τ ρ2) (hR4 : rd_R σ4 ρ4 j4) (hY4 : sy_Y E.1 σ4 ρ4 b (m + 1) (m + 1 + n) (fun i => i = m ∨ i = m + 1 + n)) (ctf : ∀ a i : Int, ¬ (a = 1 ∧ (i = 1 ∨ i = 2 ∨ i = 3 ∨ i = 11)) → a ≠ 2 → ¬ (a = 21 + b ∧ 0 ≤ i ∧ i ≤ 2) → ¬ (a = x ∧ 2 ≤ i ∧ i ≤ 4) → σ4 a i = τ a i) (tf24 : tf_R ρ2 ρ4) (s2 : σ4 x 2 = ρ4 83 30) (s3 : σ4 x 3 = ρ4 83 31) (s4 : σ4 x 4 = ρ4 83 32) (hin : ty_in ρ4) (hd : 2 ≤ d) (he : 2 ≤ e) : ∃ σ' ρ' : js_S, js_J E d 53 44 [(2, 6 + b), (2, s), (2, x)] [] σ4 = js_r0 E σ' ∧ js_J E e 206 81 [(2, 83), (0, m), (0, n), (0, m + 1 + n), (9, 0)] [] ρ4 = js_J E e 206 94 [(2, 83), (0, m), (0, n), (0, m + 1 + n), (9, 0)] [] ρ' ∧ rd_R σ' ρ' j4 ∧ pa_I E b m s (n + 1) σ0 ρ0 σ' ρ' ∧ ρ' 83 10 = ρ 83 10 := by
  have hI' := hI
  have hg' := hg
  have h0 := hI.2.1.1.1
  have n0 := hI.2.1.1.2.1
  have hds := hI.2.2.1.1
  have h19 := hI.2.2.1.2
  have s6 := hI.2.2.2.1.2.2.2.2.2.2.1
  have hc1 := hI.2.2.2.2.2.2.1.1
  have h22 := hI.2.2.2.2.2.2.2.2.1.1
  have h9 := hI.2.2.2.2.2.2.2.2.1.2
  clear hI
  obtain ⟨_, fr2, dm2, xds, x19, ⟨nl, xn⟩, xne, ⟨_, hm4⟩, m11, _, hgr, _⟩ := hg
  have xn6 := xn.2.2.2.2.2.2.1
  clear xn
  have gx := js_sym_ge xds
  have gs := js_sym_ge hds
  have sx : s ≠ x := fun hh => xne m (by omega) (by omega) (by rw [h19]; exact hh)
  clear xne
  have o94 : ρ4 83 9 = 0 := hR4.2.2.1.2.2.1
  have cm1 : ∀ i : Int, σ4 (-1) i = τ (-1) i := fun i => ctf _ _ (by omega) (by omega) (by omega) (by omega)
  have cs : ∀ k : Int, σ4 s k = τ s k := fun k => ctf _ _ (by omega) (by omega) (by omega) (by omega)
  have cx : ∀ k : Int, ¬ (2 ≤ k ∧ k ≤ 4) → σ4 x k = τ x k := fun k hk => ctf _ _ (by omega) (by omega) (by omega) (by omega)
  have cl : ∀ a i : Int, a = 8 + b ∨ a = 22 + b → σ4 a i = σ a i := fun a i g => by rw [ctf _ _ (by omega) (by omega) (by omega) (by omega), dm2.1 _ _ (by omega) (by omega) (by omega) (by omega) (by omega)]
  have ts : ∀ k : Int, τ s k = σ s k := fun k => by
    have a := (dm2.2 m h0 (by omega)).2 k
    rw [h19] at a
    exact a
  have x4 : js_desc E.1 σ4 x = some (0, 11, js_sym) := js_desc_mono xds (by rw [cm1]; exact Int.le_refl _) (fun _ => cx _ (by decide))
  have s4d : js_desc E.1 σ4 s = some (0, 11, js_sym) := js_desc_mono hds (by rw [cm1]; exact fr2.2.2.2.2.1) (fun _ => by rw [cs, ts])
  have x5 : js_desc E.1 (pc_S σ4 b x) x = some (0, 11, js_sym) := js_desc_mono x4 (by rw [pc_o (by omega) (by omega)]; exact Int.le_refl _) (fun _ => pc_o (by omega) (by omega))
  have s5d : js_desc E.1 (pc_S σ4 b x) s = some (0, 11, js_sym) := js_desc_mono s4d (by rw [pc_o (by omega) (by omega)]; exact Int.le_refl _) (fun _ => pc_o (by omega) (by omega))
  have l9 : σ4 (8 + b) 9 = n := by
    rw [cl _ _ (Or.inl rfl)]
    exact h9
  have l8 : σ4 (8 + b) 8 = σ0 (8 + b) 8 := by
    rw [cl _ _ (Or.inl rfl)]
    exact hc1 _ _ (by omega) (by omega) (by omega) (by omega) (by omega) (by omega) (by omega) (by omega)
  have l22 : σ4 (22 + b) 0 = m := by
    rw [cl _ _ (Or.inr rfl)]
    exact h22
  have lx6 : σ4 x 6 = 1 := by
    rw [cx _ (by decide)]
    exact xn6
  have ls6 : σ4 s 6 = n := by
    rw [cs, ts]
    exact s6
  clear hc1 cl ts cs
  have z6 : js_up (pc_S σ4 b x) x 13 1 s 6 = n := by rw [js_up_na _ sx, pc_o (by omega) (by omega), ls6]
  rw [b_53_44 hb, k_53_49 hb (by omega) (pc_54 hb x4), b_53_52 x5 s5d, z6, b_206_81, o94, if_neg (show ¬ 0 < js_w 0 by decide), k_206_91 (by omega) (r_tp ⟨by omega, by omega⟩)]
  have c6 : ∀ a i : Int, ¬ (a = x ∧ (i = 5 ∨ i = 7 ∨ i = 11 ∨ i = 13)) → ¬ (a = 8 + b ∧ i = 9) → ¬ (a = s ∧ i = 6) → js_up (js_up (pc_S σ4 b x) x 13 1) s 6 (n + 1) a i = σ4 a i := fun a i g1 g2 g3 => by rw [js_up_ne _ g3, js_up_ne _ (by omega), pc_o (by omega) g2]
  have x8 : x ≠ 8 + b := by omega
  have y5 : js_up (js_up (pc_S σ4 b x) x 13 1) s 6 (n + 1) x 5 = n := by rw [js_up_na _ (Ne.symm sx), js_up_ni _ (by decide), pc_5 (by omega), l9]
  have y7 : js_up (js_up (pc_S σ4 b x) x 13 1) s 6 (n + 1) x 7 = m := by rw [js_up_na _ (Ne.symm sx), js_up_ni _ (by decide), pc_7 (by omega), l22]
  have y11 : js_up (js_up (pc_S σ4 b x) x 13 1) s 6 (n + 1) x 11 = σ0 (8 + b) 8 := by rw [js_up_na _ (Ne.symm sx), js_up_ni _ (by decide), pc_11 (by omega), l8]
  have y13 : js_up (js_up (pc_S σ4 b x) x 13 1) s 6 (n + 1) x 13 = 1 := by rw [js_up_na _ (Ne.symm sx), js_up_same]
  have y9 : js_up (js_up (pc_S σ4 b x) x 13 1) s 6 (n + 1) (8 + b) 9 = n + 1 := by rw [js_up_na _ (by omega), js_up_na _ (by omega), pc_9, l9, lx6]
  have y6 : js_up (js_up (pc_S σ4 b x) x 13 1) s 6 (n + 1) s 6 = n + 1 := js_up_same _ _ _ _
  generalize js_up (js_up (pc_S σ4 b x) x 13 1) s 6 (n + 1) = σ6 at c6 y5 y7 y11 y13 y9 y6 ⊢
  have hR6 : rd_R σ6 (tp_S ρ4 (m + 1 + n)) j4 := rd_R_of hR4 (fun i _ => c6 _ _ (by omega) (by omega) (by omega)) (fun a i _ _ => c6 _ _ (by omega) (by omega) (by omega)) (fun i _ _ => tp_o (by omega)) (fun i => tp_o (by omega))
  exact ⟨σ6, _, rfl, rfl, hR6, pa_step hb hI' hn8 hg' hY4 ctf tf24 s2 s3 s4 hin c6 y5 y7 y11 y13 y9 y6, by rw [tp_o (by omega), tf24 _ _ (by omega), hgr _ _ (by omega) (by omega) (by omega)]⟩
/-- a fault in the TYPE of a parameter -/
theorem pa_tyF {x q : Int} {X : Int → Prop} {u v : Int} {τ σ4 ρ2 : js_S} (hb : b = 0 ∨ b = 25) (hY2 : sy_Y E.1 τ ρ2 b u v X) (hq : 0 ≤ q ∧ q < 400) (x19 : τ (19 + b) q = x) (gx : 137 ≤ x) (ctf : ∀ a i : Int, ¬ (a = 1 ∧ (i = 1 ∨ i = 2 ∨ i = 3 ∨ i = 11)) → a ≠ 2 → ¬ (a = 21 + b ∧ 0 ≤ i ∧ i ≤ 2) → ¬ (a = x ∧ 2 ≤ i ∧ i ≤ 4) → σ4 a i = τ a i) : fr_R b τ σ4 ∧ sy_H E.1 σ4 b ∧ cx_n σ4 := by
  have cm1 : ∀ i : Int, σ4 (-1) i = τ (-1) i := fun i => ctf _ _ (by omega) (by omega) (by omega) (by omega)
  refine ⟨fr_R_of hb (fun a i g1 g2 g3 g4 => ?_), fun i g1 g2 => ?_, ?_⟩
  · have a1 := g4 q hq.1 hq.2
    rw [x19] at a1
    exact ctf a i (by omega) g2 (by omega) (by omega)
  · have e19 : σ4 (19 + b) i = τ (19 + b) i := ctf _ _ (by omega) (by omega) (by omega) (by omega)
    rw [e19]
    rcases hY2.2.2.2.1 i g1 g2 with h | ⟨h1, h2⟩
    · exact Or.inl h
    · have ge := js_sym_ge h1
      have k : ∀ k : Int, k < 2 ∨ 4 < k → σ4 (τ (19 + b) i) k = τ (τ (19 + b) i) k := fun k hk => ctf _ _ (by omega) (by omega) (by omega) (by omega)
      refine Or.inr ⟨js_desc_mono h1 (by rw [cm1]; exact Int.le_refl _) (fun _ => k _ (by omega)), ?_⟩
      rw [k _ (by omega)]
      exact h2
  · have a := hY2.2.2.1
    unfold cx_n at a ⊢
    rw [cm1, cm1]
    exact a
theorem y_param {m s n : Int} {ux3 : js_v} (hb : b = 0 ∨ b = 25) (hI : pa_I E b m s n σ0 ρ0 σ ρ) (hR : rd_R σ ρ j) (h41 : ρ 83 5 ≠ 41) (hd : 14 ≤ d) (he : 14 ≤ e) : (∃ (σ' ρ' : js_S) (j' : Nat), js_J E d 53 0 [(2, 6 + b), (2, s), (9, 0)] [] σ = js_r0 E σ' ∧ js_J E e 206 33 [(2, 83), (0, m), (0, n), ux3, (9, 0)] [] ρ = js_J E e 206 94 [(2, 83), (0, m), (0, n), (0, m + 1 + n), (9, 0)] [] ρ' ∧ rd_R σ' ρ' j' ∧ j < j' ∧ n < 8 ∧ pa_I E b m s (n + 1) σ0 ρ0 σ' ρ' ∧ ρ' 83 10 = ρ 83 10) ∨ (∃ ρ' : js_S, js_J E e 206 33 [(2, 83), (0, m), (0, n), ux3, (9, 0)] [] ρ = js_r0 E ρ' ∧ sF_P E b σ0 ρ0 ρ' (js_J E d 53 0 [(2, 6 + b), (2, s), (9, 0)] [] σ)) := by
  have hI' := hI
  obtain ⟨⟨hY, hk⟩, ⟨⟨h0, n0, n8, h11, h400⟩, h26, h44⟩, ⟨hds, h19⟩, hs, hr, hfr, ⟨hc1, hc2⟩, hgf, ⟨h22, h9⟩, hp⟩ := hI
  have hok := hR.2.2.1
  have o9 : ρ 83 9 = 0 := hok.2.2.1
  have pl := rd_place hR
  have hV := (rd_V hR).1
  have hrf := pa_rf hI'
  have hs1 := hY.1
  have w5 : js_w (ρ 83 5) = ρ 83 5 := by
    unfold tk_V at hV
    exact js_w_of (by omega) (by omega)
  have s6 : σ s 6 = n := hs.2.2.2.2.2.2.1
  have hr99 := hr.2.2.2.2.2.2.2
  clear hs hr hc1 hc2 hgf
  have t58 : tk_m 58 = 58 := by decide
  rw [b_206_33, o9, if_pos (show js_w 0 = 0 from rfl), w5, if_neg h41, js_w_of (x := n) (by omega) (by omega), b_53_0 hb hds, s6, js_w_of (x := n) (by omega) (by omega)]
  by_cases q8 : n = 8
  · have hin := rx_tm_in ρ (m + 1)
    have hF := rx_bad1 hok (k := rx_tm ρ (m + 1)) (by omega) (by omega)
    have ct := y_tell_full (E := E) (d := d - 1) (k := 5) (pp := m + 1) hb hY hR (by omega) (Or.inr ⟨rfl, by omega, by omega, by omega⟩)
    obtain ⟨ρ', e1, f1⟩ := r_206_62F (E := E) (e := e) (m := m) (n := n) (ux3 := ux3) hF.1 (rs_ok_bad hs1) (by omega) (by omega)
    rw [if_pos q8, k_206_59 (by omega) (r_tooMany hok hs1 (by omega) (by omega) (by omega)), e1, if_neg (show ¬ n < 8 by omega), b_53_19 hb, kt_53_23 hb (by omega) ct]
    have f0 : sF_P E b σ0 ρ0 (rx_bad ρ (rx_tm ρ (m + 1)) (ρ 83 6)) (th_P E σ (rx_bad ρ (rx_tm ρ (m + 1)) (ρ 83 6) 83 9)) := ⟨rf_R_trans hrf (rf_R_tf (tf_R_bad _ _ _)), hF.1, by rw [rx_bad_o _ _ _ (by omega)]; omega, by rw [rx_bad_o _ _ _ (by omega)]; omega, σ, rfl, hfr, hY.2.2.2.1, hY.2.2.1⟩
    rw [hF.2] at f0
    exact Or.inr ⟨ρ', rfl, sF_fw f0 f1⟩
  · rw [if_neg q8, b_206_62, if_pos (show n < 8 by omega), b_53_19 hb]
    rcases y_gtell (E := E) (d := d - 1) (e := e - 1) (k := 5) (pp := m + 1) hb hY hR (by omega) (by omega) (by decide) (by decide) (Or.inr ⟨rfl, by omega, by omega, by omega⟩) (by omega) with ⟨τ, ρ2, x, j2, ec, er, hR2, hj2, hg⟩ | ⟨ρ2, ec, er, hF2, tf2⟩
    · rw [h11] at er hg
      have hg' := hg
      obtain ⟨hY2, fr2, dm2, xds, x19, ⟨nl, xn⟩, xne, ⟨_, hm4⟩, m11, xr, hgr, t71⟩ := hg
      have gx := js_sym_ge xds
      have x86 := xr.1
      have x99 := xr.2.2.2.2.2.2.2.2.2
      have xn0 := xn.1
      clear xr xn xne
      have rf2 : rf_R ρ0 ρ2 := rf_R_trans hrf (fun a i g1 g2 => hgr a i (by omega) (by omega) (by omega))
      rw [k_53_23 hb (by omega) ec, b_53_26 hb, k_206_67 (by omega) er, b_206_70]
      obtain ⟨ρ3, e3, t3, hor3⟩ := y_take (E := E) (d := d - 1) (e := e - 1) (k := 58) hY2.2.2.1 hR2 (by omega) (by omega) (by unfold tk_V; omega) (by decide)
      rw [t58] at hor3
      have x311 : ρ3 83 11 = m + 1 + n + 1 := by rw [t3 _ _ (by omega)]; exact m11
      have rf3 : rf_R ρ0 ρ3 := rf_R_trans rf2 (fun a i g1 g2 => t3 a i (by omega))
      rw [k_206_74 (by omega) e3]
      rcases hor3 with ⟨σ3, j3, c3, hR3, f3, hj3⟩ | ⟨hF3, c3⟩
      · subst hj3
        have hY3 : sy_Y E.1 σ3 ρ3 b (m + 1) (m + 1 + n) (fun i => i = m ∨ i = m + 1 + n) := sy_Y_of hY2 (fun a i hh => f3 a i (by omega) (by omega)) (by rw [x311, m11]) (fun a i _ _ => t3 _ _ (by omega))
        have x3 : js_desc E.1 σ3 x = some (0, 11, js_sym) := js_desc_mono xds (by rw [f3 _ _ (by omega) (by omega)]; exact Int.le_refl _) (fun _ => f3 _ _ (by omega) (by omega))
        have x30 : σ3 x 0 = m + 1 + n := by rw [f3 _ _ (by omega) (by omega)]; exact xn0
        have hk3 := pa_k3 h0 n0 h11 hk (fun i g1 g2 => (hp i g1 g2).1.1) hr99 x311 x86 x99 (fun a i g1 g2 g3 g4 => hgr a i (by omega) (by omega) (by omega)) (fun a i g1 => t3 a i (by omega))
        obtain ⟨ρ4, e4, tf4, hor4⟩ := y_type (E := E) (d := d - 1) (e := e - 1) hb hY3 hR3 (by omega) (by omega) hk3 (n := m + 1 + n) (Or.inr rfl) x3 x30
        rw [k_53_33 (by omega) c3, b_53_36 hb, b_206_77, k_206_78 (by omega) e4]
        have x411 : ρ4 83 11 = m + 1 + n + 1 := by rw [tf4 _ _ (by omega)]; exact x311
        have rf4 : rf_R ρ0 ρ4 := rf_R_trans rf3 (rf_R_tf tf4)
        rcases hor4 with ⟨σ4, j4, c4, hR4, hY4, hj4, ty4, s2, s3, s4, hin, htx⟩ | ⟨hF4, σ4, c4, ty4⟩
        · obtain ⟨σ6, ρ6, e6, e6', hR6, hI6, h10⟩ := pa_tail (d := d) (e := e) hb hI' (by omega) hg' hR4 hY4 (fun a i g1 g2 g3 g4 => by rw [ty4 a i g1 g2 g3 g4, f3 a i (by omega) g2]) (fun a i g => by rw [tf4 a i g, t3 a i (by omega)]) s2 s3 s4 hin (by omega) (by omega)
          rw [k_53_41 hb (by omega) c4, e6, e6']
          exact Or.inl ⟨σ6, ρ6, j4, rfl, rfl, hR6, by omega, by omega, hI6, h10⟩
        · obtain ⟨frt, sh4, cn4⟩ := pa_tyF (E := E) (σ4 := σ4) (ρ2 := ρ2) hb hY2 ⟨by omega, hm4⟩ x19 gx (fun a i g1 g2 g3 g4 => by rw [ty4 a i g1 g2 g3 g4, f3 a i (by omega) g2])
          have f0 : sF_P E b σ0 ρ0 ρ4 (th_P E σ4 (ρ4 83 9)) := ⟨rf4, hF4, by omega, by omega, σ4, rfl, fr_R_trans hfr (fr_R_trans fr2 frt), sh4, cn4⟩
          rw [kt_53_41 hb (by omega) c4, b_206_81, if_pos (rx_F_9 hF4)]
          exact Or.inr ⟨ρ4, rfl, f0⟩
      · obtain ⟨ρ', e1, f1⟩ := r_206_77F (E := E) (e := e) (m := m) (n := n) (x3 := m + 1 + n) hF3 (by omega)
        have f0 : sF_P E b σ0 ρ0 ρ3 (th_P E τ (ρ3 83 9)) := ⟨rf3, hF3, by omega, by omega, τ, rfl, fr_R_trans hfr fr2, hY2.2.2.2.1, hY2.2.2.1⟩
        rw [kt_53_33 (by omega) c3, e1]
        exact Or.inr ⟨ρ', rfl, sF_fw f0 f1⟩
    · obtain ⟨ρ', e1, f1⟩ := r_206_70F (E := E) (e := e) (m := m) (n := n) (ux3 := ux3) (z := 0) hF2 (by omega)
      have x211 : ρ2 83 11 = m + 1 + n := by rw [tf2 _ _ (by omega)]; exact h11
      have f0 : sF_P E b σ0 ρ0 ρ2 (th_P E σ (ρ2 83 9)) := ⟨rf_R_trans hrf (rf_R_tf tf2), hF2, by omega, by omega, σ, rfl, hfr, hY.2.2.2.1, hY.2.2.1⟩
      rw [kt_53_23 hb (by omega) ec, k_206_67 (by omega) er, e1]
      exact Or.inr ⟨ρ', rfl, sF_fw f0 f1⟩
/-- what stands behind the parameters: class at ), reference at ) -/
theorem y_params {m s : Int} (hb : b = 0 ∨ b = 25) (hd : 15 ≤ d) (he : 14 ≤ e) : ∀ (g : Nat) (n : Int) (σ ρ : js_S) (j : Nat) (ux3 : js_v), (g : Int) = 9 - n → pa_I E b m s n σ0 ρ0 σ ρ → rd_R σ ρ j → ρ 83 5 ≠ 41 → (∃ (σ' ρ' : js_S) (j' : Nat) (n' y : Int) (vx : js_v), js_J E d 52 80 [(2, 6 + b), (2, s), (0, 1), (0, n)] [] σ = js_J E d 52 130 [(2, 6 + b), (2, s), (0, 0), (0, y)] [] σ' ∧ js_J E e 206 33 [(2, 83), (0, m), (0, n), ux3, (9, 0)] [] ρ = js_J E e 206 136 [(2, 83), (0, m), (0, n'), vx, (9, 0)] [] ρ' ∧ rd_R σ' ρ' j' ∧ j < j' ∧ ρ' 83 5 = 41 ∧ pa_I E b m s n' σ0 ρ0 σ' ρ' ∧ ρ' 83 10 = ρ 83 10) ∨ (∃ ρ' : js_S, js_J E e 206 33 [(2, 83), (0, m), (0, n), ux3, (9, 0)] [] ρ = js_r0 E ρ' ∧ sF_P E b σ0 ρ0 ρ' (js_J E d 52 80 [(2, 6 + b), (2, s), (0, 1), (0, n)] [] σ)) := by
  intro g
  induction g with
  | zero =>
    intro n σ ρ j ux3 hg hI
    have := hI.2.1.1.2.2.1
    omega
  | succ g ih =>
    intro n σ ρ j ux3 hg hI hR h41
    have hnn := hI.2.1.1
    have nw := js_w_of (x := n) (by omega) (by omega)
    rw [b_52_80, nw, if_pos (show n < 1000000 by omega), if_neg (show ¬ js_w 1 = 0 by decide)]
    rcases y_param (E := E) (d := d - 1) (e := e) (ux3 := ux3) hb hI hR h41 (by omega) he with ⟨σ1, ρ1, j1, ec, er, hR1, hj1, hn8, hI1, hd1⟩ | ⟨ρ', er, hf⟩
    · have hV := (rd_V hR1).1
      have w5 : js_w (ρ1 83 5) = ρ1 83 5 := by
        unfold tk_V at hV
        exact js_w_of (by omega) (by omega)
      have h0 := hI1.2.1.1.1
      have h400 := hI1.2.1.1.2.2.2.2
      have h11 := hI1.2.1.1.2.2.2.1
      have hok1 := hR1.2.2.1
      have o91 : ρ1 83 9 = 0 := hok1.2.2.1
      have t44 : tk_m 44 = 44 := by decide
      have k44 := tkq hR1 (k := 44) (by unfold tk_V; omega)
      rw [t44] at k44
      have hYn := hI1.1.1.2.2.1
      have hfr1 := hI1.2.2.2.2.2.1
      have hrf1 := pa_rf hI1
      rw [k_52_92 hb (by omega) ec, b_52_95 hb, er, b_206_94, w5]
      by_cases q41 : ρ1 83 5 = 41
      · have n44 : ¬ js_w (σ1 1 1) = 44 := fun h => by
          have := k44.mp h
          omega
        rw [if_pos q41, if_neg n44, b_52_112 hb, if_pos (show js_w 0 = 0 from rfl), b_52_124, b_52_80, js_w_of (x := n + 1) (by omega) (by omega), if_pos (show n + 1 < 1000000 by omega), if_pos (show js_w 0 = 0 from rfl), b_206_33, o91, if_pos (show js_w 0 = 0 from rfl), w5, if_pos q41]
        exact Or.inl ⟨σ1, ρ1, j1, n + 1, n + 1, _, rfl, rfl, hR1, hj1, q41, hI1, hd1⟩
      · rw [if_neg q41]
        have e2 := r_take (E := E) (d := e - 1) (k := 44) hok1 (by omega) (by decide) (by decide)
        by_cases q44 : ρ1 83 5 = 44
        · have c44 := k44.mpr q44
          obtain ⟨σ2, j2, c2, hR2, f2, _, hj2⟩ := y_next (E := E) (d := d - 1) hR1
          have hj2' := hj2 (by omega)
          subst hj2'
          clear hj2
          rw [if_pos q44] at e2
          rw [k_206_112 (by omega) e2]
          have hI2 : pa_I E b m s (n + 1) σ0 ρ0 σ2 (rx_next ρ1) := pa_tk hb hI1 (fun a i g1 g2 => f2 a i (by omega) g2) (fun a i g => rx_next_o _ (by omega))
          have hok2 := hR2.2.2.1
          have hV2 := (rd_V hR2).1
          have w52 : js_w (rx_next ρ1 83 5) = rx_next ρ1 83 5 := by
            unfold tk_V at hV2
            exact js_w_of (by omega) (by omega)
          rw [if_pos c44, b_52_112 hb, if_neg (show ¬ js_w 1 = 0 by decide), k_52_121 (by omega) c2, b_52_124, b_206_115, w52]
          by_cases q2 : rx_next ρ1 83 5 = 41
          · have hF := rx_bad1 hok2 (k := 1) (by decide) (by decide)
            have hpl := rd_place hR2
            have ht : ¬ js_w (σ2 1 1) = 2 := fun h => by
              have := (tkq hR2 (k := 2) (by unfold tk_V; omega)).mp (by rw [h]; decide)
              omega
            obtain ⟨ρ', e1, f1⟩ := r_206_33F (E := E) (e := e) (m := m) (n := n + 1) (ux3 := (0, m + 1 + n)) hF.1 (by omega) (by omega)
            have r2 := hR2.2.2.1
            have hY2 := hI2.1.1
            have hs2 := hI2.2.2.2.1
            have s2d := hI2.2.2.1.1
            have b2 := hI2.2.1.1
            have tf1 : rx_tf (rx_next ρ1) (m + 1) = 1 := by
              unfold rx_tf
              rw [if_pos (by omega)]
            have tm1 : rx_tm (rx_next ρ1) (m + 1) = 1 := by
              unfold rx_tm
              rw [if_pos (by omega)]
            have cls : js_J E (d - 1) 53 0 [(2, 6 + b), (2, s), (9, 0)] [] σ2 = th_P E σ2 (1 + 16 * rx_next ρ1 83 6) := by
              rw [b_53_0 hb s2d, hs2.2.2.2.2.2.2.1, js_w_of (x := n + 1) (by omega) (by omega)]
              by_cases q9 : n + 1 < 8
              · have ct := y_tell_T (E := E) (d := d - 1 - 1) (k := 5) (pp := m + 1) hb hY2 hR2 (by omega) (Or.inr ⟨rfl, by omega, by omega, by omega⟩) (by rw [tf1]; decide)
                rw [tf1] at ct
                rw [if_pos q9, b_53_19 hb, kt_53_23 hb (by omega) ct]
                rfl
              · have ct := y_tell_full (E := E) (d := d - 1 - 1) (k := 5) (pp := m + 1) hb hY2 hR2 (by omega) (Or.inr ⟨rfl, by omega, by omega, by omega⟩)
                rw [tm1] at ct
                rw [if_neg q9, b_53_19 hb, kt_53_23 hb (by omega) ct]
            rw [if_pos q2, k_206_130 (by omega) (r_bad (by have := hok2.2.2.1; omega) (by have := hok2.2.2.1; omega)), b_206_133, e1, b_52_80, js_w_of (x := n + 1) (by omega) (by omega), if_pos (show n + 1 < 1000000 by omega), if_neg (show ¬ js_w 1 = 0 by decide), kt_52_92 hb (by omega) cls]
            have f0 : sF_P E b σ0 ρ0 (rx_bad (rx_next ρ1) 1 (rx_next ρ1 83 6)) (th_P E σ2 (rx_bad (rx_next ρ1) 1 (rx_next ρ1 83 6) 83 9)) := ⟨rf_R_trans (pa_rf hI2) (rf_R_tf (tf_R_bad _ _ _)), hF.1, by rw [rx_bad_o _ _ _ (by omega)]; omega, by rw [rx_bad_o _ _ _ (by omega)]; omega, σ2, rfl, hI2.2.2.2.2.2.1, hY2.2.2.2.1, hY2.2.2.1⟩
            rw [hF.2] at f0
            exact Or.inr ⟨ρ', rfl, sF_fw f0 f1⟩
          · rw [if_neg q2, b_206_133]
            rcases ih (n + 1) σ2 (rx_next ρ1) (j1 + 1) (0, m + 1 + n) (by push_cast at hg ⊢; omega) hI2 hR2 q2 with ⟨σ3, ρ3, j3, n', y, vx, ec3, er3, hR3, hj3, h5, hI3, hd3⟩ | ⟨ρ', er3, hf⟩
            · exact Or.inl ⟨σ3, ρ3, j3, n', y, vx, ec3, er3, hR3, by omega, h5, hI3, by rw [hd3, rx_next_o _ (by omega), hd1]⟩
            · exact Or.inr ⟨ρ', er3, hf⟩
        · have n44 : ¬ js_w (σ1 1 1) = 44 := fun h => q44 (k44.mp h)
          have hF := rx_bad1 hok1 (k := 1) (by decide) (by decide)
          rw [if_neg q44] at e2
          obtain ⟨ρ', e1, f1⟩ := r_206_115F (E := E) (e := e) (m := m) (n := n + 1) (x3 := m + 1 + n) hF.1 (by omega) (by omega)
          have cl : js_J E (d - 1) 48 0 [(2, 1), (0, 41)] [] σ1 = th_P E σ1 (1 + 16 * ρ1 83 6) := by
            obtain ⟨hV1, c7, c8⟩ := rd_V hR1
            have n41 : σ1 1 1 ≠ 41 := fun h => q41 ((tkq hR1 (k := 41) (by unfold tk_V; omega)).mp (by rw [h]; decide))
            have r1 := tk_m_in hV1
            rw [c_closeT hYn (by omega) n41 (by omega) (by omega) (by decide) (by decide), c8]
            rfl
          rw [k_206_112 (by omega) e2, if_neg n44, b_52_112 hb, if_pos (show js_w 0 = 0 from rfl), b_52_124, b_52_80, js_w_of (x := n + 1) (by omega) (by omega), if_pos (show n + 1 < 1000000 by omega), if_pos (show js_w 0 = 0 from rfl), b_52_130 hb, kt_52_136 (by omega) cl, e1]
          have f0 : sF_P E b σ0 ρ0 (rx_bad ρ1 1 (ρ1 83 6)) (th_P E σ1 (rx_bad ρ1 1 (ρ1 83 6) 83 9)) := ⟨rf_R_trans hrf1 (rf_R_tf (tf_R_bad _ _ _)), hF.1, by rw [rx_bad_o _ _ _ (by omega)]; omega, by rw [rx_bad_o _ _ _ (by omega)]; omega, σ1, rfl, hfr1, hI1.1.1.2.2.2.1, hYn⟩
          rw [hF.2] at f0
          exact Or.inr ⟨ρ', rfl, sF_fw f0 f1⟩
    · obtain ⟨a1, a2, a3, a4, σz, a5, a6⟩ := hf
      rw [er, kt_52_92 hb (by omega) a5]
      exact Or.inr ⟨ρ', rfl, a1, a2, a3, a4, σz, rfl, a6⟩
end FC
