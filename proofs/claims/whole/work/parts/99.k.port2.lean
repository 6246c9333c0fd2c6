/-! part 99.k: ports in step -/
theorem H_pf {M b s : Int} {τ σ : js_S} (hb : b = 0 ∨ b = 25) (hH : sy_H M τ b) (hn : cx_n τ) (h : pf_R b s τ σ) (hs : 137 ≤ s) : sy_H M σ b ∧ cx_n σ := by
  have hm : ∀ i : Int, σ (-1) i = τ (-1) i := fun i => h _ _ (by omega) (by omega) (by omega) (by omega) (by omega)
  refine ⟨fun i hi hi2 => ?_, by rw [hm]; exact hn.1, by rw [hm]; exact hn.2⟩
  rw [h (19 + b) i (by omega) (by omega) (by omega) (by omega) (by omega)]
  rcases hH i hi hi2 with g | ⟨g1, g2⟩
  · exact Or.inl g
  · have ge := js_sym_ge g1
    refine Or.inr ⟨js_desc_mono g1 (by rw [hm]; exact Int.le_refl _) (fun _ => h _ _ (by omega) (by omega) (by omega) (by omega) (by omega)), ?_⟩
    rw [h _ 0 (by omega) (by omega) (by omega) (by omega) (by omega)]
    exact g2
section PO
variable {E : js_E} {d e : Nat} {σ ρ : js_S} {b : Int}
theorem dt_of {m k s : Int} {σ1 ρ1 τ ρ2 σ' ρ' : js_S} {R : Option (Outcome × ip_W)} (hb : b = 0 ∨ b = 25) (ht : td_R E.1 b m k s σ1 ρ1 τ ρ2) (fr0 : fr_R b σ σ1) (hp : pf_R b s τ σ') (h11 : ρ' 83 11 = m + 1) (hF : rx_F ρ') (hRR : R = th_P E σ' (ρ' 83 9)) : dt_P E b σ ρ' R := by
  obtain ⟨a1, a2, a3, a4, a5, a6, a7, a8, a9, m0, m4, a12, a13, a14, a15, a16, a17, a18, a19, a20, a21⟩ := ht
  have hge := js_sym_ge a6
  have hh := H_pf hb a1.2.2.2.1 a1.2.2.1 hp hge
  exact ⟨hF, by omega, by omega, σ', hRR, fr_R_trans fr0 (fr_R_trans a3 (fr_R_pf hb m0 m4 a7 hge hp)), hh.1, hh.2⟩
/-- what a port has done -/
def po_P (E : js_E) (b k : Int) (σ ρ ρ' : js_S) (j : Nat) (R : Option (Outcome × ip_W)) : Prop := ∃ (σ' : js_S) (j' : Nat), R = js_r0 E σ' ∧ rd_R σ' ρ' j' ∧ dc_R E.1 σ' ρ' b ∧ j < j' ∧ fr_R b σ σ' ∧ (∀ a i : Int, 6 + b ≤ a → a ≤ 30 + b → a ≠ 19 + b → a ≠ 20 + b → a ≠ 21 + b → a ≠ 7 + b → σ' a i = σ a i) ∧ (∀ i : Int, 0 ≤ i → i < ρ 83 11 → σ' (19 + b) i = σ (19 + b) i ∧ ∀ k : Int, σ' (σ (19 + b) i) k = σ (σ (19 + b) i) k) ∧ ρ' 83 11 = ρ 83 11 + 1 ∧ ρ' 86 (ρ 83 11) = k ∧ 1 ≤ ρ' 91 (ρ 83 11) ∧ (ρ' 91 (ρ 83 11) ≤ 4096 ∧ (ρ' 92 (ρ 83 11) = 0 ∨ ρ' 92 (ρ 83 11) = 1)) ∧ (-2000000000 ≤ ρ' 88 (ρ 83 11) ∧ ρ' 88 (ρ 83 11) ≤ ρ' 89 (ρ 83 11) ∧ ρ' 89 (ρ 83 11) ≤ 2000000000 ∧ ty_b (ρ' 87 (ρ 83 11)) (ρ' 88 (ρ 83 11)) (ρ' 89 (ρ 83 11))) ∧ (k ≠ 1 → ρ' 88 (ρ 83 11) ≤ ρ' 94 (ρ 83 11) ∧ ρ' 94 (ρ 83 11) ≤ ρ' 89 (ρ 83 11)) ∧ σ' (σ' (19 + b) (ρ 83 11)) 5 = σ (7 + b) 2 ∧ σ' (σ' (19 + b) (ρ 83 11)) 9 = 0 ∧ σ' (σ' (19 + b) (ρ 83 11)) 11 = -1 ∧ σ' (7 + b) 2 = σ (7 + b) 2 + ρ' 91 (ρ 83 11) ∧ σ' (7 + b) 5 = σ (7 + b) 5 + (if k = 1 then ρ' 91 (ρ 83 11) else 0) ∧ σ' (7 + b) 6 = σ (7 + b) 6 + (if k = 2 then ρ' 91 (ρ 83 11) else 0) ∧ (∀ i : Int, i = 0 ∨ i = 3 ∨ i = 4 ∨ 7 ≤ i → σ' (7 + b) i = σ (7 + b) i) ∧ (∀ a i : Int, 86 ≤ a → a ≤ 97 → i ≠ ρ 83 11 → ρ' a i = ρ a i) ∧ gf_R ρ ρ'
/-- a port to its end, told in the words of po_P -/
theorem y_port_e {m k s : Int} {σ1 ρ1 τ ρ2 σ9 ρ9 : js_S} (hb : b = 0 ∨ b = 25) (hm : m = ρ1 83 11) (hD1 : dc_R E.1 σ1 ρ1 b) (ht : td_R E.1 b m k s σ1 ρ1 τ ρ2) (hp : pf_R b s τ σ9) (hq : qf_R m ρ2 ρ9) (h10 : ρ9 83 10 = ρ2 83 10) (hY : sy_Y E.1 σ9 ρ9 b 0 0 (fun i => False ∨ i = m)) {j j9 : Nat} (hj : j < j9) (hR : rd_R σ9 ρ9 j9) (hF : sy_F σ9 ρ9 b m) (hk : k = 1 ∨ k = 2 ∨ k = 3) (hd : 8 ≤ d) (he : 4 ≤ e) {x1 : Int} (v5 : σ9 s 5 = σ1 (7 + b) 2) (v9 : σ9 s 9 = 0) (v11 : σ9 s 11 = -1) (c2 : σ9 (7 + b) 2 = σ1 (7 + b) 2 + ρ9 91 m) (c5 : σ9 (7 + b) 5 = σ1 (7 + b) 5 + (if k = 1 then ρ9 91 m else 0)) (c6 : σ9 (7 + b) 6 = σ1 (7 + b) 6 + (if k = 2 then ρ9 91 m else 0)) (b1 : 1 ≤ ρ9 91 m) (b2 : ρ9 91 m ≤ 4096 ∧ (ρ9 92 m = 0 ∨ ρ9 92 m = 1)) (b3 : -2000000000 ≤ ρ9 88 m ∧ ρ9 88 m ≤ ρ9 89 m ∧ ρ9 89 m ≤ 2000000000 ∧ ty_b (ρ9 87 m) (ρ9 88 m) (ρ9 89 m)) (b4 : k ≠ 1 → ρ9 88 m ≤ ρ9 94 m ∧ ρ9 94 m ≤ ρ9 89 m) : ∃ ρ' : js_S, js_J E e 197 211 [(2, 83), (0, x1), (0, m)] [] ρ9 = js_r0 E ρ' ∧ rf_R ρ1 ρ' ∧ (po_P E b k σ1 ρ1 ρ' j (js_J E d 45 139 [(2, 6 + b), (0, k), (2, s)] [] σ9) ∨ dt_P E b σ1 ρ' (js_J E d 45 139 [(2, 6 + b), (0, k), (2, s)] [] σ9)) := by
  obtain ⟨ρ', e1, rf1, hor⟩ := y_pend (E := E) (d := d) (e := e) (x1 := x1) (x1' := k) hb ht hp hq hY hR hF (by omega) hd he
  obtain ⟨a1, a2, a3, a4, a5, a6, a7, a8, a9, m0, m4, a12, a13, a14, a15, a16, a17, a18, a19, a20, a21⟩ := ht
  have hge := js_sym_ge a6
  refine ⟨ρ', e1, rf1, ?_⟩
  rcases hor with ⟨σ', j', r1, r2, r3, r4, r5, r6, r7⟩ | h
  · refine Or.inl ⟨σ', j', r1, r2, r3, by omega, r5, ?_⟩
    rw [← hm]
    have p19 : ∀ i : Int, σ' (19 + b) i = τ (19 + b) i := fun i => by rw [r6 _ _ (by omega) (by omega) (by omega), hp _ _ (by omega) (by omega) (by omega) (by omega) (by omega)]
    have w91 : ρ' 91 m = ρ9 91 m := r7 _ _ (by omega) (by omega)
    have w92 : ρ' 92 m = ρ9 92 m := r7 _ _ (by omega) (by omega)
    refine ⟨fun a i g1 g2 g3 g4 g5 g6 => ?_, fun i g1 g2 => ?_, ?_, ?_, by rw [w91]; exact b1, by rw [w91, w92]; exact b2, ?_, fun h => ?_, ?_, ?_, ?_, ?_, ?_, ?_, fun i hi => ?_, fun a i g1 g2 g3 => ?_, fun a i hh => ?_⟩
    · rw [r6 _ _ (by omega) (by omega) (by omega), hp _ _ (by omega) (by omega) (by omega) (by omega) (by omega)]
      exact a5.1 a i g1 g2 g3 g4 g5 (by omega)
    · have hA := js_sym_ge (hD1.1.2.2.2.2.2.1 i g1 (by omega)).1
      have hz := a5.2 i g1 g2
      have hne := a9 i g1 g2
      refine ⟨by rw [p19]; exact hz.1, fun q => ?_⟩
      rw [r6 _ _ (by omega) (by omega) (by omega), hp _ _ (by omega) (by omega) (by omega) (by omega) (by omega)]
      exact hz.2 q
    · rw [r7 _ _ (by omega) (by omega), hq _ _ (by omega) (by omega)]
      exact a12
    · rw [r7 _ _ (by omega) (by omega), hq _ _ (by omega) (by omega)]
      exact a14
    · rw [r7 88 _ (by omega) (by omega), r7 89 _ (by omega) (by omega), r7 87 _ (by omega) (by omega)]
      exact b3
    · rw [r7 88 _ (by omega) (by omega), r7 89 _ (by omega) (by omega), r7 94 _ (by omega) (by omega)]
      exact b4 h
    · rw [p19, a7, r6 _ _ (by omega) (by omega) (by omega)]
      exact v5
    · rw [p19, a7, r6 _ _ (by omega) (by omega) (by omega)]
      exact v9
    · rw [p19, a7, r6 _ _ (by omega) (by omega) (by omega)]
      exact v11
    · rw [r6 _ _ (by omega) (by omega) (by omega), w91]
      exact c2
    · rw [r6 _ _ (by omega) (by omega) (by omega), w91]
      exact c5
    · rw [r6 _ _ (by omega) (by omega) (by omega), w91]
      exact c6
    · rw [r6 _ _ (by omega) (by omega) (by omega), hp _ _ (by omega) (by omega) (by omega) (by omega) (by omega)]
      exact a5.1 _ _ (by omega) (by omega) (by omega) (by omega) (by omega) (by omega)
    · rw [r7 _ _ (by omega) (by omega), hq _ _ (by omega) (by omega)]
      exact a21.1 a i g1 g2 g3
    · rw [r7 _ _ (by omega) (by omega)]
      by_cases q : a = 83 ∧ i = 10
      · rw [q.1, q.2, h10]
        exact a21.2 _ _ (by omega)
      · rw [hq _ _ (by omega) (by omega)]
        exact a21.2 a i hh
  · exact Or.inr h
/-- behind TYPE -/
theorem y_port2 {m k s : Int} {σ1 ρ1 τ ρ2 σ5 ρ5 : js_S} (hb : b = 0 ∨ b = 25) (hm : m = ρ1 83 11) (hD1 : dc_R E.1 σ1 ρ1 b) (ht : td_R E.1 b m k s σ1 ρ1 τ ρ2) (hp : pf_R b s τ σ5) (hq : qf_R m ρ2 ρ5) (h10 : ρ5 83 10 = ρ2 83 10) (hY : sy_Y E.1 σ5 ρ5 b 0 0 (fun i => False ∨ i = m)) {j j5 : Nat} (hj : j < j5) (hR : rd_R σ5 ρ5 j5) (hk : k = 1 ∨ k = 2 ∨ k = 3) (hd : 12 ≤ d) (he : 8 ≤ e) (s2 : σ5 s 2 = ρ5 83 30) (s3 : σ5 s 3 = ρ5 83 31) (s4 : σ5 s 4 = ρ5 83 32) (hin : ty_in ρ5) (l6 : σ5 s 6 = ρ5 91 m) (l12 : σ5 s 12 = ρ5 92 m) (b1 : 1 ≤ ρ5 91 m) (b2 : ρ5 91 m ≤ 4096 ∧ (ρ5 92 m = 0 ∨ ρ5 92 m = 1)) (u7 : σ5 s 7 = -1) (u8 : σ5 s 8 = 0) (u9 : σ5 s 9 = 0) (u10 : σ5 s 10 = 0) (u11 : σ5 s 11 = -1) (w93 : ρ5 93 m = -1) (w94 : ρ5 94 m = 0) (w96 : ρ5 96 m = 0) (z7 : ∀ i : Int, i ≠ 1 → σ5 (7 + b) i = σ1 (7 + b) i) : ∃ ρ' : js_S, js_J E e 197 173 [(2, 83), (0, 301 + k), (0, m)] [] ρ5 = js_r0 E ρ' ∧ rf_R ρ1 ρ' ∧ (po_P E b k σ1 ρ1 ρ' j (js_J E d 45 46 [(2, 6 + b), (0, k), (2, s)] [] σ5) ∨ dt_P E b σ1 ρ' (js_J E d 45 46 [(2, 6 + b), (0, k), (2, s)] [] σ5)) := by
  have ht' := ht
  obtain ⟨a1, a2, a3, a4, a5, a6, a7, ⟨nn, a8⟩, a9, m0, m4, a12, a13, a14, a15, a16, a17, a18, a19, a20, a21⟩ := ht
  obtain ⟨n0, n1, n2, n3, n4, n5, n6, n7, n8, n9, n10, n11, n12, n13, n14⟩ := a8
  have hge := js_sym_ge a6
  have x5 : js_desc E.1 σ5 s = some (0, 11, js_sym) := js_desc_mono a6 (by rw [hp _ _ (by omega) (by omega) (by omega) (by omega) (by omega)]; exact Int.le_refl _) (fun _ => hp _ _ (by omega) (by omega) (by omega) (by omega) (by omega))
  have x50 : σ5 s 0 = m := by rw [hp _ _ (by omega) (by omega) (by omega) (by omega) (by omega)]; exact n0
  have u1 : σ5 s 1 = k := by rw [hp _ _ (by omega) (by omega) (by omega) (by omega) (by omega)]; exact n1
  have p19 : σ5 (19 + b) m = s := by rw [hp _ _ (by omega) (by omega) (by omega) (by omega) (by omega)]; exact a7
  have w86 : ρ5 86 m = k := by rw [hq _ _ (by omega) (by omega)]; exact a14
  have h9 := hR.2.2.1.2.2.1
  have hset : js_J E (e - 1) 210 0 [(2, 83), (0, m)] [] ρ5 = js_r0 E (js_up (js_up (js_up ρ5 87 m (ρ5 83 30)) 88 m (ρ5 83 31)) 89 m (ρ5 83 32)) := by
    rw [b_210_0, js_w_of (by omega) (by omega), if_pos ⟨m0, m4⟩]
  rw [b_197_173, h9, if_pos (show js_w 0 = 0 from rfl), k_197_182 (by omega) hset, b_197_185, js_w_of (x := 301 + k) (by omega) (by omega), b_45_46 hb x5, js_w_of (x := k) (by omega) (by omega)]
  have y87 : js_up (js_up (js_up ρ5 87 m (ρ5 83 30)) 88 m (ρ5 83 31)) 89 m (ρ5 83 32) 87 m = ρ5 83 30 := by rw [js_up_na _ (by decide), js_up_na _ (by decide), js_up_same]
  have y88 : js_up (js_up (js_up ρ5 87 m (ρ5 83 30)) 88 m (ρ5 83 31)) 89 m (ρ5 83 32) 88 m = ρ5 83 31 := by rw [js_up_na _ (by decide), js_up_same]
  have y89 : js_up (js_up (js_up ρ5 87 m (ρ5 83 30)) 88 m (ρ5 83 31)) 89 m (ρ5 83 32) 89 m = ρ5 83 32 := js_up_same _ _ _ _
  have yO : ∀ a i : Int, ¬ (87 ≤ a ∧ a ≤ 89) → js_up (js_up (js_up ρ5 87 m (ρ5 83 30)) 88 m (ρ5 83 31)) 89 m (ρ5 83 32) a i = ρ5 a i := fun a i h => by rw [js_up_na _ (by omega), js_up_na _ (by omega), js_up_na _ (by omega)]
  have q6 : qf_R m ρ2 (js_up (js_up (js_up ρ5 87 m (ρ5 83 30)) 88 m (ρ5 83 31)) 89 m (ρ5 83 32)) := qf_R_trans hq (qf_R_trans (qf_R_trans (qf_R_up (by decide) (by decide)) (qf_R_up (by decide) (by decide))) (qf_R_up (by decide) (by decide)))
  obtain ⟨i1, i2, i3, i4, i5, i6⟩ := hin
  have hY6 : sy_Y E.1 σ5 (js_up (js_up (js_up ρ5 87 m (ρ5 83 30)) 88 m (ρ5 83 31)) 89 m (ρ5 83 32)) b 0 0 (fun i => False ∨ i = m) := sy_Y_rx2 (n := m) hY (Or.inr rfl) (yO _ _ (by omega)) (fun a i h1 h2 h3 => by rw [js_up_ne _ (by omega), js_up_ne _ (by omega), js_up_ne _ (by omega)]) (fun hlt => by
    have hv := hY.2.1 m m0 hlt
    rw [y87, yO 94 _ (by omega)]
    omega)
  have hR6 : rd_R σ5 (js_up (js_up (js_up ρ5 87 m (ρ5 83 30)) 88 m (ρ5 83 31)) 89 m (ρ5 83 32)) j5 := rd_R_of hR (fun _ _ => rfl) (fun _ _ _ _ => rfl) (fun i _ _ => yO _ _ (by omega)) (fun i => yO _ _ (by omega))
  generalize js_up (js_up (js_up ρ5 87 m (ρ5 83 30)) 88 m (ρ5 83 31)) 89 m (ρ5 83 32) = ρ6 at y87 y88 y89 yO q6 hY6 hR6 ⊢
  -- the class gives it its cell
  have hY7 := sy_Y_set (k := 5) (v := σ5 (7 + b) 2) hb hY6 (Or.inr rfl) x5 x50 (by decide) (by decide)
  have t0 : ∀ i : Int, i ≠ 5 → (js_up (js_up σ5 s 5 (σ5 (7 + b) 2)) (7 + b) 2 (σ5 (7 + b) 2 + σ5 s 6)) s i = σ5 s i := fun i h => by rw [js_up_na _ (by omega), js_up_ni _ h]
  have t5 : (js_up (js_up σ5 s 5 (σ5 (7 + b) 2)) (7 + b) 2 (σ5 (7 + b) 2 + σ5 s 6)) s 5 = σ5 (7 + b) 2 := by rw [js_up_na _ (by omega), js_up_same]
  have tO : ∀ a i : Int, a ≠ s → a ≠ 7 + b → (js_up (js_up σ5 s 5 (σ5 (7 + b) 2)) (7 + b) 2 (σ5 (7 + b) 2 + σ5 s 6)) a i = σ5 a i := fun a i h1 h2 => by rw [js_up_na _ h2, js_up_na _ h1]
  have t7 : (js_up (js_up σ5 s 5 (σ5 (7 + b) 2)) (7 + b) 2 (σ5 (7 + b) 2 + σ5 s 6)) (7 + b) 2 = σ5 (7 + b) 2 + σ5 s 6 := js_up_same _ _ _ _
  have t7O : ∀ i : Int, i ≠ 2 → (js_up (js_up σ5 s 5 (σ5 (7 + b) 2)) (7 + b) 2 (σ5 (7 + b) 2 + σ5 s 6)) (7 + b) i = σ5 (7 + b) i := fun i h => by rw [js_up_ni _ h, js_up_na _ (by omega)]
  have p6 : pf_R b s τ (js_up (js_up σ5 s 5 (σ5 (7 + b) 2)) (7 + b) 2 (σ5 (7 + b) 2 + σ5 s 6)) := pf_R_trans hp (pf_R_trans (pf_R_s (by decide) (by decide)) (pf_R_7 (Or.inl rfl)))
  have hY8 : sy_Y E.1 (js_up (js_up σ5 s 5 (σ5 (7 + b) 2)) (7 + b) 2 (σ5 (7 + b) 2 + σ5 s 6)) ρ6 b 0 0 (fun i => False ∨ i = m) := sy_Y_of hY7 (fun a i h => js_up_ne _ (by omega)) rfl (fun _ _ _ _ => rfl)
  have hR8 : rd_R (js_up (js_up σ5 s 5 (σ5 (7 + b) 2)) (7 + b) 2 (σ5 (7 + b) 2 + σ5 s 6)) ρ6 j5 := rd_R_of hR6 (fun i _ => tO _ _ (by omega) (by omega)) (fun a i _ _ => tO _ _ (by omega) (by omega)) (fun _ _ _ => rfl) (fun _ => rfl)
  generalize js_up (js_up σ5 s 5 (σ5 (7 + b) 2)) (7 + b) 2 (σ5 (7 + b) 2 + σ5 s 6) = σ8 at t0 t5 tO t7 t7O p6 hY8 hR8 ⊢
  by_cases k1 : k = 1
  · rw [if_pos k1, if_pos (show 301 + k = 302 by omega)]
    have x9 : js_desc E.1 (js_up σ8 (7 + b) 5 (σ5 (7 + b) 5 + σ5 s 6)) s = some (0, 11, js_sym) := by
      have := (hY8.2.2.2.2.2.1 m m0 (by rw [q6 _ _ (by omega) (by omega), a12]; omega)).1
      rw [tO _ _ (by omega) (by omega), p19] at this
      rw [js_desc_up (by omega) (fun _ => by decide)]
      exact this
    rw [b_45_118 hb x9, js_w_of (x := k) (by omega) (by omega), if_neg (show ¬ k = 2 by omega)]
    have g : ∀ i : Int, js_up σ8 (7 + b) 5 (σ5 (7 + b) 5 + σ5 s 6) s i = σ8 s i := fun i => js_up_na _ (by omega)
    refine y_port_e hb hm hD1 ht' (pf_R_trans p6 (pf_R_7 (Or.inr (Or.inl rfl)))) q6 (by rw [yO _ _ (by omega)]; exact h10) (sy_Y_of hY8 (fun a i h => js_up_ne _ (by omega)) rfl (fun _ _ _ _ => rfl)) hj (rd_R_of hR8 (fun i _ => js_up_na _ (by omega)) (fun a i _ _ => js_up_na _ (by omega)) (fun _ _ _ => rfl) (fun _ => rfl)) ?_ hk (by omega) (by omega) ?_ ?_ ?_ ?_ ?_ ?_ (by rw [yO _ _ (by omega)]; exact b1) (by rw [yO 91 _ (by omega), yO 92 _ (by omega)]; exact b2) (by rw [y88, y89, y87]; exact ⟨i3, i4, i5, i6⟩) (fun h => absurd k1 h)
    · unfold sy_F
      rw [js_up_na (b := 19 + b) _ (by omega), tO _ _ (by omega) (by omega), p19, g, g, g, g, g, g, g, g, g, t0 1 (by decide), t0 2 (by decide), t0 3 (by decide), t0 4 (by decide), t0 6 (by decide), t0 7 (by decide), t0 8 (by decide), t0 10 (by decide), t0 12 (by decide), y87, y88, y89, yO 86 _ (by omega), yO 91 _ (by omega), yO 92 _ (by omega), yO 93 _ (by omega), yO 94 _ (by omega), yO 96 _ (by omega), w86, w93, w94, w96]
      exact ⟨u1, s2, s3, s4, l6, u7, u8, u10, l12⟩
    · rw [g, t5, z7 _ (by decide)]
    · rw [g, t0 9 (by decide)]; exact u9
    · rw [g, t0 11 (by decide)]; exact u11
    · rw [js_up_ni _ (by decide), t7, z7 _ (by decide), l6, yO _ _ (by omega)]
    · rw [js_up_same, z7 _ (by decide), l6, yO _ _ (by omega), if_pos k1]
    · rw [js_up_ni _ (by decide), t7O _ (by decide), z7 _ (by decide), if_neg (show ¬ k = 2 by omega)]
      omega
  · rw [if_neg k1, if_neg (show ¬ 301 + k = 302 by omega)]
    obtain ⟨ρ7, e7, o7, hor7⟩ := y_take (E := E) (d := d - 1) (e := e - 1) (k := 61) hY8.2.2.1 hR8 (by omega) (by omega) (by unfold tk_V; omega) (by decide)
    have t61 : tk_m 61 = 61 := by decide
    rw [t61] at hor7
    rw [k_197_195 (by omega) e7]
    have q7 : qf_R m ρ2 ρ7 := qf_R_trans q6 (qf_R_t9 o7)
    have tf7 : tf_R ρ6 ρ7 := fun a i h => o7 a i (by omega)
    have m7 : ρ7 83 11 = m + 1 := by rw [q7 _ _ (by omega) (by omega)]; exact a12
    rcases hor7 with ⟨σ7, j7, c7, hR7, f7, hj7⟩ | ⟨hF7, c7⟩
    · have hY7' := sy_Y_cf hb hY8 (cf_R_fr f7) tf7
      have p7 : pf_R b s τ σ7 := pf_R_trans p6 (pf_R_tk f7)
      have x7 : js_desc E.1 σ7 s = some (0, 11, js_sym) := js_desc_mono a6 (by rw [p7 _ _ (by omega) (by omega) (by omega) (by omega) (by omega)]; exact Int.le_refl _) (fun _ => p7 _ _ (by omega) (by omega) (by omega) (by omega) (by omega))
      have x70 : σ7 s 0 = m := by rw [p7 _ _ (by omega) (by omega) (by omega) (by omega) (by omega)]; exact n0
      have s7 : ∀ i : Int, σ7 s i = σ8 s i := fun i => f7 _ _ (by omega) (by omega)
      have r7 : ∀ a : Int, 86 ≤ a → ρ7 a m = ρ6 a m := fun a h => o7 _ _ (by omega)
      rw [k_45_103 (by omega) c7, b_45_106 hb, b_197_198]
      obtain ⟨r203, ρ8, e216, vf8, hor8⟩ := y_readFor (E := E) (d := d - 1) (e := e - 1) hb hY7' hR7 (by omega) (by omega) (kx_R_qf a2 (Or.inr rfl) q7) (n := m) (x := s) (Or.inr rfl) m0 m4 (by omega) x7 x70 (by rw [s7, t0 2 (by decide), r7 87 (by decide), y87]; exact s2) (by rw [s7, t0 3 (by decide), r7 88 (by decide), y88]; exact s3) (by rw [s7, t0 4 (by decide), r7 89 (by decide), y89]; exact s4) (by rw [r7 88 (by decide), y88]; omega) (by rw [r7 89 (by decide), y89]; omega)
      rw [r7 88 (by decide), y88, r7 89 (by decide), y89] at hor8
      rw [k_197_199 (by omega) r203, b_197_202, k_197_204 (by omega) e216]
      have q8 : qf_R m ρ2 ρ8 := qf_R_trans q7 (qf_R_vf vf8)
      rcases hor8 with ⟨hok8, σ9, j9, c9, hR9, hY9, f9, hj9, lo, hi, _⟩ | ⟨hF8, σ9, c9, f9⟩
      · rw [b_197_207, k_197_208 (by omega) (r_next' hok8 (by omega)), k_45_112 hb (by omega) c9]
        have q9 : qf_R m ρ2 (rx_next ρ8) := qf_R_trans q8 (qf_R_tf (tf_R_next _))
        have h109 : rx_next ρ8 83 10 = ρ2 83 10 := by
          rw [rx_next_o _ (by omega), vf8 _ _ (by omega) (by omega), o7 _ _ (by omega), yO _ _ (by omega)]
          exact h10
        have x9 := sy_x_cf hb x7 f9
        have r9 : ∀ a : Int, 86 ≤ a → a ≠ 94 → rx_next ρ8 a m = ρ6 a m := fun a h h2 => by rw [rx_next_o _ (by omega), vf8 _ _ (by omega) (by omega), r7 a h]
        have r94 : rx_next ρ8 94 m = ρ8 94 m := rx_next_o _ (by omega)
        rw [b_45_115 x9.1, ← r94]
        rw [← r94] at lo hi
        generalize rx_next ρ8 = ρ9 at hR9 hY9 q9 r9 r94 lo hi h109 ⊢
        have hYA := sy_Y_set (k := 8) (v := ρ9 94 m) hb hY9 (Or.inr rfl) x9.1 (by rw [x9.2]; exact x70) (by decide) (by decide)
        have hRA : rd_R (js_up σ9 s 8 (ρ9 94 m)) ρ9 j9 := rd_R_of hR9 (fun i _ => js_up_na _ (by omega)) (fun a i _ _ => js_up_na _ (by omega)) (fun _ _ _ => rfl) (fun _ => rfl)
        have pA : pf_R b s τ (js_up σ9 s 8 (ρ9 94 m)) := pf_R_trans p7 (pf_R_trans (pf_R_cf f9) (pf_R_s (by decide) (by decide)))
        have xA : js_desc E.1 (js_up σ9 s 8 (ρ9 94 m)) s = some (0, 11, js_sym) := by rw [js_desc_up (by omega) (fun _ => by decide)]; exact x9.1
        have gA : ∀ i : Int, i ≠ 8 → js_up σ9 s 8 (ρ9 94 m) s i = σ8 s i := fun i h => by rw [js_up_ni _ h, x9.2, s7]
        have g8 : js_up σ9 s 8 (ρ9 94 m) s 8 = ρ9 94 m := js_up_same _ _ _ _
        have gO : ∀ i : Int, js_up σ9 s 8 (ρ9 94 m) (7 + b) i = σ8 (7 + b) i := fun i => by rw [js_up_na _ (by omega), f9 _ _ (by omega) (by omega) (by omega), f7 _ _ (by omega) (by omega)]
        have g19 : js_up σ9 s 8 (ρ9 94 m) (19 + b) m = s := by rw [js_up_na _ (by omega), f9 _ _ (by omega) (by omega) (by omega), f7 _ _ (by omega) (by omega), tO _ _ (by omega) (by omega)]; exact p19
        generalize js_up σ9 s 8 (ρ9 94 m) = σA at hYA hRA pA xA gA g8 gO g19 ⊢
        have hFA : ∀ σB : js_S, (∀ i : Int, σB s i = σA s i) → σB (19 + b) m = s → sy_F σB ρ9 b m := fun σB h1 h2 => by
          unfold sy_F
          rw [h2, h1, h1, h1, h1, h1, h1, h1, h1, h1, gA 1 (by decide), gA 2 (by decide), gA 3 (by decide), gA 4 (by decide), gA 6 (by decide), gA 7 (by decide), g8, gA 10 (by decide), gA 12 (by decide), t0 1 (by decide), t0 2 (by decide), t0 3 (by decide), t0 4 (by decide), t0 6 (by decide), t0 7 (by decide), t0 10 (by decide), t0 12 (by decide), r9 86 (by decide) (by decide), r9 87 (by decide) (by decide), r9 88 (by decide) (by decide), r9 89 (by decide) (by decide), r9 91 (by decide) (by decide), r9 92 (by decide) (by decide), r9 93 (by decide) (by decide), r9 96 (by decide) (by decide), y87, y88, y89, yO 86 _ (by omega), yO 91 _ (by omega), yO 92 _ (by omega), yO 93 _ (by omega), yO 96 _ (by omega), w86, w93, w96]
          exact ⟨u1, s2, s3, s4, l6, u7, rfl, u10, l12⟩
        have e91 : ρ9 91 m = ρ5 91 m := by rw [r9 91 (by decide) (by decide), yO _ _ (by omega)]
        have e92 : ρ9 92 m = ρ5 92 m := by rw [r9 92 (by decide) (by decide), yO _ _ (by omega)]
        have e87 : ρ9 87 m = ρ5 83 30 := by rw [r9 87 (by decide) (by decide), y87]
        have e88 : ρ9 88 m = ρ5 83 31 := by rw [r9 88 (by decide) (by decide), y88]
        have e89 : ρ9 89 m = ρ5 83 32 := by rw [r9 89 (by decide) (by decide), y89]
        rw [b_45_118 hb xA, js_w_of (x := k) (by omega) (by omega)]
        by_cases k2 : k = 2
        · rw [if_pos k2]
          have g : ∀ i : Int, js_up σA (7 + b) 6 (σA (7 + b) 6 + σA s 6) s i = σA s i := fun i => js_up_na _ (by omega)
          refine y_port_e hb hm hD1 ht' (pf_R_trans pA (pf_R_7 (Or.inr (Or.inr rfl)))) q9 h109 (sy_Y_of hYA (fun a i h => js_up_ne _ (by omega)) rfl (fun _ _ _ _ => rfl)) (show j < j9 by omega) (rd_R_of hRA (fun i _ => js_up_na _ (by omega)) (fun a i _ _ => js_up_na _ (by omega)) (fun _ _ _ => rfl) (fun _ => rfl)) (hFA _ g (by rw [js_up_na _ (by omega)]; exact g19)) hk (by omega) (by omega) ?_ ?_ ?_ ?_ ?_ ?_ (by omega) (by omega) (by rw [e88, e89, e87]; exact ⟨i3, i4, i5, i6⟩) (fun _ => by omega)
          · rw [g, gA 5 (by decide), t5, z7 _ (by decide)]
          · rw [g, gA 9 (by decide), t0 9 (by decide)]; exact u9
          · rw [g, gA 11 (by decide), t0 11 (by decide)]; exact u11
          · rw [js_up_ni _ (by decide), gO, t7, z7 _ (by decide), l6, e91]
          · rw [js_up_ni _ (by decide), gO, t7O _ (by decide), z7 _ (by decide), if_neg k1]
            omega
          · rw [js_up_same, gO, t7O _ (by decide), z7 _ (by decide), gA 6 (by decide), t0 6 (by decide), l6, e91, if_pos k2]
        · rw [if_neg k2]
          refine y_port_e hb hm hD1 ht' pA q9 h109 hYA (show j < j9 by omega) hRA (hFA _ (fun _ => rfl) g19) hk (by omega) (by omega) ?_ ?_ ?_ ?_ ?_ ?_ (by omega) (by omega) (by rw [e88, e89, e87]; exact ⟨i3, i4, i5, i6⟩) (fun _ => by omega)
          · rw [gA 5 (by decide), t5, z7 _ (by decide)]
          · rw [gA 9 (by decide), t0 9 (by decide)]; exact u9
          · rw [gA 11 (by decide), t0 11 (by decide)]; exact u11
          · rw [gO, t7, z7 _ (by decide), l6, e91]
          · rw [gO, t7O _ (by decide), z7 _ (by decide), if_neg k1]
            omega
          · rw [gO, t7O _ (by decide), z7 _ (by decide), if_neg k2]
            omega
      · rw [r_p207F hF8 (by omega), kt_45_112 hb (by omega) c9]
        exact ⟨ρ8, rfl, rf_R_trans a4 (rf_R_qf q8), Or.inr (dt_of hb ht' (fr_R_refl _ _) (pf_R_trans p7 (pf_R_cf f9)) (by rw [q8 _ _ (by omega) (by omega)]; exact a12) hF8 rfl)⟩
    · obtain ⟨ρ', e8, f8⟩ := r_p198F (E := E) (e := e) (x1 := 301 + k) hF7 (by omega) m0 m4
      rw [e8, kt_45_103 (by omega) c7]
      exact ⟨ρ', rfl, rf_R_trans a4 (rf_R_trans (rf_R_qf q7) f8.1), Or.inr (dt_of hb ht' (fr_R_refl _ _) p6 (by rw [f8.2.2.2]; exact m7) f8.2.1 (by rw [f8.2.2.1]))⟩
theorem po_conv {k : Int} {σ1 ρ1 ρ' : js_S} {j : Nat} {R : Option (Outcome × ip_W)} (hb : b = 0 ∨ b = 25) (hY : sy_Y E.1 σ ρ b 0 0 (fun _ => False)) (f1 : tk_fr σ σ1) (m1 : ρ1 83 11 = ρ 83 11) (o1 : ∀ a i : Int, 84 ≤ a → ρ1 a i = ρ a i) (o2 : gf_R ρ ρ1) (fr1 : fr_R b σ σ1) (h : po_P E b k σ1 ρ1 ρ' j R) : po_P E b k σ ρ ρ' j R := by
  obtain ⟨σ', j', r1, r2, r3, r4, r5, r6, r7, r8, r9, r10, r11, r12, r13, r14, r15, r16, r17, r18, r19, r20, r21, r22⟩ := h
  have s7 : ∀ i : Int, σ1 (7 + b) i = σ (7 + b) i := fun i => f1 _ _ (by omega) (by omega)
  rw [m1] at r7 r8 r9 r10 r11 r12 r13 r14 r15 r16 r17 r18 r19 r21
  rw [s7] at r14 r17 r18 r19
  refine ⟨σ', j', r1, r2, r3, r4, fr_R_trans fr1 r5, fun a i g1 g2 g3 g4 g5 g6 => ?_, fun i g1 g2 => ?_, r8, r9, r10, r11, r12, r13, r14, r15, r16, r17, r18, r19, fun i hi => ?_, fun a i g1 g2 g3 => ?_, fun a i hh => by rw [r22 a i hh]; exact o2 a i hh⟩
  · rw [r6 a i g1 g2 g3 g4 g5 g6]
    exact f1 _ _ (by omega) (by omega)
  · have z := r7 i g1 g2
    have y19 : σ1 (19 + b) i = σ (19 + b) i := f1 _ _ (by omega) (by omega)
    have hA := js_sym_ge (hY.2.2.2.2.2.1 i g1 g2).1
    rw [y19] at z
    refine ⟨z.1, fun q => ?_⟩
    rw [z.2 q]
    exact f1 _ _ (by omega) (by omega)
  · rw [r20 i hi]
    exact s7 i
  · rw [r21 a i g1 g2 g3]
    exact o1 a i (by omega)
/-- behind TYPE, at the reference's place 185 and the class's place 118 (in) -/
theorem y_port {k : Int} (hb : b = 0 ∨ b = 25) (hD : dc_R E.1 σ ρ b) {j : Nat} (hR : rd_R σ ρ j) (hd : 12 ≤ d) (he : 8 ≤ e) (hk : k = 1 ∨ k = 2 ∨ k = 3) (h5 : ρ 83 5 = 301 + k) : ∃ ρ' : js_S, js_J E e 197 0 [(2, 83), (9, 0), (9, 0)] [] ρ = js_r0 E ρ' ∧ rf_R ρ ρ' ∧ (po_P E b k σ ρ ρ' j (js_J E d 45 0 [(2, 6 + b), (0, k), (9, 0)] [] σ) ∨ dt_P E b σ ρ' (js_J E d 45 0 [(2, 6 + b), (0, k), (9, 0)] [] σ)) := by
  obtain ⟨hY, hkx, h26⟩ := hD
  have hok := hR.2.2.1
  obtain ⟨σ1, j1, e1, hR1, f1, hj1, hj1'⟩ := y_next (E := E) (d := d - 1) hR
  have hj1'' := hj1' (by omega)
  have t1 := tf_R_next ρ
  have hD1 : dc_R E.1 σ1 (rx_next ρ) b := ⟨sy_Y_cf hb hY (cf_R_fr f1) t1, kx_R_tf hkx t1, by rw [t1 _ _ (by omega)]; exact h26⟩
  have m1 : rx_next ρ 83 11 = ρ 83 11 := t1 _ _ (by omega)
  have o1 : ∀ a i : Int, 84 ≤ a → rx_next ρ a i = ρ a i := fun a i h => t1 _ _ (by omega)
  have fr1 := fr_R_tk hb f1
  have rk : js_J E e 197 9 [(2, 83), (0, ρ 83 5), (9, 0)] [] (rx_next ρ) = js_J E e 197 154 [(2, 83), (0, ρ 83 5), (9, 0)] [(0, -1), (0, k), (2, 83)] (rx_next ρ) := by
    rw [b_197_9, js_w_of (x := ρ 83 5) (by omega) (by omega), if_neg (by omega), if_neg (by omega), if_neg (by omega)]
    rcases hk with h | h | h
    · rw [if_pos (by omega), b_197_153, h]
    · rw [if_neg (by omega), if_pos (by omega), b_197_153, h]
    · rw [if_neg (by omega), if_neg (by omega), b_197_153, h]
  rw [b_197_0, k_197_6 (by omega) (r_next' hok (by omega)), rk, b_45_0 hb, k_45_4 (by omega) e1, b_45_7 hb]
  generalize rx_next ρ = ρ1 at hR1 t1 hD1 m1 o1 ⊢
  rcases y_dtell (E := E) (d := d - 1) (e := e - 1) (k := k) hb hD1 hR1 (by omega) (by omega) (by omega) (by omega) with ⟨τ, ρ2, s, j2, e2, rt, hR2, hj2, ht⟩ | ⟨ρ2, e2, rt, hF2, t2⟩
  · have ht' := ht
    obtain ⟨a1, a2, a3, a4, a5, a6, a7, ⟨nn, a8⟩, a9, m0, m4, a12, a13, a14, a15, a16, a17, a18, a19, a20, a21⟩ := ht
    obtain ⟨n0, n1, n2, n3, n4, n5, n6, n7, n8, n9, n10, n11, n12, n13, n14⟩ := a8
    have hge := js_sym_ge a6
    rw [k_197_154 (by omega) rt, b_197_157, k_45_17 hb (by omega) e2, b_45_20 hb]
    have rf2 : rf_R ρ ρ2 := rf_R_trans (rf_R_tf t1) a4
    obtain ⟨ρ3, e3, lf3, hor3⟩ := y_length (E := E) (d := d - 1) (e := e - 1) hb a1 hR2 (by omega) (by omega) a2 (n := ρ1 83 11) (Or.inr rfl) m0 m4 a6 n0 n6 a16 n12 a17
    have q3 : qf_R (ρ1 83 11) ρ2 ρ3 := qf_R_lf lf3
    have m3 : ρ3 83 11 = ρ1 83 11 + 1 := by rw [q3 _ _ (by omega) (by omega)]; exact a12
    rw [k_197_160 (by omega) e3]
    rcases hor3 with ⟨σ3, j3, c3, hR3, hY3, hj3, ln3, l6, l12, b1, b2, b3, hd5, _⟩ | ⟨hF3, σ3, c3, ln3⟩
    · rw [k_45_26 hb (by omega) c3, b_45_29 hb, b_197_163]
      obtain ⟨ρ4, e4, o4, hor4⟩ := y_take (E := E) (d := d - 1) (e := e - 1) (k := 58) hY3.2.2.1 hR3 (by omega) (by omega) (by unfold tk_V; omega) (by decide)
      have t58 : tk_m 58 = 58 := by decide
      rw [t58] at hor4
      have q4 : qf_R (ρ1 83 11) ρ2 ρ4 := qf_R_trans q3 (qf_R_t9 o4)
      have m4' : ρ4 83 11 = ρ1 83 11 + 1 := by rw [q4 _ _ (by omega) (by omega)]; exact a12
      rw [k_197_166 (by omega) e4]
      rcases hor4 with ⟨σ4, j4, c4, hR4, f4, hj4⟩ | ⟨hF4, c4⟩
      · have tf4 : tf_R ρ3 ρ4 := fun a i h => o4 a i (by omega)
        have hY4 := sy_Y_cf hb hY3 (cf_R_fr f4) tf4
        have p4 : pf_R b s τ σ4 := pf_R_trans (pf_R_lnf ln3) (pf_R_tk f4)
        have x4 : js_desc E.1 σ4 s = some (0, 11, js_sym) := js_desc_mono a6 (by rw [p4 _ _ (by omega) (by omega) (by omega) (by omega) (by omega)]; exact Int.le_refl _) (fun _ => p4 _ _ (by omega) (by omega) (by omega) (by omega) (by omega))
        have x40 : σ4 s 0 = ρ1 83 11 := by rw [p4 _ _ (by omega) (by omega) (by omega) (by omega) (by omega)]; exact n0
        rw [k_45_35 (by omega) c4, b_45_38 hb, b_197_169]
        obtain ⟨ρ5, e5, tf5, hor5⟩ := y_type (E := E) (d := d - 1) (e := e - 1) hb hY4 hR4 (by omega) (by omega) (kx_R_qf a2 (Or.inr rfl) q4) (n := ρ1 83 11) (Or.inr rfl) x4 x40
        have q5 : qf_R (ρ1 83 11) ρ2 ρ5 := qf_R_trans q4 (qf_R_tf tf5)
        have m5 : ρ5 83 11 = ρ1 83 11 + 1 := by rw [q5 _ _ (by omega) (by omega)]; exact a12
        rw [k_197_170 (by omega) e5]
        rcases hor5 with ⟨σ5, j5, c5, hR5, hY5, hj5, ty5, s2, s3, s4, hin, _⟩ | ⟨hF5, σ5, c5, ty5⟩
        · have p5 : pf_R b s τ σ5 := pf_R_trans p4 (pf_R_tyf ty5)
          have x5 : js_desc E.1 σ5 s = some (0, 11, js_sym) := js_desc_mono a6 (by rw [p5 _ _ (by omega) (by omega) (by omega) (by omega) (by omega)]; exact Int.le_refl _) (fun _ => p5 _ _ (by omega) (by omega) (by omega) (by omega) (by omega))
          have x50 : σ5 s 0 = ρ1 83 11 := by rw [p5 _ _ (by omega) (by omega) (by omega) (by omega) (by omega)]; exact n0
          have ss : ∀ i : Int, i ≠ 6 → i ≠ 12 → ¬ (2 ≤ i ∧ i ≤ 4) → σ5 s i = τ s i := fun i g1 g2 g3 => by rw [ty5 _ _ (by omega) (by omega) (by omega) (by omega), f4 _ _ (by omega) (by omega), ln3 _ _ (by omega) (by omega) (by omega) (by omega)]
          have s6 : ∀ i : Int, ¬ (2 ≤ i ∧ i ≤ 4) → σ5 s i = σ3 s i := fun i g3 => by rw [ty5 _ _ (by omega) (by omega) (by omega) (by omega), f4 _ _ (by omega) (by omega)]
          have rr : ∀ a : Int, 86 ≤ a → ρ5 a (ρ1 83 11) = ρ3 a (ρ1 83 11) := fun a h => by rw [tf5 _ _ (by omega), o4 _ _ (by omega)]
          have r3 : ∀ a : Int, 93 ≤ a → ρ5 a (ρ1 83 11) = ρ2 a (ρ1 83 11) := fun a h => by rw [rr a (by omega), lf3 _ _ (by omega) (by omega)]
          have h10p : ρ5 83 10 = ρ2 83 10 := by
            rw [tf5 _ _ (by omega), o4 _ _ (by omega), ← hR3.2.2.2.1, ← hR2.2.2.2.1]
            exact hd5
          obtain ⟨ρ', e6, rf6, hor6⟩ := y_port2 (E := E) (d := d) (e := e) (j := j) hb rfl hD1 ht' p5 q5 h10p hY5 (show j < j5 by omega) hR5 hk hd he s2 s3 s4 hin (by rw [s6 6 (by decide), rr 91 (by decide)]; exact l6) (by rw [s6 12 (by decide), rr 92 (by decide)]; exact l12) (by rw [rr 91 (by decide)]; exact b1) (by rw [rr 91 (by decide), rr 92 (by decide)]; exact ⟨b2, b3⟩) (by rw [ss 7 (by decide) (by decide) (by decide)]; exact n7) (by rw [ss 8 (by decide) (by decide) (by decide)]; exact n8) (by rw [ss 9 (by decide) (by decide) (by decide)]; exact n9) (by rw [ss 10 (by decide) (by decide) (by decide)]; exact n10) (by rw [ss 11 (by decide) (by decide) (by decide)]; exact n11) (by rw [r3 93 (by decide)]; exact a18) (by rw [r3 94 (by decide)]; exact a19) (by rw [r3 96 (by decide)]; exact a20) (fun i hi => by rw [ty5 _ _ (by omega) (by omega) (by omega) (by omega), f4 _ _ (by omega) (by omega), ln3 _ _ (by omega) (by omega) (by omega) (by omega)]; exact a5.1 _ _ (by omega) (by omega) (by omega) (by omega) (by omega) (by omega))
          rw [h5, e6, k_45_43 hb (by omega) c5]
          refine ⟨ρ', rfl, rf_R_trans (rf_R_tf t1) rf6, ?_⟩
          rcases hor6 with h | h
          · exact Or.inl (po_conv hb hY f1 m1 o1 (fun a i hh => t1 _ _ (by omega)) fr1 h)
          · obtain ⟨g1, g2, g3, σ', g4, g5, g6, g7⟩ := h
            exact Or.inr ⟨g1, g2, g3, σ', g4, fr_R_trans fr1 g5, g6, g7⟩
        · obtain ⟨ρ', e6, f6⟩ := r_p173F (E := E) (e := e) (x1 := ρ 83 5) hF5 (by omega) m0 m4
          rw [e6, kt_45_43 hb (by omega) c5]
          exact ⟨ρ', rfl, rf_R_trans rf2 (rf_R_trans (rf_R_qf q5) f6.1), Or.inr (dt_of hb ht' fr1 (pf_R_trans p4 (pf_R_tyf ty5)) (by rw [f6.2.2.2]; exact m5) f6.2.1 (by rw [f6.2.2.1]))⟩
      · obtain ⟨ρ', e5, f5⟩ := r_p169F (E := E) (e := e) (x1 := ρ 83 5) hF4 (by omega) m0 m4
        rw [e5, kt_45_35 (by omega) c4]
        exact ⟨ρ', rfl, rf_R_trans rf2 (rf_R_trans (rf_R_qf q4) f5.1), Or.inr (dt_of hb ht' fr1 (pf_R_lnf ln3) (by rw [f5.2.2.2]; exact m4') f5.2.1 (by rw [f5.2.2.1]))⟩
    · obtain ⟨ρ', e4, f4⟩ := r_p163F (E := E) (e := e) (x1 := ρ 83 5) hF3 (by omega) m0 m4
      rw [e4, kt_45_26 hb (by omega) c3]
      exact ⟨ρ', rfl, rf_R_trans rf2 (rf_R_trans (rf_R_qf q3) f4.1), Or.inr (dt_of hb ht' fr1 (pf_R_lnf ln3) (by rw [f4.2.2.2]; exact m3) f4.2.1 (by rw [f4.2.2.1]))⟩
  · obtain ⟨ρ', e3, f3⟩ := r_p157F (E := E) (e := e) (x1 := ρ 83 5) (x2 := 0) hF2 (by omega) (by decide) (by decide)
    rw [k_197_154 (by omega) rt, e3, kt_45_17 hb (by omega) e2]
    have hs1 := hD1.1.1
    have m2 : ρ2 83 11 = ρ1 83 11 := t2 _ _ (by omega)
    refine ⟨ρ', rfl, rf_R_trans (rf_R_tf t1) (rf_R_trans (rf_R_tf t2) f3.1), Or.inr ⟨f3.2.1, ?_, ?_, σ1, by rw [f3.2.2.1], fr1, hD1.1.2.2.2.1, hD1.1.2.2.1⟩⟩
    · rw [f3.2.2.2, m2]
      exact hs1.1
    · rw [f3.2.2.2, m2]
      exact hs1.2.1
end PO
