/-! part 99.zzzzzt: one STEP of the machine, all of it, by both -/
section YV
variable {E : js_E} {d e : Nat} {Fu : Int → Int → Int → Prop} {ac zc b N : Int} {T : Nat} {σ ρ : js_S}
theorem y_mstp (hb : b = 0 ∨ b = 25) (hA : mh_A E Fu ac zc b N T σ ρ) (h81 : ρ 83 81 = 0) (hR : rn_R Fu ac zc N 0 σ ρ) (hem : ρ 83 82 < 2000000000) (hd : 50 ≤ d) (he : 50 ≤ e) : ∃ σ1 σ2 ρ3 : js_S, js_J E d 175 0 [(2, 56), (9, 0)] [] σ = js_r0 E σ1 ∧ σ1 56 1 = 7 + b ∧ js_J E d 145 0 [(2, 58), (2, 7 + b), (9, 0)] [] σ1 = js_r0 E σ2 ∧ js_J E e 268 0 [(2, 83), (9, 0), (9, 0)] [] ρ = js_r0 E ρ3 ∧ mg_M ρ ρ3 ∧ ((mg_C σ σ2 ∧ mh_A E Fu ac zc b N T σ2 ρ3 ∧ ρ3 83 81 = 0 ∧ rn_R Fu ac zc N 0 σ2 ρ3 ∧ ρ3 83 79 = ρ 83 79 + 1 ∧ ρ3 83 82 = ρ 83 82) ∨ (σ2 58 0 = 0 ∧ ∃ σ3 : js_S, js_J E d 176 0 [(2, 56)] [] σ2 = js_r0 E σ3 ∧ mg_C σ σ3 ∧ mh_A E Fu ac zc b N T σ3 ρ3 ∧ mh_0 N σ3 ρ3 ∧ (ρ3 83 82 = ρ 83 82 ∨ ρ3 83 82 = ρ 83 82 + 1))) := by
  have hv := hA.2.2.1
  have hp0 := hA.1.2.1
  have hN := hp0.1.2.1
  obtain ⟨n, hfq⟩ := hv.2.2.2
  obtain ⟨⟨g0, g7⟩, ⟨g1, g9, g3, g8, g30⟩, ⟨q1, q2⟩, hm⟩ := hR
  obtain ⟨σ1, ρ1, e1, e2, C1, M1, c1, c2, n9⟩ := y_flips (E := E) (d := d) (e := e - 1) hfq g1 hN (by omega) q1 q2 hv.2.2.1
  have m77 : ρ1 83 77 = ρ 83 77 := M1 _ _ (by omega) (by omega)
  have rn1 : rn_R Fu ac zc N 0 σ1 ρ1 := by
    have s : ∀ i : Int, σ1 (58 + 0) i = σ (58 + 0) i := fun i => C1 _ _ (by omega) (by omega) (by omega) (by omega)
    have r : ∀ i : Int, i ≠ 83 → ρ1 83 i = ρ 83 i := fun i q => M1 _ _ (by omega) (by omega)
    refine ⟨⟨by rw [s, m77]; exact g0, by rw [m77]; exact g7⟩, ⟨by rw [s, r _ (by decide)]; exact g1, by rw [s, r _ (by decide), r _ (by decide)]; exact g9, by rw [s]; exact g3, by rw [r _ (by decide), r _ (by decide)]; exact g8, by rw [s, m77]; exact g30⟩, ⟨c1, c2⟩, ?_⟩
    rw [m77, r 78 (by decide)]
    obtain ⟨m1, m2, m3, k, l, m4, m5⟩ := hm
    have t : ∀ a i : Int, 123 ≤ a → ρ1 a i = ρ a i := fun a i q => M1 _ _ (by omega) (by omega)
    refine ⟨by rw [C1 _ _ (by omega) (by omega) (by omega) (by omega)]; exact m1, by rw [C1 _ _ (by omega) (by omega) (by omega) (by omega), t _ _ (by decide)]; exact m2, fun j j1 j2 => ?_, k, l, by rw [t _ _ (by decide)]; exact m4, ms_bk k _ _ (fun j _ _ => t _ _ (by decide)) m5⟩
    rw [t _ _ (by decide)] at j2
    rw [C1 _ _ (by omega) (by omega) (by omega) (by omega), t _ _ (by decide)]
    exact m3 j j1 j2
  have pr1 : pr_R E b T N σ1 ρ1 := pr_gen hb hp0 (fun a i q => C1 _ _ (by omega) (by omega) (by omega) (by omega)) (fun i q => M1 _ _ (by omega) (by omega)) (fun a i q1 q2 => M1 _ _ (by omega) (by omega))
  have wc1 : wc_P Fu ac zc N ρ1 := wc_of hA.1.2.2.1 (fun a i q1 q2 => M1 _ _ (by omega) (by omega)) (M1 _ _ (by omega) (by omega))
  obtain ⟨σ2, ρ2, e3, S3, R3, ys⟩ := y_step (E := E) (d := d) (e := e) (r := 0) hb (Or.inl rfl) pr1 wc1 (by rw [M1 _ _ (by omega) (by omega)]; exact hA.1.2.2.2.1) rn1 (by omega) (by omega)
  have e3' : js_J E d 145 0 [(2, 58), (2, 7 + b), (9, 0)] [] σ1 = js_r0 E σ2 := e3
  have er : js_J E e 268 0 [(2, 83), (9, 0), (9, 0)] [] ρ = js_J E e 268 11 [(2, 83), (0, ρ1 83 77 - 1), (9, 0)] [] ρ1 := by
    rw [b_268_0, k_268_8 (by omega) e2, m77]
  have hC : ∀ a i : Int, ¬ (56 ≤ a ∧ a ≤ 64) ∨ a = 56 ∧ i = 2 → σ2 a i = σ a i := fun a i q => by rw [S3 a i (by omega), C1 a i (by omega) (by omega) (by omega) (by omega)]
  have hM : ∀ a i : Int, ¬ (a = 83 ∧ 77 ≤ i ∧ i ≤ 85) → ¬ (120 ≤ a ∧ a ≤ 124) → ρ2 a i = ρ a i := fun a i k1 k2 => by rw [R3 a i (by omega) k2, M1 a i (by omega) (by omega)]
  have s56 : ∀ i : Int, i ≠ 9 → σ2 56 i = σ 56 i := fun i q => by rw [S3 _ _ (by omega), C1 _ _ (by omega) (by omega) (by omega) (by omega)]
  have h9 : σ2 56 9 = ρ2 83 83 := by rw [S3 _ _ (by omega), R3 _ _ (by omega) (by omega)]; exact n9
  have r8 : ∀ i : Int, i = 81 ∨ i = 82 ∨ i = 85 → ρ2 83 i = ρ 83 i := fun i q => by rw [R3 _ _ (by omega) (by omega), M1 _ _ (by omega) (by omega)]
  have i56 : σ1 56 1 = 7 + b := by rw [C1 _ _ (by omega) (by omega) (by omega) (by omega)]; exact hA.1.1
  have latch : ∀ k : Int, 1 ≤ k ∧ k ≤ 3 → (σ2 (58 + 0) 0 = 0 ∧ σ2 (58 + 0) 1 = 0 ∧ cq_R N (59 + 0) 0 σ2 ρ2 ∧ cq_R N (62 + 0) 1 σ2 ρ2) → σ2 (58 + 0) 2 = k → js_J E e 268 0 [(2, 83), (9, 0), (9, 0)] [] ρ = js_r0 E (th_S (js_up ρ2 83 81 k)) → ∃ σ1 σ2 ρ3 : js_S, js_J E d 175 0 [(2, 56), (9, 0)] [] σ = js_r0 E σ1 ∧ σ1 56 1 = 7 + b ∧ js_J E d 145 0 [(2, 58), (2, 7 + b), (9, 0)] [] σ1 = js_r0 E σ2 ∧ js_J E e 268 0 [(2, 83), (9, 0), (9, 0)] [] ρ = js_r0 E ρ3 ∧ mg_M ρ ρ3 ∧ ((mg_C σ σ2 ∧ mh_A E Fu ac zc b N T σ2 ρ3 ∧ ρ3 83 81 = 0 ∧ rn_R Fu ac zc N 0 σ2 ρ3 ∧ ρ3 83 79 = ρ 83 79 + 1 ∧ ρ3 83 82 = ρ 83 82) ∨ (σ2 58 0 = 0 ∧ ∃ σ3 : js_S, js_J E d 176 0 [(2, 56)] [] σ2 = js_r0 E σ3 ∧ mg_C σ σ3 ∧ mh_A E Fu ac zc b N T σ3 ρ3 ∧ mh_0 N σ3 ρ3 ∧ (ρ3 83 82 = ρ 83 82 ∨ ρ3 83 82 = ρ 83 82 + 1))) := fun k hk h0 h2 h3 => by
    obtain ⟨σ3, f1, f2, f3, f4, f5, f6⟩ := y_latch (E := E) (d := d) (σ' := σ2) (ρ' := ρ2) hb hA hk h0 h2 hC hM (r8 _ (by omega)) h9 (s56 _ (by decide)) (s56 _ (by decide))
    exact ⟨σ1, σ2, _, e1, i56, e3', h3, f3, Or.inr ⟨h0.1, σ3, f1, f2, f4, f5, Or.inl f6⟩⟩
  rcases ys with ⟨y1, y2, y3⟩ | ⟨y0, ⟨k, hk, y1, y2⟩ | ⟨p, z, hz, y1, y2, y3⟩⟩
  · have yy : ∀ a i : Int, 84 ≤ a ∧ a ≤ 119 ∨ a = 125 → ρ2 a i = ρ a i := fun a i q => hM a i (by omega) (by omega)
    have z81 := r8 81 (by omega)
    have z82 := r8 82 (by omega)
    refine ⟨σ1, σ2, ρ2, e1, i56, e3', by rw [er, y1], fun a i k1 k2 _ => hM a i k1 k2, Or.inl ⟨fun a i k1 _ => hC a i k1, mh_mk hb hA (fun a i q => hC a i (by omega)) (s56 _ (by decide)) (fun i q => hM _ _ (by omega) (by omega)) yy ⟨by rw [s56 _ (by decide), z81]; exact hv.1.1, by rw [z81]; exact hv.1.2.1, by rw [z81]; exact hv.1.2.2⟩ ⟨by rw [s56 _ (by decide), z82]; exact hv.2.1.1, by rw [z82]; exact hv.2.1.2⟩ h9 ⟨n, ?_⟩ (ko_eq hA.2.2.2 (fun i => hC _ _ (by omega)) (fun i => hM _ _ (by omega) (by omega)) z82 (fun a i k1 k2 => yy a i (by omega))), by rw [z81]; exact h81, y3, by rw [y2, M1 _ _ (by omega) (by omega)], z82⟩⟩
    have q57 : ∀ i : Int, σ2 57 i = σ 57 i := fun i => by rw [S3 _ _ (by omega), C1 _ _ (by omega) (by omega) (by omega) (by omega)]
    have q127 : ∀ a i : Int, 127 ≤ a → ρ2 a i = ρ a i := fun a i q => hM a i (by omega) (by omega)
    refine ⟨⟨hfq.1.1, by rw [s56 _ (by decide)]; exact hfq.1.2.1, by rw [r8 85 (by omega)]; exact hfq.1.2.2⟩, fun k k1 k2 => ?_⟩
    rw [q57, q57, q57, q57, q127 127 _ (by decide), q127 128 _ (by decide), q127 129 _ (by decide), q127 130 _ (by decide)]
    exact hfq.2 k k1 k2
  · exact latch k (by omega) y0 y1 (by rw [er, y2])
  · have ag : js_J E (e - 1 - 1) 276 0 [(2, 83), (9, 0), (9, 0), (9, 0), (9, 0)] [] ρ2 = js_r E (0, z) ρ2 := by
      rw [show e - 1 - 1 = e - 2 by omega]
      exact y2
    have eg : ∀ ρ3 : js_S, js_J E (e - 1) 275 4 [(2, 83), (9, 0), (9, 0), (9, 0)] [(0, z)] ρ2 = js_r0 E ρ3 → js_J E e 268 0 [(2, 83), (9, 0), (9, 0)] [] ρ = js_r0 E ρ3 := fun ρ3 h => by
      rw [er, y3, k_268_119 (by omega) (by rw [b_275_0, k_275_1 (by omega) ag]; exact h), b_268_122]
    rcases hz with hz | hz
    · rw [hz, if_pos rfl] at y1
      exact latch 3 (by decide) y0 y1 (eg _ (by rw [hz, b_275_4, if_pos (show js_w 0 = 0 from rfl), k_275_9 (by omega) (r_latch (by omega)), b_275_12]))
    · rw [hz, if_neg (show ¬ (1 : Int) = 0 by decide)] at y1
      obtain ⟨σ3, ρ3, f1, f2, f3, f4, f5, f6, f7, f8⟩ := y_emit (E := E) (d := d) (e := e - 1) (σ' := σ2) (ρ' := ρ2) hb hA y0 y1 hC hM (r8 _ (by omega)) (r8 _ (by omega)) h9 (s56 _ (by decide)) (s56 _ (by decide)) (s56 _ (by decide)) hem (by omega) (by omega)
      exact ⟨σ1, σ2, ρ3, e1, i56, e3', eg _ (by rw [hz, b_275_4, if_neg (show ¬ js_w 1 = 0 by decide), f2]), f4, Or.inr ⟨y0.1, σ3, f1, f3, f5, f6, Or.inr f7⟩⟩
end YV
