/-! part 99.zzzzn: the reference: a test of an ARM -/
section GN2
variable {E : js_E} {f : Nat} {ρ : js_S}
/-- v against TEMP t (node e), op, and a jump that is still open -/
theorem r_test {v op e t lo hi : Int} (hf : 2 ≤ f) (hv : -2147483648 ≤ v ∧ v < 2147483648) (he : 0 ≤ e ∧ e < 66000) (hlo : ρ 105 e = lo) (hhi : ρ 106 e = hi) (hr : (-2147483648 ≤ lo ∧ lo < 2147483648) ∧ -2147483648 ≤ hi ∧ hi < 2147483648) (ht : 0 ≤ t ∧ t ≤ 1024) (h54 : 0 ≤ ρ 83 54 ∧ ρ 83 54 ≤ 1024) (h49 : 0 ≤ ρ 83 49 ∧ ρ 83 49 ≤ 100000000) : ∃ ρ4 ρ5 : js_S, js_J E f 258 0 [(2, 83), (0, v), (0, op), (0, e), (0, t), (0, 0)] [] ρ = js_r E (1, 5) ρ5 ∧ gq_S ρ 4 (t + 1) (fun τ => ri_P τ (ρ 83 49) (0, 0, v, 0, 0, v, v) ∧ ri_P τ (ρ 83 49 + 1) (3, 0, 0, 0, 0, 1, 0) ∧ ri_P τ (ρ 83 49 + 2) (1, 2, t, 0, 0, lo, hi) ∧ ri_P τ (ρ 83 49 + 3) (op, 0, 0, 0, 0, 0, 1)) ρ4 ∧ gm_R ρ4 ρ5 25 0 0 1 0 := by
  have wv : js_w v = v := js_w_of hv.1 hv.2
  have s0 := gq_0 (ρ := ρ) h54.1
  obtain ⟨ρ1, e1, h1⟩ := r_emit (E := E) (f := f - 1) (ρ := ρ) (x1 := 0) (x2 := v) (x3 := 0) (x4 := v) (x6 := v) ⟨h49.1, by omega⟩
  have s1 := gq_e (kd := 0) (x := v) (y := 0) s0 (by omega) h1 (if_pos rfl).symm
  have b1 := s1.1.2.1
  obtain ⟨ρ2, e2, h2⟩ := r_plain (E := E) (f := f - 1) (ρ := ρ1) (x1 := 3) (x2 := 0) (x3 := 0) (by omega) ⟨by omega, by omega⟩
  have s2 := gq_e (kd := 0) (x := 0) (y := 0) s1 (by omega) h2 (if_pos rfl).symm
  have b2 := s2.1.2.1
  have X2 := s2.1.1
  have m2 : 0 ≤ ρ2 83 54 ∧ ρ2 83 54 ≤ 1024 := by have := s2.1.2.2; omega
  obtain ⟨ρa, ρ3, e3, ⟨ta, fa⟩, h3⟩ := r_load (E := E) (f := f - 1) (ρ := ρ2) (t := t) (n := e) (lo := lo) (hi := hi) (by omega) he (by rw [X2 _ _ (by omega) (by omega) (by omega)]; exact hlo) (by rw [X2 _ _ (by omega) (by omega) (by omega)]; exact hhi) hr ⟨ht.1, by omega⟩ ⟨m2.1, by omega⟩ ⟨by omega, by omega⟩
  have s3 := gq_l s2 (by omega) ta fa h3
  have b3 := s3.1.2.1
  obtain ⟨ρ4, e4, h4⟩ := r_emit (E := E) (f := f - 1) (ρ := ρ3) (x1 := op) (x2 := 0) (x3 := 0) (x4 := 0) (x6 := 1) ⟨by omega, by omega⟩
  have s4 := gq_e (kd := 0) (x := 0) (y := 0) s3 (by omega) h4 (if_pos rfl).symm
  have b4 := s4.1.2.1
  obtain ⟨ρ5, e5, h5⟩ := r_plain (E := E) (f := f - 1) (ρ := ρ4) (x1 := 25) (x2 := 0) (x3 := 0) (by omega) ⟨by omega, by omega⟩
  refine ⟨ρ4, ρ5, ?_, ⟨⟨s4.1.1, by omega, ?_⟩, fun hs => ?_, fun τ τ' hy hP => ⟨ri_gyy hy (Int.le_refl _) (by omega) hP.1, ri_gyy hy (by omega) (by omega) hP.2.1, ri_gyy hy (by omega) (by omega) hP.2.2.1, ri_gyy hy (by omega) (by omega) hP.2.2.2⟩⟩, h5⟩
  · rw [b_258_0, wv, k_258_8 (by omega) e1, b_258_11, k_258_16 (by omega) e2, b_258_19, k_258_24 (by omega) e3, b_258_27, k_258_33 (by omega) e4, b_258_36, k_258_43 (by omega) e5, b_258_46]
  · have := s4.1.2.2
    omega
  · obtain ⟨⟨⟨⟨_, p1⟩, p2⟩, p3⟩, p4⟩ := s4.2.1 hs
    exact ⟨ri_at p1 (by omega), ri_at p2 (by omega), ri_at p3 (by omega), ri_at p4 (by omega)⟩
end GN2
