/-! part 99.zzzzzzzyb: probe by both, the Run over before the FLIP's STEP -/
section PB
variable {E : js_E} {d e : Nat} {Fu : Int → Int → Int → Prop} {ac zc b N x1 x2 x3 x4 : Int} {T W m : Nat} {ρ0 ρs σ1 σA σE ρ3 : js_S}
theorem y_proB (hb : b = 0 ∨ b = 25) (hp : psR E Fu ac zc b N T σ1 ρ0) (hg : gv_R T σ1 ρ0) (c1 : cq_R N 66 0 σ1 ρ0) (c2 : cq_R N 69 1 σ1 ρ0) (hs : ∀ a i : Int, a ≠ 131 → a ≠ 133 → ρs a i = ρ0 a i) (sv : sv_R ρ0 ρs) (h133 : ∀ j : Int, 0 ≤ j → j < W → ρs 133 j = ρ0 126 (pe_B ρ0 + j)) (hW : ρ0 83 47 = W) (hO : ou_o ρ0 T = W) (hWN : (W : Int) ≤ N) (hW4 : W ≤ 4096) (h7 : 0 ≤ pe_B ρ0 ∧ pe_B ρ0 + W ≤ 65536) (hA : js_J E (d - 1) 142 0 [(2, 56), (2, 65), (9, 0), (9, 0), (9, 0)] [] σ1 = js_r0 E σA) (sA : sc_F 7 σ1 σA) (lA : σA 65 0 = 1 ∨ σA 65 0 = 2) (hm : (m : Int) < x3) (hm2 : m < 200000) (hE : c_en E (d - 1) b m σA σE) (sE : sc_F 7 σA σE) (pe : peR T N σE ρs ρ3) (e278 : js_J E (e - 1) 278 0 [(2, 83)] [] ρs = js_r0 E ρ3) (h64 : ρ0 83 64 = 1) (h81 : ρ0 83 81 = 0) (h82 : 0 ≤ ρ0 83 82 ∧ ρ0 83 82 < 2000000000) (h1 : x1 = 0 ∨ x1 = 1) (h2 : -2 ≤ x2 ∧ x2 < N) (h3 : 0 ≤ x3 ∧ x3 < 2147483648) (h4 : 0 ≤ x4 ∧ x4 ≤ 4) (hd : 70 ≤ d) (he : 80 ≤ e) : ∃ (σ' ρ' : js_S) (v : Int), js_J E d 139 29 [(2, 56), (0, x1), (0, x2), (0, x3), (0, x4), (0, 0), (9, 0), (9, 0)] [] σA = js_r E (0, v) σ' ∧ js_J E e 288 117 [(2, 83), (0, x1), (0, x2), (0, x3), (0, x4), (0, ρ0 83 82), (0, ρ0 83 83), (0, pe_B ρ0), (0, (W : Int)), (9, 0), (9, 0), (9, 0), (9, 0), (9, 0)] [(2, 83)] ρs = js_r E (0, v) ρ' ∧ (∀ a i : Int, ¬ (65 ≤ a ∧ a ≤ 78) → a ≠ 80 → σ' a i = σ1 a i) ∧ pz_R ρ0 ρ' := by
  have A56 : σA 56 1 = 7 + b := by rw [sA _ _ (by omega)]; exact hp.1.1
  have E56 : σE 56 1 = 7 + b := by rw [sE _ _ (by omega)]; exact A56
  have z65 : σE 65 0 = 0 := by
    obtain ⟨_, _, _, z, _⟩ := pe
    exact z.1
  have i1 := c9_en (E := E) (d := d) (x1 := x1) (x2 := x2) (x3 := x3) (x4 := x4) hb (by omega) h3.2 m 0 σA σE (by omega) (by omega) (by omega) A56 lA hE
  have x162 : js_J E (d - 1) 162 0 [(2, 65), (2, 7 + b), (9, 0)] [] σE = js_r0 E σE := by
    have q := b_162_0 (E := E) (d := d - 1) (σ := σE) (b := b) (r := 7)
    have q2 : js_J E (d - 1) 162 2 [(2, 65), (2, 7 + b), (0, 0)] [] σE = js_r0 E σE := (b_162_2 (r := 7) (Or.inr (Or.inl rfl))).trans (by rw [if_pos (show js_w 0 < 1000000 by decide)]; exact if_pos (by rw [show σE (58 + 7) 0 = σE 65 0 from rfl, z65]; rfl))
    exact q.trans q2
  have ec : js_J E d 139 29 [(2, 56), (0, x1), (0, x2), (0, x3), (0, x4), (0, 0), (9, 0), (9, 0)] [] σA = js_J E d 139 120 [(2, 56), (0, x1), (0, x2), (0, x3), (0, x4), (0, 0), (9, 0), (9, 0)] [] σE := by
    rw [i1, c9_out hb E56 (by omega) h3.2 (Or.inr z65) h3.1, b_139_69, z65, if_pos (show js_w 0 = 0 from rfl), b_139_84 hb E56, if_pos (show js_w 0 = 0 from rfl), b_139_109 hb E56, k_139_117 (by omega) x162]
  obtain ⟨ρr, er, hr, h132⟩ := r_tail (E := E) (e := e) (x1 := x1) (x2 := x2) (x3 := x3) (x4 := x4) (x7 := pe_B ρ0) (x8 := (W : Int)) hs sv h133 pe hW hO hW4 h7 rfl h81 (by omega)
  have er' := (k_288_117 (E := E) (d := e) (x1 := x1) (x2 := x2) (x3 := x3) (x4 := x4) (x5 := ρ0 83 82) (x6 := ρ0 83 83) (x7 := pe_B ρ0) (x8 := (W : Int)) (by omega) e278).trans er
  have fE : ∀ a i : Int, ¬ (65 ≤ a ∧ a ≤ 78) → σE a i = σ1 a i := fun a i q => by rw [sE _ _ (by omega), sA _ _ (by omega)]
  by_cases k4 : σE 65 2 = 4
  · rw [if_pos k4] at er'
    have bb : bb_E T σE ρ0 ρr := fun s j s0 s1 s2 j0 j1 => by
      obtain ⟨ρ', K, f, ⟨_, kK⟩, cq, c⟩ := pe
      rcases c with ⟨_, _, _⟩ | ⟨_, hgt, ρ4, m1, m2, e4⟩
      · omega
      have f' : ∀ a i : Int, ¬ (a = 83 ∧ 77 ≤ i ∧ i ≤ 80) → ¬ (120 ≤ a ∧ a ≤ 124) → a ≠ 131 → a ≠ 133 → ρ' a i = ρ0 a i := fun a i y1 y2 y3 y4 => by rw [f _ _ y1 y2, hs _ _ y3 y4]
      have pb : pe_B ρ' = pe_B ρ0 := by
        unfold pe_B
        rw [f' 83 82 (by omega) (by omega) (by decide) (by decide)]
      have oo : ∀ k : Nat, ou_o ρ' k = ou_o ρ0 k := fun k => ou_o_eq (fun a i q1 q2 => f' a i (by omega) (by omega) (by omega) (by omega)) k
      have e90 : ρ' 90 s = ρ0 90 s := f' _ _ (by omega) (by omega) (by decide) (by decide)
      have s2' : ρ' 86 s = 2 := by rw [f' _ _ (by omega) (by omega) (by decide) (by decide)]; exact s2
      have j1' : j < ρ' 91 s := by rw [f' _ _ (by omega) (by omega) (by decide) (by decide)]; exact j1
      have p := hp.1.2.2.2.2.2.2 s s0 s1 (by omega)
      have r := hgt s s0 s1 s2' j j0 j1'
      have v := m2 s s0 s1 s2' j j0 j1'
      rw [pb, oo, e90, Int.add_assoc] at v
      rw [e90, f' 88 _ (by omega) (by omega) (by decide) (by decide), f' 89 _ (by omega) (by omega) (by decide) (by decide)] at r
      have cl := cq.2.2 (ρ0 90 s + j) (by omega) (by omega)
      rw [show (66 : Int) + 2 = 68 from rfl, show 4096 * (0 : Int) + (ρ0 90 s + j) = ρ0 90 s + j by omega] at cl
      have ii := ou_in (ou_of hp.1.2) s0 s1 s2 j0 j1
      rw [h132 _ ii.1 (by rw [← hO]; exact ii.2), e4, th_o (by omega) (by omega), js_up_na _ (by decide), v, cl]
      exact js_w_l0 rfl (by omega) (by omega)
    obtain ⟨ρ9, v11, v12, v13, y2, y4⟩ := y_pitsB (E := E) (d := d) (e := e) (x1 := x1) (x2 := x2) (x3 := x3) (x4 := x4) (x7 := pe_B ρ0) (W := W) hb hp hg c1 c2 hA hE hm k4 h64 hW hO hWN h82 rfl h1 h2 h3 h4 (by omega) (by omega) 64 0 ρr (9, 0) (9, 0) (9, 0) rfl hr bb
    have zz : (if x4 = 0 then ((0 : Nat) : Int) else 0) = 0 := by
      by_cases t : x4 = 0
      · rw [if_pos t]
        rfl
      · rw [if_neg t]
    rw [zz] at y2
    obtain ⟨ρz, z1, z2⟩ := r_pend (E := E) (e := e) (x1 := x1) (x2 := x2) (x3 := x3) (x4 := x4) (x5 := ρ0 83 82) (x6 := ρ0 83 83) (x8 := 1) (x9 := if x4 = 0 then 64 else 0) (x10 := 64) (u11 := v11) (u12 := v12) (u13 := v13) hW hW4 h7 y4
    rw [if_neg (show ¬ js_w 1 = 0 by decide)] at z1
    refine ⟨σE, ρz, if x4 = 0 then 64 else 0, ?_, er'.trans (y2.trans z1), fun a i q1 _ => fE a i q1, z2⟩
    have w4 : js_w x4 = x4 := js_w_of (by omega) (by omega)
    rw [ec, b_139_120, k4, if_pos (show js_w 4 = 4 from rfl), if_pos (show js_w 0 = 0 from rfl), w4]
    by_cases t : x4 = 0
    · rw [if_pos t, if_pos t]
    · rw [if_neg t, if_neg t]
  · rw [if_neg k4] at er'
    obtain ⟨ρz, z1, z2⟩ := r_pend (E := E) (e := e) (x1 := x1) (x2 := x2) (x3 := x3) (x4 := x4) (x5 := ρ0 83 82) (x6 := ρ0 83 83) (x8 := 0) (x9 := 0) (x10 := 0) (u11 := (9, 0)) (u12 := (9, 0)) (u13 := (9, 0)) hW hW4 h7 hr
    rw [if_pos (show js_w 0 = 0 from rfl)] at z1
    have w4 : ¬ js_w (σE 65 2) = 4 := by
      obtain ⟨_, K, _, ⟨_, kK⟩, _, c⟩ := pe
      have hK : 1 ≤ K ∧ K ≤ 4 := by
        rcases c with ⟨q1, q2, _⟩ | ⟨q1, _⟩ <;> omega
      rw [kK, js_w_of (x := K) (by omega) (by omega)]
      omega
    refine ⟨σE, ρz, -1, by rw [ec, b_139_120, if_neg w4], ?_, fun a i q1 _ => fE a i q1, z2⟩
    exact er'.trans (by rw [b_288_183, if_pos (show js_w 0 < 64 by decide), if_pos (show js_w 0 = 0 from rfl), z1])
end PB
