/-! part 99.zzu: C and the test of an ARM -/
section SQ
variable {E : js_E} {d e : Nat} {b F : Int} {B U : Int → Int} {X : Int → Prop} {σ ρ : js_S} {j : Nat}
/-- a C of a type -/
theorem y_cofT {t : Int} (hb : b = 0 ∨ b = 25) (hx : xs_R E b F B X σ ρ) (hR : rd_R σ ρ j) (ht : 0 ≤ t) (ht2 : t < 1000) (hd : 9 ≤ d) (he : 5 ≤ e) : ∃ ρ1 : js_S, js_J E e 209 0 [(2, 83), (0, t)] [] ρ = js_r0 E ρ1 ∧ tf_R ρ ρ1 ∧ ((ρ1 83 9 = 0 ∧ rx_ok ρ1 ∧ ρ1 83 29 = ρ 83 6 ∧ (-2000000000 ≤ ρ1 83 28 ∧ ρ1 83 28 ≤ 2000000000) ∧ ∃ (σ' : js_S) (j' : Nat), js_J E d 41 0 [(2, 21 + b), (0, t), (9, 0), (9, 0), (9, 0)] [] σ = js_r E (0, ρ1 83 28) σ' ∧ rd_R σ' (rx_next ρ1) j' ∧ cf_R b σ σ' ∧ σ' (21 + b) 1 = ρ1 83 28 ∧ σ' (21 + b) 2 = ρ 83 6 ∧ j < j') ∨ (rx_F ρ1 ∧ ∃ σ' : js_S, js_J E d 41 0 [(2, 21 + b), (0, t), (9, 0), (9, 0), (9, 0)] [] σ = th_P E σ' (ρ1 83 9) ∧ cf_R b σ σ')) := by
  have hok := hR.2.2.1
  have hY := hx.1
  obtain ⟨c1a, c1b⟩ := y_read (E := E) (d := d) (t := t) hb hY hR (by omega) hx.2.1 (by omega) ht2
  have r1 := r_constantOf (E := E) (d := e) (t := t) hok hY.1 hY.2.1 (by omega) (rd_c8 hR) (by omega) ht2
  refine ⟨rx_co ρ t, r1, tf_R_co _ _, ?_⟩
  by_cases q1 : rx_ce ρ t = 0
  · obtain ⟨σ1, j1, e1, hR1, hY1, f1, s0, s1, s2, hj1⟩ := c1a q1
    clear c1a c1b
    obtain ⟨g1, g2, g3⟩ := rx_co_ok (by omega) hok q1
    have v1 := rx_cs_27 hok hY.1 hY.2.1 (rd_c8 hR) g3
    rw [g1]
    exact Or.inl ⟨g3, rx_cs_okk E hb hR g3, rx_cs_29 _, ⟨v1.2.2.1, v1.2.2.2⟩, σ1, j1, e1, hR1, f1, s1, s2, hj1⟩
  · obtain ⟨σ1, e1, f1⟩ := c1b q1
    obtain ⟨g1, g2⟩ := rx_co_bad hok q1 (by omega)
    refine Or.inr ⟨g1, σ1, ?_, f1⟩
    rw [g2]
    exact e1
end SQ
theorem cl_e2 {b u : Int} {σ σ' σ'' : js_S} {L : List xt_I} {op f s lo hi : Int} (hb : b = 0 ∨ b = 25) (hc : cl_R b u σ σ' L) (he : em_R b σ' σ'' op f s lo hi (2 * u + 2)) (h2 : σ' (8 + b) 6 + 1 < 100000000) : cl_R b u σ σ'' (L ++ [(op, 2, f, 0, s, lo, hi)]) := cl_step hb hc he h2 (fun hs => em_ci2 he hs)
section SR
variable {E : js_E} {d : Nat} {b u : Int} {σ : js_S}
/-- the test of an ARM -/
theorem c_test (hb : b = 0 ∨ b = 25) {v t op sk : Int} (hz : cz_R σ b) (hg : hg_R σ b) (hs : σ (8 + b) 6 ≤ 50000000) (ht : 0 ≤ t ∧ t < 1024) (hu : σ (8 + b) 8 = u) (hd : 6 ≤ d) : ∃ σ' : js_S, js_J E d 101 0 [(2, 22 + b), (0, v), (0, t), (0, op), (0, sk)] [] σ = js_r E (0, σ (8 + b) 6 + 4) σ' ∧ cl_R b u σ σ' [(0, 0, v, 0, 0, v, v), (3, 0, 0, 0, 0, 1, 0), (1, 2, t, 0, 0, σ (17 + b) t, σ (18 + b) t), (op, 0, 0, 0, 0, 0, 1), (25, 0, sk, 0, 0, 1, 0)] := by
  have c0 : cl_R b u σ σ [] := cl_0 hg hz
  obtain ⟨s1, e1, n1⟩ := c_set (E := E) (d := d - 1) (σ := σ) (op := 0) (x := v) (lo := v) (hi := v) hb hz (by omega)
  have c1 := cl_e0 hb c0 n1 (by omega)
  have q1 := n1.1
  obtain ⟨s2, e2, n2⟩ := c_add (E := E) (d := d - 1) (σ := s1) (op := 3) (x := 0) hb c1.1.2 (by omega)
  have c2 := cl_e0 hb c1 n2 (by omega)
  have q2 := n2.1
  have O2 := c2.2.2.2.2
  obtain ⟨s3, e3, n3⟩ := c_loadT (E := E) (d := d - 1) (σ := s2) (t := t) hb c2.1.2 (by omega) ht.1 ht.2
  rw [O2 (17 + b) t (by omega) (by omega), O2 (18 + b) t (by omega) (by omega), O2 (8 + b) 8 (by omega) (by omega), hu] at n3
  have c3 := cl_e2 hb c2 n3 (by omega)
  have q3 := n3.1
  obtain ⟨s4, e4, n4⟩ := c_set (E := E) (d := d - 1) (σ := s3) (op := op) (x := 0) (lo := 0) (hi := 1) hb c3.1.2 (by omega)
  have c4 := cl_e0 hb c3 n4 (by omega)
  have q4 := n4.1
  obtain ⟨s5, e5, n5⟩ := c_add (E := E) (d := d - 1) (σ := s4) (op := 25) (x := sk) hb c4.1.2 (by omega)
  have c5 := cl_e0 hb c4 n5 (by omega)
  have w : s4 (8 + b) 6 = σ (8 + b) 6 + 4 := by omega
  refine ⟨s5, ?_, c5⟩
  rw [b_101_0 hb, k_101_8 hb (by omega) e1, b_101_11 hb, k_101_17 hb (by omega) e2, b_101_20 hb, k_101_26 hb (by omega) e3, b_101_29 hb, k_101_37 hb (by omega) e4, b_101_40 hb, k_101_48 hb (by omega) e5, b_101_51, w]
end SR
