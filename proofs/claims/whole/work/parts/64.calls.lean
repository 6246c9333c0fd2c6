/-! part 64: equations of js_J for calls, members of the library, throws, new objects -/
/-- arguments as locals: a long takes two places -/
def js_pad : List js_v → List js_v
  | [] => []
  | v :: r => if v.1 = 1 then v :: (9, 0) :: js_pad r else v :: js_pad r
def js_sum (st : List js_v) : Nat := (st.map fun v => if v.1 = 1 then 2 else 1).sum
def js_n9 (av : List js_v) : Bool := av.all fun v => !(v.1 == 9)
theorem js_cat1 (v : js_v) : (js_V v).category = if v.1 = 1 then 2 else 1 := by
  obtain ⟨t, x⟩ := v
  match t with
  | 0 => rfl
  | 1 => rfl
  | 2 => exact js_rfc x
  | n + 3 => rfl
theorem js_sum_eq (st : List js_v) : ((st.map js_V).map fun v => v.category).sum = js_sum st := by
  unfold js_sum
  rw [List.map_map]
  congr 1
  refine List.map_congr_left fun v _ => ?_
  exact js_cat1 v
theorem js_L_nil (m k : Nat) : js_L (List.replicate m (9, 0)) k = [] := by
  induction m generalizing k with
  | zero => rfl
  | succ m ih =>
    rw [List.replicate_succ]
    show (if (9 : Nat) = 9 then js_L (List.replicate m (9, 0)) (k + 1) else _) = []
    rw [if_pos rfl, ih]
theorem js_L_pad : ∀ (av : List js_v) (m k : Nat), js_n9 av = true → js_L (js_pad av ++ List.replicate m (9, 0)) k = lv_args k (av.map js_V)
  | [], m, k, _ => js_L_nil m k
  | v :: r, m, k, h => by
    simp only [js_n9, List.all_cons, Bool.and_eq_true, Bool.not_eq_true', beq_eq_false_iff_ne] at h
    have h9 : ¬ v.1 = 9 := h.1
    simp only [js_pad, List.map_cons, lv_args]
    rw [js_cat1]
    split
    · rename_i h1
      show (if v.1 = 9 then _ else (k, js_V v) :: (if (9 : Nat) = 9 then js_L (js_pad r ++ List.replicate m (9, 0)) (k + 1 + 1) else _)) = _
      rw [if_neg h9, if_pos rfl, js_L_pad r m _ h.2]
      rfl
    · show (if v.1 = 9 then _ else (k, js_V v) :: js_L (js_pad r ++ List.replicate m (9, 0)) (k + 1)) = _
      rw [if_neg h9, js_L_pad r m _ h.2]
      rfl
theorem js_pad_len : ∀ av : List js_v, (lg_sl (av.map js_V)).length = (js_pad av).length
  | [] => rfl
  | v :: r => by
    have ih := js_pad_len r
    unfold lg_sl at ih ⊢
    simp only [List.map_cons, List.flatMap_cons, List.length_append, js_pad, ih]
    rw [js_cat1]
    split
    · simp
      omega
    · simp
      omega
theorem js_take (av st : List js_v) : ip_take av.length (List.map js_V (av.reverse ++ st)) = some (av.map js_V, st.map js_V) := by
  unfold ip_take
  have h1 : (List.map js_V (av.reverse ++ st)).take av.length = (av.map js_V).reverse := by
    rw [List.map_append, List.take_append_of_le_length (by simp)]
    rw [List.take_of_length_le (by simp), List.map_reverse]
  have h2 : (List.map js_V (av.reverse ++ st)).drop av.length = st.map js_V := by
    rw [List.map_append, List.drop_append_of_le_length (by simp), List.drop_of_length_le (by simp)]
    rfl
  rw [if_pos (by simp), h1, h2, List.reverse_reverse]
abbrev js_tb (E : js_E) : ip_TB := vt_tb vt_P (vt_Ro E.2.1 E.2.2)
section JSC
variable {E : js_E} {d y pc : Nat} {ls st : List js_v} {σ : js_S}
/-- what a call asks of the tables: (instruction's kind, number), callee, arguments -/
def js_ca (y pc kc k z na ci : Nat) : Prop := ∃ i n, js_I y pc = some (i, n) ∧ ip_ci i = some (kc, k) ∧ ip_ck i = 1 ∧ js_M y k = some (z, na, kc, ci) ∧ kc ≠ 3
theorem js_caS {k z na ci : Nat} (hI : js_I y pc = some (.invokestatic k, 3)) (hM : js_M y k = some (z, na, 0, ci)) : js_ca y pc 0 k z na ci := ⟨_, _, hI, rfl, rfl, hM, by decide⟩
theorem js_caV {k z na ci : Nat} (hI : js_I y pc = some (.invokevirtual k, 3)) (hM : js_M y k = some (z, na, 1, ci)) : js_ca y pc 1 k z na ci := ⟨_, _, hI, rfl, rfl, hM, by decide⟩
theorem js_caI {k z na ci : Nat} (hI : js_I y pc = some (.invokespecial k, 3)) (hM : js_M y k = some (z, na, 2, ci)) : js_ca y pc 2 k z na ci := ⟨_, _, hI, rfl, rfl, hM, by decide⟩
/-- the arguments of a call lie on the stack -/
def js_ag (E : js_E) (kc na ci : Nat) (av st sa : List js_v) (σ : js_S) : Prop := ip_arg kc na ci (sa.map js_V) (js_wd E.1 σ) = some (av.map js_V, st.map js_V)
theorem js_agS {na ci : Nat} {av sa : List js_v} (hs : sa = av.reverse ++ st) (hn : av.length = na) : js_ag E 0 na ci av st sa σ := by
  subst hs hn
  unfold js_ag ip_arg
  rw [js_take]
  rfl
theorem js_agV {na ci : Nat} {a c : Int} {fs : List (Nat × Int)} {av sa : List js_v} (hs : sa = av.reverse ++ (2, a) :: st) (hn : av.length = na) (ho : js_desc E.1 σ a = some (0, c, fs)) (hc : ci = c.toNat) : js_ag E 1 na ci ((2, a) :: av) st sa σ := by
  subst hs hn
  have h0 := js_desc_nn ho
  unfold js_ag ip_arg
  rw [js_take]
  simp only [List.map_cons]
  show (if (1 : Nat) = 0 then _ else (match js_rf a :: List.map js_V st with
    | .ref a :: r => _
    | _ => none)) = some (js_rf a :: _, _)
  rw [js_rf_of h0, if_neg (by decide)]
  simp only [js_at_o ho]
  rw [if_neg (by decide), if_pos hc.symm]
theorem js_agI {na ci : Nat} {a : Int} {av sa : List js_v} (hs : sa = av.reverse ++ (2, a) :: st) (hn : av.length = na) (h0 : 0 ≤ a) : js_ag E 2 na ci ((2, a) :: av) st sa σ := by
  subst hs hn
  unfold js_ag ip_arg
  rw [js_take]
  simp only [List.map_cons]
  show (if (2 : Nat) = 0 then _ else (match js_rf a :: List.map js_V st with
    | .ref a :: r => _
    | _ => none)) = some (js_rf a :: _, _)
  rw [js_rf_of h0, if_neg (by decide)]
  simp only [if_true]
theorem js_lz {z m : Nat} {av la : List js_v} (hla : la = js_pad av ++ List.replicate m (9, 0)) (h9 : js_n9 av = true) {r : Option (Outcome × ip_W)} (hz : js_J E (d - 1) z 0 la [] σ = r) : js_li (vt_tb vt_P (vt_Ro E.2.1 E.2.2)) (d - 1) z 0 (lv_args 0 (av.map js_V)) [] (js_wd E.1 σ) = r := by
  subst hla
  rw [← js_L_pad av m 0 h9]
  exact hz
theorem j_call {kc k z na ci m : Nat} {av la sa : List js_v} {v : js_v} {σ2 : js_S} (hc : js_ca y pc kc k z na ci) (ha : js_ag E kc na ci av st sa σ) (hla : la = js_pad av ++ List.replicate m (9, 0)) (h9 : js_n9 av = true) (hl : (js_pad av).length ≤ vt_ml.getD z 0) (hs : js_sum st ≤ 8) (hd : 1 ≤ d) (hz : js_J E (d - 1) z 0 la [] σ = js_r E v σ2) : js_J E d y pc ls sa σ = js_J E d y (pc + 3) ls (v :: st) σ2 := by
  obtain ⟨i, n, hI, hci, hck, hM, h3⟩ := hc
  exact js_scall (tb := js_tb E) hI hci hck hM h3 ha hd (by rw [js_sum_eq]; exact hs) (by rw [js_pad_len]; exact hl) (js_lz hla h9 hz)
theorem j_call0 {kc k z na ci m : Nat} {av la sa : List js_v} {σ2 : js_S} (hc : js_ca y pc kc k z na ci) (ha : js_ag E kc na ci av st sa σ) (hla : la = js_pad av ++ List.replicate m (9, 0)) (h9 : js_n9 av = true) (hl : (js_pad av).length ≤ vt_ml.getD z 0) (hs : js_sum st ≤ 8) (hd : 1 ≤ d) (hz : js_J E (d - 1) z 0 la [] σ = js_r0 E σ2) : js_J E d y pc ls sa σ = js_J E d y (pc + 3) ls st σ2 := by
  obtain ⟨i, n, hI, hci, hck, hM, h3⟩ := hc
  exact js_scall (tb := js_tb E) hI hci hck hM h3 ha hd (by rw [js_sum_eq]; exact hs) (by rw [js_pad_len]; exact hl) (js_lz hla h9 hz)
theorem j_callT {kc k z na ci m : Nat} {av la sa : List js_v} {a : Int} {σ2 : js_S} (hc : js_ca y pc kc k z na ci) (ha : js_ag E kc na ci av st sa σ) (hla : la = js_pad av ++ List.replicate m (9, 0)) (h9 : js_n9 av = true) (hl : (js_pad av).length ≤ vt_ml.getD z 0) (hs : js_sum st ≤ 8) (hd : 1 ≤ d) (hh : (vt_hl.getD y []).isEmpty = true) (hz : js_J E (d - 1) z 0 la [] σ = js_t E a σ2) : js_J E d y pc ls sa σ = js_t E a σ2 := by
  obtain ⟨i, n, hI, hci, hck, hM, h3⟩ := hc
  exact js_scallT (tb := js_tb E) hI hci hck hM h3 ha hd (by rw [js_sum_eq]; exact hs) (by rw [js_pad_len]; exact hl) hh (js_lz hla h9 hz)
theorem j_callC {kc k z na ci m h : Nat} {av la sa : List js_v} {a c : Int} {σ2 : js_S} (hc : js_ca y pc kc k z na ci) (ha : js_ag E kc na ci av st sa σ) (hla : la = js_pad av ++ List.replicate m (9, 0)) (h9 : js_n9 av = true) (hl : (js_pad av).length ≤ vt_ml.getD z 0) (hs : js_sum st ≤ 8) (hd : 1 ≤ d) (hh : (vt_hl.getD y []).isEmpty = false) (hz : js_J E (d - 1) z 0 la [] σ = js_t E a σ2) (ho : js_desc E.1 σ2 a = some (0, c, [])) (hx : vt_hX y pc c.toNat = some h) : js_J E d y pc ls sa σ = js_J E d y h ls [(2, a)] σ2 := by
  obtain ⟨i, n, hI, hci, hck, hM, h3⟩ := hc
  have h0 := js_desc_nn ho
  have e : [Value.ref a.toNat] = List.map js_V [(2, a)] := by
    show _ = [js_rf a]
    rw [js_rf_of h0]
  refine Eq.trans (js_scallC (tb := js_tb E) hI hci hck hM h3 ha hd (by rw [js_sum_eq]; exact hs) (by rw [js_pad_len]; exact hl) hh (js_lz hla h9 hz) (h := h) ?_) (by rw [e]; rfl)
  unfold ip_hd
  rw [js_at_o ho]
  exact hx
/-- Object's constructor -/
theorem j_objinit {k z na ci : Nat} {a : Int} (hI : js_I y pc = some (.invokespecial k, 3)) (hM : js_M y k = some (z, na, 3, ci)) (h0 : 0 ≤ a) (hs : js_sum st ≤ 8) (hd : 1 ≤ d) : js_J E d y pc ls ((2, a) :: st) σ = js_J E d y (pc + 3) ls st σ := by
  refine Eq.trans ?_ (js_sobj (tb := js_tb E) (a := a.toNat) hI rfl rfl hM hd (by rw [js_sum_eq]; exact hs))
  show js_li _ _ _ _ _ (js_rf a :: _) _ = _
  rw [js_rf_of h0]
def js_cl (y pc kc k z na ci : Nat) : Prop := ∃ i n, js_I y pc = some (i, n) ∧ ip_ci i = some (kc, k) ∧ ip_ck i = 1 ∧ js_M y k = some (z, na, kc + 4, ci)
theorem js_clS {k z na ci : Nat} (hI : js_I y pc = some (.invokestatic k, 3)) (hM : js_M y k = some (z, na, 4, ci)) : js_cl y pc 0 k z na ci := ⟨_, _, hI, rfl, rfl, hM⟩
theorem js_clV {k z na ci : Nat} (hI : js_I y pc = some (.invokevirtual k, 3)) (hM : js_M y k = some (z, na, 5, ci)) : js_cl y pc 1 k z na ci := ⟨_, _, hI, rfl, rfl, hM⟩
theorem j_lib {kc k z na ci : Nat} {av sa : List js_v} {v : js_v} (hc : js_cl y pc kc k z na ci) (hsa : sa = av.reverse ++ st) (hn : av.length = (if kc = 0 then na else na + 1)) (hs : js_sum st ≤ 8) (hd : 4 ≤ d) (hP : vt_P z (av.map js_V) (js_wd E.1 σ) = some (some (js_V v), js_wd E.1 σ)) : js_J E d y pc ls sa σ = js_J E d y (pc + 3) ls (v :: st) σ := by
  obtain ⟨i, n, hI, hci, hck, hM⟩ := hc
  subst hsa
  refine js_slib (tb := js_tb E) (av := av.map js_V) (rest := st.map js_V) hI hci hck hM ?_ hd (by rw [js_sum_eq]; exact hs) hP ⟨Nat.le_refl _, Nat.le_refl _⟩
  unfold ip_argP
  rw [← hn, js_take]
theorem j_min {k ci : Nat} {a b : Int} (hc : js_cl y pc 0 k 0 2 ci) (hs : js_sum st ≤ 8) (hd : 4 ≤ d) : js_J E d y pc ls ((0, b) :: (0, a) :: st) σ = js_J E d y (pc + 3) ls ((0, if js_w b < js_w a then b else a) :: st) σ := by
  refine j_lib (av := [(0, a), (0, b)]) hc rfl rfl hs hd ?_
  show some (some (Value.int (if Int32.ofInt b < Int32.ofInt a then Int32.ofInt b else Int32.ofInt a)), _) = some (some (Value.int (Int32.ofInt (if js_w b < js_w a then b else a))), _)
  by_cases h : js_w b < js_w a
  · rw [if_pos h, if_pos ((js_w_lt b a).mpr h)]
  · rw [if_neg h, if_neg (fun hh => h ((js_w_lt b a).mp hh))]
theorem j_max {k ci : Nat} {a b : Int} (hc : js_cl y pc 0 k 1 2 ci) (hs : js_sum st ≤ 8) (hd : 4 ≤ d) : js_J E d y pc ls ((0, b) :: (0, a) :: st) σ = js_J E d y (pc + 3) ls ((0, if js_w a < js_w b then b else a) :: st) σ := by
  refine j_lib (av := [(0, a), (0, b)]) hc rfl rfl hs hd ?_
  show some (some (Value.int (if Int32.ofInt a < Int32.ofInt b then Int32.ofInt b else Int32.ofInt a)), _) = some (some (Value.int (Int32.ofInt (if js_w a < js_w b then b else a))), _)
  by_cases h : js_w a < js_w b
  · rw [if_pos h, if_pos ((js_w_lt a b).mpr h)]
  · rw [if_neg h, if_neg (fun hh => h ((js_w_lt a b).mp hh))]
theorem j_abs {k ci : Nat} {a : Int} (hc : js_cl y pc 0 k 2 1 ci) (hs : js_sum st ≤ 8) (hd : 4 ≤ d) : js_J E d y pc ls ((0, a) :: st) σ = js_J E d y (pc + 3) ls ((0, if js_w a < 0 then -a else a) :: st) σ := by
  refine j_lib (av := [(0, a)]) hc rfl rfl hs hd ?_
  show some (some (Value.int (if 0 ≤ Int32.ofInt a then Int32.ofInt a else 0 - Int32.ofInt a)), _) = some (some (Value.int (Int32.ofInt (if js_w a < 0 then -a else a))), _)
  have e : (0 : Int32) ≤ Int32.ofInt a ↔ 0 ≤ js_w a := js_w_le 0 a
  by_cases h : js_w a < 0
  · rw [if_pos h, if_neg (fun hh => by have := e.mp hh; omega), Int32.ofInt_neg, Int32.zero_sub]
  · rw [if_neg h, if_pos (e.mpr (by omega))]
theorem j_lmin {k ci : Nat} {a b : Int} (hc : js_cl y pc 0 k 3 2 ci) (hs : js_sum st ≤ 8) (hd : 4 ≤ d) : js_J E d y pc ls ((1, b) :: (1, a) :: st) σ = js_J E d y (pc + 3) ls ((1, if js_l b < js_l a then b else a) :: st) σ := by
  refine j_lib (av := [(1, a), (1, b)]) hc rfl rfl hs hd ?_
  show some (some (Value.long (if Int64.ofInt b < Int64.ofInt a then Int64.ofInt b else Int64.ofInt a)), _) = some (some (Value.long (Int64.ofInt (if js_l b < js_l a then b else a))), _)
  by_cases h : js_l b < js_l a
  · rw [if_pos h, if_pos ((js_l_lt b a).mpr h)]
  · rw [if_neg h, if_neg (fun hh => h ((js_l_lt b a).mp hh))]
theorem j_lmax {k ci : Nat} {a b : Int} (hc : js_cl y pc 0 k 4 2 ci) (hs : js_sum st ≤ 8) (hd : 4 ≤ d) : js_J E d y pc ls ((1, b) :: (1, a) :: st) σ = js_J E d y (pc + 3) ls ((1, if js_l b < js_l a then a else b) :: st) σ := by
  refine j_lib (av := [(1, a), (1, b)]) hc rfl rfl hs hd ?_
  show some (some (Value.long (if Int64.ofInt b < Int64.ofInt a then Int64.ofInt a else Int64.ofInt b)), _) = some (some (Value.long (Int64.ofInt (if js_l b < js_l a then a else b))), _)
  by_cases h : js_l b < js_l a
  · rw [if_pos h, if_pos ((js_l_lt b a).mpr h)]
  · rw [if_neg h, if_neg (fun hh => h ((js_l_lt b a).mp hh))]
theorem j_labs {k ci : Nat} {a : Int} (hc : js_cl y pc 0 k 5 1 ci) (hs : js_sum st ≤ 8) (hd : 4 ≤ d) : js_J E d y pc ls ((1, a) :: st) σ = js_J E d y (pc + 3) ls ((1, if 0 < js_l a then a else -a) :: st) σ := by
  refine j_lib (av := [(1, a)]) hc rfl rfl hs hd ?_
  show some (some (Value.long (if 0 < Int64.ofInt a then Int64.ofInt a else -Int64.ofInt a)), _) = some (some (Value.long (Int64.ofInt (if 0 < js_l a then a else -a))), _)
  have e : (0 : Int64) < Int64.ofInt a ↔ 0 < js_l a := js_l_lt 0 a
  by_cases h : 0 < js_l a
  · rw [if_pos h, if_pos (e.mpr h)]
  · rw [if_neg h, if_neg (fun hh => h (e.mp hh)), Int64.ofInt_neg]
/-- the store with one more cell: a thrown one of class c; a Symbol -/
def js_ne (σ : js_S) (c : Int) : js_S := fun b j => if b = σ (-1) 0 then (if j = 15 then c else 0) else if b = -1 ∧ j = 0 then σ (-1) 0 + 1 else if b = -1 ∧ j = 1 then σ (-1) 1 + 6 else σ b j
def js_ns (σ : js_S) : js_S := fun b j => if b = σ (-1) 0 then (if j = 15 then 11 else 0) else if b = -1 ∧ j = 0 then σ (-1) 0 + 1 else if b = -1 ∧ j = 1 then σ (-1) 1 + 15 else σ b j
theorem js_cell_new {M : Int} {σ σ2 : js_S} {n : Int} (hn : σ (-1) 0 = n) (h137 : 137 ≤ n) (h1 : σ2 (-1) 0 = n + 1) (h2 : ∀ b : Int, b ≠ n → b ≠ -1 → σ2 b = σ b) {x : ip_E} (hx : js_cell M σ2 n.toNat = some x) : js_cell M σ2 = va_up (js_cell M σ) n.toNat (some x) := by
  funext q
  unfold va_up
  split
  · rename_i hq
    rw [hq, hx]
  · rename_i hq
    have hne : (q : Int) ≠ n := fun h => hq (by omega)
    have e : σ2 (q : Int) = σ (q : Int) := h2 _ hne (by omega)
    have e2 : js_desc M σ2 (q : Int) = js_desc M σ (q : Int) := by
      unfold js_desc
      rw [h1, hn, e]
      by_cases h3 : (q : Int) < 137
      · simp only [h3, if_true]
      · simp only [h3, if_false]
        by_cases h4 : (q : Int) < n
        · rw [if_pos (show (q : Int) < n + 1 by omega), if_pos h4]
        · rw [if_neg (show ¬ (q : Int) < n + 1 by omega), if_neg h4]
    unfold js_cell
    rw [e2, e]
theorem js_wd_ne {M : Int} {σ : js_S} {c : Nat} (h137 : 137 ≤ σ (-1) 0) (hs : 0 ≤ σ (-1) 1) (hc : 13 ≤ c) : js_wd M (js_ne σ ((c : Int) + 3)) = ip_thw (js_wd M σ) c := by
  have e0 : js_ne σ ((c : Int) + 3) (-1) 0 = σ (-1) 0 + 1 := by
    unfold js_ne
    rw [if_neg (by omega), if_pos ⟨rfl, rfl⟩]
  have e1 : js_ne σ ((c : Int) + 3) (-1) 1 = σ (-1) 1 + 6 := by
    unfold js_ne
    rw [if_neg (by omega), if_neg (by omega), if_pos ⟨rfl, rfl⟩]
  have e2 : js_ne σ ((c : Int) + 3) (σ (-1) 0) 15 = (c : Int) + 3 := by
    unfold js_ne
    rw [if_pos rfl, if_pos rfl]
  have hx : js_cell M (js_ne σ ((c : Int) + 3)) (σ (-1) 0).toNat = some (.inr (c + 3, [])) := by
    unfold js_cell js_desc
    rw [Int.toNat_of_nonneg (by omega), if_pos (by omega), if_neg (by omega), e0, if_pos (by omega), e2, if_neg (by omega)]
    show some (Sum.inr (((c : Int) + 3).toNat, ([] : List Value))) = _
    congr 3
  have e3 := js_cell_new (M := M) rfl h137 e0 (fun b h1 h2 => by
    funext j
    unfold js_ne
    rw [if_neg h1, if_neg (fun h => h2 h.1), if_neg (fun h => h2 h.1)]) hx
  unfold js_wd ip_thw
  rw [e0, e1, e3]
  have g1 : (σ (-1) 0 + 1).toNat = (σ (-1) 0).toNat + 1 := by omega
  have g2 : (σ (-1) 1 + 6).toNat = (σ (-1) 1).toNat + 6 := by omega
  rw [g1, g2]
theorem js_wd_ns {M : Int} {σ : js_S} (h137 : 137 ≤ σ (-1) 0) (hs : 0 ≤ σ (-1) 1) : js_wd M (js_ns σ) = ((js_wd M σ).1 + 1, (js_wd M σ).2.1 + 15, va_up (js_wd M σ).2.2 (js_wd M σ).1 (some (.inr (11, [.int 0, .int 0, .int 0, .int 0, .int 0, .int 0, .int 0, .int 0, .int 0, .int 0, .int 0, .int 0, .int 0, .int 0, .int 0])))) := by
  have e0 : js_ns σ (-1) 0 = σ (-1) 0 + 1 := by
    unfold js_ns
    rw [if_neg (by omega), if_pos ⟨rfl, rfl⟩]
  have e1 : js_ns σ (-1) 1 = σ (-1) 1 + 15 := by
    unfold js_ns
    rw [if_neg (by omega), if_neg (by omega), if_pos ⟨rfl, rfl⟩]
  have e2 : js_ns σ (σ (-1) 0) = fun j => if j = 15 then 11 else 0 := by
    funext j
    unfold js_ns
    rw [if_pos rfl]
  have hx : js_cell M (js_ns σ) (σ (-1) 0).toNat = some (.inr (11, [.int 0, .int 0, .int 0, .int 0, .int 0, .int 0, .int 0, .int 0, .int 0, .int 0, .int 0, .int 0, .int 0, .int 0, .int 0])) := by
    unfold js_cell js_desc
    rw [Int.toNat_of_nonneg (by omega), if_pos (by omega), if_neg (by omega), e0, if_pos (by omega), e2]
    rfl
  have e3 := js_cell_new (M := M) rfl h137 e0 (fun b h1 h2 => by
    funext j
    unfold js_ns
    rw [if_neg h1, if_neg (fun h => h2 h.1), if_neg (fun h => h2 h.1)]) hx
  unfold js_wd
  rw [e0, e1, e3]
  have g1 : (σ (-1) 0 + 1).toNat = (σ (-1) 0).toNat + 1 := by omega
  have g2 : (σ (-1) 1 + 15).toNat = (σ (-1) 1).toNat + 15 := by omega
  rw [g1, g2]
theorem j_throw {k c : Nat} {fl : List Value} {c3 : Int} (hI : js_I y pc = some (.new k, 3)) (hN : js_N y k = some (c, fl)) (hc : 13 ≤ c) (hc3 : (c : Int) + 3 = c3) (hh : (vt_hl.getD y []).isEmpty = true) (hs : js_sum st ≤ 8) (hd : 6 ≤ d) (h137 : 137 ≤ σ (-1) 0) (h1 : 0 ≤ σ (-1) 1) : js_J E d y pc ls st σ = js_t E (σ (-1) 0) (js_ne σ c3) := by
  subst hc3
  have hw : ip_tw (js_N y) (.new k) = some c := by
    simp only [ip_tw, hN, hc, if_true]
  refine Eq.trans (js_sthrow hI rfl hw hd hh (by rw [js_sum_eq]; exact hs)) ?_
  unfold js_t
  rw [js_wd_ne h137 h1 hc]
  rfl
theorem j_newsym {k : Nat} {fl : List Value} (hI : js_I y pc = some (.new k, 3)) (hN : js_N y k = some (11, fl)) (hf : fl = [.int 0, .int 0, .int 0, .int 0, .int 0, .int 0, .int 0, .int 0, .int 0, .int 0, .int 0, .int 0, .int 0, .int 0, .int 0]) (h137 : 137 ≤ σ (-1) 0) (h1 : 0 ≤ σ (-1) 1) : js_J E d y pc ls st σ = js_J E d y (pc + 3) ls ((2, σ (-1) 0) :: st) (js_ns σ) := by
  subst hf
  have hw : ip_tw (js_N y) (.new k) = none := by
    simp only [ip_tw, hN]
    rfl
  refine js_si (r := (pc + 3, js_L ls 0, List.map js_V ((2, σ (-1) 0) :: st), js_wd E.1 (js_ns σ))) hI rfl hw ?_
  show (match js_N y k with
    | some (ci, fs) => some (pc + 3, _, Value.ref (js_wd E.1 σ).1 :: _, ((js_wd E.1 σ).1 + 1, (js_wd E.1 σ).2.1 + fs.length, va_up (js_wd E.1 σ).2.2 (js_wd E.1 σ).1 (some (.inr (ci, fs)))))
    | none => none) = _
  rw [hN, js_wd_ns h137 h1]
  show _ = some (pc + 3, _, js_rf (σ (-1) 0) :: _, _)
  rw [js_rf_of (by omega)]
  rfl
/-- the script: its length, its ints -/
theorem j_slen {x : Int} (hI : js_I y pc = some (.arraylength, 1)) (hx : x = 100) : js_J E d y pc ls ((3, x) :: st) σ = js_J E d y (pc + 1) ls ((0, (E.2.1 : Int)) :: st) σ := by
  subst hx
  refine Eq.trans (js_srd (st2 := List.map js_V ((0, (E.2.1 : Int)) :: st)) hI rfl rfl rfl ?_) rfl
  show some (Value.int (Int32.ofNat E.2.1) :: _) = some (Value.int (Int32.ofInt (E.2.1 : Int)) :: _)
  rw [Int32.ofInt_eq_ofNat]
theorem j_sload {x i : Int} (hI : js_I y pc = some (.iaload, 1)) (hx : x = 100) (hi : 0 ≤ js_w i ∧ js_w i < E.2.1) : js_J E d y pc ls ((0, i) :: (3, x) :: st) σ = js_J E d y (pc + 1) ls ((0, (E.2.2 (js_w i).toNat).toInt) :: st) σ := by
  subst hx
  refine Eq.trans (js_srd (st2 := List.map js_V ((0, (E.2.2 (js_w i).toNat).toInt) :: st)) hI rfl rfl rfl ?_) rfl
  show (if ip_in (Int32.ofInt i) E.2.1 = true then some (Value.int (E.2.2 (Int32.ofInt i).toNatClampNeg) :: _) else none) = some (Value.int (Int32.ofInt (E.2.2 (js_w i).toNat).toInt) :: _)
  have h := (js_in i (E.2.1 : Int)).mpr hi
  rw [Int.toNat_natCast] at h
  rw [if_pos h, Int32.ofInt_toInt]
  rfl
end JSC
