/-! part 65: words for the block equations (printed by wip/whole/tools/gen70.py) -/
theorem js_ite {α : Type} {c : Prop} [Decidable c] {a a2 b b2 : α} (h1 : a = a2) (h2 : b = b2) : (if c then a else b) = (if c then a2 else b2) := by rw [h1, h2]
theorem js_itn {α : Type} {c : Prop} [Decidable c] {a a2 b : α} (h1 : a = a2) : (if c then a else b) = (if c then a2 else b) := by rw [h1]
theorem js_up_na (σ : js_S) {a i v b j : Int} (h : b ≠ a) : js_up σ a i v b j = σ b j := if_neg (fun hh => h hh.1)
theorem js_up_ni (σ : js_S) {a i v b j : Int} (h : j ≠ i) : js_up σ a i v b j = σ b j := if_neg (fun hh => h hh.2)
theorem js_itp {α : Type} {c : Prop} [Decidable c] {a a2 b : α} (h1 : c → a = a2) : (if c then a else b) = (if c then a2 else b) := by
  by_cases h : c
  · rw [if_pos h, if_pos h, h1 h]
  · rw [if_neg h, if_neg h]
theorem js_Fo {y o k : Nat} {q : Nat × Nat} (h : vt_O y = o) (h2 : ip_lk (vt_FL.getD o []) k = some q) : js_F y k = some q := by subst h; exact h2
theorem js_Mo {y o k : Nat} {q : Nat × Nat × Nat × Nat} (h : vt_O y = o) (h2 : ip_lk (vt_ML.getD o []) k = some q) : js_M y k = some q := by subst h; exact h2
theorem js_Co {y o k : Nat} {q : Value} (h : vt_O y = o) (h2 : ip_lk (vt_CL.getD o []) k = some q) : js_C y k = some q := by subst h; exact h2
theorem js_b8 {n : Int} (h : (decide (-128 ≤ n) && decide (n ≤ 127)) = true) : (Int8.ofInt n).toInt32 = Int32.ofInt n := by
  simp only [Bool.and_eq_true, decide_eq_true_eq] at h
  exact Int8.toInt32_ofInt h.1 h.2
theorem js_b16 {n : Int} (h : (decide (-32768 ≤ n) && decide (n ≤ 32767)) = true) : (Int16.ofInt n).toInt32 = Int32.ofInt n := by
  simp only [Bool.and_eq_true, decide_eq_true_eq] at h
  exact Int16.toInt32_ofInt h.1 h.2
theorem j_bi {E : js_E} {d y pc : Nat} {ls st : List js_v} {σ : js_S} {n : Int} (hI : js_I y pc = some (.bipush n, 2)) (h : (decide (-128 ≤ n) && decide (n ≤ 127)) = true) : js_J E d y pc ls st σ = js_J E d y (pc + 2) ls ((0, n) :: st) σ := j_bipush hI (js_b8 h)
theorem j_si {E : js_E} {d y pc : Nat} {ls st : List js_v} {σ : js_S} {n : Int} (hI : js_I y pc = some (.sipush n, 3)) (h : (decide (-32768 ≤ n) && decide (n ≤ 32767)) = true) : js_J E d y pc ls st σ = js_J E d y (pc + 3) ls ((0, n) :: st) σ := j_sipush hI (js_b16 h)
theorem j_cmpeqB {E : js_E} {d y pc : Nat} {ls st : List js_v} {σ : js_S} {a b B off : Int} {t : Nat} (hI : js_I y pc = some (.if_icmp .eq off, 3)) (ht : ip_tg pc off = some t) (hb : js_w b = B) : js_J E d y pc ls ((0, b) :: (0, a) :: st) σ = if js_w a = B then js_J E d y (t) ls st σ else js_J E d y (pc + 3) ls st σ := by
  subst hb
  exact j_cmpeq hI ht
theorem j_leqB {E : js_E} {d y pc : Nat} {ls st : List js_v} {σ : js_S} {a b B off : Int} {t : Nat} (hI : js_I y pc = some (.lcmp, 1)) (hI2 : js_I y (pc + 1) = some (.ifCond .eq off, 3)) (ht : ip_tg (pc + 1) off = some t) (hb : js_l b = B) : js_J E d y pc ls ((1, b) :: (1, a) :: st) σ = if js_l a = B then js_J E d y (t) ls st σ else js_J E d y (pc + 1 + 3) ls st σ := by
  subst hb
  exact j_leq hI hI2 ht
theorem j_cmpneB {E : js_E} {d y pc : Nat} {ls st : List js_v} {σ : js_S} {a b B off : Int} {t : Nat} (hI : js_I y pc = some (.if_icmp .ne off, 3)) (ht : ip_tg pc off = some t) (hb : js_w b = B) : js_J E d y pc ls ((0, b) :: (0, a) :: st) σ = if js_w a = B then js_J E d y (pc + 3) ls st σ else js_J E d y (t) ls st σ := by
  subst hb
  exact j_cmpne hI ht
theorem j_lneB {E : js_E} {d y pc : Nat} {ls st : List js_v} {σ : js_S} {a b B off : Int} {t : Nat} (hI : js_I y pc = some (.lcmp, 1)) (hI2 : js_I y (pc + 1) = some (.ifCond .ne off, 3)) (ht : ip_tg (pc + 1) off = some t) (hb : js_l b = B) : js_J E d y pc ls ((1, b) :: (1, a) :: st) σ = if js_l a = B then js_J E d y (pc + 1 + 3) ls st σ else js_J E d y (t) ls st σ := by
  subst hb
  exact j_lne hI hI2 ht
theorem j_cmpltB {E : js_E} {d y pc : Nat} {ls st : List js_v} {σ : js_S} {a b B off : Int} {t : Nat} (hI : js_I y pc = some (.if_icmp .lt off, 3)) (ht : ip_tg pc off = some t) (hb : js_w b = B) : js_J E d y pc ls ((0, b) :: (0, a) :: st) σ = if js_w a < B then js_J E d y (t) ls st σ else js_J E d y (pc + 3) ls st σ := by
  subst hb
  exact j_cmplt hI ht
theorem j_lltB {E : js_E} {d y pc : Nat} {ls st : List js_v} {σ : js_S} {a b B off : Int} {t : Nat} (hI : js_I y pc = some (.lcmp, 1)) (hI2 : js_I y (pc + 1) = some (.ifCond .lt off, 3)) (ht : ip_tg (pc + 1) off = some t) (hb : js_l b = B) : js_J E d y pc ls ((1, b) :: (1, a) :: st) σ = if js_l a < B then js_J E d y (t) ls st σ else js_J E d y (pc + 1 + 3) ls st σ := by
  subst hb
  exact j_llt hI hI2 ht
theorem j_cmpgeB {E : js_E} {d y pc : Nat} {ls st : List js_v} {σ : js_S} {a b B off : Int} {t : Nat} (hI : js_I y pc = some (.if_icmp .ge off, 3)) (ht : ip_tg pc off = some t) (hb : js_w b = B) : js_J E d y pc ls ((0, b) :: (0, a) :: st) σ = if js_w a < B then js_J E d y (pc + 3) ls st σ else js_J E d y (t) ls st σ := by
  subst hb
  exact j_cmpge hI ht
theorem j_lgeB {E : js_E} {d y pc : Nat} {ls st : List js_v} {σ : js_S} {a b B off : Int} {t : Nat} (hI : js_I y pc = some (.lcmp, 1)) (hI2 : js_I y (pc + 1) = some (.ifCond .ge off, 3)) (ht : ip_tg (pc + 1) off = some t) (hb : js_l b = B) : js_J E d y pc ls ((1, b) :: (1, a) :: st) σ = if js_l a < B then js_J E d y (pc + 1 + 3) ls st σ else js_J E d y (t) ls st σ := by
  subst hb
  exact j_lge hI hI2 ht
theorem j_cmpgtB {E : js_E} {d y pc : Nat} {ls st : List js_v} {σ : js_S} {a b B off : Int} {t : Nat} (hI : js_I y pc = some (.if_icmp .gt off, 3)) (ht : ip_tg pc off = some t) (hb : js_w b = B) : js_J E d y pc ls ((0, b) :: (0, a) :: st) σ = if B < js_w a then js_J E d y (t) ls st σ else js_J E d y (pc + 3) ls st σ := by
  subst hb
  exact j_cmpgt hI ht
theorem j_lgtB {E : js_E} {d y pc : Nat} {ls st : List js_v} {σ : js_S} {a b B off : Int} {t : Nat} (hI : js_I y pc = some (.lcmp, 1)) (hI2 : js_I y (pc + 1) = some (.ifCond .gt off, 3)) (ht : ip_tg (pc + 1) off = some t) (hb : js_l b = B) : js_J E d y pc ls ((1, b) :: (1, a) :: st) σ = if B < js_l a then js_J E d y (t) ls st σ else js_J E d y (pc + 1 + 3) ls st σ := by
  subst hb
  exact j_lgt hI hI2 ht
theorem j_cmpleB {E : js_E} {d y pc : Nat} {ls st : List js_v} {σ : js_S} {a b B off : Int} {t : Nat} (hI : js_I y pc = some (.if_icmp .le off, 3)) (ht : ip_tg pc off = some t) (hb : js_w b = B) : js_J E d y pc ls ((0, b) :: (0, a) :: st) σ = if B < js_w a then js_J E d y (pc + 3) ls st σ else js_J E d y (t) ls st σ := by
  subst hb
  exact j_cmple hI ht
theorem j_lleB {E : js_E} {d y pc : Nat} {ls st : List js_v} {σ : js_S} {a b B off : Int} {t : Nat} (hI : js_I y pc = some (.lcmp, 1)) (hI2 : js_I y (pc + 1) = some (.ifCond .le off, 3)) (ht : ip_tg (pc + 1) off = some t) (hb : js_l b = B) : js_J E d y pc ls ((1, b) :: (1, a) :: st) σ = if B < js_l a then js_J E d y (pc + 1 + 3) ls st σ else js_J E d y (t) ls st σ := by
  subst hb
  exact j_lle hI hI2 ht
theorem j_ialoadk {E : js_E} {d y pc : Nat} {ls st : List js_v} {σ : js_S} {a n i k : Int} (hI : js_I y pc = some (.iaload, 1)) (ha : js_desc E.1 σ a = some (1, n, [])) (hi : js_w i = k) (hk : (decide (0 ≤ k) && decide (k < n)) = true) : js_J E d y pc ls ((0, i) :: (2, a) :: st) σ = js_J E d y (pc + 1) ls ((0, σ a k) :: st) σ := by
  subst hi
  simp only [Bool.and_eq_true, decide_eq_true_eq] at hk
  exact (j_iaload hI ha).trans (if_pos hk)
theorem j_baloadk {E : js_E} {d y pc : Nat} {ls st : List js_v} {σ : js_S} {a n i k : Int} (hI : js_I y pc = some (.baload, 1)) (ha : js_desc E.1 σ a = some (2, n, [])) (hi : js_w i = k) (hk : (decide (0 ≤ k) && decide (k < n)) = true) : js_J E d y pc ls ((0, i) :: (2, a) :: st) σ = js_J E d y (pc + 1) ls ((0, σ a k) :: st) σ := by
  subst hi
  simp only [Bool.and_eq_true, decide_eq_true_eq] at hk
  exact (j_baload hI ha).trans (if_pos hk)
theorem j_zaloadk {E : js_E} {d y pc : Nat} {ls st : List js_v} {σ : js_S} {a n i k : Int} (hI : js_I y pc = some (.baload, 1)) (ha : js_desc E.1 σ a = some (4, n, [])) (hi : js_w i = k) (hk : (decide (0 ≤ k) && decide (k < n)) = true) : js_J E d y pc ls ((0, i) :: (2, a) :: st) σ = js_J E d y (pc + 1) ls ((0, σ a k) :: st) σ := by
  subst hi
  simp only [Bool.and_eq_true, decide_eq_true_eq] at hk
  exact (j_zaload hI ha).trans (if_pos hk)
theorem j_laloadk {E : js_E} {d y pc : Nat} {ls st : List js_v} {σ : js_S} {a n i k : Int} (hI : js_I y pc = some (.laload, 1)) (ha : js_desc E.1 σ a = some (3, n, [])) (hi : js_w i = k) (hk : (decide (0 ≤ k) && decide (k < n)) = true) : js_J E d y pc ls ((0, i) :: (2, a) :: st) σ = js_J E d y (pc + 1) ls ((1, σ a k) :: st) σ := by
  subst hi
  simp only [Bool.and_eq_true, decide_eq_true_eq] at hk
  exact (j_laload hI ha).trans (if_pos hk)
theorem j_ialoadv {E : js_E} {d y pc : Nat} {ls st : List js_v} {σ : js_S} {a n i v : Int} (hI : js_I y pc = some (.iaload, 1)) (ha : js_desc E.1 σ a = some (1, n, [])) (hv : σ a (js_w i) = v) : js_J E d y pc ls ((0, i) :: (2, a) :: st) σ = if 0 ≤ js_w i ∧ js_w i < n then js_J E d y (pc + 1) ls ((0, v) :: st) σ else none := by
  subst hv
  exact j_iaload hI ha
theorem j_ialoadkv {E : js_E} {d y pc : Nat} {ls st : List js_v} {σ : js_S} {a n i k v : Int} (hI : js_I y pc = some (.iaload, 1)) (ha : js_desc E.1 σ a = some (1, n, [])) (hi : js_w i = k) (hk : (decide (0 ≤ k) && decide (k < n)) = true) (hv : σ a k = v) : js_J E d y pc ls ((0, i) :: (2, a) :: st) σ = js_J E d y (pc + 1) ls ((0, v) :: st) σ := by
  subst hv
  exact j_ialoadk hI ha hi hk
theorem j_baloadv {E : js_E} {d y pc : Nat} {ls st : List js_v} {σ : js_S} {a n i v : Int} (hI : js_I y pc = some (.baload, 1)) (ha : js_desc E.1 σ a = some (2, n, [])) (hv : σ a (js_w i) = v) : js_J E d y pc ls ((0, i) :: (2, a) :: st) σ = if 0 ≤ js_w i ∧ js_w i < n then js_J E d y (pc + 1) ls ((0, v) :: st) σ else none := by
  subst hv
  exact j_baload hI ha
theorem j_baloadkv {E : js_E} {d y pc : Nat} {ls st : List js_v} {σ : js_S} {a n i k v : Int} (hI : js_I y pc = some (.baload, 1)) (ha : js_desc E.1 σ a = some (2, n, [])) (hi : js_w i = k) (hk : (decide (0 ≤ k) && decide (k < n)) = true) (hv : σ a k = v) : js_J E d y pc ls ((0, i) :: (2, a) :: st) σ = js_J E d y (pc + 1) ls ((0, v) :: st) σ := by
  subst hv
  exact j_baloadk hI ha hi hk
theorem j_zaloadv {E : js_E} {d y pc : Nat} {ls st : List js_v} {σ : js_S} {a n i v : Int} (hI : js_I y pc = some (.baload, 1)) (ha : js_desc E.1 σ a = some (4, n, [])) (hv : σ a (js_w i) = v) : js_J E d y pc ls ((0, i) :: (2, a) :: st) σ = if 0 ≤ js_w i ∧ js_w i < n then js_J E d y (pc + 1) ls ((0, v) :: st) σ else none := by
  subst hv
  exact j_zaload hI ha
theorem j_zaloadkv {E : js_E} {d y pc : Nat} {ls st : List js_v} {σ : js_S} {a n i k v : Int} (hI : js_I y pc = some (.baload, 1)) (ha : js_desc E.1 σ a = some (4, n, [])) (hi : js_w i = k) (hk : (decide (0 ≤ k) && decide (k < n)) = true) (hv : σ a k = v) : js_J E d y pc ls ((0, i) :: (2, a) :: st) σ = js_J E d y (pc + 1) ls ((0, v) :: st) σ := by
  subst hv
  exact j_zaloadk hI ha hi hk
theorem j_laloadv {E : js_E} {d y pc : Nat} {ls st : List js_v} {σ : js_S} {a n i v : Int} (hI : js_I y pc = some (.laload, 1)) (ha : js_desc E.1 σ a = some (3, n, [])) (hv : σ a (js_w i) = v) : js_J E d y pc ls ((0, i) :: (2, a) :: st) σ = if 0 ≤ js_w i ∧ js_w i < n then js_J E d y (pc + 1) ls ((1, v) :: st) σ else none := by
  subst hv
  exact j_laload hI ha
theorem j_laloadkv {E : js_E} {d y pc : Nat} {ls st : List js_v} {σ : js_S} {a n i k v : Int} (hI : js_I y pc = some (.laload, 1)) (ha : js_desc E.1 σ a = some (3, n, [])) (hi : js_w i = k) (hk : (decide (0 ≤ k) && decide (k < n)) = true) (hv : σ a k = v) : js_J E d y pc ls ((0, i) :: (2, a) :: st) σ = js_J E d y (pc + 1) ls ((1, v) :: st) σ := by
  subst hv
  exact j_laloadk hI ha hi hk
theorem j_aaloadv {E : js_E} {d y pc : Nat} {ls st : List js_v} {σ : js_S} {a n i v : Int} (hI : js_I y pc = some (.aaload, 1)) (ha : js_desc E.1 σ a = some (5, n, [])) (hv : σ a (js_w i) = v) : js_J E d y pc ls ((0, i) :: (2, a) :: st) σ = if 0 ≤ js_w i ∧ js_w i < n then js_J E d y (pc + 1) ls ((2, v) :: st) σ else none := by
  subst hv
  exact j_aaload hI ha
theorem j_iastorek {E : js_E} {d y pc : Nat} {ls st : List js_v} {σ : js_S} {a n i k x : Int} (hI : js_I y pc = some (.iastore, 1)) (ha : js_desc E.1 σ a = some (1, n, [])) (hi : js_w i = k) (hk : (decide (0 ≤ k) && decide (k < n)) = true) : js_J E d y pc ls ((0, x) :: (0, i) :: (2, a) :: st) σ = js_J E d y (pc + 1) ls st (js_up σ a k x) := by
  subst hi
  simp only [Bool.and_eq_true, decide_eq_true_eq] at hk
  exact (j_iastore hI ha).trans (if_pos hk)
theorem j_bastorek {E : js_E} {d y pc : Nat} {ls st : List js_v} {σ : js_S} {a n i k x : Int} (hI : js_I y pc = some (.bastore, 1)) (ha : js_desc E.1 σ a = some (2, n, [])) (hi : js_w i = k) (hk : (decide (0 ≤ k) && decide (k < n)) = true) : js_J E d y pc ls ((0, x) :: (0, i) :: (2, a) :: st) σ = js_J E d y (pc + 1) ls st (js_up σ a k (js_i2b x)) := by
  subst hi
  simp only [Bool.and_eq_true, decide_eq_true_eq] at hk
  exact (j_bastore hI ha).trans (if_pos hk)
theorem j_zastorek {E : js_E} {d y pc : Nat} {ls st : List js_v} {σ : js_S} {a n i k x : Int} (hI : js_I y pc = some (.bastore, 1)) (ha : js_desc E.1 σ a = some (4, n, [])) (hi : js_w i = k) (hk : (decide (0 ≤ k) && decide (k < n)) = true) : js_J E d y pc ls ((0, x) :: (0, i) :: (2, a) :: st) σ = js_J E d y (pc + 1) ls st (js_up σ a k (js_iand x 1)) := by
  subst hi
  simp only [Bool.and_eq_true, decide_eq_true_eq] at hk
  exact (j_zastore hI ha).trans (if_pos hk)
theorem j_lastorek {E : js_E} {d y pc : Nat} {ls st : List js_v} {σ : js_S} {a n i k x : Int} (hI : js_I y pc = some (.lastore, 1)) (ha : js_desc E.1 σ a = some (3, n, [])) (hi : js_w i = k) (hk : (decide (0 ≤ k) && decide (k < n)) = true) : js_J E d y pc ls ((1, x) :: (0, i) :: (2, a) :: st) σ = js_J E d y (pc + 1) ls st (js_up σ a k x) := by
  subst hi
  simp only [Bool.and_eq_true, decide_eq_true_eq] at hk
  exact (j_lastore hI ha).trans (if_pos hk)
theorem j_idivk {E : js_E} {d y pc : Nat} {ls st : List js_v} {σ : js_S} {a b k : Int} (hI : js_I y pc = some (.idiv, 1)) (hb : js_w b = k) (hk : k ≠ 0) : js_J E d y pc ls ((0, b) :: (0, a) :: st) σ = js_J E d y (pc + 1) ls ((0, (js_w a).tdiv k) :: st) σ := by
  subst hb
  exact (j_idiv hI).trans (if_neg hk)
theorem j_iremk {E : js_E} {d y pc : Nat} {ls st : List js_v} {σ : js_S} {a b k : Int} (hI : js_I y pc = some (.irem, 1)) (hb : js_w b = k) (hk : k ≠ 0) : js_J E d y pc ls ((0, b) :: (0, a) :: st) σ = js_J E d y (pc + 1) ls ((0, (js_w a).tmod k) :: st) σ := by
  subst hb
  exact (j_irem hI).trans (if_neg hk)
theorem j_ldivk {E : js_E} {d y pc : Nat} {ls st : List js_v} {σ : js_S} {a b k : Int} (hI : js_I y pc = some (.ldiv, 1)) (hb : js_l b = k) (hk : k ≠ 0) : js_J E d y pc ls ((1, b) :: (1, a) :: st) σ = js_J E d y (pc + 1) ls ((1, (js_l a).tdiv k) :: st) σ := by
  subst hb
  exact (j_ldiv hI).trans (if_neg hk)
theorem j_lremk {E : js_E} {d y pc : Nat} {ls st : List js_v} {σ : js_S} {a b k : Int} (hI : js_I y pc = some (.lrem, 1)) (hb : js_l b = k) (hk : k ≠ 0) : js_J E d y pc ls ((1, b) :: (1, a) :: st) σ = js_J E d y (pc + 1) ls ((1, (js_l a).tmod k) :: st) σ := by
  subst hb
  exact (j_lrem hI).trans (if_neg hk)
theorem j_i2lk {E : js_E} {d y pc : Nat} {ls st : List js_v} {σ : js_S} {a k : Int} (hI : js_I y pc = some (.i2l, 1)) (hk : js_w a = k) : js_J E d y pc ls ((0, a) :: st) σ = js_J E d y (pc + 1) ls ((1, k) :: st) σ := by
  subst hk
  exact j_i2l hI
theorem js_o0 {E : js_E} {σ : js_S} : js_desc E.1 σ 0 = some (0, 0, [(4, 1), (4, 56), (4, 82), (0, 0), (3, 0), (3, 0)]) := rfl
theorem js_o1 {E : js_E} {σ : js_S} : js_desc E.1 σ 1 = some (0, 8, [(0, 0), (0, 0), (0, 0), (0, 0), (4, 2), (0, 0), (0, 0), (4, 3), (4, 4), (4, 5), (0, 0), (0, 0)]) := rfl
theorem js_o2 {E : js_E} {σ : js_S} : js_desc E.1 σ 2 = some (2, 20, []) := rfl
theorem js_o3 {E : js_E} {σ : js_S} : js_desc E.1 σ 3 = some (2, 8192, []) := rfl
theorem js_o4 {E : js_E} {σ : js_S} : js_desc E.1 σ 4 = some (2, 8193, []) := rfl
theorem js_o5 {E : js_E} {σ : js_S} : js_desc E.1 σ 5 = some (1, 8193, []) := rfl
theorem js_o6 {E : js_E} {σ : js_S} : js_desc E.1 σ 6 = some (0, 4, [(4, 7), (4, 1), (5, E.1), (4, 21), (4, 22)]) := rfl
theorem js_o7 {E : js_E} {σ : js_S} : js_desc E.1 σ 7 = some (0, 7, [(4, 8), (0, 0), (0, 0), (0, 0), (0, 0), (0, 0), (0, 0), (4, 19), (4, 20)]) := rfl
theorem js_o8 {E : js_E} {σ : js_S} : js_desc E.1 σ 8 = some (0, 1, [(4, 9), (4, 10), (4, 11), (4, 12), (4, 13), (4, 14), (0, 0), (0, 0), (0, 0), (0, 0), (0, 0), (0, 0), (0, 0), (4, 15), (4, 16), (4, 17), (4, 18)]) := rfl
theorem js_o9 {E : js_E} {σ : js_S} : js_desc E.1 σ 9 = some (1, 8192, []) := rfl
theorem js_o10 {E : js_E} {σ : js_S} : js_desc E.1 σ 10 = some (1, 8192, []) := rfl
theorem js_o11 {E : js_E} {σ : js_S} : js_desc E.1 σ 11 = some (1, 8192, []) := rfl
theorem js_o12 {E : js_E} {σ : js_S} : js_desc E.1 σ 12 = some (1, 8192, []) := rfl
theorem js_o13 {E : js_E} {σ : js_S} : js_desc E.1 σ 13 = some (1, 8192, []) := rfl
theorem js_o14 {E : js_E} {σ : js_S} : js_desc E.1 σ 14 = some (1, 8192, []) := rfl
theorem js_o15 {E : js_E} {σ : js_S} : js_desc E.1 σ 15 = some (1, 401, []) := rfl
theorem js_o16 {E : js_E} {σ : js_S} : js_desc E.1 σ 16 = some (1, 401, []) := rfl
theorem js_o17 {E : js_E} {σ : js_S} : js_desc E.1 σ 17 = some (1, 1024, []) := rfl
theorem js_o18 {E : js_E} {σ : js_S} : js_desc E.1 σ 18 = some (1, 1024, []) := rfl
theorem js_o19 {E : js_E} {σ : js_S} : js_desc E.1 σ 19 = some (5, 400, []) := rfl
theorem js_o20 {E : js_E} {σ : js_S} : js_desc E.1 σ 20 = some (2, 8000, []) := rfl
theorem js_o21 {E : js_E} {σ : js_S} : js_desc E.1 σ 21 = some (0, 2, [(0, 0), (0, 0), (0, 0), (4, 1), (4, 7)]) := rfl
theorem js_o22 {E : js_E} {σ : js_S} : js_desc E.1 σ 22 = some (0, 10, [(0, 0), (4, 1), (4, 7), (4, 8), (4, 21), (4, 23)]) := rfl
theorem js_o23 {E : js_E} {σ : js_S} : js_desc E.1 σ 23 = some (0, 5, [(0, 0), (0, 0), (0, 0), (0, 0), (4, 1), (4, 7), (4, 8), (4, 21), (4, 24), (4, 25), (4, 26), (4, 27), (4, 28), (4, 29), (4, 30), (0, 0)]) := rfl
theorem js_o24 {E : js_E} {σ : js_S} : js_desc E.1 σ 24 = some (1, 512, []) := rfl
theorem js_o25 {E : js_E} {σ : js_S} : js_desc E.1 σ 25 = some (1, 512, []) := rfl
theorem js_o26 {E : js_E} {σ : js_S} : js_desc E.1 σ 26 = some (1, 512, []) := rfl
theorem js_o27 {E : js_E} {σ : js_S} : js_desc E.1 σ 27 = some (1, 512, []) := rfl
theorem js_o28 {E : js_E} {σ : js_S} : js_desc E.1 σ 28 = some (1, 512, []) := rfl
theorem js_o29 {E : js_E} {σ : js_S} : js_desc E.1 σ 29 = some (1, 512, []) := rfl
theorem js_o30 {E : js_E} {σ : js_S} : js_desc E.1 σ 30 = some (1, 512, []) := rfl
theorem js_o31 {E : js_E} {σ : js_S} : js_desc E.1 σ 31 = some (0, 4, [(4, 32), (4, 1), (5, E.1), (4, 46), (4, 47)]) := rfl
theorem js_o32 {E : js_E} {σ : js_S} : js_desc E.1 σ 32 = some (0, 7, [(4, 33), (0, 0), (0, 0), (0, 0), (0, 0), (0, 0), (0, 0), (4, 44), (4, 45)]) := rfl
theorem js_o33 {E : js_E} {σ : js_S} : js_desc E.1 σ 33 = some (0, 1, [(4, 34), (4, 35), (4, 36), (4, 37), (4, 38), (4, 39), (0, 0), (0, 0), (0, 0), (0, 0), (0, 0), (0, 0), (0, 0), (4, 40), (4, 41), (4, 42), (4, 43)]) := rfl
theorem js_o34 {E : js_E} {σ : js_S} : js_desc E.1 σ 34 = some (1, 8192, []) := rfl
theorem js_o35 {E : js_E} {σ : js_S} : js_desc E.1 σ 35 = some (1, 8192, []) := rfl
theorem js_o36 {E : js_E} {σ : js_S} : js_desc E.1 σ 36 = some (1, 8192, []) := rfl
theorem js_o37 {E : js_E} {σ : js_S} : js_desc E.1 σ 37 = some (1, 8192, []) := rfl
theorem js_o38 {E : js_E} {σ : js_S} : js_desc E.1 σ 38 = some (1, 8192, []) := rfl
theorem js_o39 {E : js_E} {σ : js_S} : js_desc E.1 σ 39 = some (1, 8192, []) := rfl
theorem js_o40 {E : js_E} {σ : js_S} : js_desc E.1 σ 40 = some (1, 401, []) := rfl
theorem js_o41 {E : js_E} {σ : js_S} : js_desc E.1 σ 41 = some (1, 401, []) := rfl
theorem js_o42 {E : js_E} {σ : js_S} : js_desc E.1 σ 42 = some (1, 1024, []) := rfl
theorem js_o43 {E : js_E} {σ : js_S} : js_desc E.1 σ 43 = some (1, 1024, []) := rfl
theorem js_o44 {E : js_E} {σ : js_S} : js_desc E.1 σ 44 = some (5, 400, []) := rfl
theorem js_o45 {E : js_E} {σ : js_S} : js_desc E.1 σ 45 = some (2, 8000, []) := rfl
theorem js_o46 {E : js_E} {σ : js_S} : js_desc E.1 σ 46 = some (0, 2, [(0, 0), (0, 0), (0, 0), (4, 1), (4, 32)]) := rfl
theorem js_o47 {E : js_E} {σ : js_S} : js_desc E.1 σ 47 = some (0, 10, [(0, 0), (4, 1), (4, 32), (4, 33), (4, 46), (4, 48)]) := rfl
theorem js_o48 {E : js_E} {σ : js_S} : js_desc E.1 σ 48 = some (0, 5, [(0, 0), (0, 0), (0, 0), (0, 0), (4, 1), (4, 32), (4, 33), (4, 46), (4, 49), (4, 50), (4, 51), (4, 52), (4, 53), (4, 54), (4, 55), (0, 0)]) := rfl
theorem js_o49 {E : js_E} {σ : js_S} : js_desc E.1 σ 49 = some (1, 512, []) := rfl
theorem js_o50 {E : js_E} {σ : js_S} : js_desc E.1 σ 50 = some (1, 512, []) := rfl
theorem js_o51 {E : js_E} {σ : js_S} : js_desc E.1 σ 51 = some (1, 512, []) := rfl
theorem js_o52 {E : js_E} {σ : js_S} : js_desc E.1 σ 52 = some (1, 512, []) := rfl
theorem js_o53 {E : js_E} {σ : js_S} : js_desc E.1 σ 53 = some (1, 512, []) := rfl
theorem js_o54 {E : js_E} {σ : js_S} : js_desc E.1 σ 54 = some (1, 512, []) := rfl
theorem js_o55 {E : js_E} {σ : js_S} : js_desc E.1 σ 55 = some (1, 512, []) := rfl
theorem js_o56 {E : js_E} {σ : js_S} : js_desc E.1 σ 56 = some (0, 6, [(4, 58), (3, 0), (2, 0), (0, 0), (0, 0), (4, 79), (4, 81), (4, 57), (0, 0), (0, 0), (4, 65), (4, 72), (4, 80)]) := rfl
theorem js_o57 {E : js_E} {σ : js_S} : js_desc E.1 σ 57 = some (1, 32, []) := rfl
theorem js_o58 {E : js_E} {σ : js_S} : js_desc E.1 σ 58 = some (0, 9, [(0, 0), (0, 0), (0, 0), (0, 0), (4, 59), (4, 62)]) := rfl
theorem js_o59 {E : js_E} {σ : js_S} : js_desc E.1 σ 59 = some (0, 3, [(1, 0), (1, 0), (0, 0), (0, 0), (6, 1), (4, 61), (4, 60)]) := rfl
theorem js_o60 {E : js_E} {σ : js_S} : js_desc E.1 σ 60 = some (1, 16, []) := rfl
theorem js_o61 {E : js_E} {σ : js_S} : js_desc E.1 σ 61 = some (3, E.1, []) := rfl
theorem js_o62 {E : js_E} {σ : js_S} : js_desc E.1 σ 62 = some (0, 3, [(1, 0), (1, 0), (0, 0), (0, 0), (6, 58659), (4, 64), (4, 63)]) := rfl
theorem js_o63 {E : js_E} {σ : js_S} : js_desc E.1 σ 63 = some (1, 16, []) := rfl
theorem js_o64 {E : js_E} {σ : js_S} : js_desc E.1 σ 64 = some (3, E.1, []) := rfl
theorem js_o65 {E : js_E} {σ : js_S} : js_desc E.1 σ 65 = some (0, 9, [(0, 0), (0, 0), (0, 0), (0, 0), (4, 66), (4, 69)]) := rfl
theorem js_o66 {E : js_E} {σ : js_S} : js_desc E.1 σ 66 = some (0, 3, [(1, 0), (1, 0), (0, 0), (0, 0), (6, 1), (4, 68), (4, 67)]) := rfl
theorem js_o67 {E : js_E} {σ : js_S} : js_desc E.1 σ 67 = some (1, 16, []) := rfl
theorem js_o68 {E : js_E} {σ : js_S} : js_desc E.1 σ 68 = some (3, E.1, []) := rfl
theorem js_o69 {E : js_E} {σ : js_S} : js_desc E.1 σ 69 = some (0, 3, [(1, 0), (1, 0), (0, 0), (0, 0), (6, 58659), (4, 71), (4, 70)]) := rfl
theorem js_o70 {E : js_E} {σ : js_S} : js_desc E.1 σ 70 = some (1, 16, []) := rfl
theorem js_o71 {E : js_E} {σ : js_S} : js_desc E.1 σ 71 = some (3, E.1, []) := rfl
theorem js_o72 {E : js_E} {σ : js_S} : js_desc E.1 σ 72 = some (0, 9, [(0, 0), (0, 0), (0, 0), (0, 0), (4, 73), (4, 76)]) := rfl
theorem js_o73 {E : js_E} {σ : js_S} : js_desc E.1 σ 73 = some (0, 3, [(1, 0), (1, 0), (0, 0), (0, 0), (6, 1), (4, 75), (4, 74)]) := rfl
theorem js_o74 {E : js_E} {σ : js_S} : js_desc E.1 σ 74 = some (1, 16, []) := rfl
theorem js_o75 {E : js_E} {σ : js_S} : js_desc E.1 σ 75 = some (3, E.1, []) := rfl
theorem js_o76 {E : js_E} {σ : js_S} : js_desc E.1 σ 76 = some (0, 3, [(1, 0), (1, 0), (0, 0), (0, 0), (6, 58659), (4, 78), (4, 77)]) := rfl
theorem js_o77 {E : js_E} {σ : js_S} : js_desc E.1 σ 77 = some (1, 16, []) := rfl
theorem js_o78 {E : js_E} {σ : js_S} : js_desc E.1 σ 78 = some (3, E.1, []) := rfl
theorem js_o79 {E : js_E} {σ : js_S} : js_desc E.1 σ 79 = some (1, E.1, []) := rfl
theorem js_o80 {E : js_E} {σ : js_S} : js_desc E.1 σ 80 = some (1, E.1, []) := rfl
theorem js_o81 {E : js_E} {σ : js_S} : js_desc E.1 σ 81 = some (1, 16 * E.1, []) := rfl
theorem js_o82 {E : js_E} {σ : js_S} : js_desc E.1 σ 82 = some (2, 64, []) := rfl
theorem js_o83 {E : js_E} {σ : js_S} : js_desc E.1 σ 83 = some (0, 12, [(0, 0), (4, 84), (0, 0), (4, 85), (0, 0), (0, 0), (0, 0), (0, 0), (0, 0), (0, 0), (0, 0), (0, 0), (4, 86), (4, 87), (4, 88), (4, 89), (4, 90), (4, 91), (4, 92), (4, 93), (4, 94), (4, 95), (4, 96), (4, 97), (4, 98), (4, 99), (0, 0), (0, 0), (0, 0), (0, 0), (0, 0), (0, 0), (0, 0), (0, 0), (4, 100), (4, 101), (4, 102), (4, 103), (4, 104), (4, 105), (4, 106), (4, 107), (1, 0), (1, 0), (0, 0), (0, 0), (0, 0), (0, 0), (0, 0), (0, 0), (0, 0), (0, 0), (0, 0), (0, 0), (0, 0), (0, 0), (4, 108), (4, 109), (4, 110), (4, 111), (4, 112), (4, 113), (4, 114), (4, 115), (2, 0), (0, 0), (0, 0), (4, 116), (4, 117), (4, 118), (4, 119), (4, 120), (4, 121), (4, 122), (4, 123), (4, 124), (4, 125), (0, 0), (0, 0), (0, 0), (0, 0), (0, 0), (0, 0), (0, 0), (4, 126), (0, 0), (4, 127), (4, 128), (4, 129), (4, 130), (0, 0), (4, 131), (4, 132), (4, 133), (4, 134), (4, 135), (0, 0)]) := rfl
theorem js_o84 {E : js_E} {σ : js_S} : js_desc E.1 σ 84 = some (2, 65536, []) := rfl
abbrev js_c85 : List (Nat × Int) := [(0, 99), (0, 111), (0, 110), (0, 115), (0, 116), (0, 32), (0, 116), (0, 121), (0, 112), (0, 101), (0, 32), (0, 105), (0, 110), (0, 32), (0, 111), (0, 117), (0, 116), (0, 32), (0, 115), (0, 116), (0, 97), (0, 116), (0, 101), (0, 32), (0, 118), (0, 97), (0, 114), (0, 32), (0, 102), (0, 117), (0, 110), (0, 32), (0, 105), (0, 102), (0, 32), (0, 101), (0, 108), (0, 115), (0, 101), (0, 32), (0, 99), (0, 97), (0, 115), (0, 101), (0, 32), (0, 102), (0, 111), (0, 114), (0, 32), (0, 116), (0, 111), (0, 32), (0, 97), (0, 115), (0, 115), (0, 101), (0, 114), (0, 116), (0, 32), (0, 114), (0, 101), (0, 116), (0, 117), (0, 114), (0, 110), (0, 32), (0, 99), (0, 121), (0, 99), (0, 108), (0, 101), (0, 32), (0, 98), (0, 111), (0, 111), (0, 108), (0, 32), (0, 116), (0, 114), (0, 117), (0, 101), (0, 32), (0, 102), (0, 97), (0, 108), (0, 115), (0, 101), (0, 32), (0, 109), (0, 105), (0, 110), (0, 32), (0, 109), (0, 97), (0, 120), (0, 32), (0, 97), (0, 98), (0, 115), (0, 32), (0, 99), (0, 108), (0, 97), (0, 109), (0, 112), (0, 32)]
theorem js_o85 {E : js_E} {σ : js_S} : js_desc E.1 σ 85 = some (2, 106, js_c85) := rfl
theorem js_o86 {E : js_E} {σ : js_S} : js_desc E.1 σ 86 = some (1, 400, []) := rfl
theorem js_o87 {E : js_E} {σ : js_S} : js_desc E.1 σ 87 = some (1, 400, []) := rfl
theorem js_o88 {E : js_E} {σ : js_S} : js_desc E.1 σ 88 = some (1, 400, []) := rfl
theorem js_o89 {E : js_E} {σ : js_S} : js_desc E.1 σ 89 = some (1, 400, []) := rfl
theorem js_o90 {E : js_E} {σ : js_S} : js_desc E.1 σ 90 = some (1, 400, []) := rfl
theorem js_o91 {E : js_E} {σ : js_S} : js_desc E.1 σ 91 = some (1, 400, []) := rfl
theorem js_o92 {E : js_E} {σ : js_S} : js_desc E.1 σ 92 = some (4, 400, []) := rfl
theorem js_o93 {E : js_E} {σ : js_S} : js_desc E.1 σ 93 = some (1, 400, []) := rfl
theorem js_o94 {E : js_E} {σ : js_S} : js_desc E.1 σ 94 = some (1, 400, []) := rfl
theorem js_o95 {E : js_E} {σ : js_S} : js_desc E.1 σ 95 = some (1, 400, []) := rfl
theorem js_o96 {E : js_E} {σ : js_S} : js_desc E.1 σ 96 = some (1, 400, []) := rfl
theorem js_o97 {E : js_E} {σ : js_S} : js_desc E.1 σ 97 = some (1, 400, []) := rfl
theorem js_o98 {E : js_E} {σ : js_S} : js_desc E.1 σ 98 = some (2, 8000, []) := rfl
theorem js_o99 {E : js_E} {σ : js_S} : js_desc E.1 σ 99 = some (4, 400, []) := rfl
theorem js_o100 {E : js_E} {σ : js_S} : js_desc E.1 σ 100 = some (2, 66000, []) := rfl
theorem js_o101 {E : js_E} {σ : js_S} : js_desc E.1 σ 101 = some (1, 66000, []) := rfl
theorem js_o102 {E : js_E} {σ : js_S} : js_desc E.1 σ 102 = some (1, 66000, []) := rfl
theorem js_o103 {E : js_E} {σ : js_S} : js_desc E.1 σ 103 = some (1, 66000, []) := rfl
theorem js_o104 {E : js_E} {σ : js_S} : js_desc E.1 σ 104 = some (1, 66000, []) := rfl
theorem js_o105 {E : js_E} {σ : js_S} : js_desc E.1 σ 105 = some (1, 66000, []) := rfl
theorem js_o106 {E : js_E} {σ : js_S} : js_desc E.1 σ 106 = some (1, 66000, []) := rfl
theorem js_o107 {E : js_E} {σ : js_S} : js_desc E.1 σ 107 = some (1, 66000, []) := rfl
theorem js_o108 {E : js_E} {σ : js_S} : js_desc E.1 σ 108 = some (1, 400, []) := rfl
theorem js_o109 {E : js_E} {σ : js_S} : js_desc E.1 σ 109 = some (1, 400, []) := rfl
theorem js_o110 {E : js_E} {σ : js_S} : js_desc E.1 σ 110 = some (1, 66000, []) := rfl
theorem js_o111 {E : js_E} {σ : js_S} : js_desc E.1 σ 111 = some (1, 8192, []) := rfl
theorem js_o112 {E : js_E} {σ : js_S} : js_desc E.1 σ 112 = some (1, 8192, []) := rfl
theorem js_o113 {E : js_E} {σ : js_S} : js_desc E.1 σ 113 = some (1, 8192, []) := rfl
theorem js_o114 {E : js_E} {σ : js_S} : js_desc E.1 σ 114 = some (3, 8192, []) := rfl
theorem js_o115 {E : js_E} {σ : js_S} : js_desc E.1 σ 115 = some (3, 8192, []) := rfl
theorem js_o116 {E : js_E} {σ : js_S} : js_desc E.1 σ 116 = some (1, 4800, []) := rfl
theorem js_o117 {E : js_E} {σ : js_S} : js_desc E.1 σ 117 = some (2, 8000, []) := rfl
theorem js_o118 {E : js_E} {σ : js_S} : js_desc E.1 σ 118 = some (1, 24576, []) := rfl
theorem js_o119 {E : js_E} {σ : js_S} : js_desc E.1 σ 119 = some (3, 16384, []) := rfl
theorem js_o120 {E : js_E} {σ : js_S} : js_desc E.1 σ 120 = some (3, 8192, []) := rfl
theorem js_o121 {E : js_E} {σ : js_S} : js_desc E.1 σ 121 = some (3, 2, []) := rfl
theorem js_o122 {E : js_E} {σ : js_S} : js_desc E.1 σ 122 = some (3, 2, []) := rfl
theorem js_o123 {E : js_E} {σ : js_S} : js_desc E.1 σ 123 = some (1, 64, []) := rfl
theorem js_o124 {E : js_E} {σ : js_S} : js_desc E.1 σ 124 = some (1, 2, []) := rfl
theorem js_o125 {E : js_E} {σ : js_S} : js_desc E.1 σ 125 = some (1, 4096, []) := rfl
theorem js_o126 {E : js_E} {σ : js_S} : js_desc E.1 σ 126 = some (1, 65536, []) := rfl
theorem js_o127 {E : js_E} {σ : js_S} : js_desc E.1 σ 127 = some (1, 8, []) := rfl
theorem js_o128 {E : js_E} {σ : js_S} : js_desc E.1 σ 128 = some (1, 8, []) := rfl
theorem js_o129 {E : js_E} {σ : js_S} : js_desc E.1 σ 129 = some (1, 8, []) := rfl
theorem js_o130 {E : js_E} {σ : js_S} : js_desc E.1 σ 130 = some (1, 8, []) := rfl
theorem js_o131 {E : js_E} {σ : js_S} : js_desc E.1 σ 131 = some (3, 8196, []) := rfl
theorem js_o132 {E : js_E} {σ : js_S} : js_desc E.1 σ 132 = some (1, 4096, []) := rfl
theorem js_o133 {E : js_E} {σ : js_S} : js_desc E.1 σ 133 = some (1, 4096, []) := rfl
abbrev js_c134 : List (Nat × Int) := [(0, 67), (0, 79), (0, 78), (0, 83), (0, 84), (0, 32), (0, 76), (0, 79), (0, 65), (0, 68), (0, 32), (0, 83), (0, 84), (0, 79), (0, 82), (0, 69), (0, 32), (0, 77), (0, 79), (0, 86), (0, 69), (0, 32), (0, 76), (0, 79), (0, 65), (0, 68), (0, 88), (0, 32), (0, 83), (0, 84), (0, 79), (0, 82), (0, 69), (0, 88), (0, 32), (0, 65), (0, 68), (0, 68), (0, 32), (0, 83), (0, 85), (0, 66), (0, 32), (0, 77), (0, 85), (0, 76), (0, 32), (0, 68), (0, 73), (0, 86), (0, 32), (0, 82), (0, 69), (0, 77), (0, 32), (0, 77), (0, 73), (0, 78), (0, 32), (0, 77), (0, 65), (0, 88), (0, 32), (0, 76), (0, 84), (0, 32), (0, 76), (0, 69), (0, 32), (0, 71), (0, 84), (0, 32), (0, 71), (0, 69), (0, 32), (0, 69), (0, 81), (0, 32), (0, 78), (0, 69), (0, 32), (0, 78), (0, 69), (0, 71), (0, 32), (0, 65), (0, 66), (0, 83), (0, 32), (0, 78), (0, 79), (0, 84), (0, 32), (0, 76), (0, 79), (0, 87), (0, 32), (0, 72), (0, 73), (0, 71), (0, 72), (0, 32), (0, 74), (0, 85), (0, 77), (0, 80), (0, 32), (0, 74), (0, 90), (0, 32), (0, 74), (0, 78), (0, 90), (0, 32), (0, 67), (0, 65), (0, 76), (0, 76), (0, 32), (0, 82), (0, 69), (0, 84), (0, 32), (0, 72), (0, 65), (0, 76), (0, 84), (0, 32), (0, 67), (0, 72), (0, 69), (0, 67), (0, 75), (0, 32)]
theorem js_o134 {E : js_E} {σ : js_S} : js_desc E.1 σ 134 = some (2, 134, js_c134) := rfl
theorem js_o135 {E : js_E} {σ : js_S} : js_desc E.1 σ 135 = some (2, 80, []) := rfl
theorem js_o136 {E : js_E} {σ : js_S} : js_desc E.1 σ 136 = some (3, 1, []) := rfl
