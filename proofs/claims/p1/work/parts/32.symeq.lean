/-! part 32: ends of runs with symbols, compared -/
def sx_qa (a b : sx_a) : Bool := decide (a.1 = b.1) && (decide (a.2.1 = b.2.1) && decide (a.2.2 = b.2.2))
theorem sx_qa_of {a b : sx_a} (h : sx_qa a b = true) : a = b := by
  simp only [sx_qa, Bool.and_eq_true, decide_eq_true_eq] at h
  obtain ⟨a1, a2, a3⟩ := a
  obtain ⟨b1, b2, b3⟩ := b
  obtain ⟨h1, h2, h3⟩ := h
  simp only at h1 h2 h3
  subst h1
  subst h2
  subst h3
  rfl
def sx_qe (a b : sx_e) : Bool := match a, b with
  | .inl a, .inl b => sx_qa a b
  | .inr a, .inr b => decide (a = b)
  | _, _ => false
theorem sx_qe_of {a b : sx_e} (h : sx_qe a b = true) : a = b := by
  cases a <;> cases b
  · exact congrArg Sum.inl (sx_qa_of h)
  · cases h
  · cases h
  · exact congrArg Sum.inr (of_decide_eq_true h)
def sx_ql {α : Type} (q : α → α → Bool) (a b : List α) : Bool := match a, b with
  | [], [] => true
  | x :: r, y :: t => q x y && sx_ql q r t
  | _, _ => false
theorem sx_ql_of {α : Type} {q : α → α → Bool} (hq : ∀ x y, q x y = true → x = y) : ∀ a b : List α, sx_ql q a b = true → a = b
  | [], [], _ => rfl
  | [], _ :: _, h => by cases h
  | _ :: _, [], h => by cases h
  | x :: r, y :: t, h => by
    simp only [sx_ql, Bool.and_eq_true] at h
    rw [hq x y h.1, sx_ql_of hq r t h.2]
def sx_qW (a b : sx_W) : Bool := sx_ql sx_qe a.1 b.1 && decide (a.2 = b.2)
theorem sx_qW_of {a b : sx_W} (h : sx_qW a b = true) : a = b := by
  simp only [sx_qW, Bool.and_eq_true, decide_eq_true_eq] at h
  obtain ⟨a1, a2⟩ := a
  obtain ⟨b1, b2⟩ := b
  obtain ⟨h1, h2⟩ := h
  simp only at h1 h2
  rw [sx_ql_of (fun _ _ => sx_qe_of) a1 b1 h1, h2]
def sx_qc (a b : sx_c) : Bool := decide (a.1 = b.1) && (decide (a.2.1 = b.2.1) && (decide (a.2.2.1 = b.2.2.1) && (decide (a.2.2.2.1 = b.2.2.2.1) && (decide (a.2.2.2.2.1 = b.2.2.2.2.1) && (decide (a.2.2.2.2.2.1 = b.2.2.2.2.2.1) && sx_qa a.2.2.2.2.2.2 b.2.2.2.2.2.2)))))
theorem sx_qc_of {a b : sx_c} (h : sx_qc a b = true) : a = b := by
  simp only [sx_qc, Bool.and_eq_true, decide_eq_true_eq] at h
  obtain ⟨a1, a2, a3, a4, a5, a6, a7⟩ := a
  obtain ⟨b1, b2, b3, b4, b5, b6, b7⟩ := b
  obtain ⟨h1, h2, h3, h4, h5, h6, h7⟩ := h
  simp only at h1 h2 h3 h4 h5 h6 h7
  rw [h1, h2, h3, h4, h5, h6, sx_qa_of h7]
def sx_qR (a b : sx_R) : Bool := decide (a.1 = b.1) && (decide (a.2.1 = b.2.1) && (decide (a.2.2.1 = b.2.2.1) && (sx_qW a.2.2.2.1 b.2.2.2.1 && (decide (a.2.2.2.2.1 = b.2.2.2.2.1) && (decide (a.2.2.2.2.2.1 = b.2.2.2.2.2.1) && sx_ql sx_qc a.2.2.2.2.2.2 b.2.2.2.2.2.2)))))
theorem sx_qR_of {a b : sx_R} (h : sx_qR a b = true) : a = b := by
  simp only [sx_qR, Bool.and_eq_true, decide_eq_true_eq] at h
  obtain ⟨a1, a2, a3, a4, a5, a6, a7⟩ := a
  obtain ⟨b1, b2, b3, b4, b5, b6, b7⟩ := b
  obtain ⟨h1, h2, h3, h4, h5, h6, h7⟩ := h
  simp only at h1 h2 h3 h4 h5 h6 h7
  rw [h1, h2, h3, sx_qW_of h4, h5, h6, sx_ql_of (fun _ _ => sx_qc_of) _ _ h7]
def sx_qF (a b : sx_F) : Bool := decide (a.1 = b.1) && (sx_qW a.2.1 b.2.1 && (decide (a.2.2.1 = b.2.2.1) && (decide (a.2.2.2.1 = b.2.2.2.1) && sx_ql sx_qc a.2.2.2.2 b.2.2.2.2)))
theorem sx_qF_of {a b : sx_F} (h : sx_qF a b = true) : a = b := by
  simp only [sx_qF, Bool.and_eq_true, decide_eq_true_eq] at h
  obtain ⟨a1, a2, a3, a4, a5⟩ := a
  obtain ⟨b1, b2, b3, b4, b5⟩ := b
  obtain ⟨h1, h2, h3, h4, h5⟩ := h
  simp only at h1 h2 h3 h4 h5
  rw [h1, sx_qW_of h2, h3, h4, sx_ql_of (fun _ _ => sx_qc_of) _ _ h5]
def sx_eR (a : Option sx_R) (b : sx_R) : Bool := match a with
  | some a => sx_qR a b
  | none => false
theorem sx_eR_of {a : Option sx_R} {b : sx_R} (h : sx_eR a b = true) : a = some b := by
  cases a with
  | none => cases h
  | some a => rw [sx_qR_of h]
def sx_eF (a : Option sx_F) (b : sx_F) : Bool := match a with
  | some a => sx_qF a b
  | none => false
theorem sx_eF_of {a : Option sx_F} {b : sx_F} (h : sx_eF a b = true) : a = some b := by
  cases a with
  | none => cases h
  | some a => rw [sx_qF_of h]
