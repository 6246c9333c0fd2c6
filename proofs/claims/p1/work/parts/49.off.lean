/-! part 49: few cells, a number of places further on -/
theorem re_okk (k : Nat) : re_ok (fun a => a + k) (fun q => if k ≤ q then some (q - k) else none) := by
  refine ⟨fun a => ?_, fun q b h => ?_⟩
  · show (if k ≤ a + k then some (a + k - k) else none) = some a
    rw [if_pos (by omega)]
    congr 1
    omega
  · by_cases hk : k ≤ q
    · have h2 : some (q - k) = some b := by rw [← h]; exact (if_pos hk).symm
      cases h2
      show q - k + k = q
      omega
    · have h2 : (none : Option Nat) = some b := by rw [← h]; exact (if_neg hk).symm
      cases h2
theorem re_off {s v : List ip_E} {n m k : Nat} (h : k + s.length ≤ v.length) : re_w (fun a => a + k) (fun q => if k ≤ q then some (q - k) else none) (il_w (s, n)) (il_w (v, m)) = il_w (v.take k ++ (s.map (re_e (fun a => a + k)) ++ v.drop (k + s.length)), m) := by
  have hl : (v.take k ++ (s.map (re_e (fun a => a + k)) ++ v.drop (k + s.length))).length = v.length := by
    rw [List.length_append, List.length_append, List.length_take, List.length_map, List.length_drop]
    omega
  unfold re_w il_w
  refine Prod.ext hl.symm (Prod.ext rfl ?_)
  funext q
  show (match (if k ≤ q then some (q - k) else none : Option Nat).bind (fun q => s[q]?) with
    | some x => some (re_e (fun a => a + k) x)
    | none => v[q]?) = (v.take k ++ (s.map (re_e (fun a => a + k)) ++ v.drop (k + s.length)))[q]?
  have ht : (v.take k).length = k := by rw [List.length_take]; omega
  by_cases hk : k ≤ q
  · rw [if_pos hk, List.getElem?_append_right (by omega), ht]
    show (match s[q - k]? with
      | some x => some (re_e (fun a => a + k) x)
      | none => v[q]?) = _
    by_cases hs : q - k < s.length
    · rw [List.getElem?_append_left (by rw [List.length_map]; exact hs), List.getElem?_map, List.getElem?_eq_getElem hs]
      rfl
    · rw [List.getElem?_append_right (by rw [List.length_map]; omega), List.length_map, List.getElem?_eq_none (by omega), List.getElem?_drop]
      show v[q]? = v[k + s.length + (q - k - s.length)]?
      congr 1
      omega
  · rw [if_neg hk, List.getElem?_append_left (by omega)]
    show v[q]? = _
    rw [List.getElem?_take, if_pos (by omega)]
