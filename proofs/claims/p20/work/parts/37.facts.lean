theorem zALL_v : ∀ j, 0 ≤ (zALL.getD j 0).toInt ∧ (zALL.getD j 0).toInt ≤ 400 ∧ (zALL.getD j 0).toInt / 100 + (zALL.getD j 0).toInt / 10 % 10 + (zALL.getD j 0).toInt % 10 ≤ 4 := by
  intro j
  rw [List.getD_eq_getElem?_getD]
  cases q : zALL[j]? with
  | none => simp
  | some x =>
    have h : ∀ x ∈ zALL, 0 ≤ x.toInt ∧ x.toInt ≤ 400 ∧ x.toInt / 100 + x.toInt / 10 % 10 + x.toInt % 10 ≤ 4 := by decide
    simpa using h x (List.mem_of_getElem? q)
