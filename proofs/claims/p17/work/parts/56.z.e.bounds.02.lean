theorem hnt_clear {sh : Nat → Nat → Int32} : HNT (J_X4_clear sh).2 := by
  have h : ((-9 : Int32)).toInt = -9 := by decide
  exact ⟨Or.inl h, Or.inl h, Or.inl h, Or.inl h⟩
theorem hnt_read {sr sc st sh : Nat → Nat → Int32} : HNT (J_X5_read sr sc st sh).2.2.2.2.2 := by
  have c : HNT (C0 sr sc st sh).2.2.2 := by rw [c0_eq]; exact hnt_clear
  have b : HNT (CB sr sc st sh).2.2.2 := by rw [cb_eq]; exact hnt_cit _ _ c
  rw [rd_eq]
  generalize CB sr sc st sh = z at b ⊢
  exact b
/-! bounds of what a WEEK costs -/
theorem add_b {x y : Int32} {A B : Int} (h1 : 0 ≤ x.toInt ∧ x.toInt ≤ A) (h2 : 0 ≤ y.toInt ∧ y.toInt ≤ B) (h : A + B ≤ 2000000000) : 0 ≤ (x + y).toInt ∧ (x + y).toInt ≤ A + B := by
  rw [i_add rfl rfl (by omega) (by omega)]; omega
theorem mul_b {x y : Int32} {A B : Int} (h1 : 0 ≤ x.toInt ∧ x.toInt ≤ A) (h2 : 0 ≤ y.toInt ∧ y.toInt ≤ B) (h : A * B ≤ 2000000000) : 0 ≤ (x * y).toInt ∧ (x * y).toInt ≤ A * B := by
  have m1 : 0 ≤ x.toInt * y.toInt := Int.mul_nonneg h1.1 h2.1
  have m2 : x.toInt * y.toInt ≤ A * B := Int.mul_le_mul h1.2 h2.2 h2.1 (Int.le_trans h1.1 h1.2)
  rw [i_mul rfl rfl (by omega) (by omega)]
  exact ⟨m1, m2⟩
theorem nn_v {x : Int32} (h : NN x) (hx : x.toInt ≤ 9) (q : ¬ x = -9) : 0 ≤ x.toInt ∧ x.toInt ≤ 9 := by
  rcases h with h | h
  · exact absurd (Int32.toInt_inj.mp (by rw [h]; decide)) q
  · exact ⟨h, hx⟩
