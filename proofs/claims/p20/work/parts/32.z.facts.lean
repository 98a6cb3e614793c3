theorem isg_b {r p : Int32} (w : r = J_X12_isGone p) : 0 ≤ r.toInt ∧ r.toInt ≤ 1 := by
  subst w; unfold J_X12_isGone; repeat' split
  all_goals decide
theorem isg_lev (p : Int32) : (J_X12_isGone p).toInt = (J_X3_areLeavers p).toInt := by
  have e4 : ∀ x : Int32, 5 ≤ x ↔ 4 < x := by
    intro x
    rw [Int32.le_iff_toInt_le, Int32.lt_iff_toInt_lt]
    have a : (5 : Int32).toInt = 5 := by decide
    have b : (4 : Int32).toInt = 4 := by decide
    omega
  have a0 : (0 : Int32).toInt = 0 := by decide
  have a4 : (444 : Int32).toInt = 444 := by decide
  unfold J_X12_isGone J_X3_areLeavers
  simp only [e4]
  by_cases hin : J_X12_in p.toInt64 0 444 = 0
  · rw [if_pos hin]
    rcases in_f (Int32.toInt_toInt64 p) (by decide : (0 : Int64).toInt = 0) (by decide : (444 : Int64).toInt = 444) rfl hin with k | k
    · have n1 : p < 0 := Int32.lt_iff_toInt_lt.mpr (by omega)
      rw [if_pos n1]
    · have n1 : ¬ p < 0 := fun q => by have := Int32.lt_iff_toInt_lt.mp q; omega
      have n2 : (444 : Int32) < p := Int32.lt_iff_toInt_lt.mpr (by omega)
      rw [if_neg n1, if_pos n2]
  · rw [if_neg hin]
    have k := in_t (Int32.toInt_toInt64 p) (by decide : (0 : Int64).toInt = 0) (by decide : (444 : Int64).toInt = 444) rfl hin
    have n1 : ¬ p < 0 := fun q => by have := Int32.lt_iff_toInt_lt.mp q; omega
    have n2 : ¬ (444 : Int32) < p := fun q => by have := Int32.lt_iff_toInt_lt.mp q; omega
    rw [if_neg n1, if_neg n2]
