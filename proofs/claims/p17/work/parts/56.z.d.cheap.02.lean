theorem ch_2 {sm : Nat → Nat → Int32} {tm : Nat → Nat → Int64} {y7 : Int64 × (Nat → Int64) × (Nat → Int64)} {v best : Int32} {V least : Int64} {g21 g22 : Nat → Int64} (h3 : ¬ 3 ≤ v) (hV : ∀ t : Nat → Nat → Int64, (J_X12_layMean sm t v 0 0 0).1 = V) : ∃ y : (Nat → Int64) × (Nat → Int64), B_X12_cheapest_14 sm tm y7 (v, least, best, g21, g22) = Sum.inl (v + 1, (if 0 ≤ lg_cmp V least then least else V), (if 0 ≤ lg_cmp V least then best else v), y.1, y.2) := by
  have e := hV (up2L (up2L tm 6 g21) 7 g22)
  unfold B_X12_cheapest_14
  dsimp only [LetF]
  generalize J_X12_layMean sm (up2L (up2L tm 6 g21) 7 g22) v 0 0 0 = Y at e ⊢
  subst e
  refine ⟨(Y.2.1, Y.2.2), ?_⟩
  rw [if_neg h3]
  by_cases z : 0 ≤ lg_cmp Y.1 least
  · rw [if_pos z, if_pos z, if_pos z, if_pos z]
  · rw [if_neg z, if_neg z, if_neg z, if_neg z]
theorem ch_e {sx sh sco : Nat → Nat → Int32} {tco : Nat → Nat → Int64} {v found : Int32} {least x20 x21 x22 x23 : Int64} {g24 g25 : Nat → Int64} (h3 : 3 ≤ v) : B_X11_cheapest_7 sx sh sco tco (v, least, found, x20, x21, x22, x23, g24, g25) = Sum.inr (found, g24, g25, x20, x21, x22, x23) := if_pos h3
theorem ch_e2 {sm : Nat → Nat → Int32} {tm : Nat → Nat → Int64} {y7 : Int64 × (Nat → Int64) × (Nat → Int64)} {v best : Int32} {least : Int64} {g21 g22 : Nat → Int64} (h3 : 3 ≤ v) : B_X12_cheapest_14 sm tm y7 (v, least, best, g21, g22) = Sum.inr (best, g21, g22) := if_pos h3
