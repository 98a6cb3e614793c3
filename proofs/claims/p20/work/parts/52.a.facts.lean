theorem lin_clv {sr sc st : Nat → Nat → Int32} {p r : Int32} (w : r = J_X8_levelIn sr sc st p) (h : 0 ≤ p.toInt) : r = clv (sr 0 3) (sr 1) (sr 0 2) (Int.toNat p.toInt) := by
  rw [w]; unfold J_X8_levelIn clv; rw [ofn_tn h]; rfl
