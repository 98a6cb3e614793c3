theorem o00_ : Int32.ofNat 0 = (0 : Int32) := by decide
theorem LT3r {S R : Type} {d : R} {f : S → Sum S R} {z0 z1 z2 : S} {r : R} (n : Nat) (k0 : f z0 = Sum.inl z1) (k1 : f z1 = Sum.inl z2) (k2 : f z2 = Sum.inr r) : LTs d f (n + 3) z0 = r := (LT_st k0).trans ((LT_st k1).trans (LT_en k2))
theorem LT4r {S R : Type} {d : R} {f : S → Sum S R} {z0 z1 z2 z3 : S} {r : R} (n : Nat) (k0 : f z0 = Sum.inl z1) (k1 : f z1 = Sum.inl z2) (k2 : f z2 = Sum.inl z3) (k3 : f z3 = Sum.inr r) : LTs d f (n + 4) z0 = r := (LT_st k0).trans ((LT_st k1).trans ((LT_st k2).trans (LT_en k3)))
/-- both loops, by three turns of the class and two of the reference -/
theorem ch_two {sx sh sm sco : Nat → Nat → Int32} {tm tco : Nat → Nat → Int64} {F : Int32} {a1 a2 a3 : Int32 × Int64 × Int32 × Int64 × Int64 × Int64 × Int64 × (Nat → Int64) × (Nat → Int64)} {r1 : Int32 × (Nat → Int64) × (Nat → Int64) × Int64 × Int64 × Int64 × Int64} {b2 b3 : Int32 × Int64 × Int32 × (Nat → Int64) × (Nat → Int64)} {r2 : Int32 × (Nat → Int64) × (Nat → Int64)} {Y : Int64 × (Nat → Int64) × (Nat → Int64)} (hY : J_X12_layMean sm tm 0 0 0 0 = Y)
    (k0 : B_X11_cheapest_7 sx sh sco tco ((0 : Int32), (0 : Int64), (0 : Int32), (tco 0 2), (tco 0 3), (tco 0 4), (tco 0 5), (tco 1), (tco 2)) = Sum.inl a1) (k1 : B_X11_cheapest_7 sx sh sco tco a1 = Sum.inl a2) (k2 : B_X11_cheapest_7 sx sh sco tco a2 = Sum.inl a3) (k3 : B_X11_cheapest_7 sx sh sco tco a3 = Sum.inr r1)
    (m1 : B_X12_cheapest_14 sm tm Y ((1 : Int32), Y.1, (0 : Int32), Y.2.1, Y.2.2) = Sum.inl b2) (m2 : B_X12_cheapest_14 sm tm Y b2 = Sum.inl b3) (m3 : B_X12_cheapest_14 sm tm Y b3 = Sum.inr r2) (h1 : r1.1 = F) (h2 : r2.1 = F) : (J_X11_cheapest sx sh sco tco).1 = (J_X12_cheapest sm tm).1 := by
  have l1 : J_X11_cheapest sx sh sco tco = r1 := by
    unfold J_X11_cheapest
    exact LT4r 0 k0 k1 k2 k3
  have l2 : J_X12_cheapest sm tm = r2 := by
    unfold J_X12_cheapest
    dsimp only [LetF]
    rw [hY]
    exact LT3r 1 m1 m2 m3
  rw [l1, l2, h1, h2]
