/-! loops told by functions -/
def LTs {S R : Type} (d : R) (f : S → Sum S R) : Nat → S → R
  | 0, _ => d
  | k + 1, z => match f z with
    | .inl z2 => LTs d f k z2
    | .inr r => r
theorem LT_st {S R : Type} {d : R} {f : S → Sum S R} {n : Nat} {z z2 : S} (e : f z = Sum.inl z2) : LTs d f (n + 1) z = LTs d f n z2 := by
  show (match f z with | .inl z2 => LTs d f n z2 | .inr r => r) = _
  rw [e]
theorem LT_en {S R : Type} {d : R} {f : S → Sum S R} {n : Nat} {z : S} {r : R} (e : f z = Sum.inr r) : LTs d f (n + 1) z = r := by
  show (match f z with | .inl z2 => LTs d f n z2 | .inr r => r) = _
  rw [e]
theorem LT_g {S R : Type} {d : R} {f : S → Sum S R} {n : Nat} {z z2 : S} {rr : R} (h : LTs d f (n + 1) z = rr) (e : f z = Sum.inl z2) : LTs d f n z2 = rr := (LT_st e).symm.trans h
theorem LT_r {S R : Type} {d : R} {f : S → Sum S R} {n : Nat} {z : S} {r rr : R} (h : LTs d f (n + 1) z = rr) (e : f z = Sum.inr r) : rr = r := h.symm.trans (LT_en e)
