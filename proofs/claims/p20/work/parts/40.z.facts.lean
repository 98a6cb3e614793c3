/-! the class's text: bytes that come behind it -/
theorem by_ofC {v1 v4 v5 i : Int32} {p v2 : Int64} (h1 : v1 = 8 * i) (h2 : (p.toUInt64 >>> (v1.toInt64.toUInt64 &&& Int64.toUInt64 63)).toInt64 = v2) (h4 : v4 = v2.toInt32) (h5 : v5 = v4.toInt8.toInt32) (hi : 0 ≤ i.toInt) : vp_nar .byte v5 = byC p (Int.toNat i.toInt) := by
  subst h1 h2 h4 h5
  unfold byC
  rw [ofn_tn hi]
def J_X10_append (st : Nat → Nat → Int32) (p0 : Int32) (p1 : Int64) : (Nat → Int32) × Int32 := (wrB (byC p1) (Int.toNat p0.toInt) (st 1) (Int.toNat (st 0 1).toInt), st 0 1 + p0)
theorem ap_ex {st : Nat → Nat → Int32} {p0 x i : Int32} {p1 : Int64} {g : Nat → Int32} {l : Nat} (hx : x.toInt = (st 0 1).toInt + p0.toInt) (hi : i.toInt = -1) (q : wrB (byC p1) (Int.toNat (i.toInt + 1)) g l = wrB (byC p1) (Int.toNat p0.toInt) (st 1) (Int.toNat (st 0 1).toInt)) : (g, x) = J_X10_append st p0 p1 := by
  unfold J_X10_append
  rw [i_sum hx, wr_end hi q]
