def J_X8_levelIn (sr : Nat → Nat → Int32) (sc : Nat → Nat → Int32) (st : Nat → Nat → Int32) (p0 : Int32) : Int32 := if (((sr 0 3) >>> (p0 &&& 31)) &&& (1 : Int32)) = 0 then ((sr 1) (p0).toNatClampNeg) else (sr 0 2)
def J_X8_exceptions (sr : Nat → Nat → Int32) (sc : Nat → Nat → Int32) (st : Nat → Nat → Int32) : Int32 := ((5 : Int32) - (J_J6_bitCount_0f7a4 (sr 0 3)))
