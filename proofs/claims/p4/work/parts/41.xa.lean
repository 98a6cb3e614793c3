def J_X10_hasRoom (st : Nat → Nat → Int32) (p0 : Int32) : Int32 := if 64 < ((st 0 1) + p0) then (0 : Int32) else (1 : Int32)
def J_X10_at (st : Nat → Nat → Int32) (p0 : Int32) : Int32 := if p0 < 0 then ((-9) : Int32) else if (st 0 1) ≤ p0 then ((-9) : Int32) else (((st 1) (p0).toNatClampNeg) &&& (255 : Int32))
def J_X2_start (sc : Nat → Nat → Int32) (st : Nat → Nat → Int32) : Int32 × Int32 := ((0 : Int32), (0 : Int32))
def J_X2_hasMore (sc : Nat → Nat → Int32) (st : Nat → Nat → Int32) : Int32 := if (sc 0 2) = 0 then if (st 0 1) ≤ (sc 0 1) then (0 : Int32) else (1 : Int32) else (0 : Int32)
def J_X2_here (sc : Nat → Nat → Int32) (st : Nat → Nat → Int32) : Int32 := let y5 := J_X10_at st (sc 0 1); y5
def J_X2_step (sc : Nat → Nat → Int32) (st : Nat → Nat → Int32) : Int32 := ((sc 0 1) + (1 : Int32))
def J_X2_stop (sc : Nat → Nat → Int32) (st : Nat → Nat → Int32) : Int32 := (1 : Int32)
def J_X2_stoppedAt (sc : Nat → Nat → Int32) (st : Nat → Nat → Int32) : Int32 := if (sc 0 2) = 0 then ((-9) : Int32) else (sc 0 1)
def J_X2_figure (sc : Nat → Nat → Int32) (st : Nat → Nat → Int32) (p0 : Int32) : Int32 × Int32 × Int32 := let y5 := J_X2_here sc st; if (y5 - (48 : Int32)) < 0 then let y13 := J_X2_stop sc st; (((-9) : Int32), (sc 0 1), y13) else if 9 < (y5 - (48 : Int32)) then let y21 := J_X2_stop sc st; (((-9) : Int32), (sc 0 1), y21) else if ((p0 >>> ((y5 - (48 : Int32)) &&& 31)) &&& (1 : Int32)) = 0 then let y37 := J_X2_stop sc st; (((-9) : Int32), (sc 0 1), y37) else let y31 := J_X2_step sc st; ((y5 - (48 : Int32)), y31, (sc 0 2))
