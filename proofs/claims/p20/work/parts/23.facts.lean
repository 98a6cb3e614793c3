/-! rows laid from a place on; sums -/
def PFo (b : Nat) (P : Nat → Int32) (k : Nat) (f : Nat → Int32) : Nat → Int32 := fun j => if b ≤ j ∧ j < b + k then P (j - b) else f j
theorem PFo_0 (b : Nat) (P f : Nat → Int32) : f = PFo b P 0 f := funext fun j => (if_neg (by omega)).symm
theorem PFo_st {i v : Int32} {b k : Nat} {P f g g2 : Nat → Int32} (e : g2 = upd g i.toNatClampNeg v) (hi : i.toInt = (b : Int) + (k : Int)) (hv : v = P k) (h : g = PFo b P k f) : g2 = PFo b P (k + 1) f := by
  rw [e, cN_of (n := b + k) (by rw [hi]; omega)]
  subst h
  funext j
  by_cases q : j = b + k
  · subst q
    rw [pk_us, hv]
    refine Eq.trans ?_ (if_pos (by omega)).symm
    rw [Nat.add_sub_cancel_left]
  · rw [pk_un q]
    by_cases q2 : b ≤ j ∧ j < b + k
    · exact (if_pos q2).trans (if_pos (by omega)).symm
    · exact (if_neg q2).trans (if_neg (by omega)).symm
def SF (P : Nat → Int32) : Nat → Int32
  | 0 => 0
  | k + 1 => SF P k + P k
theorem SF_st {P : Nat → Int32} {k k2 : Nat} {s s2 v : Int32} (h : s = SF P k) (hv : v = P k) (e : s2 = s + v) (hk : k2 = k + 1) : s2 = SF P k2 := by
  subst hk; rw [e, h, hv]; rfl
