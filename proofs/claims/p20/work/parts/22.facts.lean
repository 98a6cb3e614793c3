/-! rows laid place by place: what they hold so far; the text as it is written -/
theorem cN_of {i : Int32} {n : Nat} (h : i.toInt = (n : Int)) : i.toNatClampNeg = n := by
  show i.toInt.toNat = n
  omega
def PFn (P : Nat → Int32) (k : Nat) (f : Nat → Int32) : Nat → Int32 := fun j => if j < k then P j else f j
theorem PF_0 (P f : Nat → Int32) : f = PFn P 0 f := funext fun j => (if_neg (Nat.not_lt_zero j)).symm
theorem PF_st {i v : Int32} {k : Nat} {P f g g2 : Nat → Int32} (e : g2 = upd g i.toNatClampNeg v) (hi : i.toInt = (k : Int)) (hv : v = P k) (h : g = PFn P k f) : g2 = PFn P (k + 1) f := by
  rw [e, cN_of hi]
  subst h
  funext j
  by_cases q : j = k
  · subst q; rw [pk_us, hv]; exact (if_pos (Nat.lt_succ_self _)).symm
  · rw [pk_un q]
    by_cases q2 : j < k
    · exact (if_pos q2).trans (if_pos (Nat.lt_succ_of_lt q2)).symm
    · exact (if_neg q2).trans (if_neg (by omega)).symm
def bvI (k : Int) : Int32 := if k = 1 then 2 else if k = 2 ∨ k = 3 then 1 else if 4 ≤ k ∧ k ≤ 7 then -9 else if 15 ≤ k ∧ k ≤ 22 then 1 else if 23 ≤ k ∧ k ≤ 25 then 4 else 0
def bvN (k : Nat) : Int32 := bvI (k : Int)
theorem bv_of {v : Int32} {i : Int} {k : Nat} (h : v = bvI i) (e : i = (k : Int)) : v = bvN k := by rw [h, e]; rfl
def J_X12_blank (sm : Nat → Nat → Int32) (tm : Nat → Nat → Int64) : (Nat → Int32) × Int32 × Int32 × Int32 × Int32 × Int32 := (PFn bvN 26 (sm 1), 0, 0, 0, 0, 0)
def J_X12_takeHouse (sm : Nat → Nat → Int32) (tm : Nat → Nat → Int64) : Nat → Int32 := PFn (sm 1) 26 (sm 2)
theorem ofn_tn {i : Int32} (h : 0 ≤ i.toInt) : Int32.ofNat (Int.toNat i.toInt) = i := by
  have r := i_rng i
  have e : (Int32.ofNat (Int.toNat i.toInt)).toInt = ((Int.toNat i.toInt : Nat) : Int) := nI_toInt (by omega)
  exact Int32.toInt_inj.mp (by rw [e]; omega)
/-- byte k of v, as the reference takes it, and as the class does -/
def byR (v : Int64) (k : Nat) : Int32 := ((v >>> (((8 : Int32) * Int32.ofNat k).toInt64 &&& 63)) &&& 255).toInt32
def byC (v : Int64) (k : Nat) : Int32 := vp_nar .byte ((v.toUInt64 >>> (((8 : Int32) * Int32.ofNat k).toInt64.toUInt64 &&& Int64.toUInt64 63)).toInt64.toInt32.toInt8.toInt32)
def wrB (B : Nat → Int32) : Nat → (Nat → Int32) → Nat → Nat → Int32
  | 0, f, _ => f
  | k + 1, f, l => wrB B k (upd f l (B k)) (l + 1)
theorem by_of {v1 v4 i : Int32} {p v2 v3 : Int64} (h1 : v1 = 8 * i) (h2 : p >>> (v1.toInt64 &&& 63) = v2) (h3 : v3 = v2 &&& 255) (h4 : v4 = v3.toInt32) (hi : 0 ≤ i.toInt) : v4 = byR p (Int.toNat i.toInt) := by
  subst h1 h2 h3 h4
  unfold byR
  rw [ofn_tn hi]
theorem wr_go {B : Nat → Int32} {f g X : Nat → Int32} {i l i2 l2 w : Int32} (e : g = upd f l.toNatClampNeg w) (hw : w = B (Int.toNat i.toInt)) (h0 : 0 ≤ i.toInt) (hl : 0 ≤ l.toInt) (hi : i2.toInt = i.toInt - 1) (hl2 : l2.toInt = l.toInt + 1) (q : wrB B (Int.toNat (i.toInt + 1)) f (Int.toNat l.toInt) = X) : wrB B (Int.toNat (i2.toInt + 1)) g (Int.toNat l2.toInt) = X := by
  have e1 : Int.toNat (i.toInt + 1) = Int.toNat i.toInt + 1 := by omega
  have e2 : Int.toNat (i2.toInt + 1) = Int.toNat i.toInt := by omega
  have e3 : Int.toNat l2.toInt = Int.toNat l.toInt + 1 := by omega
  rw [e1] at q
  rw [e2, e3, ← q, e, hw]
  rfl
theorem wr_end {B : Nat → Int32} {g X : Nat → Int32} {i : Int32} {l : Nat} (h : i.toInt = -1) (q : wrB B (Int.toNat (i.toInt + 1)) g l = X) : g = X := by
  rw [h] at q; exact q
theorem i_sum {x a b : Int32} (h : x.toInt = a.toInt + b.toInt) : x = a + b := by
  have r := i_rng x
  exact Int32.toInt_inj.mp (by rw [i_add rfl rfl (by omega) (by omega)]; exact h)
def J_X12_write (sm : Nat → Nat → Int32) (tm : Nat → Nat → Int64) (p0 : Int32) (p1 : Int64) : Int32 × (Nat → Int32) × Int32 :=
  if p0.toInt < 1 ∨ 8 < p0.toInt then (-2, sm 3, sm 0 3) else if 64 < (sm 0 3).toInt + p0.toInt then (-4, sm 3, sm 0 3) else (sm 0 3 + p0, wrB (byR p1) (Int.toNat p0.toInt) (sm 3) (Int.toNat (sm 0 3).toInt), sm 0 3 + p0)
theorem wr_ex {sm : Nat → Nat → Int32} {tm : Nat → Nat → Int64} {p0 x i : Int32} {p1 : Int64} {g : Nat → Int32} {l : Nat} (h1 : 1 ≤ p0.toInt ∧ p0.toInt ≤ 8) (h2 : (sm 0 3).toInt + p0.toInt ≤ 64) (hx : x.toInt = (sm 0 3).toInt + p0.toInt) (hi : i.toInt = -1) (q : wrB (byR p1) (Int.toNat (i.toInt + 1)) g l = wrB (byR p1) (Int.toNat p0.toInt) (sm 3) (Int.toNat (sm 0 3).toInt)) : (x, g, x) = J_X12_write sm tm p0 p1 := by
  unfold J_X12_write
  rw [if_neg (by omega), if_neg (by omega), i_sum hx, wr_end hi q]
def LetF {α β : Type} (a : α) (f : α → β) : β := f a
theorem lt_e {α β : Type} {a y : α} {f : α → β} {r : β} (h : y = a) (e : f y = r) : LetF a f = r := by subst h; exact e
