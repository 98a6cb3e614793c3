/-! the reference's readers: parts one behind the other, exceptions one behind the other -/
abbrev SR := (Nat → Int32) × Int32 × Int32 × Int32 × Int32 × Int32 × Int32 × Int32
def RS (sm : Nat → Nat → Int32) (a : SR) : Nat → Nat → Int32 :=
  up2 (up2 sm 0 (upd (upd (upd (upd (upd (upd (upd (sm 0) 4 a.2.1) 5 a.2.2.1) 6 a.2.2.2.1) 7 a.2.2.2.2.1) 8 a.2.2.2.2.2.1) 9 a.2.2.2.2.2.2.1) 10 a.2.2.2.2.2.2.2)) 1 a.1
def RP (sm : Nat → Nat → Int32) (tm : Nat → Nat → Int64) (a : SR) : SR := J_X12_readPart (RS sm a) tm (sm 3 a.2.1.toNatClampNeg)
def RIT (sm : Nat → Nat → Int32) (tm : Nat → Nat → Int64) : Nat → SR → SR
  | 0, a => a
  | k + 1, a => if a.2.2.1 = -9 then if sm 0 3 ≤ a.2.1 then a else RIT sm tm k (RP sm tm a) else a
def RH0 (sm : Nat → Nat → Int32) (tm : Nat → Nat → Int64) : SR :=
  let f := J_X12_figure (RS sm (PFn bvN 26 (sm 1), 1, -9, 0, 0, 0, 0, 0)) tm 62
  (upd (PFn bvN 26 (sm 1)) (0 : Int32).toNatClampNeg f.1, f.2.1, f.2.2, 0, 0, 0, 0, 0)
def J_X12_readHouse (sm : Nat → Nat → Int32) (tm : Nat → Nat → Int64) : Int32 × (Nat → Int32) × Int32 × Int32 × Int32 × Int32 × Int32 × Int32 × Int32 :=
  if sm 0 3 = 0 then (0, PFn bvN 26 (sm 1), 0, -9, 0, 0, 0, 0, 0) else if sm 3 (0 : Int32).toNatClampNeg = 78 then ((RIT sm tm 200 (RH0 sm tm)).2.2.1, RIT sm tm 200 (RH0 sm tm)) else (0, PFn bvN 26 (sm 1), 0, -9, 0, 0, 0, 0, 0)
theorem rit_e1 {sm : Nat → Nat → Int32} {tm : Nat → Nat → Int64} {k : Nat} {a : SR} (h : ¬ a.2.2.1 = -9) : RIT sm tm (k + 1) a = a := if_neg h
theorem rit_e2 {sm : Nat → Nat → Int32} {tm : Nat → Nat → Int64} {k : Nat} {a : SR} (h : sm 0 3 ≤ a.2.1) : RIT sm tm (k + 1) a = a := by
  show (if a.2.2.1 = -9 then if sm 0 3 ≤ a.2.1 then a else RIT sm tm k (RP sm tm a) else a) = a
  rw [if_pos h]
  split <;> rfl
theorem rit_go {sm : Nat → Nat → Int32} {tm : Nat → Nat → Int64} {k : Nat} {a b : SR} (h1 : a.2.2.1 = -9) (h2 : ¬ sm 0 3 ≤ a.2.1) (hb : b = RP sm tm a) : RIT sm tm (k + 1) a = RIT sm tm k b := by
  show (if a.2.2.1 = -9 then if sm 0 3 ≤ a.2.1 then a else RIT sm tm k (RP sm tm a) else a) = _
  rw [if_pos h1, if_neg h2, hb]
theorem rh_0 {sm : Nat → Nat → Int32} {tm : Nat → Nat → Int64} (h : sm 0 3 = 0) : ((0 : Int32), PFn bvN 26 (sm 1), (0 : Int32), (-9 : Int32), (0 : Int32), (0 : Int32), (0 : Int32), (0 : Int32), (0 : Int32)) = J_X12_readHouse sm tm := by
  unfold J_X12_readHouse; rw [if_pos h]
theorem rh_1 {sm : Nat → Nat → Int32} {tm : Nat → Nat → Int64} (h1 : ¬ sm 3 (0 : Int32).toNatClampNeg = 78) : ((0 : Int32), PFn bvN 26 (sm 1), (0 : Int32), (-9 : Int32), (0 : Int32), (0 : Int32), (0 : Int32), (0 : Int32), (0 : Int32)) = J_X12_readHouse sm tm := by
  unfold J_X12_readHouse; rw [if_neg h1]; split <;> rfl
theorem rh_2 {sm : Nat → Nat → Int32} {tm : Nat → Nat → Int64} {k : Nat} {a : SR} (h0 : ¬ sm 0 3 = 0) (h1 : sm 3 (0 : Int32).toNatClampNeg = 78) (q : RIT sm tm (k + 1) a = RIT sm tm 200 (RH0 sm tm)) (he : ¬ a.2.2.1 = -9 ∨ sm 0 3 ≤ a.2.1) : (a.2.2.1, a) = J_X12_readHouse sm tm := by
  unfold J_X12_readHouse
  rw [if_neg h0, if_pos h1, ← q]
  rcases he with h | h
  · rw [rit_e1 h]
  · rw [rit_e2 h]
/-! a rule -/
abbrev SQ := Int32 × Int32 × Int32 × (Nat → Int32) × Int32
def QS (sm : Nat → Nat → Int32) (a : SQ) : Nat → Nat → Int32 := up2 (up2 sm 0 (upd (upd (upd (sm 0) 4 a.1) 5 a.2.1) 13 a.2.2.1)) 5 a.2.2.2.1
def QP (sm : Nat → Nat → Int32) (tm : Nat → Nat → Int64) (a : SQ) : SQ :=
  let f := J_X12_figure (QS sm a) tm a.2.2.2.2
  let g := J_X12_figure (QS sm (f.2.1, f.2.2, a.2.2.1, a.2.2.2.1, 0)) tm 31
  (g.2.1, g.2.2, a.2.2.1 + 1, upd a.2.2.2.1 f.1.toNatClampNeg g.1, a.2.2.2.2 &&& (((1 : Int32) <<< (f.1 &&& 31)) ^^^ (-1)))
def QIT (sm : Nat → Nat → Int32) (tm : Nat → Nat → Int64) : Nat → SQ → SQ
  | 0, a => a
  | k + 1, a => if a.2.1 = -9 then if sm 0 3 ≤ a.1 then a else if sm 3 a.1.toNatClampNeg = 76 then a else QIT sm tm k (QP sm tm a) else a
def Q0 (sm : Nat → Nat → Int32) : SQ := (0, -9, 0, sm 5, 31)
def LVP (free lev : Int32) (f : Nat → Int32) (j : Nat) : Int32 := if ((free >>> (Int32.ofNat j &&& 31)) &&& 1) = 1 then lev else f j
/-- behind the exceptions: the letter L, the level, the end -/
def QB (sm : Nat → Nat → Int32) (tm : Nat → Nat → Int64) (a : SQ) : Int32 × Int32 := if a.2.1 = -9 then if sm 0 3 ≤ a.1 then (a.1, J_X12_fail (QS sm a) tm) else if sm 3 a.1.toNatClampNeg = 76 then (a.1 + 1, a.2.1) else (a.1, J_X12_fail (QS sm a) tm) else (a.1, J_X12_fail (QS sm a) tm)
def QE (sm : Nat → Nat → Int32) (tm : Nat → Nat → Int64) (a : SQ) : Int32 × Int32 × Int32 × Int32 × (Nat → Int32) :=
  let f := J_X12_figure (QS sm ((QB sm tm a).1, (QB sm tm a).2, a.2.2.1, a.2.2.2.1, 0)) tm 31
  let lv := PFn (LVP a.2.2.2.2 f.1 a.2.2.2.1) 5 a.2.2.2.1
  let fa := if f.2.2 = -9 then if sm 0 3 ≤ f.2.1 then f.2.2 else J_X12_fail (QS sm (f.2.1, f.2.2, a.2.2.1, lv, 0)) tm else f.2.2
  (fa, f.2.1, fa, a.2.2.1, lv)
def J_X12_readRule (sm : Nat → Nat → Int32) (tm : Nat → Nat → Int64) : Int32 × Int32 × Int32 × Int32 × (Nat → Int32) := QE sm tm (QIT sm tm 200 (Q0 sm))
theorem qit_e1 {sm : Nat → Nat → Int32} {tm : Nat → Nat → Int64} {k : Nat} {a : SQ} (h : ¬ a.2.1 = -9) : QIT sm tm (k + 1) a = a := if_neg h
theorem qit_e2 {sm : Nat → Nat → Int32} {tm : Nat → Nat → Int64} {k : Nat} {a : SQ} (h : sm 0 3 ≤ a.1) : QIT sm tm (k + 1) a = a := by
  show (if a.2.1 = -9 then if sm 0 3 ≤ a.1 then a else if sm 3 a.1.toNatClampNeg = 76 then a else QIT sm tm k (QP sm tm a) else a) = a
  rw [if_pos h]
  split <;> rfl
theorem qit_e3 {sm : Nat → Nat → Int32} {tm : Nat → Nat → Int64} {k : Nat} {a : SQ} (h : sm 3 a.1.toNatClampNeg = 76) : QIT sm tm (k + 1) a = a := by
  show (if a.2.1 = -9 then if sm 0 3 ≤ a.1 then a else if sm 3 a.1.toNatClampNeg = 76 then a else QIT sm tm k (QP sm tm a) else a) = a
  rw [if_pos h]
  split
  · split <;> rfl
  · rfl
theorem qit_go {sm : Nat → Nat → Int32} {tm : Nat → Nat → Int64} {k : Nat} {a b : SQ} (h1 : a.2.1 = -9) (h2 : ¬ sm 0 3 ≤ a.1) (h3 : ¬ sm 3 a.1.toNatClampNeg = 76) (hb : b = QP sm tm a) : QIT sm tm (k + 1) a = QIT sm tm k b := by
  show (if a.2.1 = -9 then if sm 0 3 ≤ a.1 then a else if sm 3 a.1.toNatClampNeg = 76 then a else QIT sm tm k (QP sm tm a) else a) = _
  rw [if_pos h1, if_neg h2, if_neg h3, hb]
theorem qb_1 {sm : Nat → Nat → Int32} {tm : Nat → Nat → Int64} {a : SQ} (h : ¬ a.2.1 = -9) : QB sm tm a = (a.1, J_X12_fail (QS sm a) tm) := if_neg h
theorem qb_2 {sm : Nat → Nat → Int32} {tm : Nat → Nat → Int64} {a : SQ} (h : sm 0 3 ≤ a.1) : QB sm tm a = (a.1, J_X12_fail (QS sm a) tm) := by
  unfold QB; rw [if_pos h]; split <;> rfl
theorem qb_3 {sm : Nat → Nat → Int32} {tm : Nat → Nat → Int64} {a : SQ} (h : ¬ sm 3 a.1.toNatClampNeg = 76) : QB sm tm a = (a.1, J_X12_fail (QS sm a) tm) := by
  unfold QB; rw [if_neg h]; split
  · split <;> rfl
  · rfl
theorem qb_4 {sm : Nat → Nat → Int32} {tm : Nat → Nat → Int64} {a : SQ} (h1 : a.2.1 = -9) (h2 : ¬ sm 0 3 ≤ a.1) (h3 : sm 3 a.1.toNatClampNeg = 76) : QB sm tm a = (a.1 + 1, a.2.1) := by
  unfold QB; rw [if_pos h1, if_neg h2, if_pos h3]
theorem qb_5 {sm : Nat → Nat → Int32} {tm : Nat → Nat → Int64} {a : SQ} {x p q e v : Int32} {l : Nat → Int32} (ea : a = (p, q, e, l, v)) (h1 : q = -9) (h2 : ¬ sm 0 3 ≤ p) (h3 : sm 3 p.toNatClampNeg = 76) (hx : x = p + 1) : (x, q) = QB sm tm a := by
  subst ea hx; exact (qb_4 (a := (p, q, e, l, v)) h1 h2 h3).symm
theorem lv_1 {free lev i a b : Int32} {f : Nat → Int32} (h1 : a = free >>> (i &&& 31)) (h2 : b = a &&& 1) (h3 : b = 1) (hi : 0 ≤ i.toInt) : lev = LVP free lev f (Int.toNat i.toInt) := by
  subst h1 h2; unfold LVP; rw [ofn_tn hi]; exact (if_pos h3).symm
theorem lv_2 {free lev i a b w : Int32} {f g : Nat → Int32} (h1 : a = free >>> (i &&& 31)) (h2 : b = a &&& 1) (h3 : ¬ b = 1) (hi : 0 ≤ i.toInt) (hw : w = g i.toNatClampNeg) (hg : g = PFn (LVP free lev f) (Int.toNat i.toInt) f) : w = LVP free lev f (Int.toNat i.toInt) := by
  subst h1 h2 hw hg; unfold LVP; rw [ofn_tn hi]
  refine Eq.trans ?_ (if_neg h3).symm
  exact if_neg (Nat.lt_irrefl _)
theorem q_end {sm : Nat → Nat → Int32} {tm : Nat → Nat → Int64} {cu : SQ} {x y r a2 f2 fa : Int32} {lv : Nat → Int32} (hq : cu = QIT sm tm 200 (Q0 sm)) (hb : (x, y) = QB sm tm cu) (hf : (r, a2, f2) = J_X12_figure (QS sm (x, y, cu.2.2.1, cu.2.2.2.1, 0)) tm 31)
    (hl : lv = PFn (LVP cu.2.2.2.2 r cu.2.2.2.1) 5 cu.2.2.2.1) (hfa : fa = if f2 = -9 then if sm 0 3 ≤ a2 then f2 else J_X12_fail (QS sm (a2, f2, cu.2.2.1, lv, 0)) tm else f2) : (fa, a2, fa, cu.2.2.1, lv) = J_X12_readRule sm tm := by
  unfold J_X12_readRule
  rw [← hq]
  unfold QE
  rw [← hb, ← hf]
  subst hl hfa
  rfl
