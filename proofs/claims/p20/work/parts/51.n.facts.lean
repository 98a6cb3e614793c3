/-! the class's readers -/
abbrev SC := Int32 × Int32 × (Nat → Int32) × Int32 × (Nat → Int32) × (Nat → Int32) × (Nat → Int32) × (Nat → Int32) × Int32 × Int32 × Int32 × Int32 × Int32 × Int32 × Int32
def CSr (sr : Nat → Nat → Int32) (a : SC) : Nat → Nat → Int32 := up2 sr 1 a.2.2.1
def CSc (sc : Nat → Nat → Int32) (p q : Int32) : Nat → Nat → Int32 := up2 sc 0 (upd (upd (sc 0) 1 p) 2 q)
def CSh (sh : Nat → Nat → Int32) (w : Int32) (a : SC) : Nat → Nat → Int32 :=
  up2 (up2 (up2 (up2 (up2 sh 0 (upd (upd (upd (upd (upd (upd (upd (upd (upd (sh 0) 0 w) 1 a.2.2.2.1) 6 a.2.2.2.2.2.2.2.2.1) 7 a.2.2.2.2.2.2.2.2.2.1) 8 a.2.2.2.2.2.2.2.2.2.2.1) 9 a.2.2.2.2.2.2.2.2.2.2.2.1) 10 a.2.2.2.2.2.2.2.2.2.2.2.2.1) 11 a.2.2.2.2.2.2.2.2.2.2.2.2.2.1) 12 a.2.2.2.2.2.2.2.2.2.2.2.2.2.2))
    1 a.2.2.2.2.1) 2 a.2.2.2.2.2.1) 3 a.2.2.2.2.2.2.1) 4 a.2.2.2.2.2.2.2.1
def CP (sr sc st sh : Nat → Nat → Int32) (w : Int32) (a : SC) : SC := J_X5_readPart (CSr sr a) (CSc sc a.1 a.2.1) st (CSh sh w a)
def CIT (sr sc st sh : Nat → Nat → Int32) (w : Int32) : Nat → SC → SC
  | 0, a => a
  | k + 1, a => if J_X2_hasMore (CSc sc a.1 a.2.1) st = 0 then a else CIT sr sc st sh w k (CP sr sc st sh w a)
/-- behind start and clear; behind the first PART -/
def CA (sr sc st sh : Nat → Nat → Int32) : SC := ((J_X2_start sc st).1, (J_X2_start sc st).2, sr 1, (J_X4_clear sh).2)
def CW4 (sr sc st sh : Nat → Nat → Int32) : Int32 × Int32 × (Nat → Int32) × Int32 := J_X5_readWeeks sr (CSc sc (J_X2_start sc st).1 (J_X2_start sc st).2) st (CSh sh (J_X4_clear sh).1 (CA sr sc st sh))
def C0 (sr sc st sh : Nat → Nat → Int32) : SC := ((CW4 sr sc st sh).1, (CW4 sr sc st sh).2.1, (CW4 sr sc st sh).2.2.1, (J_X4_clear sh).2)
def CB (sr sc st sh : Nat → Nat → Int32) : SC := CIT sr sc st sh (CW4 sr sc st sh).2.2.2 64 (C0 sr sc st sh)
def J_X5_read (sr sc st sh : Nat → Nat → Int32) : Int32 × Int32 × Int32 × (Nat → Int32) × Int32 × Int32 × (Nat → Int32) × (Nat → Int32) × (Nat → Int32) × (Nat → Int32) × Int32 × Int32 × Int32 × Int32 × Int32 × Int32 × Int32 :=
  (J_X2_stoppedAt (CSc sc (CB sr sc st sh).1 (CB sr sc st sh).2.1) st, (CB sr sc st sh).1, (CB sr sc st sh).2.1, (CB sr sc st sh).2.2.1, (CW4 sr sc st sh).2.2.2, (CB sr sc st sh).2.2.2)
theorem cit_go {sr sc st sh : Nat → Nat → Int32} {w r : Int32} {i j : Nat} {a b X : SC} (q : CIT sr sc st sh w i a = X) (hi : i = j + 1) (hr : r = J_X2_hasMore (CSc sc a.1 a.2.1) st) (h : ¬ r = 0) (hb : b = CP sr sc st sh w a) : CIT sr sc st sh w j b = X := by
  subst hi hr
  rw [← q, hb]
  exact (if_neg h).symm
theorem cit_e {sr sc st sh : Nat → Nat → Int32} {w r : Int32} {i : Nat} {a X : SC} (q : CIT sr sc st sh w i a = X) (hi : 0 < i) (hr : r = J_X2_hasMore (CSc sc a.1 a.2.1) st) (h : r = 0) : a = X := by
  obtain ⟨k, rfl⟩ : ∃ k, i = k + 1 := ⟨i - 1, by omega⟩
  subst hr
  rw [← q]
  exact (if_pos h).symm
theorem cit_z {sr sc st sh : Nat → Nat → Int32} {w : Int32} {i : Nat} {a X : SC} (q : CIT sr sc st sh w i a = X) (hi : i = 0) : a = X := by
  subst hi; exact q
theorem rd_end {sr sc st sh : Nat → Nat → Int32} {w r : Int32} {a : SC} (hw : w = (CW4 sr sc st sh).2.2.2) (hr : r = J_X2_stoppedAt (CSc sc a.1 a.2.1) st) (hq : a = CB sr sc st sh) : (r, a.1, a.2.1, a.2.2.1, w, a.2.2.2) = J_X5_read sr sc st sh := by
  subst hw hr hq; rfl
theorem rd_in {sr sc st sh : Nat → Nat → Int32} {p q w w0 p1 q1 : Int32} {u : Nat → Int32} {n : Nat} {R : Int32 × (Nat → Int32) × (Nat → Int32) × (Nat → Int32) × (Nat → Int32) × Int32 × Int32 × Int32 × Int32 × Int32 × Int32 × Int32} (h1 : (p, q) = J_X2_start sc st) (h2 : (w0, R) = J_X4_clear sh) (h3 : (p1, q1, u, w) = J_X5_readWeeks sr (CSc sc p q) st (CSh sh w0 (p, q, sr 1, R))) (hn : n = 64) : CIT sr sc st sh w n (p1, q1, u, R) = CB sr sc st sh ∧ w = (CW4 sr sc st sh).2.2.2 := by
  have a1 : p = (J_X2_start sc st).1 := congrArg (fun z => z.1) h1
  have a2 : q = (J_X2_start sc st).2 := congrArg (fun z => z.2) h1
  have a3 : w0 = (J_X4_clear sh).1 := congrArg (fun z => z.1) h2
  have a4 : R = (J_X4_clear sh).2 := congrArg (fun z => z.2) h2
  subst a1 a2 a3 a4
  have e : (p1, q1, u, w) = CW4 sr sc st sh := h3
  have e1 : p1 = (CW4 sr sc st sh).1 := congrArg (fun z => z.1) e
  have e2 : q1 = (CW4 sr sc st sh).2.1 := congrArg (fun z => z.2.1) e
  have e3 : u = (CW4 sr sc st sh).2.2.1 := congrArg (fun z => z.2.2.1) e
  have e4 : w = (CW4 sr sc st sh).2.2.2 := congrArg (fun z => z.2.2.2) e
  refine ⟨?_, e4⟩
  unfold CB C0
  rw [hn, e1, e2, e3, e4]
/-! a rule -/
abbrev SD := Int32 × Int32 × Int32 × (Nat → Int32)
def DSr (sr : Nat → Nat → Int32) (a : SD) : Nat → Nat → Int32 := up2 (up2 sr 0 (upd (sr 0) 3 a.2.2.1)) 1 a.2.2.2
def DP (sr sc st : Nat → Nat → Int32) (a : SD) : SD := J_X8_readException (DSr sr a) (CSc sc a.1 a.2.1) st
def DIT (sr sc st : Nat → Nat → Int32) : Nat → SD → SD
  | 0, a => a
  | k + 1, a => if J_X2_hasMore (CSc sc a.1 a.2.1) st = 0 then a else if J_X2_here (CSc sc a.1 a.2.1) st = 76 then a else DIT sr sc st k (DP sr sc st a)
def D0 (sr sc st : Nat → Nat → Int32) : SD := ((J_X2_start sc st).1, (J_X2_start sc st).2, J_X2_figures 0 4, sr 1)
def DB (sr sc st : Nat → Nat → Int32) : SD := DIT sr sc st 5 (D0 sr sc st)
def DE (sr sc st : Nat → Nat → Int32) : Int32 × Int32 × Int32 := J_X8_readEnd (DSr sr (DB sr sc st)) (CSc sc (DB sr sc st).1 (DB sr sc st).2.1) st
def J_X8_read (sr sc st : Nat → Nat → Int32) : Int32 × Int32 × Int32 × Int32 × (Nat → Int32) × Int32 :=
  (J_X2_stoppedAt (CSc sc (DE sr sc st).1 (DE sr sc st).2.1) st, (DE sr sc st).1, (DE sr sc st).2.1, (DB sr sc st).2.2.1, (DB sr sc st).2.2.2, (DE sr sc st).2.2)
theorem dit_go {sr sc st : Nat → Nat → Int32} {r r2 : Int32} {i j : Nat} {a b X : SD} (q : DIT sr sc st i a = X) (hi : i = j + 1) (hr : r = J_X2_hasMore (CSc sc a.1 a.2.1) st) (h : ¬ r = 0) (hr2 : r2 = J_X2_here (CSc sc a.1 a.2.1) st) (h2 : ¬ r2 = 76) (hb : b = DP sr sc st a) : DIT sr sc st j b = X := by
  subst hi hr hr2
  rw [← q, hb]
  exact ((if_neg h).trans (if_neg h2)).symm
theorem dit_e {sr sc st : Nat → Nat → Int32} {r : Int32} {i : Nat} {a X : SD} (q : DIT sr sc st i a = X) (hi : 0 < i) (hr : r = J_X2_hasMore (CSc sc a.1 a.2.1) st) (h : r = 0) : a = X := by
  obtain ⟨k, rfl⟩ : ∃ k, i = k + 1 := ⟨i - 1, by omega⟩
  subst hr
  rw [← q]
  exact (if_pos h).symm
theorem dit_e2 {sr sc st : Nat → Nat → Int32} {r r2 : Int32} {i : Nat} {a X : SD} (q : DIT sr sc st i a = X) (hi : 0 < i) (hr : r = J_X2_hasMore (CSc sc a.1 a.2.1) st) (h : ¬ r = 0) (hr2 : r2 = J_X2_here (CSc sc a.1 a.2.1) st) (h2 : r2 = 76) : a = X := by
  obtain ⟨k, rfl⟩ : ∃ k, i = k + 1 := ⟨i - 1, by omega⟩
  subst hr hr2
  rw [← q]
  exact ((if_neg h).trans (if_pos h2)).symm
theorem dit_z {sr sc st : Nat → Nat → Int32} {i : Nat} {a X : SD} (q : DIT sr sc st i a = X) (hi : i = 0) : a = X := by
  subst hi; exact q
theorem r8_in {sr sc st : Nat → Nat → Int32} {p q o : Int32} {n : Nat} (h1 : (p, q) = J_X2_start sc st) (h2 : o = J_X2_figures 0 4) (hn : n = 5) : DIT sr sc st n (p, q, o, sr 1) = DB sr sc st := by
  have a1 : p = (J_X2_start sc st).1 := congrArg (fun z => z.1) h1
  have a2 : q = (J_X2_start sc st).2 := congrArg (fun z => z.2) h1
  unfold DB D0
  rw [hn, a1, a2, h2]
theorem r8_end {sr sc st : Nat → Nat → Int32} {p q o r : Int32} {a : SD} (hq : a = DB sr sc st) (he : (p, q, o) = J_X8_readEnd (DSr sr a) (CSc sc a.1 a.2.1) st) (hr : r = J_X2_stoppedAt (CSc sc p q) st) : (r, p, q, a.2.2.1, a.2.2.2, o) = J_X8_read sr sc st := by
  subst hq
  unfold J_X8_read DE
  rw [← he, hr]
