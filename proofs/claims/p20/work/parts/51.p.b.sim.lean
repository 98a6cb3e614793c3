/-! a PART: what it does on both sides, by kinds of letters -/
theorem pl1 {p : Int32} (h0 : 0 ≤ p.toInt) (h4 : p.toInt ≤ 1000) : (p + 1).toInt = p.toInt + 1 := i_add rfl (by decide) (by omega) (by omega)
theorem fC1_ok {sc st : Nat → Nat → Int32} {g : Nat → Int32} {n p m : Int32} (hp : sc 0 1 = p) (hq : sc 0 2 = 0) (hn : st 0 1 = n) (h0 : 0 ≤ p.toInt) (h4 : p.toInt ≤ 64) (ht : TX (st 1) g n) (h : FOK g n (p + 1) m) : J_X2_figure (up2 sc 0 (upd (sc 0) 1 (J_X2_step sc st))) st m = (chA g n (p + 1) - 48, p + 1 + 1, 0) := by
  have e := pl1 h0 (by omega)
  have := figC_ok (sc := up2 sc 0 (upd (sc 0) 1 (J_X2_step sc st))) (st := st) (p := p + 1) (by show sc 0 1 + 1 = p + 1; rw [hp]) hn (by omega) ht h
  rw [this]
  show (_, _, sc 0 2) = _
  rw [hq]
theorem fC1_no {sc st : Nat → Nat → Int32} {g : Nat → Int32} {n p m : Int32} (hp : sc 0 1 = p) (hn : st 0 1 = n) (h0 : 0 ≤ p.toInt) (h4 : p.toInt ≤ 64) (ht : TX (st 1) g n) (h : ¬ FOK g n (p + 1) m) : J_X2_figure (up2 sc 0 (upd (sc 0) 1 (J_X2_step sc st))) st m = (-9, p + 1, 1) := by
  have e := pl1 h0 (by omega)
  exact figC_no (sc := up2 sc 0 (upd (sc 0) 1 (J_X2_step sc st))) (st := st) (p := p + 1) (by show sc 0 1 + 1 = p + 1; rw [hp]) hn (by omega) ht h
theorem fC2_ok {sc st : Nat → Nat → Int32} {g : Nat → Int32} {n x m : Int32} (hn : st 0 1 = n) (h0 : 0 ≤ x.toInt) (ht : TX (st 1) g n) (h : FOK g n x m) : J_X2_figure (up2 sc 0 (upd (upd (sc 0) 1 x) 2 0)) st m = (chA g n x - 48, x + 1, 0) :=
  figC_ok (sc := up2 sc 0 (upd (upd (sc 0) 1 x) 2 0)) (st := st) (p := x) rfl hn h0 ht h
theorem fC2_no {sc st : Nat → Nat → Int32} {g : Nat → Int32} {n x m : Int32} (hn : st 0 1 = n) (h0 : 0 ≤ x.toInt) (ht : TX (st 1) g n) (h : ¬ FOK g n x m) : J_X2_figure (up2 sc 0 (upd (upd (sc 0) 1 x) 2 0)) st m = (-9, x, 1) :=
  figC_no (sc := up2 sc 0 (upd (upd (sc 0) 1 x) 2 0)) (st := st) (p := x) rfl hn h0 ht h
theorem cp_no {sr sc st sh : Nat → Nat → Int32} {g : Nat → Int32} {n p L : Int32} (hp : sc 0 1 = p) (hq : sc 0 2 = 0) (hn : st 0 1 = n) (h0 : 0 ≤ p.toInt) (h4 : p.toInt ≤ 64) (ht : TX (st 1) g n) (hL : chA g n p = L) (h : L < 65 ∨ 90 < L ∨ (sr 1 (L - 65).toNatClampNeg) = 0) : (J_X5_readPart sr sc st sh).1 = p ∧ (J_X5_readPart sr sc st sh).2.1 = 1 := by
  have e0 : J_X2_here sc st = L := (here_c hp hn h0 ht).trans hL
  dsimp only [J_X5_readPart, LetF]
  rw [e0]
  by_cases hA : L < 65
  · rw [if_pos hA]; exact ⟨hp, rfl⟩
  · rw [if_neg hA]
    by_cases hB : 90 < L
    · rw [if_pos hB]; exact ⟨hp, rfl⟩
    · rw [if_neg hB]
      rcases h with h | h | h
      · exact absurd h hA
      · exact absurd h hB
      · rw [if_pos h]; exact ⟨hp, rfl⟩
theorem cpA_no {sr sc st sh : Nat → Nat → Int32} {g : Nat → Int32} {n p L : Int32} (hp : sc 0 1 = p) (hq : sc 0 2 = 0) (hn : st 0 1 = n) (h0 : 0 ≤ p.toInt) (h4 : p.toInt ≤ 64) (ht : TX (st 1) g n) (hL : chA g n p = L) (hA : ¬ L < 65) (hB : ¬ 90 < L) (hU : ¬ (sr 1 (L - 65).toNatClampNeg) = 0) (hT : J_X5_tellsWhich L = 0) (hF1 : ¬ FOK g n (p + 1) (J_X5_firstFigures L)) : (J_X5_readPart sr sc st sh).1 = (p + 1) ∧ (J_X5_readPart sr sc st sh).2.1 = 1 := by
  have e0 : J_X2_here sc st = L := (here_c hp hn h0 ht).trans hL
  have b1 := pl1 h0 (by omega)
  have b2 := pl1 (p := p + 1) (by omega) (by omega)
  have b3 := pl1 (p := p + 1 + 1) (by omega) (by omega)
  have e1 := fC1_no (sc := sc) (m := (J_X5_firstFigures L)) hp hn h0 h4 ht hF1
  dsimp only [J_X5_readPart, LetF]
  rw [e0, if_neg hA, if_neg hB, if_neg hU, if_pos hT]
  rw [e1]; dsimp only
  rw [if_pos rfl]; exact ⟨rfl, rfl⟩
theorem cpA_ok {sr sc st sh : Nat → Nat → Int32} {g : Nat → Int32} {n p L : Int32} (hp : sc 0 1 = p) (hq : sc 0 2 = 0) (hn : st 0 1 = n) (h0 : 0 ≤ p.toInt) (h4 : p.toInt ≤ 64) (ht : TX (st 1) g n) (hL : chA g n p = L) (hA : ¬ L < 65) (hB : ¬ 90 < L) (hU : ¬ (sr 1 (L - 65).toNatClampNeg) = 0) (hT : J_X5_tellsWhich L = 0) (hS : J_X5_hasSecond L = 0) (hF1 : FOK g n (p + 1) (J_X5_firstFigures L)) : (J_X5_readPart sr sc st sh) = ((p + 1 + 1), (0 : Int32), (upd (sr 1) (L - 65).toNatClampNeg ((sr 1 (L - 65).toNatClampNeg) &&& (((1 : Int32) <<< (0 &&& 31)) ^^^ (-1)))), J_X4_put sh L 0 (chA g n (p + 1) - 48) 0) := by
  have e0 : J_X2_here sc st = L := (here_c hp hn h0 ht).trans hL
  have b1 := pl1 h0 (by omega)
  have b2 := pl1 (p := p + 1) (by omega) (by omega)
  have b3 := pl1 (p := p + 1 + 1) (by omega) (by omega)
  have e1 := fC1_ok (sc := sc) (m := (J_X5_firstFigures L)) hp hq hn h0 h4 ht hF1
  dsimp only [J_X5_readPart, LetF]
  rw [e0, if_neg hA, if_neg hB, if_neg hU, if_pos hT]
  rw [e1]; dsimp only
  rw [if_neg (fok_9 hF1), if_pos hS]
  try rfl
theorem cpB_no {sr sc st sh : Nat → Nat → Int32} {g : Nat → Int32} {n p L : Int32} (hp : sc 0 1 = p) (hq : sc 0 2 = 0) (hn : st 0 1 = n) (h0 : 0 ≤ p.toInt) (h4 : p.toInt ≤ 64) (ht : TX (st 1) g n) (hL : chA g n p = L) (hA : ¬ L < 65) (hB : ¬ 90 < L) (hU : ¬ (sr 1 (L - 65).toNatClampNeg) = 0) (hT : J_X5_tellsWhich L = 0) (hS : ¬ J_X5_hasSecond L = 0) (hF1 : FOK g n (p + 1) (J_X5_firstFigures L)) (hF2 : ¬ FOK g n (p + 1 + 1) (J_X5_secondFigures L)) : (J_X5_readPart sr sc st sh).1 = (p + 1 + 1) ∧ (J_X5_readPart sr sc st sh).2.1 = 1 := by
  have e0 : J_X2_here sc st = L := (here_c hp hn h0 ht).trans hL
  have b1 := pl1 h0 (by omega)
  have b2 := pl1 (p := p + 1) (by omega) (by omega)
  have b3 := pl1 (p := p + 1 + 1) (by omega) (by omega)
  have e1 := fC1_ok (sc := sc) (m := (J_X5_firstFigures L)) hp hq hn h0 h4 ht hF1
  have e2 := fC2_no (sc := sc) (x := (p + 1 + 1)) (m := (J_X5_secondFigures L)) hn (by omega) ht hF2
  dsimp only [J_X5_readPart, LetF]
  rw [e0, if_neg hA, if_neg hB, if_neg hU, if_pos hT]
  rw [e1]; dsimp only
  rw [if_neg (fok_9 hF1), if_neg hS, e2]; dsimp only
  rw [if_pos rfl]; exact ⟨rfl, rfl⟩
theorem cpB_ok {sr sc st sh : Nat → Nat → Int32} {g : Nat → Int32} {n p L : Int32} (hp : sc 0 1 = p) (hq : sc 0 2 = 0) (hn : st 0 1 = n) (h0 : 0 ≤ p.toInt) (h4 : p.toInt ≤ 64) (ht : TX (st 1) g n) (hL : chA g n p = L) (hA : ¬ L < 65) (hB : ¬ 90 < L) (hU : ¬ (sr 1 (L - 65).toNatClampNeg) = 0) (hT : J_X5_tellsWhich L = 0) (hS : ¬ J_X5_hasSecond L = 0) (hF1 : FOK g n (p + 1) (J_X5_firstFigures L)) (hF2 : FOK g n (p + 1 + 1) (J_X5_secondFigures L)) : (J_X5_readPart sr sc st sh) = ((p + 1 + 1 + 1), (0 : Int32), (upd (sr 1) (L - 65).toNatClampNeg ((sr 1 (L - 65).toNatClampNeg) &&& (((1 : Int32) <<< (0 &&& 31)) ^^^ (-1)))), J_X4_put sh L 0 (chA g n (p + 1) - 48) (chA g n (p + 1 + 1) - 48)) := by
  have e0 : J_X2_here sc st = L := (here_c hp hn h0 ht).trans hL
  have b1 := pl1 h0 (by omega)
  have b2 := pl1 (p := p + 1) (by omega) (by omega)
  have b3 := pl1 (p := p + 1 + 1) (by omega) (by omega)
  have e1 := fC1_ok (sc := sc) (m := (J_X5_firstFigures L)) hp hq hn h0 h4 ht hF1
  have e2 := fC2_ok (sc := sc) (x := (p + 1 + 1)) (m := (J_X5_secondFigures L)) hn (by omega) ht hF2
  dsimp only [J_X5_readPart, LetF]
  rw [e0, if_neg hA, if_neg hB, if_neg hU, if_pos hT]
  rw [e1]; dsimp only
  rw [if_neg (fok_9 hF1), if_neg hS, e2]; dsimp only
  rw [if_neg (fok_9 hF2)]
  try rfl
theorem cpC_no {sr sc st sh : Nat → Nat → Int32} {g : Nat → Int32} {n p L : Int32} (hp : sc 0 1 = p) (hq : sc 0 2 = 0) (hn : st 0 1 = n) (h0 : 0 ≤ p.toInt) (h4 : p.toInt ≤ 64) (ht : TX (st 1) g n) (hL : chA g n p = L) (hA : ¬ L < 65) (hB : ¬ 90 < L) (hU : ¬ (sr 1 (L - 65).toNatClampNeg) = 0) (hT : ¬ J_X5_tellsWhich L = 0) (hF1 : ¬ FOK g n (p + 1) (sr 1 (L - 65).toNatClampNeg)) : (J_X5_readPart sr sc st sh).1 = (p + 1) ∧ (J_X5_readPart sr sc st sh).2.1 = 1 := by
  have e0 : J_X2_here sc st = L := (here_c hp hn h0 ht).trans hL
  have b1 := pl1 h0 (by omega)
  have b2 := pl1 (p := p + 1) (by omega) (by omega)
  have b3 := pl1 (p := p + 1 + 1) (by omega) (by omega)
  have e1 := fC1_no (sc := sc) (m := (sr 1 (L - 65).toNatClampNeg)) hp hn h0 h4 ht hF1
  dsimp only [J_X5_readPart, LetF]
  rw [e0, if_neg hA, if_neg hB, if_neg hU, if_neg hT]
  rw [e1]; dsimp only
  rw [if_pos rfl]; exact ⟨rfl, rfl⟩
theorem cpC_no1 {sr sc st sh : Nat → Nat → Int32} {g : Nat → Int32} {n p L : Int32} (hp : sc 0 1 = p) (hq : sc 0 2 = 0) (hn : st 0 1 = n) (h0 : 0 ≤ p.toInt) (h4 : p.toInt ≤ 64) (ht : TX (st 1) g n) (hL : chA g n p = L) (hA : ¬ L < 65) (hB : ¬ 90 < L) (hU : ¬ (sr 1 (L - 65).toNatClampNeg) = 0) (hT : ¬ J_X5_tellsWhich L = 0) (hF1 : FOK g n (p + 1) (sr 1 (L - 65).toNatClampNeg)) (hF2 : ¬ FOK g n (p + 1 + 1) (J_X5_firstFigures L)) : (J_X5_readPart sr sc st sh).1 = (p + 1 + 1) ∧ (J_X5_readPart sr sc st sh).2.1 = 1 := by
  have e0 : J_X2_here sc st = L := (here_c hp hn h0 ht).trans hL
  have b1 := pl1 h0 (by omega)
  have b2 := pl1 (p := p + 1) (by omega) (by omega)
  have b3 := pl1 (p := p + 1 + 1) (by omega) (by omega)
  have e1 := fC1_ok (sc := sc) (m := (sr 1 (L - 65).toNatClampNeg)) hp hq hn h0 h4 ht hF1
  have e2 := fC2_no (sc := sc) (x := (p + 1 + 1)) (m := (J_X5_firstFigures L)) hn (by omega) ht hF2
  dsimp only [J_X5_readPart, LetF]
  rw [e0, if_neg hA, if_neg hB, if_neg hU, if_neg hT]
  rw [e1]; dsimp only
  rw [if_neg (fok_9 hF1), e2]; dsimp only
  rw [if_pos rfl]; exact ⟨rfl, rfl⟩
theorem cpC_ok {sr sc st sh : Nat → Nat → Int32} {g : Nat → Int32} {n p L : Int32} (hp : sc 0 1 = p) (hq : sc 0 2 = 0) (hn : st 0 1 = n) (h0 : 0 ≤ p.toInt) (h4 : p.toInt ≤ 64) (ht : TX (st 1) g n) (hL : chA g n p = L) (hA : ¬ L < 65) (hB : ¬ 90 < L) (hU : ¬ (sr 1 (L - 65).toNatClampNeg) = 0) (hT : ¬ J_X5_tellsWhich L = 0) (hS : J_X5_hasSecond L = 0) (hF1 : FOK g n (p + 1) (sr 1 (L - 65).toNatClampNeg)) (hF2 : FOK g n (p + 1 + 1) (J_X5_firstFigures L)) : (J_X5_readPart sr sc st sh) = ((p + 1 + 1 + 1), 0, (upd (sr 1) (L - 65).toNatClampNeg ((sr 1 (L - 65).toNatClampNeg) &&& (((1 : Int32) <<< ((chA g n (p + 1) - 48) &&& 31)) ^^^ (-1)))), J_X4_put sh L (chA g n (p + 1) - 48) (chA g n (p + 1 + 1) - 48) 0) := by
  have e0 : J_X2_here sc st = L := (here_c hp hn h0 ht).trans hL
  have b1 := pl1 h0 (by omega)
  have b2 := pl1 (p := p + 1) (by omega) (by omega)
  have b3 := pl1 (p := p + 1 + 1) (by omega) (by omega)
  have e1 := fC1_ok (sc := sc) (m := (sr 1 (L - 65).toNatClampNeg)) hp hq hn h0 h4 ht hF1
  have e2 := fC2_ok (sc := sc) (x := (p + 1 + 1)) (m := (J_X5_firstFigures L)) hn (by omega) ht hF2
  dsimp only [J_X5_readPart, LetF]
  rw [e0, if_neg hA, if_neg hB, if_neg hU, if_neg hT]
  rw [e1]; dsimp only
  rw [if_neg (fok_9 hF1), e2]; dsimp only
  rw [if_neg (fok_9 hF2), if_pos hS]
  try rfl
theorem cpD_no2 {sr sc st sh : Nat → Nat → Int32} {g : Nat → Int32} {n p L : Int32} (hp : sc 0 1 = p) (hq : sc 0 2 = 0) (hn : st 0 1 = n) (h0 : 0 ≤ p.toInt) (h4 : p.toInt ≤ 64) (ht : TX (st 1) g n) (hL : chA g n p = L) (hA : ¬ L < 65) (hB : ¬ 90 < L) (hU : ¬ (sr 1 (L - 65).toNatClampNeg) = 0) (hT : ¬ J_X5_tellsWhich L = 0) (hS : ¬ J_X5_hasSecond L = 0) (hF1 : FOK g n (p + 1) (sr 1 (L - 65).toNatClampNeg)) (hF2 : FOK g n (p + 1 + 1) (J_X5_firstFigures L)) (hF3 : ¬ FOK g n (p + 1 + 1 + 1) (J_X5_secondFigures L)) : (J_X5_readPart sr sc st sh).1 = (p + 1 + 1 + 1) ∧ (J_X5_readPart sr sc st sh).2.1 = 1 := by
  have e0 : J_X2_here sc st = L := (here_c hp hn h0 ht).trans hL
  have b1 := pl1 h0 (by omega)
  have b2 := pl1 (p := p + 1) (by omega) (by omega)
  have b3 := pl1 (p := p + 1 + 1) (by omega) (by omega)
  have e1 := fC1_ok (sc := sc) (m := (sr 1 (L - 65).toNatClampNeg)) hp hq hn h0 h4 ht hF1
  have e2 := fC2_ok (sc := sc) (x := (p + 1 + 1)) (m := (J_X5_firstFigures L)) hn (by omega) ht hF2
  have e3 := fC2_no (sc := sc) (x := (p + 1 + 1 + 1)) (m := (J_X5_secondFigures L)) hn (by omega) ht hF3
  dsimp only [J_X5_readPart, LetF]
  rw [e0, if_neg hA, if_neg hB, if_neg hU, if_neg hT]
  rw [e1]; dsimp only
  rw [if_neg (fok_9 hF1), e2]; dsimp only
  rw [if_neg (fok_9 hF2), if_neg hS, e3]; dsimp only
  rw [if_pos rfl]; exact ⟨rfl, rfl⟩
theorem cpD_ok {sr sc st sh : Nat → Nat → Int32} {g : Nat → Int32} {n p L : Int32} (hp : sc 0 1 = p) (hq : sc 0 2 = 0) (hn : st 0 1 = n) (h0 : 0 ≤ p.toInt) (h4 : p.toInt ≤ 64) (ht : TX (st 1) g n) (hL : chA g n p = L) (hA : ¬ L < 65) (hB : ¬ 90 < L) (hU : ¬ (sr 1 (L - 65).toNatClampNeg) = 0) (hT : ¬ J_X5_tellsWhich L = 0) (hS : ¬ J_X5_hasSecond L = 0) (hF1 : FOK g n (p + 1) (sr 1 (L - 65).toNatClampNeg)) (hF2 : FOK g n (p + 1 + 1) (J_X5_firstFigures L)) (hF3 : FOK g n (p + 1 + 1 + 1) (J_X5_secondFigures L)) : (J_X5_readPart sr sc st sh) = ((p + 1 + 1 + 1 + 1), 0, (upd (sr 1) (L - 65).toNatClampNeg ((sr 1 (L - 65).toNatClampNeg) &&& (((1 : Int32) <<< ((chA g n (p + 1) - 48) &&& 31)) ^^^ (-1)))), J_X4_put sh L (chA g n (p + 1) - 48) (chA g n (p + 1 + 1) - 48) (chA g n (p + 1 + 1 + 1) - 48)) := by
  have e0 : J_X2_here sc st = L := (here_c hp hn h0 ht).trans hL
  have b1 := pl1 h0 (by omega)
  have b2 := pl1 (p := p + 1) (by omega) (by omega)
  have b3 := pl1 (p := p + 1 + 1) (by omega) (by omega)
  have e1 := fC1_ok (sc := sc) (m := (sr 1 (L - 65).toNatClampNeg)) hp hq hn h0 h4 ht hF1
  have e2 := fC2_ok (sc := sc) (x := (p + 1 + 1)) (m := (J_X5_firstFigures L)) hn (by omega) ht hF2
  have e3 := fC2_ok (sc := sc) (x := (p + 1 + 1 + 1)) (m := (J_X5_secondFigures L)) hn (by omega) ht hF3
  dsimp only [J_X5_readPart, LetF]
  rw [e0, if_neg hA, if_neg hB, if_neg hU, if_neg hT]
  rw [e1]; dsimp only
  rw [if_neg (fok_9 hF1), e2]; dsimp only
  rw [if_neg (fok_9 hF2), if_neg hS, e3]; dsimp only
  rw [if_neg (fok_9 hF3)]
  try rfl
theorem n9 {p : Int32} (h : 0 ≤ p.toInt) : ¬ p = -9 := fun q => by rw [q] at h; exact absurd h (by decide)
theorem rst {α β : Type} {a b : α} {c d : β} (h : a = b) (k : c = d) : (a, c) = (b, d) := by rw [h, k]
theorem rp_no {sm : Nat → Nat → Int32} {tm : Nat → Nat → Int64} {g : Nat → Int32} {n p L : Int32} (hg : sm 3 = g) (hl : sm 0 3 = n) (ha : sm 0 4 = p) (hf : sm 0 5 = -9) (h0 : 0 ≤ p.toInt) (h4 : p.toInt ≤ 64) (h1 : J_X12_once L = -9 ∨ ¬ ((sm 0 6 >>> (J_X12_once L &&& 31)) &&& 1) = 0) (h2 : L = 87 → sm 0 7 = (((1 : Int32) <<< (sm 1 (0 : Int32).toNatClampNeg &&& 31)) - 1)) (h3 : L = 79 → sm 0 8 = (((1 : Int32) <<< (sm 1 (0 : Int32).toNatClampNeg &&& 31)) - 1)) (h5 : L = 81 → sm 0 9 = 7) (h6 : L = 68 → sm 0 10 = 7) : (J_X12_readPart sm tm L).2.2.1 = p := by
  have e := fail_9 (tm := tm) ha hf
  dsimp only [J_X12_readPart]
  repeat' split
  all_goals first
    | exact e
    | exact absurd (h2 (by assumption)) (by assumption)
    | exact absurd (h3 (by assumption)) (by assumption)
    | exact absurd (h5 (by assumption)) (by assumption)
    | exact absurd (h6 (by assumption)) (by assumption)
    | (rcases h1 with h1 | h1 <;> exact absurd h1 (by assumption))
    | (rcases h1 with h1 | h1; exact absurd h1 (by assumption); exact absurd (by assumption) h1)
theorem rpO0_ok {sm : Nat → Nat → Int32} {tm : Nat → Nat → Int64} {g : Nat → Int32} {n p L : Int32} (hg : sm 3 = g) (hl : sm 0 3 = n) (ha : sm 0 4 = p) (hf : sm 0 5 = -9) (h0 : 0 ≤ p.toInt) (h4 : p.toInt ≤ 64) {k : Int32} (hk : J_X12_once L = k) (h9 : ¬ k = -9) (hb : ((sm 0 6 >>> (k &&& 31)) &&& 1) = 0) (h6 : k = 0) (hF : FOK g n (p + 1) 30) : (J_X12_readPart sm tm L) = (upd (sm 1) (k + 1).toNatClampNeg (chA g n (p + 1) - 48), p + 1 + 1, -9, (sm 0 6 ||| ((1 : Int32) <<< (k &&& 31))), sm 0 7, sm 0 8, sm 0 9, sm 0 10) := by
  have e1 : J_X12_figure (up2 sm 0 (upd (upd (sm 0) 4 (sm 0 4 + 1)) 6 (sm 0 6 ||| ((1 : Int32) <<< (k &&& 31))))) tm 30 = _ := figR_ok (g := g) (n := n) (p := p + 1) (m := 30) hg hl (by show sm 0 4 + 1 = p + 1; rw [ha]) hf hF
  dsimp only [J_X12_readPart]
  rw [hk, if_neg h9, if_pos hb, if_pos h6, e1]
theorem rpO0_no {sm : Nat → Nat → Int32} {tm : Nat → Nat → Int64} {g : Nat → Int32} {n p L : Int32} (hg : sm 3 = g) (hl : sm 0 3 = n) (ha : sm 0 4 = p) (hf : sm 0 5 = -9) (h0 : 0 ≤ p.toInt) (h4 : p.toInt ≤ 64) {k : Int32} (hk : J_X12_once L = k) (h9 : ¬ k = -9) (hb : ((sm 0 6 >>> (k &&& 31)) &&& 1) = 0) (h6 : k = 0) (hF : ¬ FOK g n (p + 1) 30) : (J_X12_readPart sm tm L).2.2.1 = p + 1 := by
  have e1 : J_X12_figure (up2 sm 0 (upd (upd (sm 0) 4 (sm 0 4 + 1)) 6 (sm 0 6 ||| ((1 : Int32) <<< (k &&& 31))))) tm 30 = _ := figR_no (g := g) (n := n) (p := p + 1) (m := 30) hg hl (by show sm 0 4 + 1 = p + 1; rw [ha]) hf hF
  dsimp only [J_X12_readPart]
  rw [hk, if_neg h9, if_pos hb, if_pos h6, e1]
theorem rpO1_ok {sm : Nat → Nat → Int32} {tm : Nat → Nat → Int64} {g : Nat → Int32} {n p L : Int32} (hg : sm 3 = g) (hl : sm 0 3 = n) (ha : sm 0 4 = p) (hf : sm 0 5 = -9) (h0 : 0 ≤ p.toInt) (h4 : p.toInt ≤ 64) {k : Int32} (hk : J_X12_once L = k) (h9 : ¬ k = -9) (hb : ((sm 0 6 >>> (k &&& 31)) &&& 1) = 0) (h6 : ¬ k = 0) (h7 : ¬ k = 6) (hF : FOK g n (p + 1) 1023) : (J_X12_readPart sm tm L) = (upd (sm 1) (k + 1).toNatClampNeg (chA g n (p + 1) - 48), p + 1 + 1, -9, (sm 0 6 ||| ((1 : Int32) <<< (k &&& 31))), sm 0 7, sm 0 8, sm 0 9, sm 0 10) := by
  have e1 : J_X12_figure (up2 sm 0 (upd (upd (sm 0) 4 (sm 0 4 + 1)) 6 (sm 0 6 ||| ((1 : Int32) <<< (k &&& 31))))) tm 1023 = _ := figR_ok (g := g) (n := n) (p := p + 1) (m := 1023) hg hl (by show sm 0 4 + 1 = p + 1; rw [ha]) hf hF
  dsimp only [J_X12_readPart]
  rw [hk, if_neg h9, if_pos hb, if_neg h6, if_neg h7, e1]
theorem rpO1_no {sm : Nat → Nat → Int32} {tm : Nat → Nat → Int64} {g : Nat → Int32} {n p L : Int32} (hg : sm 3 = g) (hl : sm 0 3 = n) (ha : sm 0 4 = p) (hf : sm 0 5 = -9) (h0 : 0 ≤ p.toInt) (h4 : p.toInt ≤ 64) {k : Int32} (hk : J_X12_once L = k) (h9 : ¬ k = -9) (hb : ((sm 0 6 >>> (k &&& 31)) &&& 1) = 0) (h6 : ¬ k = 0) (h7 : ¬ k = 6) (hF : ¬ FOK g n (p + 1) 1023) : (J_X12_readPart sm tm L).2.2.1 = p + 1 := by
  have e1 : J_X12_figure (up2 sm 0 (upd (upd (sm 0) 4 (sm 0 4 + 1)) 6 (sm 0 6 ||| ((1 : Int32) <<< (k &&& 31))))) tm 1023 = _ := figR_no (g := g) (n := n) (p := p + 1) (m := 1023) hg hl (by show sm 0 4 + 1 = p + 1; rw [ha]) hf hF
  dsimp only [J_X12_readPart]
  rw [hk, if_neg h9, if_pos hb, if_neg h6, if_neg h7, e1]
theorem rpB_no1 {sm : Nat → Nat → Int32} {tm : Nat → Nat → Int64} {g : Nat → Int32} {n p L : Int32} (hg : sm 3 = g) (hl : sm 0 3 = n) (ha : sm 0 4 = p) (hf : sm 0 5 = -9) (h0 : 0 ≤ p.toInt) (h4 : p.toInt ≤ 64) {k : Int32} (hk : J_X12_once L = k) (h9 : ¬ k = -9) (hb : ((sm 0 6 >>> (k &&& 31)) &&& 1) = 0) (h6 : k = 6) (hF : ¬ FOK g n (p + 1) 1023) : (J_X12_readPart sm tm L).2.2.1 = p + 1 := by
  have b1 := pl1 h0 (by omega)
  have e1 : J_X12_figure (up2 sm 0 (upd (upd (sm 0) 4 (sm 0 4 + 1)) 6 (sm 0 6 ||| ((1 : Int32) <<< (k &&& 31))))) tm 1023 = _ := figR_no (g := g) (n := n) (p := p + 1) (m := 1023) hg hl (by show sm 0 4 + 1 = p + 1; rw [ha]) hf hF
  dsimp only [J_X12_readPart]
  rw [hk, if_neg h9, if_pos hb, if_neg (show ¬ k = 0 from by rw [h6]; decide), if_pos h6, e1]
  dsimp only
  rw [figR_x (show ¬ (p + 1) = -9 from n9 (by omega))]
  rfl
theorem rpB_no2 {sm : Nat → Nat → Int32} {tm : Nat → Nat → Int64} {g : Nat → Int32} {n p L : Int32} (hg : sm 3 = g) (hl : sm 0 3 = n) (ha : sm 0 4 = p) (hf : sm 0 5 = -9) (h0 : 0 ≤ p.toInt) (h4 : p.toInt ≤ 64) {k : Int32} (hk : J_X12_once L = k) (h9 : ¬ k = -9) (hb : ((sm 0 6 >>> (k &&& 31)) &&& 1) = 0) (h6 : k = 6) (hF : FOK g n (p + 1) 1023) (hF2 : ¬ FOK g n (p + 1 + 1) 63) : (J_X12_readPart sm tm L).2.2.1 = p + 1 + 1 := by
  have e1 : J_X12_figure (up2 sm 0 (upd (upd (sm 0) 4 (sm 0 4 + 1)) 6 (sm 0 6 ||| ((1 : Int32) <<< (k &&& 31))))) tm 1023 = _ := figR_ok (g := g) (n := n) (p := p + 1) (m := 1023) hg hl (by show sm 0 4 + 1 = p + 1; rw [ha]) hf hF
  have e2 : J_X12_figure (up2 (up2 sm 0 (upd (upd (upd (sm 0) 4 (p + 1 + 1)) 5 (-9)) 6 (sm 0 6 ||| ((1 : Int32) <<< (k &&& 31))))) 1 (upd (sm 1) (k + 1).toNatClampNeg (chA g n (p + 1) - 48))) tm 63 = _ := figR_no (g := g) (n := n) (p := p + 1 + 1) (m := 63) hg hl rfl rfl hF2
  dsimp only [J_X12_readPart]
  rw [hk, if_neg h9, if_pos hb, if_neg (show ¬ k = 0 from by rw [h6]; decide), if_pos h6, e1]
  dsimp only
  rw [e2]
theorem rpB_ok {sm : Nat → Nat → Int32} {tm : Nat → Nat → Int64} {g : Nat → Int32} {n p L : Int32} (hg : sm 3 = g) (hl : sm 0 3 = n) (ha : sm 0 4 = p) (hf : sm 0 5 = -9) (h0 : 0 ≤ p.toInt) (h4 : p.toInt ≤ 64) {k : Int32} (hk : J_X12_once L = k) (h9 : ¬ k = -9) (hb : ((sm 0 6 >>> (k &&& 31)) &&& 1) = 0) (h6 : k = 6) (hF : FOK g n (p + 1) 1023) (hF2 : FOK g n (p + 1 + 1) 63) : (J_X12_readPart sm tm L) = (upd (upd (sm 1) (k + 1).toNatClampNeg (chA g n (p + 1) - 48)) (8 : Int32).toNatClampNeg (chA g n (p + 1 + 1) - 48), p + 1 + 1 + 1, -9, (sm 0 6 ||| ((1 : Int32) <<< (k &&& 31))), sm 0 7, sm 0 8, sm 0 9, sm 0 10) := by
  have e1 : J_X12_figure (up2 sm 0 (upd (upd (sm 0) 4 (sm 0 4 + 1)) 6 (sm 0 6 ||| ((1 : Int32) <<< (k &&& 31))))) tm 1023 = _ := figR_ok (g := g) (n := n) (p := p + 1) (m := 1023) hg hl (by show sm 0 4 + 1 = p + 1; rw [ha]) hf hF
  have e2 : J_X12_figure (up2 (up2 sm 0 (upd (upd (upd (sm 0) 4 (p + 1 + 1)) 5 (-9)) 6 (sm 0 6 ||| ((1 : Int32) <<< (k &&& 31))))) 1 (upd (sm 1) (k + 1).toNatClampNeg (chA g n (p + 1) - 48))) tm 63 = _ := figR_ok (g := g) (n := n) (p := p + 1 + 1) (m := 63) hg hl rfl rfl hF2
  dsimp only [J_X12_readPart]
  rw [hk, if_neg h9, if_pos hb, if_neg (show ¬ k = 0 from by rw [h6]; decide), if_pos h6, e1]
  dsimp only
  rw [e2]
theorem rpW_no {sm : Nat → Nat → Int32} {tm : Nat → Nat → Int64} {g : Nat → Int32} {n p L : Int32} (hg : sm 3 = g) (hl : sm 0 3 = n) (ha : sm 0 4 = p) (hf : sm 0 5 = -9) (h0 : 0 ≤ p.toInt) (h4 : p.toInt ≤ 64) (hL : L = 87) (hm : ¬ sm 0 7 = (((1 : Int32) <<< (sm 1 (0 : Int32).toNatClampNeg &&& 31)) - 1)) (hF : ¬ FOK g n (p + 1) ((((1 : Int32) <<< (sm 1 (0 : Int32).toNatClampNeg &&& 31)) - 1) &&& (sm 0 7 ^^^ (-1)))) : (J_X12_readPart sm tm L).2.2.1 = p + 1 := by
  have b1 := pl1 h0 (by omega)
  have e1 : J_X12_figure (up2 sm 0 (upd (sm 0) 4 (sm 0 4 + 1))) tm ((((1 : Int32) <<< (sm 1 (0 : Int32).toNatClampNeg &&& 31)) - 1) &&& (sm 0 7 ^^^ (-1))) = _ := figR_no (g := g) (n := n) (p := p + 1) (m := ((((1 : Int32) <<< (sm 1 (0 : Int32).toNatClampNeg &&& 31)) - 1) &&& (sm 0 7 ^^^ (-1)))) hg hl (by show sm 0 4 + 1 = p + 1; rw [ha]) hf hF
  have x9 := n9 (p := p + 1) (by omega)
  subst hL
  dsimp only [J_X12_readPart]
  rw [show J_X12_once 87 = -9 from by decide, if_pos rfl, if_pos rfl, if_neg hm, e1]
  dsimp only
  have e2 : J_X12_figure (up2 sm 0 (upd (upd (upd (sm 0) 4 (p + 1)) 5 (p + 1)) 7 (sm 0 7 ||| ((1 : Int32) <<< ((0 : Int32) &&& 31))))) tm 1023 = (0, p + 1, p + 1) := figR_x (sm := up2 sm 0 (upd (upd (upd (sm 0) 4 (p + 1)) 5 (p + 1)) 7 (sm 0 7 ||| ((1 : Int32) <<< ((0 : Int32) &&& 31))))) (show ¬ (p + 1) = -9 from x9)
  rw [e2]
  dsimp only
  rw [e2]
theorem rpW_no1 {sm : Nat → Nat → Int32} {tm : Nat → Nat → Int64} {g : Nat → Int32} {n p L : Int32} (hg : sm 3 = g) (hl : sm 0 3 = n) (ha : sm 0 4 = p) (hf : sm 0 5 = -9) (h0 : 0 ≤ p.toInt) (h4 : p.toInt ≤ 64) (hL : L = 87) (hm : ¬ sm 0 7 = (((1 : Int32) <<< (sm 1 (0 : Int32).toNatClampNeg &&& 31)) - 1)) (hF : FOK g n (p + 1) ((((1 : Int32) <<< (sm 1 (0 : Int32).toNatClampNeg &&& 31)) - 1) &&& (sm 0 7 ^^^ (-1)))) (hF1 : ¬ FOK g n (p + 1 + 1) 1023) : (J_X12_readPart sm tm L).2.2.1 = p + 1 + 1 := by
  have b1 := pl1 h0 (by omega)
  have b2 := pl1 (p := p + 1) (by omega) (by omega)
  have x9 := n9 (p := p + 1 + 1) (by omega)
  have e1 : J_X12_figure (up2 sm 0 (upd (sm 0) 4 (sm 0 4 + 1))) tm ((((1 : Int32) <<< (sm 1 (0 : Int32).toNatClampNeg &&& 31)) - 1) &&& (sm 0 7 ^^^ (-1))) = _ := figR_ok (g := g) (n := n) (p := p + 1) (m := ((((1 : Int32) <<< (sm 1 (0 : Int32).toNatClampNeg &&& 31)) - 1) &&& (sm 0 7 ^^^ (-1)))) hg hl (by show sm 0 4 + 1 = p + 1; rw [ha]) hf hF
  have e2 : J_X12_figure (up2 sm 0 (upd (upd (upd (sm 0) 4 (p + 1 + 1)) 5 (-9)) 7 (sm 0 7 ||| ((1 : Int32) <<< ((chA g n (p + 1) - 48) &&& 31))))) tm 1023 = _ := figR_no (g := g) (n := n) (p := p + 1 + 1) (m := 1023) hg hl rfl rfl hF1
  subst hL
  dsimp only [J_X12_readPart]
  rw [show J_X12_once 87 = -9 from by decide, if_pos rfl, if_pos rfl, if_neg hm, e1]
  dsimp only
  rw [e2]
  dsimp only
  rw [figR_x (show ¬ (p + 1 + 1) = -9 from x9)]
  rfl
theorem rpW_no2 {sm : Nat → Nat → Int32} {tm : Nat → Nat → Int64} {g : Nat → Int32} {n p L : Int32} (hg : sm 3 = g) (hl : sm 0 3 = n) (ha : sm 0 4 = p) (hf : sm 0 5 = -9) (h0 : 0 ≤ p.toInt) (h4 : p.toInt ≤ 64) (hL : L = 87) (hm : ¬ sm 0 7 = (((1 : Int32) <<< (sm 1 (0 : Int32).toNatClampNeg &&& 31)) - 1)) (hF : FOK g n (p + 1) ((((1 : Int32) <<< (sm 1 (0 : Int32).toNatClampNeg &&& 31)) - 1) &&& (sm 0 7 ^^^ (-1)))) (hF1 : FOK g n (p + 1 + 1) 1023) (hF2 : ¬ FOK g n (p + 1 + 1 + 1) 1023) : (J_X12_readPart sm tm L).2.2.1 = p + 1 + 1 + 1 := by
  have e1 : J_X12_figure (up2 sm 0 (upd (sm 0) 4 (sm 0 4 + 1))) tm ((((1 : Int32) <<< (sm 1 (0 : Int32).toNatClampNeg &&& 31)) - 1) &&& (sm 0 7 ^^^ (-1))) = _ := figR_ok (g := g) (n := n) (p := p + 1) (m := ((((1 : Int32) <<< (sm 1 (0 : Int32).toNatClampNeg &&& 31)) - 1) &&& (sm 0 7 ^^^ (-1)))) hg hl (by show sm 0 4 + 1 = p + 1; rw [ha]) hf hF
  have e2 : J_X12_figure (up2 sm 0 (upd (upd (upd (sm 0) 4 (p + 1 + 1)) 5 (-9)) 7 (sm 0 7 ||| ((1 : Int32) <<< ((chA g n (p + 1) - 48) &&& 31))))) tm 1023 = _ := figR_ok (g := g) (n := n) (p := p + 1 + 1) (m := 1023) hg hl rfl rfl hF1
  have e3 : J_X12_figure (up2 sm 0 (upd (upd (upd (sm 0) 4 (p + 1 + 1 + 1)) 5 (-9)) 7 (sm 0 7 ||| ((1 : Int32) <<< ((chA g n (p + 1) - 48) &&& 31))))) tm 1023 = _ := figR_no (g := g) (n := n) (p := p + 1 + 1 + 1) (m := 1023) hg hl rfl rfl hF2
  subst hL
  dsimp only [J_X12_readPart]
  rw [show J_X12_once 87 = -9 from by decide, if_pos rfl, if_pos rfl, if_neg hm, e1]
  dsimp only
  rw [e2]
  dsimp only
  rw [e3]
theorem rpW_ok {sm : Nat → Nat → Int32} {tm : Nat → Nat → Int64} {g : Nat → Int32} {n p L : Int32} (hg : sm 3 = g) (hl : sm 0 3 = n) (ha : sm 0 4 = p) (hf : sm 0 5 = -9) (h0 : 0 ≤ p.toInt) (h4 : p.toInt ≤ 64) (hL : L = 87) (hm : ¬ sm 0 7 = (((1 : Int32) <<< (sm 1 (0 : Int32).toNatClampNeg &&& 31)) - 1)) (hF : FOK g n (p + 1) ((((1 : Int32) <<< (sm 1 (0 : Int32).toNatClampNeg &&& 31)) - 1) &&& (sm 0 7 ^^^ (-1)))) (hF1 : FOK g n (p + 1 + 1) 1023) (hF2 : FOK g n (p + 1 + 1 + 1) 1023) : (J_X12_readPart sm tm L) = (upd (sm 1) (10 + (chA g n (p + 1) - 48)).toNatClampNeg (10 * (chA g n (p + 1 + 1) - 48) + (chA g n (p + 1 + 1 + 1) - 48)), p + 1 + 1 + 1 + 1, -9, sm 0 6, (sm 0 7 ||| ((1 : Int32) <<< ((chA g n (p + 1) - 48) &&& 31))), sm 0 8, sm 0 9, sm 0 10) := by
  have e1 : J_X12_figure (up2 sm 0 (upd (sm 0) 4 (sm 0 4 + 1))) tm ((((1 : Int32) <<< (sm 1 (0 : Int32).toNatClampNeg &&& 31)) - 1) &&& (sm 0 7 ^^^ (-1))) = _ := figR_ok (g := g) (n := n) (p := p + 1) (m := ((((1 : Int32) <<< (sm 1 (0 : Int32).toNatClampNeg &&& 31)) - 1) &&& (sm 0 7 ^^^ (-1)))) hg hl (by show sm 0 4 + 1 = p + 1; rw [ha]) hf hF
  have e2 : J_X12_figure (up2 sm 0 (upd (upd (upd (sm 0) 4 (p + 1 + 1)) 5 (-9)) 7 (sm 0 7 ||| ((1 : Int32) <<< ((chA g n (p + 1) - 48) &&& 31))))) tm 1023 = _ := figR_ok (g := g) (n := n) (p := p + 1 + 1) (m := 1023) hg hl rfl rfl hF1
  have e3 : J_X12_figure (up2 sm 0 (upd (upd (upd (sm 0) 4 (p + 1 + 1 + 1)) 5 (-9)) 7 (sm 0 7 ||| ((1 : Int32) <<< ((chA g n (p + 1) - 48) &&& 31))))) tm 1023 = _ := figR_ok (g := g) (n := n) (p := p + 1 + 1 + 1) (m := 1023) hg hl rfl rfl hF2
  subst hL
  dsimp only [J_X12_readPart]
  rw [show J_X12_once 87 = -9 from by decide, if_pos rfl, if_pos rfl, if_neg hm, e1]
  dsimp only
  rw [e2]
  dsimp only
  rw [e3]
theorem rpO_no {sm : Nat → Nat → Int32} {tm : Nat → Nat → Int64} {g : Nat → Int32} {n p L : Int32} (hg : sm 3 = g) (hl : sm 0 3 = n) (ha : sm 0 4 = p) (hf : sm 0 5 = -9) (h0 : 0 ≤ p.toInt) (h4 : p.toInt ≤ 64) (hL : L = 79) (hm : ¬ sm 0 8 = (((1 : Int32) <<< (sm 1 (0 : Int32).toNatClampNeg &&& 31)) - 1)) (hF : ¬ FOK g n (p + 1) ((((1 : Int32) <<< (sm 1 (0 : Int32).toNatClampNeg &&& 31)) - 1) &&& (sm 0 8 ^^^ (-1)))) : (J_X12_readPart sm tm L).2.2.1 = p + 1 := by
  have b1 := pl1 h0 (by omega)
  have e1 : J_X12_figure (up2 sm 0 (upd (sm 0) 4 (sm 0 4 + 1))) tm ((((1 : Int32) <<< (sm 1 (0 : Int32).toNatClampNeg &&& 31)) - 1) &&& (sm 0 8 ^^^ (-1))) = _ := figR_no (g := g) (n := n) (p := p + 1) (m := ((((1 : Int32) <<< (sm 1 (0 : Int32).toNatClampNeg &&& 31)) - 1) &&& (sm 0 8 ^^^ (-1)))) hg hl (by show sm 0 4 + 1 = p + 1; rw [ha]) hf hF
  have x9 := n9 (p := p + 1) (by omega)
  subst hL
  dsimp only [J_X12_readPart]
  rw [show J_X12_once 79 = -9 from by decide, if_pos rfl, if_neg (show ¬ (79 : Int32) = 87 from by decide), if_pos rfl, if_neg hm, e1]
  dsimp only
  rw [figR_x (show ¬ (p + 1) = -9 from x9)]
  rfl
theorem rpO_no1 {sm : Nat → Nat → Int32} {tm : Nat → Nat → Int64} {g : Nat → Int32} {n p L : Int32} (hg : sm 3 = g) (hl : sm 0 3 = n) (ha : sm 0 4 = p) (hf : sm 0 5 = -9) (h0 : 0 ≤ p.toInt) (h4 : p.toInt ≤ 64) (hL : L = 79) (hm : ¬ sm 0 8 = (((1 : Int32) <<< (sm 1 (0 : Int32).toNatClampNeg &&& 31)) - 1)) (hF : FOK g n (p + 1) ((((1 : Int32) <<< (sm 1 (0 : Int32).toNatClampNeg &&& 31)) - 1) &&& (sm 0 8 ^^^ (-1)))) (hF1 : ¬ FOK g n (p + 1 + 1) 31) : (J_X12_readPart sm tm L).2.2.1 = p + 1 + 1 := by
  have b1 := pl1 h0 (by omega)
  have b2 := pl1 (p := p + 1) (by omega) (by omega)
  have x9 := n9 (p := p + 1 + 1) (by omega)
  have e1 : J_X12_figure (up2 sm 0 (upd (sm 0) 4 (sm 0 4 + 1))) tm ((((1 : Int32) <<< (sm 1 (0 : Int32).toNatClampNeg &&& 31)) - 1) &&& (sm 0 8 ^^^ (-1))) = _ := figR_ok (g := g) (n := n) (p := p + 1) (m := ((((1 : Int32) <<< (sm 1 (0 : Int32).toNatClampNeg &&& 31)) - 1) &&& (sm 0 8 ^^^ (-1)))) hg hl (by show sm 0 4 + 1 = p + 1; rw [ha]) hf hF
  have e2 : J_X12_figure (up2 sm 0 (upd (upd (upd (sm 0) 4 (p + 1 + 1)) 5 (-9)) 8 (sm 0 8 ||| ((1 : Int32) <<< ((chA g n (p + 1) - 48) &&& 31))))) tm 31 = _ := figR_no (g := g) (n := n) (p := p + 1 + 1) (m := 31) hg hl rfl rfl hF1
  subst hL
  dsimp only [J_X12_readPart]
  rw [show J_X12_once 79 = -9 from by decide, if_pos rfl, if_neg (show ¬ (79 : Int32) = 87 from by decide), if_pos rfl, if_neg hm, e1]
  dsimp only
  rw [e2]
theorem rpO_ok {sm : Nat → Nat → Int32} {tm : Nat → Nat → Int64} {g : Nat → Int32} {n p L : Int32} (hg : sm 3 = g) (hl : sm 0 3 = n) (ha : sm 0 4 = p) (hf : sm 0 5 = -9) (h0 : 0 ≤ p.toInt) (h4 : p.toInt ≤ 64) (hL : L = 79) (hm : ¬ sm 0 8 = (((1 : Int32) <<< (sm 1 (0 : Int32).toNatClampNeg &&& 31)) - 1)) (hF : FOK g n (p + 1) ((((1 : Int32) <<< (sm 1 (0 : Int32).toNatClampNeg &&& 31)) - 1) &&& (sm 0 8 ^^^ (-1)))) (hF1 : FOK g n (p + 1 + 1) 31) : (J_X12_readPart sm tm L) = (upd (sm 1) (15 + (chA g n (p + 1) - 48)).toNatClampNeg (chA g n (p + 1 + 1) - 48), p + 1 + 1 + 1, -9, sm 0 6, sm 0 7, (sm 0 8 ||| ((1 : Int32) <<< ((chA g n (p + 1) - 48) &&& 31))), sm 0 9, sm 0 10) := by
  have e1 : J_X12_figure (up2 sm 0 (upd (sm 0) 4 (sm 0 4 + 1))) tm ((((1 : Int32) <<< (sm 1 (0 : Int32).toNatClampNeg &&& 31)) - 1) &&& (sm 0 8 ^^^ (-1))) = _ := figR_ok (g := g) (n := n) (p := p + 1) (m := ((((1 : Int32) <<< (sm 1 (0 : Int32).toNatClampNeg &&& 31)) - 1) &&& (sm 0 8 ^^^ (-1)))) hg hl (by show sm 0 4 + 1 = p + 1; rw [ha]) hf hF
  have e2 : J_X12_figure (up2 sm 0 (upd (upd (upd (sm 0) 4 (p + 1 + 1)) 5 (-9)) 8 (sm 0 8 ||| ((1 : Int32) <<< ((chA g n (p + 1) - 48) &&& 31))))) tm 31 = _ := figR_ok (g := g) (n := n) (p := p + 1 + 1) (m := 31) hg hl rfl rfl hF1
  subst hL
  dsimp only [J_X12_readPart]
  rw [show J_X12_once 79 = -9 from by decide, if_pos rfl, if_neg (show ¬ (79 : Int32) = 87 from by decide), if_pos rfl, if_neg hm, e1]
  dsimp only
  rw [e2]
theorem rpQ_no {sm : Nat → Nat → Int32} {tm : Nat → Nat → Int64} {g : Nat → Int32} {n p L : Int32} (hg : sm 3 = g) (hl : sm 0 3 = n) (ha : sm 0 4 = p) (hf : sm 0 5 = -9) (h0 : 0 ≤ p.toInt) (h4 : p.toInt ≤ 64) (hL : L = 81) (hm : ¬ sm 0 9 = 7) (hF : ¬ FOK g n (p + 1) ((7 : Int32) &&& (sm 0 9 ^^^ (-1)))) : (J_X12_readPart sm tm L).2.2.1 = p + 1 := by
  have b1 := pl1 h0 (by omega)
  have e1 : J_X12_figure (up2 sm 0 (upd (sm 0) 4 (sm 0 4 + 1))) tm ((7 : Int32) &&& (sm 0 9 ^^^ (-1))) = _ := figR_no (g := g) (n := n) (p := p + 1) (m := ((7 : Int32) &&& (sm 0 9 ^^^ (-1)))) hg hl (by show sm 0 4 + 1 = p + 1; rw [ha]) hf hF
  have x9 := n9 (p := p + 1) (by omega)
  subst hL
  dsimp only [J_X12_readPart]
  rw [show J_X12_once 81 = -9 from by decide, if_pos rfl, if_neg (show ¬ (81 : Int32) = 87 from by decide), if_neg (show ¬ (81 : Int32) = 79 from by decide), if_pos rfl, if_neg hm, e1]
  dsimp only
  rw [figR_x (show ¬ (p + 1) = -9 from x9)]
  rfl
theorem rpQ_no1 {sm : Nat → Nat → Int32} {tm : Nat → Nat → Int64} {g : Nat → Int32} {n p L : Int32} (hg : sm 3 = g) (hl : sm 0 3 = n) (ha : sm 0 4 = p) (hf : sm 0 5 = -9) (h0 : 0 ≤ p.toInt) (h4 : p.toInt ≤ 64) (hL : L = 81) (hm : ¬ sm 0 9 = 7) (hF : FOK g n (p + 1) ((7 : Int32) &&& (sm 0 9 ^^^ (-1)))) (hF1 : ¬ FOK g n (p + 1 + 1) 63) : (J_X12_readPart sm tm L).2.2.1 = p + 1 + 1 := by
  have b1 := pl1 h0 (by omega)
  have b2 := pl1 (p := p + 1) (by omega) (by omega)
  have x9 := n9 (p := p + 1 + 1) (by omega)
  have e1 : J_X12_figure (up2 sm 0 (upd (sm 0) 4 (sm 0 4 + 1))) tm ((7 : Int32) &&& (sm 0 9 ^^^ (-1))) = _ := figR_ok (g := g) (n := n) (p := p + 1) (m := ((7 : Int32) &&& (sm 0 9 ^^^ (-1)))) hg hl (by show sm 0 4 + 1 = p + 1; rw [ha]) hf hF
  have e2 : J_X12_figure (up2 sm 0 (upd (upd (upd (sm 0) 4 (p + 1 + 1)) 5 (-9)) 9 (sm 0 9 ||| ((1 : Int32) <<< ((chA g n (p + 1) - 48) &&& 31))))) tm 63 = _ := figR_no (g := g) (n := n) (p := p + 1 + 1) (m := 63) hg hl rfl rfl hF1
  subst hL
  dsimp only [J_X12_readPart]
  rw [show J_X12_once 81 = -9 from by decide, if_pos rfl, if_neg (show ¬ (81 : Int32) = 87 from by decide), if_neg (show ¬ (81 : Int32) = 79 from by decide), if_pos rfl, if_neg hm, e1]
  dsimp only
  rw [e2]
theorem rpQ_ok {sm : Nat → Nat → Int32} {tm : Nat → Nat → Int64} {g : Nat → Int32} {n p L : Int32} (hg : sm 3 = g) (hl : sm 0 3 = n) (ha : sm 0 4 = p) (hf : sm 0 5 = -9) (h0 : 0 ≤ p.toInt) (h4 : p.toInt ≤ 64) (hL : L = 81) (hm : ¬ sm 0 9 = 7) (hF : FOK g n (p + 1) ((7 : Int32) &&& (sm 0 9 ^^^ (-1)))) (hF1 : FOK g n (p + 1 + 1) 63) : (J_X12_readPart sm tm L) = (upd (sm 1) (20 + (chA g n (p + 1) - 48)).toNatClampNeg (chA g n (p + 1 + 1) - 48), p + 1 + 1 + 1, -9, sm 0 6, sm 0 7, sm 0 8, (sm 0 9 ||| ((1 : Int32) <<< ((chA g n (p + 1) - 48) &&& 31))), sm 0 10) := by
  have e1 : J_X12_figure (up2 sm 0 (upd (sm 0) 4 (sm 0 4 + 1))) tm ((7 : Int32) &&& (sm 0 9 ^^^ (-1))) = _ := figR_ok (g := g) (n := n) (p := p + 1) (m := ((7 : Int32) &&& (sm 0 9 ^^^ (-1)))) hg hl (by show sm 0 4 + 1 = p + 1; rw [ha]) hf hF
  have e2 : J_X12_figure (up2 sm 0 (upd (upd (upd (sm 0) 4 (p + 1 + 1)) 5 (-9)) 9 (sm 0 9 ||| ((1 : Int32) <<< ((chA g n (p + 1) - 48) &&& 31))))) tm 63 = _ := figR_ok (g := g) (n := n) (p := p + 1 + 1) (m := 63) hg hl rfl rfl hF1
  subst hL
  dsimp only [J_X12_readPart]
  rw [show J_X12_once 81 = -9 from by decide, if_pos rfl, if_neg (show ¬ (81 : Int32) = 87 from by decide), if_neg (show ¬ (81 : Int32) = 79 from by decide), if_pos rfl, if_neg hm, e1]
  dsimp only
  rw [e2]
theorem rpD_no {sm : Nat → Nat → Int32} {tm : Nat → Nat → Int64} {g : Nat → Int32} {n p L : Int32} (hg : sm 3 = g) (hl : sm 0 3 = n) (ha : sm 0 4 = p) (hf : sm 0 5 = -9) (h0 : 0 ≤ p.toInt) (h4 : p.toInt ≤ 64) (hL : L = 68) (hm : ¬ sm 0 10 = 7) (hF : ¬ FOK g n (p + 1) ((7 : Int32) &&& (sm 0 10 ^^^ (-1)))) : (J_X12_readPart sm tm L).2.2.1 = p + 1 := by
  have b1 := pl1 h0 (by omega)
  have e1 : J_X12_figure (up2 sm 0 (upd (sm 0) 4 (sm 0 4 + 1))) tm ((7 : Int32) &&& (sm 0 10 ^^^ (-1))) = _ := figR_no (g := g) (n := n) (p := p + 1) (m := ((7 : Int32) &&& (sm 0 10 ^^^ (-1)))) hg hl (by show sm 0 4 + 1 = p + 1; rw [ha]) hf hF
  have x9 := n9 (p := p + 1) (by omega)
  subst hL
  dsimp only [J_X12_readPart]
  rw [show J_X12_once 68 = -9 from by decide, if_pos rfl, if_neg (show ¬ (68 : Int32) = 87 from by decide), if_neg (show ¬ (68 : Int32) = 79 from by decide), if_neg (show ¬ (68 : Int32) = 81 from by decide), if_pos rfl, if_neg hm, e1]
  dsimp only
  rw [figR_x (show ¬ (p + 1) = -9 from x9)]
  rfl
theorem rpD_no1 {sm : Nat → Nat → Int32} {tm : Nat → Nat → Int64} {g : Nat → Int32} {n p L : Int32} (hg : sm 3 = g) (hl : sm 0 3 = n) (ha : sm 0 4 = p) (hf : sm 0 5 = -9) (h0 : 0 ≤ p.toInt) (h4 : p.toInt ≤ 64) (hL : L = 68) (hm : ¬ sm 0 10 = 7) (hF : FOK g n (p + 1) ((7 : Int32) &&& (sm 0 10 ^^^ (-1)))) (hF1 : ¬ FOK g n (p + 1 + 1) 1023) : (J_X12_readPart sm tm L).2.2.1 = p + 1 + 1 := by
  have b1 := pl1 h0 (by omega)
  have b2 := pl1 (p := p + 1) (by omega) (by omega)
  have x9 := n9 (p := p + 1 + 1) (by omega)
  have e1 : J_X12_figure (up2 sm 0 (upd (sm 0) 4 (sm 0 4 + 1))) tm ((7 : Int32) &&& (sm 0 10 ^^^ (-1))) = _ := figR_ok (g := g) (n := n) (p := p + 1) (m := ((7 : Int32) &&& (sm 0 10 ^^^ (-1)))) hg hl (by show sm 0 4 + 1 = p + 1; rw [ha]) hf hF
  have e2 : J_X12_figure (up2 sm 0 (upd (upd (upd (sm 0) 4 (p + 1 + 1)) 5 (-9)) 10 (sm 0 10 ||| ((1 : Int32) <<< ((chA g n (p + 1) - 48) &&& 31))))) tm 1023 = _ := figR_no (g := g) (n := n) (p := p + 1 + 1) (m := 1023) hg hl rfl rfl hF1
  subst hL
  dsimp only [J_X12_readPart]
  rw [show J_X12_once 68 = -9 from by decide, if_pos rfl, if_neg (show ¬ (68 : Int32) = 87 from by decide), if_neg (show ¬ (68 : Int32) = 79 from by decide), if_neg (show ¬ (68 : Int32) = 81 from by decide), if_pos rfl, if_neg hm, e1]
  dsimp only
  rw [e2]
theorem rpD_ok {sm : Nat → Nat → Int32} {tm : Nat → Nat → Int64} {g : Nat → Int32} {n p L : Int32} (hg : sm 3 = g) (hl : sm 0 3 = n) (ha : sm 0 4 = p) (hf : sm 0 5 = -9) (h0 : 0 ≤ p.toInt) (h4 : p.toInt ≤ 64) (hL : L = 68) (hm : ¬ sm 0 10 = 7) (hF : FOK g n (p + 1) ((7 : Int32) &&& (sm 0 10 ^^^ (-1)))) (hF1 : FOK g n (p + 1 + 1) 1023) : (J_X12_readPart sm tm L) = (upd (sm 1) (23 + (chA g n (p + 1) - 48)).toNatClampNeg (chA g n (p + 1 + 1) - 48), p + 1 + 1 + 1, -9, sm 0 6, sm 0 7, sm 0 8, sm 0 9, (sm 0 10 ||| ((1 : Int32) <<< ((chA g n (p + 1) - 48) &&& 31)))) := by
  have e1 : J_X12_figure (up2 sm 0 (upd (sm 0) 4 (sm 0 4 + 1))) tm ((7 : Int32) &&& (sm 0 10 ^^^ (-1))) = _ := figR_ok (g := g) (n := n) (p := p + 1) (m := ((7 : Int32) &&& (sm 0 10 ^^^ (-1)))) hg hl (by show sm 0 4 + 1 = p + 1; rw [ha]) hf hF
  have e2 : J_X12_figure (up2 sm 0 (upd (upd (upd (sm 0) 4 (p + 1 + 1)) 5 (-9)) 10 (sm 0 10 ||| ((1 : Int32) <<< ((chA g n (p + 1) - 48) &&& 31))))) tm 1023 = _ := figR_ok (g := g) (n := n) (p := p + 1 + 1) (m := 1023) hg hl rfl rfl hF1
  subst hL
  dsimp only [J_X12_readPart]
  rw [show J_X12_once 68 = -9 from by decide, if_pos rfl, if_neg (show ¬ (68 : Int32) = 87 from by decide), if_neg (show ¬ (68 : Int32) = 79 from by decide), if_neg (show ¬ (68 : Int32) = 81 from by decide), if_pos rfl, if_neg hm, e1]
  dsimp only
  rw [e2]
