/-! HOUSES that are alike answer alike: week, aged, about, level, rule, count -/
def VOKw (V : Nat → Int32) (w : Int32) (t : SP) : Prop := V 0 = w ∧ V 1 = t.1 ∧ V 2 = t.2.2.2.2.2.1 ∧ V 3 = t.2.2.2.2.2.2.1 ∧ V 4 = t.2.2.2.2.2.2.2.1 ∧ V 5 = t.2.2.2.2.2.2.2.2.1 ∧ V 6 = t.2.2.2.2.2.2.2.2.2.1 ∧ V 7 = t.2.2.2.2.2.2.2.2.2.2.1 ∧ (¬ t.2.2.2.2.2.2.2.2.2.2.1 = -9 → V 8 = t.2.2.2.2.2.2.2.2.2.2.2) ∧ (∀ j : Nat, j < 5 → V (10 + j) = t.2.1 j) ∧ (∀ j : Nat, j < 5 → V (15 + j) = t.2.2.1 j) ∧ (∀ j : Nat, j < 3 → V (20 + j) = t.2.2.2.1 j) ∧ (∀ j : Nat, j < 3 → V (23 + j) = t.2.2.2.2.1 j)
theorem vokw_of {V : Nat → Int32} {w : Int32} {t : SP} (h : VOK V w t) : VOKw V w t := ⟨h.1, h.2.1, h.2.2.1, h.2.2.2.1, h.2.2.2.2.1, h.2.2.2.2.2.1, h.2.2.2.2.2.2.1, h.2.2.2.2.2.2.2.1, fun _ => h.2.2.2.2.2.2.2.2.1, h.2.2.2.2.2.2.2.2.2⟩
def HOK (sh sm : Nat → Nat → Int32) : Prop := VOKw (sm 2) (sh 0 0) (sh 0 1, sh 1, sh 2, sh 3, sh 4, sh 0 6, sh 0 7, sh 0 8, sh 0 9, sh 0 10, sh 0 11, sh 0 12) ∧ HRT (sh 0 1, sh 1, sh 2, sh 3, sh 4, sh 0 6, sh 0 7, sh 0 8, sh 0 9, sh 0 10, sh 0 11, sh 0 12) ∧ (0 ≤ (sh 0 0).toInt ∧ (sh 0 0).toInt ≤ 5) ∧ (0 ≤ (sh 0 1).toInt ∧ (sh 0 1).toInt ≤ 4) ∧ (0 ≤ (sh 0 12).toInt ∧ (sh 0 12).toInt ≤ 5) ∧ (∀ j, 0 ≤ (sh 2 j).toInt ∧ (sh 2 j).toInt ≤ 4) ∧ (∀ j, 0 ≤ (sh 3 j).toInt ∧ (sh 3 j).toInt ≤ 5)
theorem hok_x {sh sm : Nat → Nat → Int32} (h : HOK sh sm) : HOK (lS [(lI [(sh 0 0), (sh 0 1), 0, 0, 0, 0, (sh 0 6), (sh 0 7), (sh 0 8), (sh 0 9), (sh 0 10), (sh 0 11), (sh 0 12)]), (sh 1), (sh 2), (sh 3), (sh 4), (sh 5)]) sm := h
theorem in_z {p : Int32} {K : Int64} {k : Int} (hK : K.toInt = k) : J_X12_in p.toInt64 0 K = 0 ↔ (p.toInt < 0 ∨ k < p.toInt) := by
  constructor
  · intro h
    exact in_f (r := J_X12_in p.toInt64 0 K) (Int32.toInt_toInt64 p) (by decide : (0 : Int64).toInt = 0) hK rfl h
  · intro h
    by_cases q : J_X12_in p.toInt64 0 K = 0
    · exact q
    · have := in_t (r := J_X12_in p.toInt64 0 K) (Int32.toInt_toInt64 p) (by decide : (0 : Int64).toInt = 0) hK rfl q
      omega
theorem ite_z {p K : Int32} : (if p < 0 then (0 : Int32) else if K ≤ p then (0 : Int32) else (1 : Int32)) = 0 ↔ (p.toInt < 0 ∨ K.toInt ≤ p.toInt) := by
  constructor
  · intro h
    by_cases c1 : p < 0
    · exact Or.inl (f_lt rfl (by decide) c1)
    · rw [if_neg c1] at h
      by_cases c2 : K ≤ p
      · exact Or.inr (f_le rfl rfl c2)
      · rw [if_neg c2] at h; exact absurd h (by decide)
  · intro h
    by_cases c1 : p < 0
    · rw [if_pos c1]
    · rw [if_neg c1]
      have a := f_nlt rfl (by decide : (0 : Int32).toInt = 0) c1
      by_cases c2 : K ≤ p
      · rw [if_pos c2]
      · have b := f_nle rfl rfl c2; omega
theorem ir_z {sx : Nat → Nat → Int32} {p : Int32} : J_X11_isRule sx p = 0 ↔ (p.toInt < 0 ∨ 3 ≤ p.toInt) := ite_z (K := 3)
theorem ir_y {p : Int32} : J_X12_isRule p = 0 ↔ (p.toInt < 0 ∨ 2 < p.toInt) := in_z (K := 2) (by decide)
theorem ir_iff {sx : Nat → Nat → Int32} {p : Int32} : J_X11_isRule sx p = 0 ↔ J_X12_isRule p = 0 := by rw [ir_z, ir_y]; omega
theorem is_z {sx : Nat → Nat → Int32} {p : Int32} : J_X11_isSlot sx p = 0 ↔ (p.toInt < 0 ∨ 2 ≤ p.toInt) := ite_z (K := 2)
theorem iw_z {sx sh : Nat → Nat → Int32} {p : Int32} : J_X11_isWeek sx sh p = 0 ↔ (p.toInt < 0 ∨ (sh 0 0).toInt ≤ p.toInt) := ite_z
theorem n0_ : (0 : Int32).toNatClampNeg = 0 := by decide
theorem n1_ : (1 : Int32).toNatClampNeg = 1 := by decide
theorem iw_y {sh sm : Nat → Nat → Int32} {tm : Nat → Nat → Int64} {p : Int32} (h : HOK sh sm) : J_X12_isWeek sm tm p = 0 ↔ (p.toInt < 0 ∨ (sh 0 0).toInt ≤ p.toInt) := by
  have e : (sm 2) (0 : Int32).toNatClampNeg = sh 0 0 := by rw [n0_]; exact h.1.1
  have k : (sh 0 0 - 1).toInt = (sh 0 0).toInt - 1 := i_sub rfl (by decide) (by have := h.2.2.1; omega) (by have := h.2.2.1; omega)
  unfold J_X12_isWeek
  rw [e, in_z (k := (sh 0 0).toInt - 1) (by rw [Int32.toInt_toInt64]; exact k)]
  omega
theorem iw_iff {sx sh sm : Nat → Nat → Int32} {tm : Nat → Nat → Int64} {p : Int32} (h : HOK sh sm) : J_X11_isWeek sx sh p = 0 ↔ J_X12_isWeek sm tm p = 0 := by rw [iw_z, iw_y h]
theorem iw_r {sx sh : Nat → Nat → Int32} {p : Int32} (q : ¬ J_X11_isWeek sx sh p = 0) : 0 ≤ p.toInt ∧ p.toInt < (sh 0 0).toInt := by rw [iw_z] at q; omega
theorem ih_eq {sx sh sm : Nat → Nat → Int32} {tm : Nat → Nat → Int64} {p : Int32} (h : HOK sh sm) : J_X11_isHands sx sh p = J_X12_isHands sm tm p := by
  have e : (sm 2) (1 : Int32).toNatClampNeg = sh 0 1 := by rw [n1_]; exact h.1.2.1
  unfold J_X12_isHands
  rw [e]
  show J_X3_areAtMost p (sh 0 1) = _
  unfold J_X3_areAtMost
  have z := in_z (p := p) (K := 999) (k := 999) (by decide)
  by_cases c1 : p < 0
  · rw [if_pos c1, if_pos (z.mpr (Or.inl (f_lt rfl (by decide) c1)))]
  · rw [if_neg c1]
    have a1 := f_nlt rfl (by decide : (0 : Int32).toInt = 0) c1
    by_cases c2 : 999 < p
    · rw [if_pos c2, if_pos (z.mpr (Or.inr (f_lt (by decide) rfl c2)))]
    · have a2 := f_nlt (by decide : (999 : Int32).toInt = 999) rfl c2
      have nz : ¬ J_X12_in p.toInt64 0 999 = 0 := fun q => by have := z.mp q; omega
      rw [if_neg c2, if_neg nz]
      rfl
theorem vW {sh sm : Nat → Nat → Int32} {p : Int32} (h : HOK sh sm) (hp : 0 ≤ p.toInt ∧ p.toInt ≤ 4) : (sm 2) ((10 : Int32) + p).toNatClampNeg = sh 1 p.toNatClampNeg := by
  rw [add_cn (k := 10) (by decide) (by decide) ⟨hp.1, by omega⟩]
  exact h.1.2.2.2.2.2.2.2.2.2.1 _ (by show p.toInt.toNat < 5; omega)
theorem vO {sh sm : Nat → Nat → Int32} {p : Int32} (h : HOK sh sm) (hp : 0 ≤ p.toInt ∧ p.toInt ≤ 4) : (sm 2) ((15 : Int32) + p).toNatClampNeg = sh 2 p.toNatClampNeg := by
  rw [add_cn (k := 15) (by decide) (by decide) ⟨hp.1, by omega⟩]
  exact h.1.2.2.2.2.2.2.2.2.2.2.1 _ (by show p.toInt.toNat < 5; omega)
theorem vQ {sh sm : Nat → Nat → Int32} {p : Int32} (h : HOK sh sm) (hp : 0 ≤ p.toInt ∧ p.toInt ≤ 2) : (sm 2) ((20 : Int32) + p).toNatClampNeg = sh 3 p.toNatClampNeg := by
  rw [add_cn (k := 20) (by decide) (by decide) ⟨hp.1, by omega⟩]
  exact h.1.2.2.2.2.2.2.2.2.2.2.2.1 _ (by show p.toInt.toNat < 3; omega)
theorem vD {sh sm : Nat → Nat → Int32} {p : Int32} (h : HOK sh sm) (hp : 0 ≤ p.toInt ∧ p.toInt ≤ 2) : (sm 2) ((23 : Int32) + p).toNatClampNeg = sh 4 p.toNatClampNeg := by
  rw [add_cn (k := 23) (by decide) (by decide) ⟨hp.1, by omega⟩]
  exact h.1.2.2.2.2.2.2.2.2.2.2.2.2 _ (by show p.toInt.toNat < 3; omega)
theorem mx_eq (d : Int32) : (if 0 < d then d else 0) = (if 0 ≤ d then d else 0) := by
  by_cases c : 0 < d
  · have := f_lt (by decide : (0 : Int32).toInt = 0) rfl c
    rw [if_pos c, if_pos (Int32.le_iff_toInt_le.mpr (by rw [show (0 : Int32).toInt = 0 from by decide]; omega))]
  · rw [if_neg c]
    by_cases e : 0 ≤ d
    · rw [if_pos e]
      have a := f_nlt (by decide : (0 : Int32).toInt = 0) rfl c
      have b := f_le (by decide : (0 : Int32).toInt = 0) rfl e
      exact Int32.toInt_inj.mp (by rw [show (0 : Int32).toInt = 0 from by decide]; omega)
    · rw [if_neg e]
theorem go_eq {sh sm : Nat → Nat → Int32} {tm : Nat → Nat → Int64} {p : Int32} (h : HOK sh sm) (hp : 0 ≤ p.toInt ∧ p.toInt ≤ 2) : J_X4_fifths sh p = J_X12_goes sm tm p := by
  have e7 : (sm 2) (7 : Int32).toNatClampNeg = sh 0 11 := by rw [show (7 : Int32).toNatClampNeg = 7 from by decide]; exact h.1.2.2.2.2.2.2.2.1
  unfold J_X4_fifths J_X12_goes
  rw [e7, vQ h hp]
  by_cases c : sh 0 11 = -9
  · have f : sh 0 12 = 0 := h.2.1.2.2.2.2.2.2.2.2 c
    rw [if_pos c, f, mx_eq]
  · have e8 : (sm 2) (8 : Int32).toNatClampNeg = sh 0 12 := by rw [show (8 : Int32).toNatClampNeg = 8 from by decide]; exact h.1.2.2.2.2.2.2.2.2.1 c
    rw [if_neg c, e8, mx_eq]
theorem week_alike {sx sh sm : Nat → Nat → Int32} {tm : Nat → Nat → Int64} {p0 p1 : Int32} (h : HOK sh sm) : J_X11_week sx sh p0 p1 = J_X12_week sm tm p0 p1 := by
  have i : J_X11_isWeek sx (lS [(lI [(sh 0 0), (sh 0 1), 0, 0, 0, 0, (sh 0 6), (sh 0 7), (sh 0 8), (sh 0 9), (sh 0 10), (sh 0 11), (sh 0 12)]), (sh 1), (sh 2), (sh 3), (sh 4), (sh 5)]) p0 = 0 ↔ J_X12_isWeek sm tm p0 = 0 := iw_iff (hok_x h)
  dsimp only [J_X11_week, J_X12_week]
  by_cases c : J_X11_isWeek sx (lS [(lI [(sh 0 0), (sh 0 1), 0, 0, 0, 0, (sh 0 6), (sh 0 7), (sh 0 8), (sh 0 9), (sh 0 10), (sh 0 11), (sh 0 12)]), (sh 1), (sh 2), (sh 3), (sh 4), (sh 5)]) p0 = 0
  · rw [if_pos c, if_pos (i.mp c)]
  · have r : 0 ≤ p0.toInt ∧ p0.toInt < (sh 0 0).toInt := iw_r (sx := sx) (sh := (lS [(lI [(sh 0 0), (sh 0 1), 0, 0, 0, 0, (sh 0 6), (sh 0 7), (sh 0 8), (sh 0 9), (sh 0 10), (sh 0 11), (sh 0 12)]), (sh 1), (sh 2), (sh 3), (sh 4), (sh 5)])) c
    have w := h.2.2.1
    rw [if_neg c, if_neg (fun q => c (i.mpr q)), vW h ⟨r.1, by omega⟩, vO h ⟨r.1, by omega⟩]
theorem aged_alike {sx sh sm : Nat → Nat → Int32} {tm : Nat → Nat → Int64} {p0 p1 : Int32} (h : HOK sh sm) : J_X11_aged sx sh p0 p1 = J_X12_aged sm tm p0 p1 := by
  have z := in_z (p := p0) (K := 2) (k := 2) (by decide)
  dsimp only [J_X11_aged, J_X12_aged]
  by_cases c1 : p0 < 0
  · rw [if_pos c1, if_pos (z.mpr (Or.inl (f_lt rfl (by decide) c1)))]
  · rw [if_neg c1]
    have a1 := f_nlt rfl (by decide : (0 : Int32).toInt = 0) c1
    by_cases c2 : p0 < 3
    · have a2 := f_lt rfl (by decide : (3 : Int32).toInt = 3) c2
      have g : J_X4_fifths (lS [(lI [(sh 0 0), (sh 0 1), 0, 0, 0, 0, (sh 0 6), (sh 0 7), (sh 0 8), (sh 0 9), (sh 0 10), (sh 0 11), (sh 0 12)]), (sh 1), (sh 2), (sh 3), (sh 4), (sh 5)]) p0 = J_X12_goes sm tm p0 := go_eq (hok_x h) ⟨a1, by omega⟩
      have nz : ¬ J_X12_in p0.toInt64 0 2 = 0 := fun q => by have := z.mp q; omega
      rw [if_pos c2, if_neg nz, g, vD h ⟨a1, by omega⟩]
    · have a2 := f_nlt rfl (by decide : (3 : Int32).toInt = 3) c2
      rw [if_neg c2, if_pos (z.mpr (Or.inr (by omega)))]
theorem about_alike {sx sh sm : Nat → Nat → Int32} {tm : Nat → Nat → Int64} {p0 : Int32} (h : HOK sh sm) : J_X11_about sx sh p0 = J_X12_about sm tm p0 := by
  have z := in_z (p := p0) (K := 7) (k := 7) (by decide)
  unfold J_X11_about J_X12_about
  obtain ⟨v0, v1, v2, v3, v4, v5, v6, v7, v8, _⟩ := h.1
  by_cases c0 : p0 = 0
  · rw [if_pos c0, if_neg (fun q => by have := z.mp q; rw [c0, show (0 : Int32).toInt = 0 from by decide] at this; omega), c0, show (0 : Int32).toNatClampNeg = 0 from by decide]; exact v0.symm
  rw [if_neg c0]
  by_cases c1 : p0 = 1
  · rw [if_pos c1, if_neg (fun q => by have := z.mp q; rw [c1, show (1 : Int32).toInt = 1 from by decide] at this; omega), c1, show (1 : Int32).toNatClampNeg = 1 from by decide]; exact v1.symm
  rw [if_neg c1]
  by_cases c2 : p0 = 2
  · rw [if_pos c2, if_neg (fun q => by have := z.mp q; rw [c2, show (2 : Int32).toInt = 2 from by decide] at this; omega), c2, show (2 : Int32).toNatClampNeg = 2 from by decide]; exact v2.symm
  rw [if_neg c2]
  by_cases c3 : p0 = 3
  · rw [if_pos c3, if_neg (fun q => by have := z.mp q; rw [c3, show (3 : Int32).toInt = 3 from by decide] at this; omega), c3, show (3 : Int32).toNatClampNeg = 3 from by decide]; exact v3.symm
  rw [if_neg c3]
  by_cases c4 : p0 = 4
  · rw [if_pos c4, if_neg (fun q => by have := z.mp q; rw [c4, show (4 : Int32).toInt = 4 from by decide] at this; omega), c4, show (4 : Int32).toNatClampNeg = 4 from by decide]; exact v4.symm
  rw [if_neg c4]
  by_cases c5 : p0 = 5
  · rw [if_pos c5, if_neg (fun q => by have := z.mp q; rw [c5, show (5 : Int32).toInt = 5 from by decide] at this; omega), c5, show (5 : Int32).toNatClampNeg = 5 from by decide]; exact v5.symm
  rw [if_neg c5]
  by_cases c6 : p0 = 6
  · rw [if_pos c6, if_neg (fun q => by have := z.mp q; rw [c6, show (6 : Int32).toInt = 6 from by decide] at this; omega), c6, show (6 : Int32).toNatClampNeg = 6 from by decide]; exact v6.symm
  rw [if_neg c6]
  by_cases c7 : p0 = 7
  · rw [if_pos c7, if_neg (fun q => by have := z.mp q; rw [c7, show (7 : Int32).toInt = 7 from by decide] at this; omega), c7, show (7 : Int32).toNatClampNeg = 7 from by decide]; exact v7.symm
  rw [if_neg c7]
  refine (if_pos (z.mpr ?_)).symm
  have d0 : ¬ p0.toInt = 0 := f_ne rfl (by decide) c0
  have d1 : ¬ p0.toInt = 1 := f_ne rfl (by decide) c1
  have d2 : ¬ p0.toInt = 2 := f_ne rfl (by decide) c2
  have d3 : ¬ p0.toInt = 3 := f_ne rfl (by decide) c3
  have d4 : ¬ p0.toInt = 4 := f_ne rfl (by decide) c4
  have d5 : ¬ p0.toInt = 5 := f_ne rfl (by decide) c5
  have d6 : ¬ p0.toInt = 6 := f_ne rfl (by decide) c6
  have d7 : ¬ p0.toInt = 7 := f_ne rfl (by decide) c7
  omega
def LVL (f g : Nat → Int32) : Prop := ∀ j : Nat, j < 15 → f j = g j
theorem lv_start {f g : Nat → Int32} (z : ZR f) (y : ZR g) : LVL f g := fun j _ => (z j).trans (y j).symm
theorem lv_ix {p0 p1 : Int32} (h0 : 0 ≤ p0.toInt ∧ p0.toInt ≤ 2) (h1 : 0 ≤ p1.toInt ∧ p1.toInt ≤ 4) : ((p0 * (5 : Int32)) + p1).toInt = 5 * p0.toInt + p1.toInt ∧ (((5 : Int32) * p0) + p1).toInt = 5 * p0.toInt + p1.toInt := by
  have m1 : (p0 * (5 : Int32)).toInt = p0.toInt * 5 := i_mul rfl (by decide) (by omega) (by omega)
  have m2 : ((5 : Int32) * p0).toInt = 5 * p0.toInt := i_mul (by decide) rfl (by omega) (by omega)
  exact ⟨(i_add m1 rfl (by omega) (by omega)).trans (by omega), i_add m2 rfl (by omega) (by omega)⟩
theorem lv_get {f g : Nat → Int32} {p0 p1 : Int32} (h : LVL f g) (h0 : 0 ≤ p0.toInt ∧ p0.toInt ≤ 2) (h1 : 0 ≤ p1.toInt ∧ p1.toInt ≤ 4) : f ((p0 * (5 : Int32)) + p1).toNatClampNeg = g (((5 : Int32) * p0) + p1).toNatClampNeg := by
  obtain ⟨a, b⟩ := lv_ix h0 h1
  rw [cN_of (n := Int.toNat (5 * p0.toInt + p1.toInt)) (by rw [a]; omega), cN_of (i := ((5 : Int32) * p0) + p1) (n := Int.toNat (5 * p0.toInt + p1.toInt)) (by rw [b]; omega)]
  exact h _ (by omega)
theorem level_alike {sx sm : Nat → Nat → Int32} {tm : Nat → Nat → Int64} {p0 p1 : Int32} (h : LVL (sx 1) (sm 4)) : J_X11_level sx p0 p1 = J_X12_level sm tm p0 p1 := by
  have i := ir_iff (sx := sx) (p := p0)
  have z := in_z (p := p1) (K := 4) (k := 4) (by decide)
  dsimp only [J_X11_level, J_X12_level]
  by_cases c : J_X11_isRule sx p0 = 0
  · rw [if_pos c, if_pos (i.mp c)]
  · rw [if_neg c, if_neg (fun q => c (i.mpr q))]
    have r : 0 ≤ p0.toInt ∧ p0.toInt ≤ 2 := by rw [ir_z] at c; omega
    by_cases c1 : p1 < 0
    · rw [if_pos c1, if_pos (z.mpr (Or.inl (f_lt rfl (by decide) c1)))]
    · rw [if_neg c1]
      have a1 := f_nlt rfl (by decide : (0 : Int32).toInt = 0) c1
      by_cases c2 : p1 < 5
      · have a2 := f_lt rfl (by decide : (5 : Int32).toInt = 5) c2
        rw [if_pos c2, if_neg (fun q => by have := z.mp q; omega)]
        exact lv_get h r ⟨a1, by omega⟩
      · have a2 := f_nlt rfl (by decide : (5 : Int32).toInt = 5) c2
        rw [if_neg c2, if_pos (z.mpr (Or.inr (by omega)))]
theorem sf_eq {f g : Nat → Int32} : ∀ n : Nat, (∀ j : Nat, j < n → f j = g j) → SF f n = SF g n := by
  intro n
  induction n with
  | zero => intro _; rfl
  | succ n ih =>
    intro h
    show SF f n + f n = SF g n + g n
    rw [ih (fun j hj => h j (by omega)), h n (by omega)]
theorem count_alike {sx st sro spa sh sm : Nat → Nat → Int32} {tro tm : Nat → Nat → Int64} {p0 : Int32} (h : HOK sh sm) (hl : (sm 0 3).toInt = (st 0 1).toInt) (hr : (sm 0 26).toInt = (sro 0 2).toInt) : J_X11_count sx st sro tro spa sh p0 = J_X12_count sm tm p0 := by
  have el : st 0 1 = sm 0 3 := (Int32.toInt_inj.mp hl).symm
  have er : sro 0 2 = sm 0 26 := (Int32.toInt_inj.mp hr).symm
  have e0 : sm 2 0 = sh 0 0 := h.1.1
  have w := h.2.2.1
  have s1 : J_X4_sumOf_1 (lS [(lI [(sh 0 0), (sh 0 1), 0, 0, 0, 0, (sh 0 6), (sh 0 7), (sh 0 8), (sh 0 9), (sh 0 10), (sh 0 11), (sh 0 12)]), (sh 1), (sh 2), (sh 3), (sh 4), (sh 5)]) = SF (fun j => sm 2 (10 + j)) (Int.toNat (sm 2 0).toInt) := by
    rw [e0]
    show SF (sh 1) (Int.toNat (sh 0 0).toInt) = _
    exact sf_eq _ (fun j hj => (h.1.2.2.2.2.2.2.2.2.2.1 j (by omega)).symm)
  have s2 : J_X4_sumOf_2 (lS [(lI [(sh 0 0), (sh 0 1), 0, 0, 0, 0, (sh 0 6), (sh 0 7), (sh 0 8), (sh 0 9), (sh 0 10), (sh 0 11), (sh 0 12)]), (sh 1), (sh 2), (sh 3), (sh 4), (sh 5)]) = SF (fun j => sm 2 (15 + j)) (Int.toNat (sm 2 0).toInt) := by
    rw [e0]
    show SF (sh 2) (Int.toNat (sh 0 0).toInt) = _
    exact sf_eq _ (fun j hj => (h.1.2.2.2.2.2.2.2.2.2.2.1 j (by omega)).symm)
  dsimp only [J_X11_count, J_X12_count]
  rw [s1, s2, el, er]
theorem rule_alike2 {sx srr src st sm : Nat → Nat → Int32} {tm : Nat → Nat → Int64} {p0 q0 : Int32} {t : Int32 × Int32 × Int32 × Int32 × (Nat → Int32) × Int32 × (Nat → Int32)} {t2 : Int32 × Int32 × Int32 × Int32 × (Nat → Int32) × (Nat → Int32)} (h1 : t = J_X11_rule sx srr src st p0) (h2 : t2 = J_X12_rule sm tm q0) (e0 : q0 = p0) (hn : (sm 0 3).toInt = (st 0 1).toInt) (hb : 0 ≤ (st 0 1).toInt ∧ (st 0 1).toInt ≤ 64) (htx : TX (st 1) (sm 3) (st 0 1)) (hv : LVL (sx 1) (sm 4)) : t.1 = t2.1 ∧ LVL t.2.2.2.2.2.2 t2.2.2.2.2.2 := by
  subst e0
  have en : sm 0 3 = st 0 1 := Int32.toInt_inj.mp hn
  have ha := rule_alike (sr := (lS [(lI [0, 0, (srr 0 2), (srr 0 3)]), (srr 1)])) (sc := src) (st := (lS [(lI [0, (st 0 1)]), (st 1)])) (sm := sm) (tm := tm) (n := st 0 1) rfl en htx hb.1 hb.2
  have i := ir_iff (sx := sx) (p := q0)
  subst h1 h2
  dsimp only [J_X11_rule, J_X12_rule, LetF]
  by_cases c : J_X11_isRule sx q0 = 0
  · rw [if_pos c, if_pos (i.mp c)]; exact ⟨rfl, hv⟩
  · rw [if_neg c, if_neg (fun q => c (i.mpr q))]
    have r : 0 ≤ q0.toInt ∧ q0.toInt ≤ 2 := by rw [ir_z] at c; omega
    by_cases q : (J_X8_read (lS [(lI [0, 0, (srr 0 2), (srr 0 3)]), (srr 1)]) src (lS [(lI [0, (st 0 1)]), (st 1)])).1 = -9
    · have q2 := ha.1.symm.trans q
      have hr := ha.2 q
      rw [if_pos q, if_pos q2]
      refine ⟨hr.2.symm, fun j hj => ?_⟩
      by_cases k : Int.toNat (5 * q0.toInt) ≤ j ∧ j < Int.toNat (5 * q0.toInt) + 5
      · exact (if_pos k).trans ((hr.1 _ (by omega)).trans (if_pos k).symm)
      · exact (if_neg k).trans ((hv j hj).trans (if_neg k).symm)
    · have q2 : ¬ (J_X12_readRule sm tm).1 = -9 := fun z => q (ha.1.trans z)
      rw [if_neg q, if_neg q2]; exact ⟨rfl, hv⟩
