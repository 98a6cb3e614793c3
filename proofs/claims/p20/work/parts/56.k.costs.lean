/-! what is SHORT, what a WEEK costs; may, then, costs, work, takes -/
theorem mulb {a e : Int} (ha : 0 ≤ a ∧ a ≤ 9) (he : -9 ≤ e ∧ e ≤ 9) : -81 ≤ a * e ∧ a * e ≤ 81 := by
  obtain h : a = 0 ∨ a = 1 ∨ a = 2 ∨ a = 3 ∨ a = 4 ∨ a = 5 ∨ a = 6 ∨ a = 7 ∨ a = 8 ∨ a = 9 := by omega
  rcases h with rfl | rfl | rfl | rfl | rfl | rfl | rfl | rfl | rfl | rfl <;> omega
theorem dgb {d : Int32} (hd : 0 ≤ d.toInt ∧ d.toInt ≤ 400 ∧ tot d ≤ 4) : (0 ≤ (d / 100).toInt ∧ (d / 100).toInt ≤ 4) ∧ (0 ≤ (d / 10 - d / 10 / 10 * 10).toInt ∧ (d / 10 - d / 10 / 10 * 10).toInt ≤ 4) ∧ (0 ≤ (d - d / 10 * 10).toInt ∧ (d - d / 10 * 10).toInt ≤ 4) := by
  obtain ⟨d1, d2, d3⟩ := dg hd.1
  obtain ⟨p, q, r, h1, h2, h3, h4, h5, h6, h7⟩ := dgo d.toInt hd.1
  have t : tot d = p + q + r := by unfold tot; rw [h5, h6, h7]
  rw [d1, d2, d3, h5, h6, h7]
  have := hd.2.2
  rw [t] at this
  clear d1 d2 d3 h5 h6 h7 t
  omega
theorem lack_core {W a b e x y z : Int32} (hW : 0 ≤ W.toInt ∧ W.toInt ≤ 99) (ha : 0 ≤ a.toInt ∧ a.toInt ≤ 9) (hb : 0 ≤ b.toInt ∧ b.toInt ≤ 9) (he : 0 ≤ e.toInt ∧ e.toInt ≤ 9) (hx : -9 ≤ x.toInt ∧ x.toInt ≤ 9) (hy : -9 ≤ y.toInt ∧ y.toInt ≤ 9) (hz : -9 ≤ z.toInt ∧ z.toInt ≤ 9) :
    (W - a * x - b * y - e * z).toInt = -((x * a + y * b + z * e - W).toInt) ∧ -999 ≤ (W - a * x - b * y - e * z).toInt ∧ (W - a * x - b * y - e * z).toInt ≤ 999 := by
  have p1 := mulb ha hx
  have p2 := mulb hb hy
  have p3 := mulb he hz
  have m1 : (a * x).toInt = a.toInt * x.toInt := i_mul rfl rfl (by omega) (by omega)
  have m2 : (b * y).toInt = b.toInt * y.toInt := i_mul rfl rfl (by omega) (by omega)
  have m3 : (e * z).toInt = e.toInt * z.toInt := i_mul rfl rfl (by omega) (by omega)
  have k1 : (x * a).toInt = a.toInt * x.toInt := by rw [Int32.mul_comm]; exact m1
  have k2 : (y * b).toInt = b.toInt * y.toInt := by rw [Int32.mul_comm]; exact m2
  have k3 : (z * e).toInt = e.toInt * z.toInt := by rw [Int32.mul_comm]; exact m3
  generalize a.toInt * x.toInt = P at p1 m1 k1
  generalize b.toInt * y.toInt = Q at p2 m2 k2
  generalize e.toInt * z.toInt = R at p3 m3 k3
  have l1 := i_sub (x := W) rfl m1 (by omega) (by omega)
  have l2 := i_sub l1 m2 (by omega) (by omega)
  have l3 := i_sub l2 m3 (by omega) (by omega)
  have r1 := i_add k1 k2 (by omega) (by omega)
  have r2 := i_add r1 k3 (by omega) (by omega)
  have r3 := i_sub r2 (y := W) rfl (by omega) (by omega)
  rw [l3, r3]
  omega
theorem lack_alike {sh sm : Nat → Nat → Int32} {tm : Nat → Nat → Int64} {w d c a : Int32} (K : HOK sh sm) (hw : 0 ≤ w.toInt ∧ w.toInt < (sh 0 0).toInt) (hd : 0 ≤ d.toInt ∧ d.toInt ≤ 400 ∧ tot d ≤ 4) (hc : 0 ≤ c.toInt ∧ c.toInt ≤ 2) (ht : 0 ≤ (J_X0_taught a).toInt ∧ (J_X0_taught a).toInt ≤ 1) :
    (J_X4_lack sh w d c (J_X0_taught a)).toInt = -(J_X12_over sm tm w d c a).toInt ∧ -999 ≤ (J_X4_lack sh w d c (J_X0_taught a)).toInt ∧ (J_X4_lack sh w d c (J_X0_taught a)).toInt ≤ 999 := by
  have wk := K.2.2.1
  have eW := vW K (p := w) ⟨hw.1, by omega⟩
  obtain ⟨rW, rD, _⟩ := K.2.1
  have vd := K.1.2.2.2.2.2.2.2.2.2.2.2.2
  have e3 : (sm 2) (23 : Int32).toNatClampNeg = sh 4 0 := by rw [show (23 : Int32).toNatClampNeg = 23 + 0 from by decide]; exact vd 0 (by decide)
  have e4 : (sm 2) (24 : Int32).toNatClampNeg = sh 4 1 := by rw [show (24 : Int32).toNatClampNeg = 23 + 1 from by decide]; exact vd 1 (by decide)
  have e5 : (sm 2) (25 : Int32).toNatClampNeg = sh 4 2 := by rw [show (25 : Int32).toNatClampNeg = 23 + 2 from by decide]; exact vd 2 (by decide)
  obtain ⟨b1, b2, b3⟩ := dgb hd
  have s1 : ((d - d / 10 * 10) + c).toInt = (d - d / 10 * 10).toInt + c.toInt := i_add rfl rfl (by omega) (by omega)
  have s2 : ((d - d / 10 * 10) + c - J_X0_taught a).toInt = (d - d / 10 * 10).toInt + c.toInt - (J_X0_taught a).toInt := i_sub s1 rfl (by omega) (by omega)
  have L := lack_core (W := sh 1 w.toNatClampNeg) (a := sh 4 0) (b := sh 4 1) (e := sh 4 2) (x := d / 100) (y := d / 10 - d / 10 / 10 * 10) (z := (d - d / 10 * 10) + c - J_X0_taught a) (rW _ (by show w.toInt.toNat < 5; omega)) (rD 0 (by decide)) (rD 1 (by decide)) (rD 2 (by decide)) ⟨by omega, by omega⟩ ⟨by omega, by omega⟩ ⟨by rw [s2]; omega, by rw [s2]; omega⟩
  unfold J_X4_lack J_X12_over
  rw [e3, e4, e5, eW, show (0 : Int32).toNatClampNeg = 0 from by decide, show (1 : Int32).toNatClampNeg = 1 from by decide, show (2 : Int32).toNatClampNeg = 2 from by decide]
  exact L
theorem mxl {L O : Int32} (h : L.toInt = -O.toInt) (hb : -999 ≤ L.toInt ∧ L.toInt ≤ 999) (sp : Int32) : sp * (if 0 < L then L else 0) = (if 0 ≤ O then 0 else -O * sp) ∧ (if 0 < L then L else 0) = (if 0 ≤ O then 0 else -O) ∧ (if 0 < -L then -L else 0) = (if O ≤ 0 then 0 else O) := by
  have n : (-O).toInt = -O.toInt := i_neg rfl (by omega) (by omega)
  have n2 : (-L).toInt = -L.toInt := i_neg rfl (by omega) (by omega)
  have e : L = -O := Int32.toInt_inj.mp (by rw [n]; exact h)
  have e2 : -L = O := Int32.toInt_inj.mp (by rw [n2]; omega)
  have z : (0 : Int32).toInt = 0 := by decide
  by_cases c : 0 < L
  · have i := f_lt z rfl c
    have c2 : ¬ 0 ≤ O := fun q => by have := f_le z rfl q; omega
    have c3 : ¬ 0 < -L := fun q => by have := f_lt z rfl q; omega
    have c4 : O ≤ 0 := Int32.le_iff_toInt_le.mpr (by rw [z]; omega)
    rw [if_pos c, if_neg c2, if_neg c2, if_neg c3, if_pos c4, Int32.mul_comm, ← e]
    exact ⟨rfl, rfl, rfl⟩
  · have i := f_nlt z rfl c
    have c2 : 0 ≤ O := Int32.le_iff_toInt_le.mpr (by rw [z]; omega)
    rw [if_neg c, if_pos c2, if_pos c2, Int32.mul_zero]
    refine ⟨rfl, rfl, ?_⟩
    rw [e2]
    by_cases c5 : O ≤ 0
    · have := f_le rfl z c5
      rw [if_pos c5, if_neg (fun q => by have := f_lt z rfl q; omega)]
    · have := f_nle rfl z c5
      rw [if_neg c5, if_pos (Int32.lt_iff_toInt_lt.mpr (by rw [z]; omega))]
theorem add3 (P x y z : Int32) : P + x + y + z = P + z + x + y := by
  rw [Int32.add_assoc P x y, Int32.add_assoc P (x + y) z, Int32.add_comm (x + y) z, ← Int32.add_assoc P z, ← Int32.add_assoc (P + z)]
theorem cost_core {P c g tg lg tp ap : Int32} (h1 : ¬ lg.toInt = -9 ∨ g.toInt ≤ 0) (g0 : 0 ≤ g.toInt) (h2 : tg.toInt ≤ 0 ∨ (tg.toInt ≤ 1 ∧ ¬ tp.toInt = -9)) (t0 : 0 ≤ tg.toInt) :
    (if lg = -9 then if tp = -9 then if ap = -9 then P else P + ap * c else if ap = -9 then P + tp * tg else P + tp * tg + ap * c else if tp = -9 then if ap = -9 then P + lg * g else P + lg * g + ap * c else if ap = -9 then P + lg * g + tp * tg else P + lg * g + tp * tg + ap * c)
    = P + c * (if ap = -9 then 0 else ap) + (if g ≤ 0 then 0 else g * lg) + (if tg = 1 then tp else 0) := by
  have z : (0 : Int32).toInt = 0 := by decide
  have eg : (if g ≤ 0 then 0 else g * lg) = (if lg = -9 then 0 else lg * g) := by
    by_cases q : lg = -9
    · have : lg.toInt = -9 := f_eq rfl (by decide) q
      rw [if_pos q, if_pos (Int32.le_iff_toInt_le.mpr (by rw [z]; omega))]
    · rw [if_neg q]
      by_cases r : g ≤ 0
      · have r2 := f_le rfl z r
        have e : g = 0 := Int32.toInt_inj.mp (by rw [z]; omega)
        rw [if_pos r, e, Int32.mul_zero]
      · rw [if_neg r, Int32.mul_comm]
  have et : (if tg = 1 then tp else 0) = (if tp = -9 then 0 else tp * tg) := by
    by_cases r : tg = 1
    · have r2 : tg.toInt = 1 := f_eq rfl (by decide) r
      have q : ¬ tp = -9 := fun q => by have : tp.toInt = -9 := f_eq rfl (by decide) q; omega
      rw [if_pos r, if_neg q, r, Int32.mul_one]
    · have r2 : ¬ tg.toInt = 1 := f_ne rfl (by decide) r
      have e : tg = 0 := Int32.toInt_inj.mp (by rw [z]; omega)
      rw [if_neg r, e, Int32.mul_zero]
      split <;> rfl
  have ea : c * (if ap = -9 then 0 else ap) = (if ap = -9 then 0 else ap * c) := by
    by_cases q : ap = -9
    · rw [if_pos q, if_pos q, Int32.mul_zero]
    · rw [if_neg q, if_neg q, Int32.mul_comm]
  rw [eg, et, ea, ← add3 P (if lg = -9 then 0 else lg * g) (if tp = -9 then 0 else tp * tg) (if ap = -9 then 0 else ap * c)]
  by_cases q1 : lg = -9
  · rw [if_pos q1, if_pos q1, Int32.add_zero]
    by_cases q2 : tp = -9
    · rw [if_pos q2, if_pos q2, Int32.add_zero]
      by_cases q3 : ap = -9
      · rw [if_pos q3, if_pos q3, Int32.add_zero]
      · rw [if_neg q3, if_neg q3]
    · rw [if_neg q2, if_neg q2]
      by_cases q3 : ap = -9
      · rw [if_pos q3, if_pos q3, Int32.add_zero]
      · rw [if_neg q3, if_neg q3]
  · rw [if_neg q1, if_neg q1]
    by_cases q2 : tp = -9
    · rw [if_pos q2, if_pos q2, Int32.add_zero]
      by_cases q3 : ap = -9
      · rw [if_pos q3, if_pos q3, Int32.add_zero]
      · rw [if_neg q3, if_neg q3]
    · rw [if_neg q2, if_neg q2]
      by_cases q3 : ap = -9
      · rw [if_pos q3, if_pos q3, Int32.add_zero]
      · rw [if_neg q3, if_neg q3]
theorem cr_core {O P V3 c V6 g V4 tg V5 : Int32} :
    (if 0 ≤ O then if V6 = -9 then if g ≤ 0 then if tg = 1 then P + 0 + c * 0 + 0 + V5 else P + 0 + c * 0 + 0 + 0 else if tg = 1 then P + 0 + c * 0 + g * V4 + V5 else P + 0 + c * 0 + g * V4 + 0 else if g ≤ 0 then if tg = 1 then P + 0 + c * V6 + 0 + V5 else P + 0 + c * V6 + 0 + 0 else if tg = 1 then P + 0 + c * V6 + g * V4 + V5 else P + 0 + c * V6 + g * V4 + 0
      else if V6 = -9 then if g ≤ 0 then if tg = 1 then P + -O * V3 + c * 0 + 0 + V5 else P + -O * V3 + c * 0 + 0 + 0 else if tg = 1 then P + -O * V3 + c * 0 + g * V4 + V5 else P + -O * V3 + c * 0 + g * V4 + 0 else if g ≤ 0 then if tg = 1 then P + -O * V3 + c * V6 + 0 + V5 else P + -O * V3 + c * V6 + 0 + 0 else if tg = 1 then P + -O * V3 + c * V6 + g * V4 + V5 else P + -O * V3 + c * V6 + g * V4 + 0)
    = P + (if 0 ≤ O then 0 else -O * V3) + c * (if V6 = -9 then 0 else V6) + (if g ≤ 0 then 0 else g * V4) + (if tg = 1 then V5 else 0) := by
  by_cases q1 : 0 ≤ O
  · rw [if_pos q1, if_pos q1]
    by_cases q2 : V6 = -9
    · rw [if_pos q2, if_pos q2]
      by_cases q3 : g ≤ 0
      · rw [if_pos q3, if_pos q3]; split <;> rfl
      · rw [if_neg q3, if_neg q3]; split <;> rfl
    · rw [if_neg q2, if_neg q2]
      by_cases q3 : g ≤ 0
      · rw [if_pos q3, if_pos q3]; split <;> rfl
      · rw [if_neg q3, if_neg q3]; split <;> rfl
  · rw [if_neg q1, if_neg q1]
    by_cases q2 : V6 = -9
    · rw [if_pos q2, if_pos q2]
      by_cases q3 : g ≤ 0
      · rw [if_pos q3, if_pos q3]; split <;> rfl
      · rw [if_neg q3, if_neg q3]; split <;> rfl
    · rw [if_neg q2, if_neg q2]
      by_cases q3 : g ≤ 0
      · rw [if_pos q3, if_pos q3]; split <;> rfl
      · rw [if_neg q3, if_neg q3]; split <;> rfl
theorem cost_alike {sh sm : Nat → Nat → Int32} {tm : Nat → Nat → Int64} {w d c a : Int32} (K : HOK sh sm) (hw : 0 ≤ w.toInt ∧ w.toInt < (sh 0 0).toInt) (hd : 0 ≤ d.toInt ∧ d.toInt ≤ 400 ∧ tot d ≤ 4) (hc : 0 ≤ c.toInt ∧ c.toInt ≤ 2) (ha : 0 ≤ a.toInt) (h1 : ¬ (sh 0 8).toInt = -9 ∨ (J_X0_letGo a).toInt ≤ 0) (h2 : (J_X0_taught a).toInt ≤ 0 ∨ ((J_X0_taught a).toInt ≤ 1 ∧ ¬ (sh 0 9).toInt = -9)) : J_X4_weekCost sh w d c a = J_X12_costOf sm tm w d c a := by
  have b1 := lg_b (a := a) rfl ha
  have b3 := tg_b (a := a) rfl ha
  have L := lack_alike (tm := tm) K hw hd hc ⟨b3.1, by omega⟩
  have M := (mxl L.1 L.2 (sh 0 7)).1
  have e2 : (sm 2) (2 : Int32).toNatClampNeg = sh 0 6 := by rw [show (2 : Int32).toNatClampNeg = 2 from by decide]; exact K.1.2.2.1
  have e3 : (sm 2) (3 : Int32).toNatClampNeg = sh 0 7 := by rw [show (3 : Int32).toNatClampNeg = 3 from by decide]; exact K.1.2.2.2.1
  have e4 : (sm 2) (4 : Int32).toNatClampNeg = sh 0 8 := by rw [show (4 : Int32).toNatClampNeg = 4 from by decide]; exact K.1.2.2.2.2.1
  have e5 : (sm 2) (5 : Int32).toNatClampNeg = sh 0 9 := by rw [show (5 : Int32).toNatClampNeg = 5 from by decide]; exact K.1.2.2.2.2.2.1
  have e6 : (sm 2) (6 : Int32).toNatClampNeg = sh 0 10 := by rw [show (6 : Int32).toNatClampNeg = 6 from by decide]; exact K.1.2.2.2.2.2.2.1
  have R : J_X12_costOf sm tm w d c a = sh 0 6 * J_X12_all d + (if 0 ≤ J_X12_over sm tm w d c a then 0 else -J_X12_over sm tm w d c a * sh 0 7) + c * (if sh 0 10 = -9 then 0 else sh 0 10) + (if J_X0_letGo a ≤ 0 then 0 else J_X0_letGo a * sh 0 8) + (if J_X0_taught a = 1 then sh 0 9 else 0) := by
    rw [← cr_core, ← e2, ← e3, ← e4, ← e5, ← e6]; rfl
  rw [R, ← M]
  exact cost_core (P := sh 0 6 * J_X3_total d + sh 0 7 * (if 0 < J_X4_lack sh w d c (J_X0_taught a) then J_X4_lack sh w d c (J_X0_taught a) else 0)) h1 b1 h2 b3.1
/-- what a STATE and an ACT are refused by -/
theorem cm_iff {sh sm : Nat → Nat → Int32} {tm : Nat → Nat → Int64} {p : Int32} (K : HOK sh sm) : (p < 0 ∨ ¬ p ≤ J_X4_mostComing sh) ↔ J_X12_isComing sm tm p = 0 := by
  have e6 : (sm 2) (6 : Int32).toNatClampNeg = sh 0 10 := by rw [show (6 : Int32).toNatClampNeg = 6 from by decide]; exact K.1.2.2.2.2.2.2.1
  have z0 := in_z (p := p) (K := 0) (k := 0) (by decide)
  have z2 := in_z (p := p) (K := 2) (k := 2) (by decide)
  have c1 : p < 0 ↔ p.toInt < 0 := by rw [Int32.lt_iff_toInt_lt]; rfl
  unfold J_X12_isComing J_X4_mostComing
  rw [e6]
  by_cases q : sh 0 10 = -9
  · rw [if_pos q, if_pos q, z0, c1, Int32.le_iff_toInt_le, show (0 : Int32).toInt = 0 from by decide]; omega
  · rw [if_neg q, if_neg q, z2, c1, Int32.le_iff_toInt_le, show (2 : Int32).toInt = 2 from by decide]; omega
theorem cm_r {sh : Nat → Nat → Int32} {p : Int32} (q : ¬ (p < 0 ∨ ¬ p ≤ J_X4_mostComing sh)) : 0 ≤ p.toInt ∧ p.toInt ≤ 2 := by
  have a : ¬ p < 0 := fun z => q (Or.inl z)
  have b : p ≤ J_X4_mostComing sh := Decidable.byContradiction fun z => q (Or.inr z)
  have a2 := f_nlt rfl (by decide : (0 : Int32).toInt = 0) a
  have b2 := Int32.le_iff_toInt_le.mp b
  have m : (J_X4_mostComing sh).toInt ≤ 2 := by unfold J_X4_mostComing; split <;> decide
  exact ⟨a2, by omega⟩
theorem hnd_r {sx sh sm : Nat → Nat → Int32} {p : Int32} (K : HOK sh sm) (q : ¬ J_X11_isHands sx sh p = 0) : (0 ≤ p.toInt ∧ p.toInt ≤ 400 ∧ tot p ≤ 4) ∧ tot p ≤ (sh 0 1).toInt := atm_v (r := J_X11_isHands sx sh p) rfl q (by have := K.2.2.2.1; omega)
/-- a STATE refused alike: (refused -1), (refused -2), (none) -/
theorem rs_cases {sx sh sm : Nat → Nat → Int32} {tm : Nat → Nat → Int64} {w h c : Int32} (K : HOK sh sm) : (J_X11_refuseState sx sh w h c = -1 ∧ J_X12_isWeek sm tm w = 0) ∨ (J_X11_refuseState sx sh w h c = -2 ∧ ¬ J_X12_isWeek sm tm w = 0 ∧ (J_X12_isHands sm tm h = 0 ∨ J_X12_isComing sm tm c = 0)) ∨ (J_X11_refuseState sx sh w h c = 0 ∧ ¬ J_X12_isWeek sm tm w = 0 ∧ ¬ J_X12_isHands sm tm h = 0 ∧ ¬ J_X12_isComing sm tm c = 0 ∧ (0 ≤ w.toInt ∧ w.toInt < (sh 0 0).toInt) ∧ (0 ≤ h.toInt ∧ h.toInt ≤ 400 ∧ tot h ≤ 4) ∧ tot h ≤ (sh 0 1).toInt ∧ (0 ≤ c.toInt ∧ c.toInt ≤ 2)) := by
  have KX := hok_x K
  have iw : J_X11_isWeek sx (lS [(lI [(sh 0 0), (sh 0 1), 0, 0, 0, 0, (sh 0 6), (sh 0 7), (sh 0 8), (sh 0 9), (sh 0 10), (sh 0 11), (sh 0 12)]), (sh 1), (sh 2), (sh 3), (sh 4), (sh 5)]) w = 0 ↔ J_X12_isWeek sm tm w = 0 := iw_iff KX
  have ih : J_X11_isHands sx (lS [(lI [(sh 0 0), (sh 0 1), 0, 0, 0, 0, (sh 0 6), (sh 0 7), (sh 0 8), (sh 0 9), (sh 0 10), (sh 0 11), (sh 0 12)]), (sh 1), (sh 2), (sh 3), (sh 4), (sh 5)]) h = J_X12_isHands sm tm h := ih_eq KX
  have ic : (c < 0 ∨ ¬ c ≤ J_X4_mostComing (lS [(lI [(sh 0 0), (sh 0 1), 0, 0, 0, 0, (sh 0 6), (sh 0 7), (sh 0 8), (sh 0 9), (sh 0 10), (sh 0 11), (sh 0 12)]), (sh 1), (sh 2), (sh 3), (sh 4), (sh 5)])) ↔ J_X12_isComing sm tm c = 0 := cm_iff KX
  dsimp only [J_X11_refuseState]
  by_cases c1 : J_X11_isWeek sx (lS [(lI [(sh 0 0), (sh 0 1), 0, 0, 0, 0, (sh 0 6), (sh 0 7), (sh 0 8), (sh 0 9), (sh 0 10), (sh 0 11), (sh 0 12)]), (sh 1), (sh 2), (sh 3), (sh 4), (sh 5)]) w = 0
  · rw [if_pos c1]; exact Or.inl ⟨rfl, iw.mp c1⟩
  · rw [if_neg c1]
    have d1 : ¬ J_X12_isWeek sm tm w = 0 := fun q => c1 (iw.mpr q)
    have r1 : 0 ≤ w.toInt ∧ w.toInt < (sh 0 0).toInt := iw_r (sx := sx) (sh := (lS [(lI [(sh 0 0), (sh 0 1), 0, 0, 0, 0, (sh 0 6), (sh 0 7), (sh 0 8), (sh 0 9), (sh 0 10), (sh 0 11), (sh 0 12)]), (sh 1), (sh 2), (sh 3), (sh 4), (sh 5)])) c1
    by_cases c2 : J_X11_isHands sx (lS [(lI [(sh 0 0), (sh 0 1), 0, 0, 0, 0, (sh 0 6), (sh 0 7), (sh 0 8), (sh 0 9), (sh 0 10), (sh 0 11), (sh 0 12)]), (sh 1), (sh 2), (sh 3), (sh 4), (sh 5)]) h = 0
    · rw [if_pos c2]; exact Or.inr (Or.inl ⟨rfl, d1, Or.inl (ih.symm.trans c2)⟩)
    · rw [if_neg c2]
      have r2 := hnd_r KX c2
      by_cases c3 : c < 0
      · rw [if_pos c3]; exact Or.inr (Or.inl ⟨rfl, d1, Or.inr (ic.mp (Or.inl c3))⟩)
      · rw [if_neg c3]
        by_cases c4 : c ≤ J_X4_mostComing (lS [(lI [(sh 0 0), (sh 0 1), 0, 0, 0, 0, (sh 0 6), (sh 0 7), (sh 0 8), (sh 0 9), (sh 0 10), (sh 0 11), (sh 0 12)]), (sh 1), (sh 2), (sh 3), (sh 4), (sh 5)])
        · rw [if_pos c4]
          have n : ¬ (c < 0 ∨ ¬ c ≤ J_X4_mostComing (lS [(lI [(sh 0 0), (sh 0 1), 0, 0, 0, 0, (sh 0 6), (sh 0 7), (sh 0 8), (sh 0 9), (sh 0 10), (sh 0 11), (sh 0 12)]), (sh 1), (sh 2), (sh 3), (sh 4), (sh 5)])) := fun q => q.elim c3 (fun z => z c4)
          exact Or.inr (Or.inr ⟨rfl, d1, fun q => c2 (ih.trans q), fun q => n (ic.mpr q), r1, r2.1, r2.2, cm_r n⟩)
        · rw [if_neg c4]; exact Or.inr (Or.inl ⟨rfl, d1, Or.inr (ic.mp (Or.inr c4))⟩)
/-- an ACT that may be: all that follows -/
theorem al_full {sh sm : Nat → Nat → Int32} {tm : Nat → Nat → Int64} {w h c a : Int32} (K : HOK sh sm) (r1 : 0 ≤ w.toInt ∧ w.toInt < (sh 0 0).toInt) (r2 : 0 ≤ h.toInt ∧ h.toInt ≤ 400 ∧ tot h ≤ 4) (r4 : 0 ≤ c.toInt ∧ c.toInt ≤ 2) (ha : 0 ≤ a.toInt) : (J_X4_allows sh w h a = 0 ∧ J_X12_after sm tm w h a = -9) ∨ (J_X4_allows sh w h a = 1 ∧ J_X12_after sm tm w h a = J_X0_done h a ∧ ¬ J_X12_after sm tm w h a = -9 ∧ ((0 ≤ (J_X0_done h a).toInt ∧ (J_X0_done h a).toInt ≤ 400 ∧ tot (J_X0_done h a) ≤ 4) ∧ tot (J_X0_done h a) ≤ (sh 0 1).toInt) ∧ J_X4_weekCost sh w (J_X0_done h a) c a = J_X12_costOf sm tm w (J_X0_done h a) c a ∧ ((J_X4_lack sh w (J_X0_done h a) c (J_X0_taught a)).toInt = -(J_X12_over sm tm w (J_X0_done h a) c a).toInt ∧ -999 ≤ (J_X4_lack sh w (J_X0_done h a) c (J_X0_taught a)).toInt ∧ (J_X4_lack sh w (J_X0_done h a) c (J_X0_taught a)).toInt ≤ 999) ∧ (0 ≤ (J_X0_ordered a).toInt ∧ (J_X0_ordered a).toInt ≤ 2)) := by
  rcases allows_alike (tm := tm) K r1 r2 ha with ⟨x1, x2, x3, x4⟩ | ⟨x1, x2⟩
  · refine Or.inr ⟨x1, x2, x3, ?_⟩
    have b1 := lg_b (a := a) rfl ha
    have b2 := tk_b (a := a) rfl ha
    have b3 := tg_b (a := a) rfl ha
    have b4 := or_b (a := a) rfl ha
    have hk : 0 ≤ (sh 0 1).toInt ∧ (sh 0 1).toInt ≤ 4 := K.2.2.2.1
    unfold ALW at x4
    obtain ⟨l1, l2, l3, l4, l5, l6⟩ := x4
    obtain ⟨s1, s2⟩ := less_t (r := J_X3_lessYoungestFirst h (J_X0_letGo a)) rfl r2 ⟨b1, l1⟩
    obtain ⟨y1, y2, y3, y4⟩ := tot_X (s := J_X3_lessYoungestFirst h (J_X0_letGo a)) (t := J_X0_taken a) ⟨s1.1, s1.2.1⟩ b2 rfl
    rw [y3] at l5
    have g1 : (J_X0_taught a).toInt = 0 ∨ ((J_X0_taught a).toInt = 1 ∧ 0 < (J_X3_lessYoungestFirst h (J_X0_letGo a) + 100 * J_X0_taken a).toInt / 100) := by
      rcases l5 with q | q
      · exact Or.inl (Int.le_antisymm q b3.1)
      · by_cases z : (J_X0_taught a).toInt = 0
        · exact Or.inl z
        · exact Or.inr ⟨Int.le_antisymm q.1 (by have := b3.1; clear y3 y4 q l6; omega), q.2.2.1⟩
    have g2 : (J_X0_taught a).toInt ≤ 0 ∨ ((J_X0_taught a).toInt ≤ 1 ∧ ¬ (sh 0 9).toInt = -9) := by
      rcases l5 with q | q
      · exact Or.inl q
      · exact Or.inr ⟨q.1, q.2.1⟩
    have g3 : (J_X0_taught a).toInt ≤ 1 := by rcases l5 with q | q; exact Int.le_trans q (by decide); exact q.1
    have g4 : (J_X0_ordered a).toInt ≤ 2 := by rcases l6 with q | q; exact Int.le_trans q (by decide); exact q.1
    have dn := done_t (h := h) (a := a) (hook := (sh 0 1).toInt) (X := (J_X3_lessYoungestFirst h (J_X0_letGo a) + 100 * J_X0_taken a).toInt) r2 rfl rfl rfl rfl hk.2 b1 l1 b2.1 (by rw [s2]; exact l4) y1 g1 rfl
    exact ⟨dn, cost_alike (tm := tm) K r1 dn.1 r4 ha l2 g2, lack_alike (tm := tm) K r1 dn.1 r4 ⟨b3.1, g3⟩, b4.1, g4⟩
  · exact Or.inl ⟨x1, x2⟩
/-- an ACT refused alike -/
theorem ra_cases {sx sh sm : Nat → Nat → Int32} {tm : Nat → Nat → Int64} {w h c a : Int32} (K : HOK sh sm) : (J_X11_refuseAct sx sh w h c a = -1 ∧ J_X12_isWeek sm tm w = 0) ∨ (J_X11_refuseAct sx sh w h c a = -2 ∧ ¬ J_X12_isWeek sm tm w = 0 ∧ (J_X12_isHands sm tm h = 0 ∨ J_X12_isComing sm tm c = 0 ∨ ¬ 0 ≤ a)) ∨ (¬ J_X12_isWeek sm tm w = 0 ∧ ¬ J_X12_isHands sm tm h = 0 ∧ ¬ J_X12_isComing sm tm c = 0 ∧ 0 ≤ a ∧ ((J_X11_refuseAct sx sh w h c a = -3 ∧ J_X12_after sm tm w h a = -9) ∨ (J_X11_refuseAct sx sh w h c a = 0 ∧ ¬ J_X12_after sm tm w h a = -9 ∧ J_X12_after sm tm w h a = J_X0_done h a ∧ J_X4_weekCost sh w (J_X0_done h a) c a = J_X12_costOf sm tm w (J_X0_done h a) c a ∧ (J_X4_lack sh w (J_X0_done h a) c (J_X0_taught a)).toInt = -(J_X12_over sm tm w (J_X0_done h a) c a).toInt ∧ -999 ≤ (J_X4_lack sh w (J_X0_done h a) c (J_X0_taught a)).toInt ∧ (J_X4_lack sh w (J_X0_done h a) c (J_X0_taught a)).toInt ≤ 999))) := by
  have KX := hok_x K
  dsimp only [J_X11_refuseAct]
  rcases rs_cases (sx := sx) (tm := tm) (w := w) (h := h) (c := c) KX with ⟨e, d⟩ | ⟨e, d⟩ | ⟨e, d1, d2, d3, r1, r2, r3, r4⟩
  · rw [e, if_neg (by decide)]; exact Or.inl ⟨rfl, d⟩
  · rw [e, if_neg (by decide)]; exact Or.inr (Or.inl ⟨rfl, d.1, d.2.elim Or.inl (fun q => Or.inr (Or.inl q))⟩)
  · rw [if_pos e]
    by_cases ca : 0 ≤ a
    · rw [if_pos ca]
      have ha := f_le (by decide : (0 : Int32).toInt = 0) rfl ca
      refine Or.inr (Or.inr ⟨d1, d2, d3, ca, ?_⟩)
      rcases al_full (tm := tm) KX r1 r2 r4 ha with ⟨x1, x2⟩ | ⟨x1, x2, x3, x4, x5, x6, x7⟩
      · rw [x1, if_pos rfl]; exact Or.inl ⟨rfl, x2⟩
      · rw [x1, if_neg (by decide)]
        exact Or.inr ⟨rfl, x3, x2, x5, x6⟩
    · rw [if_neg ca]; exact Or.inr (Or.inl ⟨rfl, d1, Or.inr (Or.inr ca)⟩)
theorem ic_0 {sm : Nat → Nat → Int32} {tm : Nat → Nat → Int64} : ¬ J_X12_isComing sm tm 0 = 0 := by
  unfold J_X12_isComing
  split <;> decide
theorem may_alike {sx sh sm : Nat → Nat → Int32} {tm : Nat → Nat → Int64} {w h a : Int32} (K : HOK sh sm) : J_X11_may sx sh w h a = J_X12_may sm tm w h a := by
  have KX := hok_x K
  dsimp only [J_X11_may, J_X12_may]
  rcases ra_cases (sx := sx) (tm := tm) (w := w) (h := h) (c := 0) (a := a) KX with ⟨e, d⟩ | ⟨e, d, f⟩ | ⟨d1, d2, d3, ca, y⟩
  · rw [e, if_pos rfl, if_pos d]
  · rw [e, if_neg (by decide), if_pos rfl, if_neg d]
    by_cases q : J_X12_isHands sm tm h = 0
    · rw [if_pos q]
    · rw [if_neg q]
      rcases f with f | f | f
      · exact absurd f q
      · exact absurd f ic_0
      · rw [if_neg f]
  · rw [if_neg d1, if_neg d2, if_pos ca]
    rcases y with ⟨e, x⟩ | ⟨e, x, _⟩
    · rw [e, if_neg (by decide), if_neg (by decide), if_pos rfl, if_pos x]
    · rw [e, if_neg (by decide), if_neg (by decide), if_neg (by decide), if_neg x]
theorem then_alike {sx sh sm : Nat → Nat → Int32} {tm : Nat → Nat → Int64} {w h a : Int32} (K : HOK sh sm) : J_X11_then sx sh w h a = J_X12_then sm tm w h a := by
  have KX := hok_x K
  dsimp only [J_X11_then, J_X12_then]
  rcases ra_cases (sx := sx) (tm := tm) (w := w) (h := h) (c := 0) (a := a) KX with ⟨e, d⟩ | ⟨e, d, f⟩ | ⟨d1, d2, d3, ca, y⟩
  · rw [e, if_neg (by decide), if_pos d]
  · rw [e, if_neg (by decide), if_neg d]
    by_cases q : J_X12_isHands sm tm h = 0
    · rw [if_pos q]
    · rw [if_neg q]
      rcases f with f | f | f
      · exact absurd f q
      · exact absurd f ic_0
      · rw [if_neg f]
  · rw [if_neg d1, if_neg d2, if_pos ca]
    rcases y with ⟨e, x⟩ | ⟨e, x, z, _⟩
    · rw [e, if_neg (by decide), if_pos x]
    · rw [if_pos e, if_neg x, z]
theorem costs_alike {sx sh sm : Nat → Nat → Int32} {tm : Nat → Nat → Int64} {w h c a : Int32} (K : HOK sh sm) : J_X11_costs sx sh w h c a = J_X12_costs sm tm w h c a := by
  have KX := hok_x K
  dsimp only [J_X11_costs, J_X12_costs]
  rcases ra_cases (sx := sx) (tm := tm) (w := w) (h := h) (c := c) (a := a) KX with ⟨e, d⟩ | ⟨e, d, f⟩ | ⟨d1, d2, d3, ca, y⟩
  · rw [e, if_neg (by decide), if_pos d]
  · rw [e, if_neg (by decide), if_neg d]
    by_cases q : J_X12_isHands sm tm h = 0
    · rw [if_pos q]
    · rw [if_neg q]
      by_cases q2 : J_X12_isComing sm tm c = 0
      · rw [if_pos q2]
      · rw [if_neg q2]
        rcases f with f | f | f
        · exact absurd f q
        · exact absurd f q2
        · rw [if_neg f]
  · rw [if_neg d1, if_neg d2, if_neg d3, if_pos ca]
    rcases y with ⟨e, x⟩ | ⟨e, x, z, cs, _⟩
    · rw [e, if_neg (by decide), if_pos x]
    · rw [if_pos e, if_neg x, z]; exact cs
theorem work_alike {sx sh sm : Nat → Nat → Int32} {tm : Nat → Nat → Int64} {w h c a i : Int32} (K : HOK sh sm) : J_X11_work sx sh w h c a i = J_X12_work sm tm w h c a i := by
  have KX := hok_x K
  dsimp only [J_X11_work, J_X12_work]
  rcases ra_cases (sx := sx) (tm := tm) (w := w) (h := h) (c := c) (a := a) KX with ⟨e, d⟩ | ⟨e, d, f⟩ | ⟨d1, d2, d3, ca, y⟩
  · rw [e, if_neg (by decide), if_pos d]
  · rw [e, if_neg (by decide), if_neg d]
    by_cases q : J_X12_isHands sm tm h = 0
    · rw [if_pos q]
    · rw [if_neg q]
      by_cases q2 : J_X12_isComing sm tm c = 0
      · rw [if_pos q2]
      · rw [if_neg q2]
        rcases f with f | f | f
        · exact absurd f q
        · exact absurd f q2
        · rw [if_neg f]
  · rw [if_neg d1, if_neg d2, if_neg d3, if_pos ca]
    rcases y with ⟨e, x⟩ | ⟨e, x, z, _, l1, l2⟩
    · rw [e, if_neg (by decide), if_pos x]
    · have M := mxl l1 l2 0
      rw [if_pos e, if_neg x, z]
      by_cases q : i = 0
      · rw [if_pos q, if_pos q]; exact M.2.1
      · rw [if_neg q, if_neg q]; exact M.2.2
/-- what a RULE takes on -/
theorem zt0 : (0 : Int32).toInt = 0 := by decide
theorem take_core {L t ofr hk : Int32} (ho : 0 ≤ ofr.toInt ∧ ofr.toInt ≤ 4) (hr : 0 ≤ (hk - t).toInt ∧ (hk - t).toInt ≤ 4) :
    (if ofr ≤ L - t then if hk - t ≤ ofr then if hk - t ≤ 0 then 0 else (100 : Int32) * (hk - t) else if ofr ≤ 0 then 0 else (100 : Int32) * ofr else if hk - t ≤ L - t then if hk - t ≤ 0 then 0 else (100 : Int32) * (hk - t) else if L - t ≤ 0 then 0 else (100 : Int32) * (L - t)) = 100 * (if (if 0 < L - t then L - t else 0) < (if hk - t < ofr then hk - t else ofr) then (if 0 < L - t then L - t else 0) else (if hk - t < ofr then hk - t else ofr)) ∧ 0 ≤ (if (if 0 < L - t then L - t else 0) < (if hk - t < ofr then hk - t else ofr) then (if 0 < L - t then L - t else 0) else (if hk - t < ofr then hk - t else ofr)).toInt ∧ (if (if 0 < L - t then L - t else 0) < (if hk - t < ofr then hk - t else ofr) then (if 0 < L - t then L - t else 0) else (if hk - t < ofr then hk - t else ofr)).toInt ≤ 4 := by
  generalize hk - t = R at hr ⊢
  generalize L - t = W
  have le : ∀ x y : Int32, x ≤ y ↔ x.toInt ≤ y.toInt := fun x y => Int32.le_iff_toInt_le
  have lt : ∀ x y : Int32, x < y ↔ x.toInt < y.toInt := fun x y => Int32.lt_iff_toInt_lt
  have eqz : ∀ x : Int32, x.toInt = 0 → x = 0 := fun x h => Int32.toInt_inj.mp (by rw [zt0]; exact h)
  have eqq : ∀ x y : Int32, x.toInt = y.toInt → x = y := fun x y h => Int32.toInt_inj.mp h
  simp only [le, lt]
  (repeat' split) <;> (try simp only [zt0] at *) <;> first
    | (exfalso; omega)
    | exact ⟨rfl, by omega, by omega⟩
    | exact ⟨trivial, by omega, by omega⟩
    | exact ⟨Int32.mul_zero.symm, by omega, by omega⟩
    | exact ⟨by rw [eqz R (by omega), Int32.mul_zero], by omega, by omega⟩
    | exact ⟨by rw [eqz ofr (by omega), Int32.mul_zero], by omega, by omega⟩
    | exact ⟨by rw [eqz W (by omega), Int32.mul_zero], by omega, by omega⟩
    | exact ⟨by rw [eqq R ofr (by omega)], by omega, by omega⟩
    | exact ⟨by rw [eqq W ofr (by omega)], by omega, by omega⟩
    | exact ⟨by rw [eqq W R (by omega)], by omega, by omega⟩
theorem div100 {x : Int32} (h : 0 ≤ x.toInt ∧ x.toInt ≤ 4) : ((100 : Int32) * x) / 100 = x := by
  have m : ((100 : Int32) * x).toInt = 100 * x.toInt := i_mul (by decide) rfl (by omega) (by omega)
  have d := i_div (y := 100) m (by decide : (100 : Int32).toInt = 100) (by omega) (by decide) (by omega)
  exact Int32.toInt_inj.mp (by rw [d]; omega)
theorem ract_alike {sx sh sm : Nat → Nat → Int32} {tm : Nat → Nat → Int64} {r w h : Int32} (K : HOK sh sm) (hL : LVL (sx 1) (sm 4)) (hr : 0 ≤ r.toInt ∧ r.toInt ≤ 2) (hw : 0 ≤ w.toInt ∧ w.toInt ≤ 4) (hh : 0 ≤ h.toInt ∧ h.toInt ≤ 400 ∧ tot h ≤ 4) (ht : tot h ≤ (sh 0 1).toInt) :
    J_X12_ruleAct sm tm r w h = 100 * J_X4_takenByLevel sh w h (J_X11_levelBy sx r w) ∧ 0 ≤ (J_X4_takenByLevel sh w h (J_X11_levelBy sx r w)).toInt ∧ (J_X4_takenByLevel sh w h (J_X11_levelBy sx r w)).toInt ≤ 4 := by
  have e1 : (sm 2) (1 : Int32).toNatClampNeg = sh 0 1 := by rw [n1_]; exact K.1.2.1
  have eo := vO K (p := w) hw
  have el := lv_get hL hr hw
  have tt : (J_X3_total h).toInt = tot h := tot_t hh.1
  have hk := K.2.2.2.1
  have T0 := tot_0 (x := h) hh.1
  have rm : (sh 0 1 - J_X3_total h).toInt = (sh 0 1).toInt - tot h := i_sub rfl tt (by omega) (by omega)
  have C := take_core (L := J_X11_levelBy sx r w) (t := J_X3_total h) (ofr := sh 2 w.toNatClampNeg) (hk := sh 0 1) (K.2.2.2.2.2.1 _) (by rw [rm]; omega)
  refine ⟨?_, C.2⟩
  unfold J_X12_ruleAct
  rw [e1, eo, ← el]
  exact C.1
theorem takes_alike {sx sh sm : Nat → Nat → Int32} {tm : Nat → Nat → Int64} {r w h : Int32} (K : HOK sh sm) (hL : LVL (sx 1) (sm 4)) : J_X11_takes sx sh r w h = J_X12_takes sm tm r w h := by
  have KX := hok_x K
  have ir := ir_iff (sx := sx) (p := r)
  have iw : J_X11_isWeek sx (lS [(lI [(sh 0 0), (sh 0 1), 0, 0, 0, 0, (sh 0 6), (sh 0 7), (sh 0 8), (sh 0 9), (sh 0 10), (sh 0 11), (sh 0 12)]), (sh 1), (sh 2), (sh 3), (sh 4), (sh 5)]) w = 0 ↔ J_X12_isWeek sm tm w = 0 := iw_iff KX
  have ih : J_X11_isHands sx (lS [(lI [(sh 0 0), (sh 0 1), 0, 0, 0, 0, (sh 0 6), (sh 0 7), (sh 0 8), (sh 0 9), (sh 0 10), (sh 0 11), (sh 0 12)]), (sh 1), (sh 2), (sh 3), (sh 4), (sh 5)]) h = J_X12_isHands sm tm h := ih_eq KX
  dsimp only [J_X11_takes, J_X12_takes]
  by_cases c0 : J_X11_isRule sx r = 0
  · rw [if_pos c0, if_pos (ir.mp c0)]
  · rw [if_neg c0, if_neg (fun q => c0 (ir.mpr q))]
    by_cases c1 : J_X11_isWeek sx (lS [(lI [(sh 0 0), (sh 0 1), 0, 0, 0, 0, (sh 0 6), (sh 0 7), (sh 0 8), (sh 0 9), (sh 0 10), (sh 0 11), (sh 0 12)]), (sh 1), (sh 2), (sh 3), (sh 4), (sh 5)]) w = 0
    · rw [if_pos c1, if_pos (iw.mp c1)]
    · rw [if_neg c1, if_neg (fun q => c1 (iw.mpr q)), ih]
      by_cases c2 : J_X12_isHands sm tm h = 0
      · rw [if_pos c2, if_pos c2]
      · rw [if_neg c2, if_neg c2]
        have r0 : 0 ≤ r.toInt ∧ r.toInt ≤ 2 := by rw [ir_z] at c0; omega
        have r1 : 0 ≤ w.toInt ∧ w.toInt < (sh 0 0).toInt := iw_r (sx := sx) (sh := (lS [(lI [(sh 0 0), (sh 0 1), 0, 0, 0, 0, (sh 0 6), (sh 0 7), (sh 0 8), (sh 0 9), (sh 0 10), (sh 0 11), (sh 0 12)]), (sh 1), (sh 2), (sh 3), (sh 4), (sh 5)])) c1
        have r2 := hnd_r (sx := sx) KX (by rw [ih]; exact c2)
        have wk := K.2.2.1
        have C := ract_alike (tm := tm) KX hL r0 ⟨r1.1, by omega⟩ r2.1 r2.2
        rw [C.1, div100 C.2]
