/-! nothing here looks at longs -/
theorem after_tm {sm : Nat → Nat → Int32} {t1 t2 : Nat → Nat → Int64} {w h a : Int32} : J_X12_after sm t1 w h a = J_X12_after sm t2 w h a := rfl
theorem ract_tm {sm : Nat → Nat → Int32} {t1 t2 : Nat → Nat → Int64} {r w h : Int32} : J_X12_ruleAct sm t1 r w h = J_X12_ruleAct sm t2 r w h := rfl
theorem ih_tm {sm : Nat → Nat → Int32} {t1 t2 : Nat → Nat → Int64} {h : Int32} : J_X12_isHands sm t1 h = J_X12_isHands sm t2 h := rfl
theorem sun_tm {sm : Nat → Nat → Int32} {t1 t2 : Nat → Nat → Int64} {h o : Int32} : J_X12_sundayOf sm t1 h o = J_X12_sundayOf sm t2 h o := rfl
theorem bon_tm {sm : Nat → Nat → Int32} {t1 t2 : Nat → Nat → Int64} {h : Int32} : J_X12_bonus sm t1 h = J_X12_bonus sm t2 h := rfl
theorem thR_tm {sm : Nat → Nat → Int32} {t1 t2 : Nat → Nat → Int64} {r w : Int32} {x : Nat} : thR sm t1 r w x = thR sm t2 r w x := by
  unfold thR
  rw [after_tm (t2 := t2), ract_tm (t2 := t2)]
theorem onT_tm {sm : Nat → Nat → Int32} {t1 t2 : Nat → Nat → Int64} {V : Nat → Int64} {th : Int32} : onT sm t1 V th = onT sm t2 V th := funext (fun x => by
  unfold onT
  rw [ih_tm (t2 := t2), sun_tm (t2 := t2)])
theorem mnT_tm {sm : Nat → Nat → Int32} {t1 t2 : Nat → Nat → Int64} {r w c : Int32} {V : Nat → Int64} {x : Nat} : mnT sm t1 r w c V x = mnT sm t2 r w c V x := by
  unfold mnT
  rw [cost_tm (t2 := t2), thR_tm (t2 := t2), ract_tm (t2 := t2), onT_tm (t2 := t2)]
theorem val_tm {sm : Nat → Nat → Int32} {t1 t2 : Nat → Nat → Int64} {r : Int32} {W : Nat} : ∀ (n : Nat) (c : Int32) (h : Nat), VAL sm t1 r W n c h = VAL sm t2 r W n c h
  | 0, _, h => by
    show (J_X12_bonus sm t1 (Int32.ofNat h)).toInt64 = (J_X12_bonus sm t2 (Int32.ofNat h)).toInt64
    rw [bon_tm (t2 := t2)]
  | n + 1, c, h => by
    show mnT sm t1 r (Int32.ofNat (W - (n + 1))) c (VAL sm t1 r W n 0) h = mnT sm t2 r (Int32.ofNat (W - (n + 1))) c (VAL sm t2 r W n 0) h
    rw [show VAL sm t1 r W n 0 = VAL sm t2 r W n 0 from funext (fun y => val_tm n 0 y), mnT_tm (t2 := t2)]
/-! cheapest -/
theorem ch_1 {sx sh sco : Nat → Nat → Int32} {tco : Nat → Nat → Int64} {v found : Int32} {V least x20 x21 x22 x23 : Int64} {g24 g25 : Nat → Int64} (h3 : ¬ 3 ≤ v) (hV : ∀ t : Nat → Nat → Int64, (J_X11_goToTheEnd sx (SHX sh) SC0 t v 0 0 0).2.2.2.1 = V) : ∃ y : Int64 × Int64 × Int64 × Int64 × (Nat → Int64) × (Nat → Int64), B_X11_cheapest_7 sx sh sco tco (v, least, found, x20, x21, x22, x23, g24, g25) = Sum.inl (v + 1, (if v = 0 then V else if 0 ≤ lg_cmp V least then least else V), (if v = 0 then v else if 0 ≤ lg_cmp V least then found else v), y.1, y.2.1, y.2.2.1, y.2.2.2.1, y.2.2.2.2.1, y.2.2.2.2.2) := by
  have e := hV (lT [(lJ [0, 0, x20, x21, x22, x23]), g24, g25])
  unfold B_X11_cheapest_7
  dsimp only [LetF]
  generalize J_X11_goToTheEnd sx (SHX sh) SC0 (lT [(lJ [0, 0, x20, x21, x22, x23]), g24, g25]) v 0 0 0 = Y at e ⊢
  subst e
  refine ⟨(Y.2.2.1, Y.2.2.2.1, Y.2.2.2.2.1, Y.2.2.2.2.2, Y.1, Y.2.1), ?_⟩
  rw [if_neg h3]
  by_cases q : v = 0
  · rw [if_pos q, if_pos q, if_pos q]
  · rw [if_neg q, if_neg q, if_neg q]
    by_cases z : 0 ≤ lg_cmp Y.2.2.2.1 least
    · rw [if_pos z, if_pos z, if_pos z]
    · rw [if_neg z, if_neg z, if_neg z]
theorem ch_2 {sm : Nat → Nat → Int32} {tm : Nat → Nat → Int64} {y7 : Int64 × (Nat → Int64) × (Nat → Int64)} {v best : Int32} {V least : Int64} {g21 g22 : Nat → Int64} (h3 : ¬ 3 ≤ v) (hV : ∀ t : Nat → Nat → Int64, (J_X12_layMean sm t v 0 0 0).1 = V) : ∃ y : (Nat → Int64) × (Nat → Int64), B_X12_cheapest_14 sm tm y7 (v, least, best, g21, g22) = Sum.inl (v + 1, (if 0 ≤ lg_cmp V least then least else V), (if 0 ≤ lg_cmp V least then best else v), y.1, y.2) := by
  have e := hV (up2L (up2L tm 6 g21) 7 g22)
  unfold B_X12_cheapest_14
  dsimp only [LetF]
  generalize J_X12_layMean sm (up2L (up2L tm 6 g21) 7 g22) v 0 0 0 = Y at e ⊢
  subst e
  refine ⟨(Y.2.1, Y.2.2), ?_⟩
  rw [if_neg h3]
  by_cases z : 0 ≤ lg_cmp Y.1 least
  · rw [if_pos z, if_pos z, if_pos z, if_pos z]
  · rw [if_neg z, if_neg z, if_neg z, if_neg z]
theorem ch_e {sx sh sco : Nat → Nat → Int32} {tco : Nat → Nat → Int64} {v found : Int32} {least x20 x21 x22 x23 : Int64} {g24 g25 : Nat → Int64} (h3 : 3 ≤ v) : B_X11_cheapest_7 sx sh sco tco (v, least, found, x20, x21, x22, x23, g24, g25) = Sum.inr (found, g24, g25, x20, x21, x22, x23) := if_pos h3
theorem ch_e2 {sm : Nat → Nat → Int32} {tm : Nat → Nat → Int64} {y7 : Int64 × (Nat → Int64) × (Nat → Int64)} {v best : Int32} {least : Int64} {g21 g22 : Nat → Int64} (h3 : 3 ≤ v) : B_X12_cheapest_14 sm tm y7 (v, least, best, g21, g22) = Sum.inr (best, g21, g22) := if_pos h3
theorem o00_ : Int32.ofNat 0 = (0 : Int32) := by decide
theorem LT3r {S R : Type} {d : R} {f : S → Sum S R} {z0 z1 z2 : S} {r : R} (n : Nat) (k0 : f z0 = Sum.inl z1) (k1 : f z1 = Sum.inl z2) (k2 : f z2 = Sum.inr r) : LTs d f (n + 3) z0 = r := (LT_st k0).trans ((LT_st k1).trans (LT_en k2))
theorem LT4r {S R : Type} {d : R} {f : S → Sum S R} {z0 z1 z2 z3 : S} {r : R} (n : Nat) (k0 : f z0 = Sum.inl z1) (k1 : f z1 = Sum.inl z2) (k2 : f z2 = Sum.inl z3) (k3 : f z3 = Sum.inr r) : LTs d f (n + 4) z0 = r := (LT_st k0).trans ((LT_st k1).trans ((LT_st k2).trans (LT_en k3)))
/-- both loops, by three turns of the class and two of the reference -/
theorem ch_two {sx sh sm sco : Nat → Nat → Int32} {tm tco : Nat → Nat → Int64} {F : Int32} {a1 a2 a3 : Int32 × Int64 × Int32 × Int64 × Int64 × Int64 × Int64 × (Nat → Int64) × (Nat → Int64)} {r1 : Int32 × (Nat → Int64) × (Nat → Int64) × Int64 × Int64 × Int64 × Int64} {b2 b3 : Int32 × Int64 × Int32 × (Nat → Int64) × (Nat → Int64)} {r2 : Int32 × (Nat → Int64) × (Nat → Int64)} {Y : Int64 × (Nat → Int64) × (Nat → Int64)} (hY : J_X12_layMean sm tm 0 0 0 0 = Y)
    (k0 : B_X11_cheapest_7 sx sh sco tco ((0 : Int32), (0 : Int64), (0 : Int32), (tco 0 2), (tco 0 3), (tco 0 4), (tco 0 5), (tco 1), (tco 2)) = Sum.inl a1) (k1 : B_X11_cheapest_7 sx sh sco tco a1 = Sum.inl a2) (k2 : B_X11_cheapest_7 sx sh sco tco a2 = Sum.inl a3) (k3 : B_X11_cheapest_7 sx sh sco tco a3 = Sum.inr r1)
    (m1 : B_X12_cheapest_14 sm tm Y ((1 : Int32), Y.1, (0 : Int32), Y.2.1, Y.2.2) = Sum.inl b2) (m2 : B_X12_cheapest_14 sm tm Y b2 = Sum.inl b3) (m3 : B_X12_cheapest_14 sm tm Y b3 = Sum.inr r2) (h1 : r1.1 = F) (h2 : r2.1 = F) : (J_X11_cheapest sx sh sco tco).1 = (J_X12_cheapest sm tm).1 := by
  have l1 : J_X11_cheapest sx sh sco tco = r1 := by
    unfold J_X11_cheapest
    exact LT4r 0 k0 k1 k2 k3
  have l2 : J_X12_cheapest sm tm = r2 := by
    unfold J_X12_cheapest
    dsimp only [LetF]
    rw [hY]
    exact LT3r 1 m1 m2 m3
  rw [l1, l2, h1, h2]
theorem cheapest_alike {sx sh sm sco : Nat → Nat → Int32} {tm tco : Nat → Nat → Int64} {t : Int32 × (Nat → Int64) × (Nat → Int64) × Int64 × Int64 × Int64 × Int64} {t2 : Int32 × (Nat → Int64) × (Nat → Int64)} (h1 : t = J_X11_cheapest sx sh sco tco) (h2 : t2 = J_X12_cheapest sm tm) (K : HOK sh sm) (hL : LVL (sx 1) (sm 4)) (T : TBL sh) : t.1 = t2.1 := by
  subst h1 h2
  have wk := K.2.2.1
  obtain ⟨W, hW, w0⟩ := nat_of (N := 5) (x := sh 0 0) ⟨wk.1, wk.2⟩
  have wt : (sh 0 0).toInt = (W : Int) := by rw [w0, ofn_t (by omega)]
  have s0 : (sm 2) (0 : Int32).toNatClampNeg = Int32.ofNat W := by rw [n0_, ← w0]; exact K.1.1
  have i0 : ∀ t : Nat → Nat → Int64, ¬ J_X12_isHands sm t (Int32.ofNat 0) = 0 := fun t q => by
    have z := (ih50 (tm := t) K (x := 0) (by decide)).mp q
    have hk := K.2.2.2.1
    simp at z
    omega
  have VC : ∀ r : Int32, 0 ≤ r.toInt ∧ r.toInt ≤ 2 → ∀ t : Nat → Nat → Int64, (J_X11_goToTheEnd sx (SHX sh) SC0 t r 0 0 0).2.2.2.1 = VAL sm tm r W W 0 0 := fun r hr t => by
    have z := (ge_v (sx := sx) (sh := SHX sh) (sco := SC0) (tco := t) (tm := tm) (r := r) (p2 := 0) (p3 := 0) (P := 0) (W := W) (hok_x K) hL hr (by decide) (tbl_x T) wt (by omega) (by decide) K.2.2.2.1.1).2
    rw [Nat.sub_zero, n0_, o00_] at z
    exact z
  have VR : ∀ r : Int32, ∀ t : Nat → Nat → Int64, (J_X12_layMean sm t r 0 0 0).1 = VAL sm tm r W W 0 0 := fun r t => by
    have z := lm_v (sm := sm) (tm := t) (p0 := r) (p2 := 0) (p3 := 0) (W := W) (P := 0) s0 hW (by omega) ⟨by decide, i0 t⟩
    rw [val_tm (t2 := tm), Nat.sub_zero, n0_, o00_] at z
    exact z
  have n30 : ¬ (3 : Int32) ≤ 0 := by decide
  have n31 : ¬ (3 : Int32) ≤ 1 := by decide
  have n32 : ¬ (3 : Int32) ≤ 2 := by decide
  have a01 : (0 : Int32) + 1 = 1 := by decide
  have a12 : (1 : Int32) + 1 = 2 := by decide
  have a23 : (2 : Int32) + 1 = 3 := by decide
  have z1 : ¬ (1 : Int32) = 0 := by decide
  have z2 : ¬ (2 : Int32) = 0 := by decide
  obtain ⟨Y, hY⟩ : ∃ Y, J_X12_layMean sm tm 0 0 0 0 = Y := ⟨_, rfl⟩
  have y_1 : Y.1 = VAL sm tm 0 W W 0 0 := by rw [← hY]; exact VR 0 tm
  obtain ⟨y0, k0⟩ := ch_1 (sx := sx) (sh := sh) (sco := sco) (tco := tco) (v := 0) (found := 0) (V := VAL sm tm 0 W W 0 0) (least := 0) (x20 := tco 0 2) (x21 := tco 0 3) (x22 := tco 0 4) (x23 := tco 0 5) (g24 := tco 1) (g25 := tco 2) n30 (VC 0 (by decide))
  rw [if_pos rfl, if_pos rfl, a01] at k0
  obtain ⟨y1, k1⟩ := ch_1 (sx := sx) (sh := sh) (sco := sco) (tco := tco) (v := 1) (found := 0) (V := VAL sm tm 1 W W 0 0) (least := VAL sm tm 0 W W 0 0) (x20 := y0.1) (x21 := y0.2.1) (x22 := y0.2.2.1) (x23 := y0.2.2.2.1) (g24 := y0.2.2.2.2.1) (g25 := y0.2.2.2.2.2) n31 (VC 1 (by decide))
  rw [if_neg z1, if_neg z1, a12] at k1
  obtain ⟨u1, m1⟩ := ch_2 (sm := sm) (tm := tm) (y7 := Y) (v := 1) (best := 0) (V := VAL sm tm 1 W W 0 0) (least := VAL sm tm 0 W W 0 0) (g21 := Y.2.1) (g22 := Y.2.2) n31 (VR 1)
  rw [a12] at m1
  generalize (if 0 ≤ lg_cmp (VAL sm tm 1 W W 0 0) (VAL sm tm 0 W W 0 0) then VAL sm tm 0 W W 0 0 else VAL sm tm 1 W W 0 0) = L2 at k1 m1
  generalize (if 0 ≤ lg_cmp (VAL sm tm 1 W W 0 0) (VAL sm tm 0 W W 0 0) then (0 : Int32) else 1) = F2 at k1 m1
  obtain ⟨y2, k2⟩ := ch_1 (sx := sx) (sh := sh) (sco := sco) (tco := tco) (v := 2) (found := F2) (V := VAL sm tm 2 W W 0 0) (least := L2) (x20 := y1.1) (x21 := y1.2.1) (x22 := y1.2.2.1) (x23 := y1.2.2.2.1) (g24 := y1.2.2.2.2.1) (g25 := y1.2.2.2.2.2) n32 (VC 2 (by decide))
  rw [if_neg z2, if_neg z2, a23] at k2
  obtain ⟨u2, m2⟩ := ch_2 (sm := sm) (tm := tm) (y7 := Y) (v := 2) (best := F2) (V := VAL sm tm 2 W W 0 0) (least := L2) (g21 := u1.1) (g22 := u1.2) n32 (VR 2)
  rw [a23] at m2
  rw [← y_1] at m1
  exact ch_two (F := if 0 ≤ lg_cmp (VAL sm tm 2 W W 0 0) L2 then F2 else 2) hY k0 k1 k2 (ch_e (by decide)) m1 m2 (ch_e2 (by decide)) rfl rfl
