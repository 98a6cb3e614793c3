theorem cheapest_alike {sx sh sm sco : Nat → Nat → Int32} {tm tco : Nat → Nat → Int64} {t : Int32 × (Nat → Int64) × (Nat → Int64) × Int64 × Int64 × Int64 × Int64} {t2 : Int32 × (Nat → Int64) × (Nat → Int64)} (h1 : t = J_X11_cheapest sx sh sco tco) (h2 : t2 = J_X12_cheapest sm tm) (K : HOK sh sm) (hL : LVL (sx 1) (sm 4)) (T : TBL sh) : t.1 = t2.1 := by
  subst h1 h2
  have wk := K.2.2.1
  obtain ⟨W, hW, w0⟩ := nat_of (N := 5) (x := sh 0 0) ⟨wk.1, wk.2⟩
  have wt : (sh 0 0).toInt = (W : Int) := by rw [w0, ofn_t (by omega)]
  have s0 : (sm 2) (0 : Int32).toNatClampNeg = Int32.ofNat W := by rw [n0_, ← w0]; exact K.1.1
  have i0 : ∀ t : Nat → Nat → Int64, ¬ J_X12_isHands sm t (Int32.ofNat 0) = 0 := fun t q => by
    have z := (ih50 (tm := t) K (x := 0) (by decide)).mp q
    have hk := K.2.2.2.1
    simp at z
    omega
  have VC : ∀ r : Int32, 0 ≤ r.toInt ∧ r.toInt ≤ 2 → ∀ t : Nat → Nat → Int64, (J_X11_goToTheEnd sx (SHX sh) SC0 t r 0 0 0).2.2.2.1 = VAL sm tm r W W 0 0 := fun r hr t => by
    have z := (ge_v (sx := sx) (sh := SHX sh) (sco := SC0) (tco := t) (tm := tm) (r := r) (p2 := 0) (p3 := 0) (P := 0) (W := W) (hok_x K) hL hr (by decide) (tbl_x T) wt (by omega) (by decide) K.2.2.2.1.1).2
    rw [Nat.sub_zero, n0_, o00_] at z
    exact z
  have VR : ∀ r : Int32, ∀ t : Nat → Nat → Int64, (J_X12_layMean sm t r 0 0 0).1 = VAL sm tm r W W 0 0 := fun r t => by
    have z := lm_v (sm := sm) (tm := t) (p0 := r) (p2 := 0) (p3 := 0) (W := W) (P := 0) s0 hW (by omega) ⟨by decide, i0 t⟩
    rw [val_tm (t2 := tm), Nat.sub_zero, n0_, o00_] at z
    exact z
  have n30 : ¬ (3 : Int32) ≤ 0 := by decide
  have n31 : ¬ (3 : Int32) ≤ 1 := by decide
  have n32 : ¬ (3 : Int32) ≤ 2 := by decide
  have a01 : (0 : Int32) + 1 = 1 := by decide
  have a12 : (1 : Int32) + 1 = 2 := by decide
  have a23 : (2 : Int32) + 1 = 3 := by decide
  have z1 : ¬ (1 : Int32) = 0 := by decide
  have z2 : ¬ (2 : Int32) = 0 := by decide
  obtain ⟨Y, hY⟩ : ∃ Y, J_X12_layMean sm tm 0 0 0 0 = Y := ⟨_, rfl⟩
  have y_1 : Y.1 = VAL sm tm 0 W W 0 0 := by rw [← hY]; exact VR 0 tm
  obtain ⟨y0, k0⟩ := ch_1 (sx := sx) (sh := sh) (sco := sco) (tco := tco) (v := 0) (found := 0) (V := VAL sm tm 0 W W 0 0) (least := 0) (x20 := tco 0 2) (x21 := tco 0 3) (x22 := tco 0 4) (x23 := tco 0 5) (g24 := tco 1) (g25 := tco 2) n30 (VC 0 (by decide))
  rw [if_pos rfl, if_pos rfl, a01] at k0
  obtain ⟨y1, k1⟩ := ch_1 (sx := sx) (sh := sh) (sco := sco) (tco := tco) (v := 1) (found := 0) (V := VAL sm tm 1 W W 0 0) (least := VAL sm tm 0 W W 0 0) (x20 := y0.1) (x21 := y0.2.1) (x22 := y0.2.2.1) (x23 := y0.2.2.2.1) (g24 := y0.2.2.2.2.1) (g25 := y0.2.2.2.2.2) n31 (VC 1 (by decide))
  rw [if_neg z1, if_neg z1, a12] at k1
  obtain ⟨u1, m1⟩ := ch_2 (sm := sm) (tm := tm) (y7 := Y) (v := 1) (best := 0) (V := VAL sm tm 1 W W 0 0) (least := VAL sm tm 0 W W 0 0) (g21 := Y.2.1) (g22 := Y.2.2) n31 (VR 1)
  rw [a12] at m1
  generalize (if 0 ≤ lg_cmp (VAL sm tm 1 W W 0 0) (VAL sm tm 0 W W 0 0) then VAL sm tm 0 W W 0 0 else VAL sm tm 1 W W 0 0) = L2 at k1 m1
  generalize (if 0 ≤ lg_cmp (VAL sm tm 1 W W 0 0) (VAL sm tm 0 W W 0 0) then (0 : Int32) else 1) = F2 at k1 m1
  obtain ⟨y2, k2⟩ := ch_1 (sx := sx) (sh := sh) (sco := sco) (tco := tco) (v := 2) (found := F2) (V := VAL sm tm 2 W W 0 0) (least := L2) (x20 := y1.1) (x21 := y1.2.1) (x22 := y1.2.2.1) (x23 := y1.2.2.2.1) (g24 := y1.2.2.2.2.1) (g25 := y1.2.2.2.2.2) n32 (VC 2 (by decide))
  rw [if_neg z2, if_neg z2, a23] at k2
  obtain ⟨u2, m2⟩ := ch_2 (sm := sm) (tm := tm) (y7 := Y) (v := 2) (best := F2) (V := VAL sm tm 2 W W 0 0) (least := L2) (g21 := u1.1) (g22 := u1.2) n32 (VR 2)
  rw [a23] at m2
  rw [← y_1] at m1
  exact ch_two (F := if 0 ≤ lg_cmp (VAL sm tm 2 W W 0 0) L2 then F2 else 2) hY k0 k1 k2 (ch_e (by decide)) m1 m2 (ch_e2 (by decide)) rfl rfl

