theorem fw_X11_week_146 : Cond.fieldLink RX11 146 "StillInAugust$House" "wants" "[I" ∈ wsX11_week := by decide +kernel
theorem fw_X11_week_149 : Cond.fieldLink RX11 149 "StillInAugust$House" "offers" "[I" ∈ wsX11_week := by decide +kernel
theorem fw_X11_week_39 : Cond.fieldLink RX11 39 "StillInAugust" "house" "LStillInAugust$House;" ∈ wsX11_week := by decide +kernel
theorem iw_X11_week_X11 : ∀ w ∈ u_ws RX11 TX11 17, w ∈ wsX11_week := fun _ h => List.mem_cons_of_mem _ (List.mem_append_left _ (List.mem_append_right _ h))
theorem iw_X11_week_X4 : ∀ w ∈ u_ws RX4 TX4 14, w ∈ wsX11_week := fun _ h => List.mem_cons_of_mem _ (List.mem_append_right _ h)
def J_X11_week (sx : Nat → Nat → Int32) (sh : Nat → Nat → Int32) (p0 : Int32) (p1 : Int32) : Int32 := let y6 := J_X11_isWeek sx (lS [(lI [(sh 0 0), (sh 0 1), 0, 0, 0, 0, (sh 0 6), (sh 0 7), (sh 0 8), (sh 0 9), (sh 0 10), (sh 0 11), (sh 0 12)]), (sh 1), (sh 2), (sh 3), (sh 4), (sh 5)]) p0; if y6 = 0 then ((-1) : Int32) else if p1 = 0 then ((sh 1) (p0).toNatClampNeg) else if p1 = 1 then ((sh 2) (p0).toNatClampNeg) else ((-2) : Int32)
set_option maxHeartbeats 4000000 in
set_option maxRecDepth 100000 in
theorem c_X11_week (l : Launch) (D : va_G) (k : Nat → ClassId) (b : Nat → Nat) (qx : Nat → Nat) (sx : Nat → Nat → Int32) (qh : Nat → Nat) (sh : Nat → Nat → Int32) (sz : Nat) (p0 : Int32) (p1 : Int32) (h_wk : 0 ≤ (sh 0 0).toInt ∧ (sh 0 0).toInt ≤ 5) (h_hk : 0 ≤ (sh 0 1).toInt ∧ (sh 0 1).toInt ≤ 4) (h_fl : 0 ≤ (sh 0 12).toInt ∧ (sh 0 12).toInt ≤ 5) (h_of : ∀ j, 0 ≤ (sh 2 j).toInt ∧ (sh 2 j).toInt ≤ 4) (h_go : ∀ j, 0 ≤ (sh 3 j).toInt ∧ (sh 3 j).toInt ≤ 5) : MetI l D k b yX11_week wsX11_week ({ frames := 1, cells := 0, slots := 0, locals := 21 } : Room) [cell30_ qx sx, cell28_ k qx sx, cell29_ k qx sx, cell31_ qx sh qh, cell0_ k qh sh, cell1_ k qh sh, cell4_ k qh sh, cell3_ k qh sh, cell2_ k qh sh] sz [.ref (qx 0), .int p0, .int p1] (fun (r : Int32) (u : Unit) => r = J_X11_week sx sh p0 p1) (fun u => [cell30_ qx sx, cell28_ k qx sx, cell29_ k qx sx, cell31_ qx sh qh, cell0_ k qh sh, cell1_ k qh sh, cell4_ k qh sh, cell3_ k qh sh, cell2_ k qh sh]) := by
  refine g_enter (cc := cX11_week) (maxL := 3) (ret := (some .int)) (by decide) rfl (Nat.le_of_ble_eq_true rfl) ?_
  intro p e s m below meth c A hsz hAe cx hr hP hD hS ls hl
  rw [hAe]
  refine g_q (fun Q hQ => ?_)
  have hx := cx.1.1
  have hb := cx.1.2.1
  have bp0 := i_rng p0
  have bp1 := i_rng p1
  have hl : lv_has ls 3 [(0, .ref (qx 0)), (1, .int p0), (2, .int p1)] := hl
  obtain ⟨H, eH⟩ : ∃ H : Heap, H = s.heap := ⟨_, rfl⟩
  obtain ⟨locs, el⟩ : ∃ L : List Loc, L = [] := ⟨_, rfl⟩
  have hP : va_P D vwCl [cell30_ qx sx, cell28_ k qx sx, cell29_ k qx sx, cell31_ qx sh qh, cell0_ k qh sh, cell1_ k qh sh, cell4_ k qh sh, cell3_ k qh sh, cell2_ k qh sh] H := by rw [eH]; exact hP
  have hD : va_D A [cell30_ qx sx, cell28_ k qx sx, cell29_ k qx sx, cell31_ qx sh qh, cell0_ k qh sh, cell1_ k qh sh, cell4_ k qh sh, cell3_ k qh sh, cell2_ k qh sh] := hD
  have hS : va_S A s.heap H locs := by rw [eH, el]; exact hS
  suffices goal : W p l e ({ frames := 1, cells := 0, slots := 0, locals := 21 } : Room) s m ([.ref (qx 0), .int p0, .int p1] : List Value).toArray below meth c H locs 0 0 Q (F0 m 0 ls []) by rw [eH, el] at goal; exact goal
  refine lv_aload_n hx hb dX11_week_0 rfl (lv_at hl 0 rfl) ?_
  refine lv_iload_n hx hb dX11_week_1 rfl (lv_at hl 1 rfl) ?_
  refine g_iF (w1 := fun (_ : Unit) => [cell30_ qx sx, cell28_ k qx sx, cell29_ k qx sx, cell31_ qx sh qh, cell0_ k qh sh, cell1_ k qh sh, cell4_ k qh sh, cell3_ k qh sh, cell2_ k qh sh]) (g_runVF (ws := [cell30_ qx sx, cell28_ k qx sx, cell29_ k qx sx, cell31_ qx sh qh, cell0_ k qh sh, cell1_ k qh sh, cell4_ k qh sh, cell3_ k qh sh, cell2_ k qh sh]) (rest := []) cx hP hD hS [.int p0] (c_X11_isWeek l D k b qx sx (lq [0, qh 1, qh 2, qh 3, qh 4, qh 5]) (lS [(lI [(sh 0 0), (sh 0 1), 0, 0, 0, 0, (sh 0 6), (sh 0 7), (sh 0 8), (sh 0 9), (sh 0 10), (sh 0 11), (sh 0 12)]), (sh 1), (sh 2), (sh 3), (sh 4), (sh 5)]) H.size p0 (show 0 ≤ (sh 0 0).toInt ∧ (sh 0 0).toInt ≤ 5 from by first | decide | omega)) gX11_week_X11_isWeek rfl rfl rfl nd_X11_isWeek ⟨Nat.le_of_ble_eq_true rfl, Nat.le_of_ble_eq_true rfl⟩ (ci := 9) (q0 := 0) rfl rfl rfl hl.1 rfl (Nat.le_of_ble_eq_true rfl) ⟨Nat.zero_le _, Nat.zero_le _⟩ dX11_week_2) cx.2.2.1 hD hS (fun r2 _ H locs hw1 hP hD hS => ?_)
  replace hw1 : (0 ≤ r2.toInt ∧ r2.toInt ≤ 1) ∧ (Imp (r2.toInt = 1) (0 ≤ p0.toInt ∧ p0.toInt ≤ 4 ∧ p0.toInt < (sh 0 0).toInt)) ∧ (r2 = J_X11_isWeek sx (lS [(lI [(sh 0 0), (sh 0 1), 0, 0, 0, 0, (sh 0 6), (sh 0 7), (sh 0 8), (sh 0 9), (sh 0 10), (sh 0 11), (sh 0 12)]), (sh 1), (sh 2), (sh 3), (sh 4), (sh 5)]) p0) := hw1
  obtain ⟨w3, w4, w5⟩ := hw1
  have k7 : r2 = (J_X11_isWeek sx (lS [(lI [(sh 0 0), (sh 0 1), 0, 0, 0, 0, (sh 0 6), (sh 0 7), (sh 0 8), (sh 0 9), (sh 0 10), (sh 0 11), (sh 0 12)]), (sh 1), (sh 2), (sh 3), (sh 4), (sh 5)]) p0) := congrArg (fun z => z) w5
  have zr2 : 0 ≤ r2.toInt ∧ r2.toInt ≤ 1 := w3
  refine lv_if_ne (tgt := 10) hx hb dX11_week_5 (by decide) (fun c8 => ?_) (fun c8 => ?_)
  · have f8 : ¬ r2.toInt = 0 := f_ne rfl (by decide) c8
    have k8 : (0 ≤ p0.toInt ∧ p0.toInt ≤ 4 ∧ p0.toInt < (sh 0 0).toInt) := w4 (by omega)
    refine lv_iload_n hx hb dX11_week_10 rfl (lv_at hl 2 rfl) ?_
    by_cases c9 : p1 = 0
    · refine lv_lookup (tgt := 36) (off := 25) hx hb dX11_week_11 (by decide) (by rw [c9]; decide) (by decide) ?_
      have f9 : p1.toInt = 0 := f_eq rfl (by decide) c9
      refine lv_aload_n hx hb dX11_week_36 rfl (lv_at hl 0 rfl) ?_
      refine g_get cx hP iw_X11_week_X11 0 rfl rfl 4 (by decide) rfl fw_X11_week_39 rfl dX11_week_37 ?_
      refine g_get cx hP iw_X11_week_X4 3 rfl rfl 2 (by decide) rfl fw_X11_week_146 rfl dX11_week_40 ?_
      refine lv_iload_n hx hb dX11_week_43 rfl (lv_at hl 1 rfl) ?_
      have hn10 : vp_in p0 5 := f_in (a := p0.toInt) rfl (by omega) (by omega)
      refine va_iald hx hb cx.2.1 hP 4 0 rfl rfl hn10 dX11_week_44 (lv_topi (fun v11 e11 => ?_))
      rw [hQ]
      exact x_i cx hr () hP hD hS (show v11 = J_X11_week sx sh p0 p1 from by subst k7 e11; first | (refine Eq.symm ?_; refine Eq.trans (if_neg c8) ?_; refine Eq.trans (if_pos c9) ?_; rfl) | (unfold J_X11_week; try dsimp only; rw [if_neg c8, if_pos c9])) dX11_week_45
    by_cases c12 : p1 = 1
    · refine lv_lookup (tgt := 46) (off := 35) hx hb dX11_week_11 (by decide) (by rw [c12]; decide) (by decide) ?_
      have f12 : p1.toInt = 1 := f_eq rfl (by decide) c12
      refine lv_aload_n hx hb dX11_week_46 rfl (lv_at hl 0 rfl) ?_
      refine g_get cx hP iw_X11_week_X11 0 rfl rfl 4 (by decide) rfl fw_X11_week_39 rfl dX11_week_47 ?_
      refine g_get cx hP iw_X11_week_X4 3 rfl rfl 3 (by decide) rfl fw_X11_week_149 rfl dX11_week_50 ?_
      refine lv_iload_n hx hb dX11_week_53 rfl (lv_at hl 1 rfl) ?_
      have hn13 : vp_in p0 5 := f_in (a := p0.toInt) rfl (by omega) (by omega)
      refine va_iald hx hb cx.2.1 hP 5 0 rfl rfl hn13 dX11_week_54 (lv_topi (fun v14 e14 => ?_))
      have t14 : 0 ≤ v14.toInt ∧ v14.toInt ≤ 4 := by rw [e14]; exact h_of _
      rw [hQ]
      exact x_i cx hr () hP hD hS (show v14 = J_X11_week sx sh p0 p1 from by subst k7 e14; first | (refine Eq.symm ?_; refine Eq.trans (if_neg c8) ?_; refine Eq.trans (if_neg c9) ?_; refine Eq.trans (if_pos c12) ?_; rfl) | (unfold J_X11_week; try dsimp only; rw [if_neg c8, if_neg c9, if_pos c12])) dX11_week_55
    refine lv_lookup (tgt := 56) (off := 45) hx hb dX11_week_11 (by decide) (by show Op.lookupswitch.offset [(0, 25), (1, 35)] 45 p1.toInt = 45; rw [lv_osw c9 (by decide)]; rw [lv_osw c12 (by decide)]; rfl) (by decide) ?_
    refine lv_bipush (v := (-2)) hx hb dX11_week_56 (by decide) ?_
    have hlit15 : ((-2) : Int32).toInt = -2 := by decide
    rw [hQ]
    exact x_i cx hr () hP hD hS (show ((-2) : Int32) = J_X11_week sx sh p0 p1 from by subst k7; first | (refine Eq.symm ?_; refine Eq.trans (if_neg c8) ?_; refine Eq.trans (if_neg c9) ?_; refine Eq.trans (if_neg c12) ?_; rfl) | (unfold J_X11_week; try dsimp only; rw [if_neg c8, if_neg c9, if_neg c12])) dX11_week_58
  · have f8 : r2.toInt = 0 := f_eq rfl (by decide) c8
    refine lv_iconst (v := (-1)) hx hb dX11_week_8 (by decide) ?_
    have hlit16 : ((-1) : Int32).toInt = -1 := by decide
    rw [hQ]
    exact x_i cx hr () hP hD hS (show ((-1) : Int32) = J_X11_week sx sh p0 p1 from by subst k7; first | (refine Eq.symm ?_; refine Eq.trans (if_pos c8) ?_; rfl) | (unfold J_X11_week; try dsimp only; rw [if_pos c8])) dX11_week_9
