theorem fw_X11_aged_155 : Cond.fieldLink RX11 155 "StillInAugust$House" "does" "[I" ∈ wsX11_aged := by decide +kernel
theorem fw_X11_aged_39 : Cond.fieldLink RX11 39 "StillInAugust" "house" "LStillInAugust$House;" ∈ wsX11_aged := by decide +kernel
theorem iw_X11_aged_X11 : ∀ w ∈ u_ws RX11 TX11 17, w ∈ wsX11_aged := fun _ h => List.mem_cons_of_mem _ (List.mem_append_left _ (List.mem_append_right _ h))
theorem iw_X11_aged_X4 : ∀ w ∈ u_ws RX4 TX4 14, w ∈ wsX11_aged := fun _ h => List.mem_cons_of_mem _ (List.mem_append_right _ h)
def J_X11_aged (sx : Nat → Nat → Int32) (sh : Nat → Nat → Int32) (p0 : Int32) (p1 : Int32) : Int32 := if p0 < 0 then ((-2) : Int32) else if p0 < 3 then if p1 = 0 then let y9 := J_X4_fifths (lS [(lI [(sh 0 0), (sh 0 1), 0, 0, 0, 0, (sh 0 6), (sh 0 7), (sh 0 8), (sh 0 9), (sh 0 10), (sh 0 11), (sh 0 12)]), (sh 1), (sh 2), (sh 3), (sh 4), (sh 5)]) p0; y9 else if p1 = 1 then ((sh 4) (p0).toNatClampNeg) else ((-2) : Int32) else ((-2) : Int32)
set_option maxHeartbeats 4000000 in
set_option maxRecDepth 100000 in
theorem c_X11_aged (l : Launch) (D : va_G) (k : Nat → ClassId) (b : Nat → Nat) (qx : Nat → Nat) (sx : Nat → Nat → Int32) (qh : Nat → Nat) (sh : Nat → Nat → Int32) (sz : Nat) (p0 : Int32) (p1 : Int32) (h_wk : 0 ≤ (sh 0 0).toInt ∧ (sh 0 0).toInt ≤ 5) (h_hk : 0 ≤ (sh 0 1).toInt ∧ (sh 0 1).toInt ≤ 4) (h_fl : 0 ≤ (sh 0 12).toInt ∧ (sh 0 12).toInt ≤ 5) (h_of : ∀ j, 0 ≤ (sh 2 j).toInt ∧ (sh 2 j).toInt ≤ 4) (h_go : ∀ j, 0 ≤ (sh 3 j).toInt ∧ (sh 3 j).toInt ≤ 5) : MetI l D k b yX11_aged wsX11_aged ({ frames := 2, cells := 0, slots := 0, locals := 42 } : Room) [cell30_ qx sx, cell28_ k qx sx, cell29_ k qx sx, cell31_ qx sh qh, cell0_ k qh sh, cell1_ k qh sh, cell4_ k qh sh, cell3_ k qh sh, cell2_ k qh sh] sz [.ref (qx 0), .int p0, .int p1] (fun (r : Int32) (u : Unit) => r = J_X11_aged sx sh p0 p1) (fun u => [cell30_ qx sx, cell28_ k qx sx, cell29_ k qx sx, cell31_ qx sh qh, cell0_ k qh sh, cell1_ k qh sh, cell4_ k qh sh, cell3_ k qh sh, cell2_ k qh sh]) := by
  refine g_enter (cc := cX11_aged) (maxL := 3) (ret := (some .int)) (by decide) rfl (Nat.le_of_ble_eq_true rfl) ?_
  intro p e s m below meth c A hsz hAe cx hr hP hD hS ls hl
  rw [hAe]
  refine g_q (fun Q hQ => ?_)
  have hx := cx.1.1
  have hb := cx.1.2.1
  have bp0 := i_rng p0
  have bp1 := i_rng p1
  have hl : lv_has ls 3 [(0, .ref (qx 0)), (1, .int p0), (2, .int p1)] := hl
  obtain ⟨H, eH⟩ : ∃ H : Heap, H = s.heap := ⟨_, rfl⟩
  obtain ⟨locs, el⟩ : ∃ L : List Loc, L = [] := ⟨_, rfl⟩
  have hP : va_P D vwCl [cell30_ qx sx, cell28_ k qx sx, cell29_ k qx sx, cell31_ qx sh qh, cell0_ k qh sh, cell1_ k qh sh, cell4_ k qh sh, cell3_ k qh sh, cell2_ k qh sh] H := by rw [eH]; exact hP
  have hD : va_D A [cell30_ qx sx, cell28_ k qx sx, cell29_ k qx sx, cell31_ qx sh qh, cell0_ k qh sh, cell1_ k qh sh, cell4_ k qh sh, cell3_ k qh sh, cell2_ k qh sh] := hD
  have hS : va_S A s.heap H locs := by rw [eH, el]; exact hS
  suffices goal : W p l e ({ frames := 2, cells := 0, slots := 0, locals := 42 } : Room) s m ([.ref (qx 0), .int p0, .int p1] : List Value).toArray below meth c H locs 0 0 Q (F0 m 0 ls []) by rw [eH, el] at goal; exact goal
  refine lv_iload_n hx hb dX11_aged_0 rfl (lv_at hl 1 rfl) ?_
  refine lv_if_lt (tgt := 9) hx hb dX11_aged_1 (by decide) (fun c1 => ?_) (fun c1 => ?_)
  · have f1 : p0.toInt < 0 := f_lt rfl (by decide) c1
    refine lv_bipush (v := (-2)) hx hb dX11_aged_9 (by decide) ?_
    have hlit2 : ((-2) : Int32).toInt = -2 := by decide
    rw [hQ]
    exact x_i cx hr () hP hD hS (show ((-2) : Int32) = J_X11_aged sx sh p0 p1 from by first | (refine Eq.symm ?_; refine Eq.trans (if_pos c1) ?_; rfl) | (unfold J_X11_aged; try dsimp only; rw [if_pos c1])) dX11_aged_11
  · have f1 : 0 ≤ p0.toInt := f_nlt rfl (by decide) c1
    refine lv_iload_n hx hb dX11_aged_4 rfl (lv_at hl 1 rfl) ?_
    refine lv_iconst (v := 3) hx hb dX11_aged_5 (by decide) ?_
    refine lv_icmp_lt (tgt := 12) hx hb dX11_aged_6 (by decide) (fun c3 => ?_) (fun c3 => ?_)
    · have f3 : p0.toInt < 3 := f_lt rfl (by decide) c3
      refine lv_iload_n hx hb dX11_aged_12 rfl (lv_at hl 2 rfl) ?_
      by_cases c4 : p1 = 0
      · refine lv_lookup (tgt := 40) (off := 27) hx hb dX11_aged_13 (by decide) (by rw [c4]; decide) (by decide) ?_
        have f4 : p1.toInt = 0 := f_eq rfl (by decide) c4
        refine lv_aload_n hx hb dX11_aged_40 rfl (lv_at hl 0 rfl) ?_
        refine g_get cx hP iw_X11_aged_X11 0 rfl rfl 4 (by decide) rfl fw_X11_aged_39 rfl dX11_aged_41 ?_
        refine lv_iload_n hx hb dX11_aged_44 rfl (lv_at hl 1 rfl) ?_
        refine g_ir (g_runV (wc := [cell31_ qx sh qh, cell0_ k qh sh, cell1_ k qh sh, cell4_ k qh sh, cell3_ k qh sh, cell2_ k qh sh]) (rest := []) cx hP hD hS [3, 4, 5, 6, 7, 8] rfl (by decide) [.int p0] (c_X4_fifths l D k b (lq [qx 7, qh 1, qh 2, qh 3, qh 4, qh 5]) (lS [(lI [(sh 0 0), (sh 0 1), 0, 0, 0, 0, (sh 0 6), (sh 0 7), (sh 0 8), (sh 0 9), (sh 0 10), (sh 0 11), (sh 0 12)]), (sh 1), (sh 2), (sh 3), (sh 4), (sh 5)]) H.size p0 (show 0 ≤ (sh 0 12).toInt ∧ (sh 0 12).toInt ≤ 5 from by first | decide | omega) h_go (show 0 ≤ p0.toInt ∧ p0.toInt ≤ 2 from by first | decide | omega)) gX11_aged_X4_fifths rfl rfl rfl nd_X4_fifths ⟨Nat.le_of_ble_eq_true rfl, Nat.le_of_ble_eq_true rfl⟩ (ci := 2) (q0 := 0) rfl rfl rfl hl.1 rfl (Nat.le_of_ble_eq_true rfl) ⟨Nat.zero_le _, Nat.zero_le _⟩ dX11_aged_45) cx.2.2.1 hP hD hS [3, 4, 5, 6, 7, 8] rfl rfl (fun r6 H locs hw5 hP hS => ?_)
        replace hw5 : (0 ≤ r6.toInt ∧ r6.toInt ≤ 5) ∧ (r6 = J_X4_fifths (lS [(lI [(sh 0 0), (sh 0 1), 0, 0, 0, 0, (sh 0 6), (sh 0 7), (sh 0 8), (sh 0 9), (sh 0 10), (sh 0 11), (sh 0 12)]), (sh 1), (sh 2), (sh 3), (sh 4), (sh 5)]) p0) := hw5
        obtain ⟨w7, w8⟩ := hw5
        have k10 : r6 = (J_X4_fifths (lS [(lI [(sh 0 0), (sh 0 1), 0, 0, 0, 0, (sh 0 6), (sh 0 7), (sh 0 8), (sh 0 9), (sh 0 10), (sh 0 11), (sh 0 12)]), (sh 1), (sh 2), (sh 3), (sh 4), (sh 5)]) p0) := congrArg (fun z => z) w8
        rw [hQ]
        exact x_i cx hr () hP hD hS (show r6 = J_X11_aged sx sh p0 p1 from by subst k10; first | (refine Eq.symm ?_; refine Eq.trans (if_neg c1) ?_; refine Eq.trans (if_pos c3) ?_; refine Eq.trans (if_pos c4) ?_; rfl) | (unfold J_X11_aged; try dsimp only; rw [if_neg c1, if_pos c3, if_pos c4])) dX11_aged_48
      by_cases c11 : p1 = 1
      · refine lv_lookup (tgt := 49) (off := 36) hx hb dX11_aged_13 (by decide) (by rw [c11]; decide) (by decide) ?_
        have f11 : p1.toInt = 1 := f_eq rfl (by decide) c11
        refine lv_aload_n hx hb dX11_aged_49 rfl (lv_at hl 0 rfl) ?_
        refine g_get cx hP iw_X11_aged_X11 0 rfl rfl 4 (by decide) rfl fw_X11_aged_39 rfl dX11_aged_50 ?_
        refine g_get cx hP iw_X11_aged_X4 3 rfl rfl 5 (by decide) rfl fw_X11_aged_155 rfl dX11_aged_53 ?_
        refine lv_iload_n hx hb dX11_aged_56 rfl (lv_at hl 1 rfl) ?_
        have hn12 : vp_in p0 3 := f_in (a := p0.toInt) rfl (by omega) (by omega)
        refine va_iald hx hb cx.2.1 hP 7 0 rfl rfl hn12 dX11_aged_57 (lv_topi (fun v13 e13 => ?_))
        rw [hQ]
        exact x_i cx hr () hP hD hS (show v13 = J_X11_aged sx sh p0 p1 from by subst e13; first | (refine Eq.symm ?_; refine Eq.trans (if_neg c1) ?_; refine Eq.trans (if_pos c3) ?_; refine Eq.trans (if_neg c4) ?_; refine Eq.trans (if_pos c11) ?_; rfl) | (unfold J_X11_aged; try dsimp only; rw [if_neg c1, if_pos c3, if_neg c4, if_pos c11])) dX11_aged_58
      refine lv_lookup (tgt := 59) (off := 46) hx hb dX11_aged_13 (by decide) (by show Op.lookupswitch.offset [(0, 27), (1, 36)] 46 p1.toInt = 46; rw [lv_osw c4 (by decide)]; rw [lv_osw c11 (by decide)]; rfl) (by decide) ?_
      refine lv_bipush (v := (-2)) hx hb dX11_aged_59 (by decide) ?_
      have hlit14 : ((-2) : Int32).toInt = -2 := by decide
      rw [hQ]
      exact x_i cx hr () hP hD hS (show ((-2) : Int32) = J_X11_aged sx sh p0 p1 from by first | (refine Eq.symm ?_; refine Eq.trans (if_neg c1) ?_; refine Eq.trans (if_pos c3) ?_; refine Eq.trans (if_neg c4) ?_; refine Eq.trans (if_neg c11) ?_; rfl) | (unfold J_X11_aged; try dsimp only; rw [if_neg c1, if_pos c3, if_neg c4, if_neg c11])) dX11_aged_61
    · have f3 : 3 ≤ p0.toInt := f_nlt rfl (by decide) c3
      refine lv_bipush (v := (-2)) hx hb dX11_aged_9 (by decide) ?_
      have hlit15 : ((-2) : Int32).toInt = -2 := by decide
      rw [hQ]
      exact x_i cx hr () hP hD hS (show ((-2) : Int32) = J_X11_aged sx sh p0 p1 from by first | (refine Eq.symm ?_; refine Eq.trans (if_neg c1) ?_; refine Eq.trans (if_neg c3) ?_; rfl) | (unfold J_X11_aged; try dsimp only; rw [if_neg c1, if_neg c3])) dX11_aged_11
