theorem mw_X11_work_maxL197 : Cond.methodLink RX11 197 Lib.Math.max.name ∈ wsX11_work := by decide +kernel
theorem mw_X11_work_maxS : Cond.static Lib.Math.max.name ∈ wsX11_work := by decide +kernel
theorem mw_X11_work_maxI : Cond.initialized "java/lang/Math" ∈ wsX11_work := by decide +kernel
theorem mw_X11_work_maxC : Cond.code Lib.Math.max.name Lib.Math.max.code 2 (some .int) ∈ wsX11_work := by decide +kernel
theorem fw_X11_work_39 : Cond.fieldLink RX11 39 "StillInAugust" "house" "LStillInAugust$House;" ∈ wsX11_work := by decide +kernel
theorem iw_X11_work_X11 : ∀ w ∈ u_ws RX11 TX11 17, w ∈ wsX11_work := fun _ h => List.mem_cons_of_mem _ (List.mem_append_left _ (List.mem_append_right _ h))
def J_X11_work (sx : Nat → Nat → Int32) (sh : Nat → Nat → Int32) (p0 : Int32) (p1 : Int32) (p2 : Int32) (p3 : Int32) (p4 : Int32) : Int32 := let y5 := J_X11_refuseAct sx (lS [(lI [(sh 0 0), (sh 0 1), 0, 0, 0, 0, (sh 0 6), (sh 0 7), (sh 0 8), (sh 0 9), (sh 0 10), (sh 0 11), (sh 0 12)]), (sh 1), (sh 2), (sh 3), (sh 4), (sh 5)]) p0 p1 p2 p3; if y5 = 0 then let y17 := J_X4_lack (lS [(lI [(sh 0 0), (sh 0 1), 0, 0, 0, 0, (sh 0 6), (sh 0 7), (sh 0 8), (sh 0 9), (sh 0 10), (sh 0 11), (sh 0 12)]), (sh 1), (sh 2), (sh 3), (sh 4), (sh 5)]) p0 (J_X0_done p1 p3) p2 (J_X0_taught p3); if p4 = 0 then (if 0 < y17 then y17 else 0) else (if 0 < (-y17) then (-y17) else 0) else y5
set_option maxHeartbeats 4000000 in
set_option maxRecDepth 100000 in
theorem c_X11_work (l : Launch) (D : va_G) (k : Nat → ClassId) (b : Nat → Nat) (qx : Nat → Nat) (sx : Nat → Nat → Int32) (qh : Nat → Nat) (sh : Nat → Nat → Int32) (sz : Nat) (p0 : Int32) (p1 : Int32) (p2 : Int32) (p3 : Int32) (p4 : Int32) (h_wk : 0 ≤ (sh 0 0).toInt ∧ (sh 0 0).toInt ≤ 5) (h_hk : 0 ≤ (sh 0 1).toInt ∧ (sh 0 1).toInt ≤ 4) (h_fl : 0 ≤ (sh 0 12).toInt ∧ (sh 0 12).toInt ≤ 5) (h_of : ∀ j, 0 ≤ (sh 2 j).toInt ∧ (sh 2 j).toInt ≤ 4) (h_go : ∀ j, 0 ≤ (sh 3 j).toInt ∧ (sh 3 j).toInt ≤ 5) : MetI l D k b yX11_work wsX11_work ({ frames := 5, cells := 0, slots := 0, locals := 110 } : Room) [cell30_ qx sx, cell28_ k qx sx, cell29_ k qx sx, cell31_ qx sh qh, cell0_ k qh sh, cell1_ k qh sh, cell4_ k qh sh, cell3_ k qh sh, cell2_ k qh sh] sz [.ref (qx 0), .int p0, .int p1, .int p2, .int p3, .int p4] (fun (r : Int32) (u : Unit) => r = J_X11_work sx sh p0 p1 p2 p3 p4) (fun u => [cell30_ qx sx, cell28_ k qx sx, cell29_ k qx sx, cell31_ qx sh qh, cell0_ k qh sh, cell1_ k qh sh, cell4_ k qh sh, cell3_ k qh sh, cell2_ k qh sh]) := by
  refine g_enter (cc := cX11_work) (maxL := 8) (ret := (some .int)) (by decide) rfl (Nat.le_of_ble_eq_true rfl) ?_
  intro p e s m below meth c A hsz hAe cx hr hP hD hS ls hl
  rw [hAe]
  refine g_q (fun Q hQ => ?_)
  have hx := cx.1.1
  have hb := cx.1.2.1
  have bp0 := i_rng p0
  have bp1 := i_rng p1
  have bp2 := i_rng p2
  have bp3 := i_rng p3
  have bp4 := i_rng p4
  have hl : lv_has ls 8 [(0, .ref (qx 0)), (1, .int p0), (2, .int p1), (3, .int p2), (4, .int p3), (5, .int p4)] := hl
  obtain ⟨H, eH⟩ : ∃ H : Heap, H = s.heap := ⟨_, rfl⟩
  obtain ⟨locs, el⟩ : ∃ L : List Loc, L = [] := ⟨_, rfl⟩
  have hP : va_P D vwCl [cell30_ qx sx, cell28_ k qx sx, cell29_ k qx sx, cell31_ qx sh qh, cell0_ k qh sh, cell1_ k qh sh, cell4_ k qh sh, cell3_ k qh sh, cell2_ k qh sh] H := by rw [eH]; exact hP
  have hD : va_D A [cell30_ qx sx, cell28_ k qx sx, cell29_ k qx sx, cell31_ qx sh qh, cell0_ k qh sh, cell1_ k qh sh, cell4_ k qh sh, cell3_ k qh sh, cell2_ k qh sh] := hD
  have hS : va_S A s.heap H locs := by rw [eH, el]; exact hS
  suffices goal : W p l e ({ frames := 5, cells := 0, slots := 0, locals := 110 } : Room) s m ([.ref (qx 0), .int p0, .int p1, .int p2, .int p3, .int p4] : List Value).toArray below meth c H locs 0 0 Q (F0 m 0 ls []) by rw [eH, el] at goal; exact goal
  refine lv_aload_n hx hb dX11_work_0 rfl (lv_at hl 0 rfl) ?_
  refine lv_iload_n hx hb dX11_work_1 rfl (lv_at hl 1 rfl) ?_
  refine lv_iload_n hx hb dX11_work_2 rfl (lv_at hl 2 rfl) ?_
  refine lv_iload_n hx hb dX11_work_3 rfl (lv_at hl 3 rfl) ?_
  refine lv_iload hx hb dX11_work_4 (lv_at hl 4 rfl) ?_
  refine g_iF (w1 := fun (_ : Unit) => [cell30_ qx sx, cell28_ k qx sx, cell29_ k qx sx, cell31_ qx sh qh, cell0_ k qh sh, cell1_ k qh sh, cell4_ k qh sh, cell3_ k qh sh, cell2_ k qh sh]) (g_runVF (ws := [cell30_ qx sx, cell28_ k qx sx, cell29_ k qx sx, cell31_ qx sh qh, cell0_ k qh sh, cell1_ k qh sh, cell4_ k qh sh, cell3_ k qh sh, cell2_ k qh sh]) (rest := []) cx hP hD hS [.int p0, .int p1, .int p2, .int p3] (c_X11_refuseAct l D k b qx sx (lq [0, qh 1, qh 2, qh 3, qh 4, qh 5]) (lS [(lI [(sh 0 0), (sh 0 1), 0, 0, 0, 0, (sh 0 6), (sh 0 7), (sh 0 8), (sh 0 9), (sh 0 10), (sh 0 11), (sh 0 12)]), (sh 1), (sh 2), (sh 3), (sh 4), (sh 5)]) H.size p0 p1 p2 p3 (show 0 ≤ (sh 0 0).toInt ∧ (sh 0 0).toInt ≤ 5 from by first | decide | omega) (show 0 ≤ (sh 0 1).toInt ∧ (sh 0 1).toInt ≤ 4 from by first | decide | omega) (show 0 ≤ (sh 0 12).toInt ∧ (sh 0 12).toInt ≤ 5 from by first | decide | omega) h_of h_go) gX11_work_X11_refuseAct rfl rfl rfl nd_X11_refuseAct ⟨Nat.le_of_ble_eq_true rfl, Nat.le_of_ble_eq_true rfl⟩ (ci := 9) (q0 := 0) rfl rfl rfl hl.1 rfl (Nat.le_of_ble_eq_true rfl) ⟨Nat.zero_le _, Nat.zero_le _⟩ dX11_work_6) cx.2.2.1 hD hS (fun r2 _ H locs hw1 hP hD hS => ?_)
  replace hw1 : (¬ r2.toInt = 0 ∨ (0 ≤ p0.toInt ∧ p0.toInt ≤ 4 ∧ p0.toInt < (sh 0 0).toInt ∧ (0 ≤ p1.toInt ∧ p1.toInt ≤ 400 ∧ tot p1 ≤ 4) ∧ tot p1 ≤ (sh 0 1).toInt ∧ 0 ≤ p2.toInt ∧ p2.toInt ≤ 2 ∧ 0 ≤ p3.toInt ∧ 0 ≤ (J_X0_done p1 p3).toInt ∧ (J_X0_done p1 p3).toInt ≤ 400 ∧ tot (J_X0_done p1 p3) ≤ 4)) ∧ (r2 = J_X11_refuseAct sx (lS [(lI [(sh 0 0), (sh 0 1), 0, 0, 0, 0, (sh 0 6), (sh 0 7), (sh 0 8), (sh 0 9), (sh 0 10), (sh 0 11), (sh 0 12)]), (sh 1), (sh 2), (sh 3), (sh 4), (sh 5)]) p0 p1 p2 p3) := hw1
  obtain ⟨w3, w4⟩ := hw1
  have k6 : r2 = (J_X11_refuseAct sx (lS [(lI [(sh 0 0), (sh 0 1), 0, 0, 0, 0, (sh 0 6), (sh 0 7), (sh 0 8), (sh 0 9), (sh 0 10), (sh 0 11), (sh 0 12)]), (sh 1), (sh 2), (sh 3), (sh 4), (sh 5)]) p0 p1 p2 p3) := congrArg (fun z => z) w4
  refine lv_istore (lv' := [(6, .int r2), (0, .ref (qx 0)), (1, .int p0), (2, .int p1), (3, .int p2), (4, .int p3), (5, .int p4)]) hx hb dX11_work_9 hl (by decide) rfl (fun ls hl => ?_)
  refine lv_iload hx hb dX11_work_11 (lv_at hl 0 rfl) ?_
  refine lv_if_eq (tgt := 19) hx hb dX11_work_13 (by decide) (fun c7 => ?_) (fun c7 => ?_)
  · have f7 : r2.toInt = 0 := f_eq rfl (by decide) c7
    refine lv_aload_n hx hb dX11_work_19 rfl (lv_at hl 1 rfl) ?_
    refine g_get cx hP iw_X11_work_X11 0 rfl rfl 4 (by decide) rfl fw_X11_work_39 rfl dX11_work_20 ?_
    refine lv_iload_n hx hb dX11_work_23 rfl (lv_at hl 2 rfl) ?_
    refine lv_iload_n hx hb dX11_work_24 rfl (lv_at hl 3 rfl) ?_
    refine lv_iload hx hb dX11_work_25 (lv_at hl 5 rfl) ?_
    refine g_ir (g_runS (wc := []) (rest := [.int p0, .ref (qx 7)]) cx hP hD hS [] rfl (by decide) [.int p1, .int p3] (c_X0_done l D k b H.size p1 p3) gX11_work_X0_done rfl rfl rfl nd_X0_done ⟨Nat.le_of_ble_eq_true rfl, Nat.le_of_ble_eq_true rfl⟩ rfl hl.1 rfl (Nat.le_of_ble_eq_true rfl) ⟨Nat.zero_le _, Nat.zero_le _⟩ dX11_work_27) cx.2.2.1 hP hD hS [] rfl rfl (fun r9 H locs hw8 hP hS => ?_)
    have w10 : r9 = J_X0_done p1 p3 := hw8
    clear hw8
    refine lv_iload_n hx hb dX11_work_30 rfl (lv_at hl 4 rfl) ?_
    refine lv_iload hx hb dX11_work_31 (lv_at hl 5 rfl) ?_
    refine g_ir (g_runS (wc := []) (rest := [.int p2, .int r9, .int p0, .ref (qx 7)]) cx hP hD hS [] rfl (by decide) [.int p3] (c_X0_taught l D k b H.size p3) gX11_work_X0_taught rfl rfl rfl nd_X0_taught ⟨Nat.le_of_ble_eq_true rfl, Nat.le_of_ble_eq_true rfl⟩ rfl hl.1 rfl (Nat.le_of_ble_eq_true rfl) ⟨Nat.zero_le _, Nat.zero_le _⟩ dX11_work_33) cx.2.2.1 hP hD hS [] rfl rfl (fun r12 H locs hw11 hP hS => ?_)
    have w13 : r12 = J_X0_taught p3 := hw11
    clear hw11
    refine g_ir (g_runV (wc := [cell31_ qx sh qh, cell0_ k qh sh, cell1_ k qh sh, cell4_ k qh sh, cell3_ k qh sh, cell2_ k qh sh]) (rest := []) cx hP hD hS [3, 4, 5, 6, 7, 8] rfl (by decide) [.int p0, .int r9, .int p2, .int r12] (c_X4_lack l D k b (lq [qx 7, qh 1, qh 2, qh 3, qh 4, qh 5]) (lS [(lI [(sh 0 0), (sh 0 1), 0, 0, 0, 0, (sh 0 6), (sh 0 7), (sh 0 8), (sh 0 9), (sh 0 10), (sh 0 11), (sh 0 12)]), (sh 1), (sh 2), (sh 3), (sh 4), (sh 5)]) H.size p0 r9 p2 r12 (show 0 ≤ p0.toInt ∧ p0.toInt ≤ 4 from by first | decide | omega)) gX11_work_X4_lack rfl rfl rfl nd_X4_lack ⟨Nat.le_of_ble_eq_true rfl, Nat.le_of_ble_eq_true rfl⟩ (ci := 2) (q0 := 0) rfl rfl rfl hl.1 rfl (Nat.le_of_ble_eq_true rfl) ⟨Nat.zero_le _, Nat.zero_le _⟩ dX11_work_36) cx.2.2.1 hP hD hS [3, 4, 5, 6, 7, 8] rfl rfl (fun r15 H locs hw14 hP hS => ?_)
    have w16 : r15 = J_X4_lack (lS [(lI [(sh 0 0), (sh 0 1), 0, 0, 0, 0, (sh 0 6), (sh 0 7), (sh 0 8), (sh 0 9), (sh 0 10), (sh 0 11), (sh 0 12)]), (sh 1), (sh 2), (sh 3), (sh 4), (sh 5)]) p0 r9 p2 r12 := hw14
    clear hw14
    have k18 : r15 = (J_X4_lack (lS [(lI [(sh 0 0), (sh 0 1), 0, 0, 0, 0, (sh 0 6), (sh 0 7), (sh 0 8), (sh 0 9), (sh 0 10), (sh 0 11), (sh 0 12)]), (sh 1), (sh 2), (sh 3), (sh 4), (sh 5)]) p0 r9 p2 r12) := congrArg (fun z => z) w16
    refine lv_istore (lv' := [(7, .int r15), (6, .int r2), (0, .ref (qx 0)), (1, .int p0), (2, .int p1), (3, .int p2), (4, .int p3), (5, .int p4)]) hx hb dX11_work_39 hl (by decide) rfl (fun ls hl => ?_)
    refine lv_iconst (v := 0) hx hb dX11_work_41 (by decide) ?_
    refine lv_iload hx hb dX11_work_42 (lv_at hl 7 rfl) ?_
    refine lv_if_eq (tgt := 53) hx hb dX11_work_44 (by decide) (fun c19 => ?_) (fun c19 => ?_)
    · have f19 : p4.toInt = 0 := f_eq rfl (by decide) c19
      refine lv_iload hx hb dX11_work_53 (lv_at hl 0 rfl) ?_
      refine va_mmax hx hb (cx.1.2.2.1.trans hl.1.symm) cx.1.2.2.2.1 (cx.1.2.2.2.2 _ mw_X11_work_maxL197) (cx.1.2.2.2.2 _ mw_X11_work_maxS) (cx.1.2.2.2.2 _ mw_X11_work_maxI) (cx.1.2.2.2.2 _ mw_X11_work_maxC) (Nat.le_of_ble_eq_true rfl) (Nat.le_of_ble_eq_true rfl) (Nat.zero_le _) (Nat.zero_le _) dX11_work_55 (lv_topi (fun v20 e20 => ?_))
      have t20 := i_max (by decide) rfl (a := 0) (b := r15.toInt) e20
      rw [hQ]
      exact x_i cx hr () hP hD hS (show v20 = J_X11_work sx sh p0 p1 p2 p3 p4 from by subst k6 w10 w13 k18 e20; first | (refine Eq.symm ?_; refine Eq.trans (if_pos c7) ?_; refine Eq.trans (if_pos c19) ?_; rfl) | (unfold J_X11_work; try dsimp only; rw [if_pos c7, if_pos c19])) dX11_work_58
    · have f19 : ¬ p4.toInt = 0 := f_ne rfl (by decide) c19
      refine lv_iload hx hb dX11_work_47 (lv_at hl 0 rfl) ?_
      refine lv_ineg hx hb dX11_work_49 (lv_topi (fun v21 e21 => ?_))
      refine lv_goto (tgt := 55) hx hb dX11_work_50 (by decide) ?_
      refine va_mmax hx hb (cx.1.2.2.1.trans hl.1.symm) cx.1.2.2.2.1 (cx.1.2.2.2.2 _ mw_X11_work_maxL197) (cx.1.2.2.2.2 _ mw_X11_work_maxS) (cx.1.2.2.2.2 _ mw_X11_work_maxI) (cx.1.2.2.2.2 _ mw_X11_work_maxC) (Nat.le_of_ble_eq_true rfl) (Nat.le_of_ble_eq_true rfl) (Nat.zero_le _) (Nat.zero_le _) dX11_work_55 (lv_topi (fun v22 e22 => ?_))
      have t22 := i_max (by decide) rfl (a := 0) (b := v21.toInt) e22
      rw [hQ]
      exact x_i cx hr () hP hD hS (show v22 = J_X11_work sx sh p0 p1 p2 p3 p4 from by subst k6 w10 w13 k18 e21 e22; first | (refine Eq.symm ?_; refine Eq.trans (if_pos c7) ?_; refine Eq.trans (if_neg c19) ?_; rfl) | (unfold J_X11_work; try dsimp only; rw [if_pos c7, if_neg c19])) dX11_work_58
  · have f7 : ¬ r2.toInt = 0 := f_ne rfl (by decide) c7
    refine lv_iload hx hb dX11_work_16 (lv_at hl 0 rfl) ?_
    rw [hQ]
    exact x_i cx hr () hP hD hS (show r2 = J_X11_work sx sh p0 p1 p2 p3 p4 from by subst k6; first | (refine Eq.symm ?_; refine Eq.trans (if_neg c7) ?_; rfl) | (unfold J_X11_work; try dsimp only; rw [if_neg c7])) dX11_work_18
