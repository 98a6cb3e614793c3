theorem fw_X11_refuseAct_39 : Cond.fieldLink RX11 39 "StillInAugust" "house" "LStillInAugust$House;" ∈ wsX11_refuseAct := by decide +kernel
theorem nd_X11_refuseState : yX11_refuseState.cls = RX11 ∧ yX11_refuseState.cls ≠ "java/lang/invoke/MethodHandle" ∧ yX11_refuseState.cls ≠ "java/lang/invoke/VarHandle" ∧ (parseMethodDescriptor yX11_refuseState.desc).map (fun d => d.parameters.length) = some 3 := by decide +kernel
theorem iw_X11_refuseAct_X11 : ∀ w ∈ u_ws RX11 TX11 17, w ∈ wsX11_refuseAct := fun _ h => List.mem_cons_of_mem _ (List.mem_append_left _ (List.mem_append_right _ h))
def J_X11_refuseAct (sx : Nat → Nat → Int32) (sh : Nat → Nat → Int32) (p0 : Int32) (p1 : Int32) (p2 : Int32) (p3 : Int32) : Int32 := let y5 := J_X11_refuseState sx (lS [(lI [(sh 0 0), (sh 0 1), 0, 0, 0, 0, (sh 0 6), (sh 0 7), (sh 0 8), (sh 0 9), (sh 0 10), (sh 0 11), (sh 0 12)]), (sh 1), (sh 2), (sh 3), (sh 4), (sh 5)]) p0 p1 p2; if y5 = 0 then if 0 ≤ p3 then let y14 := J_X4_allows (lS [(lI [(sh 0 0), (sh 0 1), 0, 0, 0, 0, (sh 0 6), (sh 0 7), (sh 0 8), (sh 0 9), (sh 0 10), (sh 0 11), (sh 0 12)]), (sh 1), (sh 2), (sh 3), (sh 4), (sh 5)]) p0 p1 p3; if y14 = 0 then ((-3) : Int32) else (0 : Int32) else ((-2) : Int32) else y5
set_option maxHeartbeats 4000000 in
set_option maxRecDepth 100000 in
theorem c_X11_refuseAct (l : Launch) (D : va_G) (k : Nat → ClassId) (b : Nat → Nat) (qx : Nat → Nat) (sx : Nat → Nat → Int32) (qh : Nat → Nat) (sh : Nat → Nat → Int32) (sz : Nat) (p0 : Int32) (p1 : Int32) (p2 : Int32) (p3 : Int32) (h_wk : 0 ≤ (sh 0 0).toInt ∧ (sh 0 0).toInt ≤ 5) (h_hk : 0 ≤ (sh 0 1).toInt ∧ (sh 0 1).toInt ≤ 4) (h_fl : 0 ≤ (sh 0 12).toInt ∧ (sh 0 12).toInt ≤ 5) (h_of : ∀ j, 0 ≤ (sh 2 j).toInt ∧ (sh 2 j).toInt ≤ 4) (h_go : ∀ j, 0 ≤ (sh 3 j).toInt ∧ (sh 3 j).toInt ≤ 5) : MetI l D k b yX11_refuseAct wsX11_refuseAct ({ frames := 4, cells := 0, slots := 0, locals := 85 } : Room) [cell30_ qx sx, cell28_ k qx sx, cell29_ k qx sx, cell31_ qx sh qh, cell0_ k qh sh, cell1_ k qh sh, cell4_ k qh sh, cell3_ k qh sh, cell2_ k qh sh] sz [.ref (qx 0), .int p0, .int p1, .int p2, .int p3] (fun (r : Int32) (u : Unit) => (¬ r.toInt = 0 ∨ (0 ≤ p0.toInt ∧ p0.toInt ≤ 4 ∧ p0.toInt < (sh 0 0).toInt ∧ (0 ≤ p1.toInt ∧ p1.toInt ≤ 400 ∧ tot p1 ≤ 4) ∧ tot p1 ≤ (sh 0 1).toInt ∧ 0 ≤ p2.toInt ∧ p2.toInt ≤ 2 ∧ 0 ≤ p3.toInt ∧ 0 ≤ (J_X0_done p1 p3).toInt ∧ (J_X0_done p1 p3).toInt ≤ 400 ∧ tot (J_X0_done p1 p3) ≤ 4)) ∧ (r = J_X11_refuseAct sx sh p0 p1 p2 p3)) (fun u => [cell30_ qx sx, cell28_ k qx sx, cell29_ k qx sx, cell31_ qx sh qh, cell0_ k qh sh, cell1_ k qh sh, cell4_ k qh sh, cell3_ k qh sh, cell2_ k qh sh]) := by
  refine g_enter (cc := cX11_refuseAct) (maxL := 6) (ret := (some .int)) (by decide) rfl (Nat.le_of_ble_eq_true rfl) ?_
  intro p e s m below meth c A hsz hAe cx hr hP hD hS ls hl
  rw [hAe]
  refine g_q (fun Q hQ => ?_)
  have hx := cx.1.1
  have hb := cx.1.2.1
  have bp0 := i_rng p0
  have bp1 := i_rng p1
  have bp2 := i_rng p2
  have bp3 := i_rng p3
  have hl : lv_has ls 6 [(0, .ref (qx 0)), (1, .int p0), (2, .int p1), (3, .int p2), (4, .int p3)] := hl
  obtain ⟨H, eH⟩ : ∃ H : Heap, H = s.heap := ⟨_, rfl⟩
  obtain ⟨locs, el⟩ : ∃ L : List Loc, L = [] := ⟨_, rfl⟩
  have hP : va_P D vwCl [cell30_ qx sx, cell28_ k qx sx, cell29_ k qx sx, cell31_ qx sh qh, cell0_ k qh sh, cell1_ k qh sh, cell4_ k qh sh, cell3_ k qh sh, cell2_ k qh sh] H := by rw [eH]; exact hP
  have hD : va_D A [cell30_ qx sx, cell28_ k qx sx, cell29_ k qx sx, cell31_ qx sh qh, cell0_ k qh sh, cell1_ k qh sh, cell4_ k qh sh, cell3_ k qh sh, cell2_ k qh sh] := hD
  have hS : va_S A s.heap H locs := by rw [eH, el]; exact hS
  suffices goal : W p l e ({ frames := 4, cells := 0, slots := 0, locals := 85 } : Room) s m ([.ref (qx 0), .int p0, .int p1, .int p2, .int p3] : List Value).toArray below meth c H locs 0 0 Q (F0 m 0 ls []) by rw [eH, el] at goal; exact goal
  refine lv_aload_n hx hb dX11_refuseAct_0 rfl (lv_at hl 0 rfl) ?_
  refine lv_iload_n hx hb dX11_refuseAct_1 rfl (lv_at hl 1 rfl) ?_
  refine lv_iload_n hx hb dX11_refuseAct_2 rfl (lv_at hl 2 rfl) ?_
  refine lv_iload_n hx hb dX11_refuseAct_3 rfl (lv_at hl 3 rfl) ?_
  refine g_iF (w1 := fun (_ : Unit) => [cell30_ qx sx, cell28_ k qx sx, cell29_ k qx sx, cell31_ qx sh qh, cell0_ k qh sh, cell1_ k qh sh, cell4_ k qh sh, cell3_ k qh sh, cell2_ k qh sh]) (g_runVF (ws := [cell30_ qx sx, cell28_ k qx sx, cell29_ k qx sx, cell31_ qx sh qh, cell0_ k qh sh, cell1_ k qh sh, cell4_ k qh sh, cell3_ k qh sh, cell2_ k qh sh]) (rest := []) cx hP hD hS [.int p0, .int p1, .int p2] (c_X11_refuseState l D k b qx sx (lq [0, qh 1, qh 2, qh 3, qh 4, qh 5]) (lS [(lI [(sh 0 0), (sh 0 1), 0, 0, 0, 0, (sh 0 6), (sh 0 7), (sh 0 8), (sh 0 9), (sh 0 10), (sh 0 11), (sh 0 12)]), (sh 1), (sh 2), (sh 3), (sh 4), (sh 5)]) H.size p0 p1 p2 (show 0 ≤ (sh 0 0).toInt ∧ (sh 0 0).toInt ≤ 5 from by first | decide | omega) (show 0 ≤ (sh 0 1).toInt ∧ (sh 0 1).toInt ≤ 4 from by first | decide | omega)) gX11_refuseAct_X11_refuseState rfl rfl rfl nd_X11_refuseState ⟨Nat.le_of_ble_eq_true rfl, Nat.le_of_ble_eq_true rfl⟩ (ci := 9) (q0 := 0) rfl rfl rfl hl.1 rfl (Nat.le_of_ble_eq_true rfl) ⟨Nat.zero_le _, Nat.zero_le _⟩ dX11_refuseAct_4) cx.2.2.1 hD hS (fun r2 _ H locs hw1 hP hD hS => ?_)
  replace hw1 : (¬ r2.toInt = 0 ∨ (0 ≤ p0.toInt ∧ p0.toInt ≤ 4 ∧ p0.toInt < (sh 0 0).toInt ∧ (0 ≤ p1.toInt ∧ p1.toInt ≤ 400 ∧ tot p1 ≤ 4) ∧ tot p1 ≤ (sh 0 1).toInt ∧ 0 ≤ p2.toInt ∧ p2.toInt ≤ 2)) ∧ (r2 = J_X11_refuseState sx (lS [(lI [(sh 0 0), (sh 0 1), 0, 0, 0, 0, (sh 0 6), (sh 0 7), (sh 0 8), (sh 0 9), (sh 0 10), (sh 0 11), (sh 0 12)]), (sh 1), (sh 2), (sh 3), (sh 4), (sh 5)]) p0 p1 p2) := hw1
  obtain ⟨w3, w4⟩ := hw1
  have k6 : r2 = (J_X11_refuseState sx (lS [(lI [(sh 0 0), (sh 0 1), 0, 0, 0, 0, (sh 0 6), (sh 0 7), (sh 0 8), (sh 0 9), (sh 0 10), (sh 0 11), (sh 0 12)]), (sh 1), (sh 2), (sh 3), (sh 4), (sh 5)]) p0 p1 p2) := congrArg (fun z => z) w4
  refine lv_istore (lv' := [(5, .int r2), (0, .ref (qx 0)), (1, .int p0), (2, .int p1), (3, .int p2), (4, .int p3)]) hx hb dX11_refuseAct_7 hl (by decide) rfl (fun ls hl => ?_)
  refine lv_iload hx hb dX11_refuseAct_9 (lv_at hl 0 rfl) ?_
  refine lv_if_eq (tgt := 17) hx hb dX11_refuseAct_11 (by decide) (fun c7 => ?_) (fun c7 => ?_)
  · have f7 : r2.toInt = 0 := f_eq rfl (by decide) c7
    refine lv_iload hx hb dX11_refuseAct_17 (lv_at hl 5 rfl) ?_
    refine lv_if_ge (tgt := 25) hx hb dX11_refuseAct_19 (by decide) (fun c8 => ?_) (fun c8 => ?_)
    · have f8 : 0 ≤ p3.toInt := f_le (by decide) rfl c8
      refine lv_aload_n hx hb dX11_refuseAct_25 rfl (lv_at hl 1 rfl) ?_
      refine g_get cx hP iw_X11_refuseAct_X11 0 rfl rfl 4 (by decide) rfl fw_X11_refuseAct_39 rfl dX11_refuseAct_26 ?_
      refine lv_iload_n hx hb dX11_refuseAct_29 rfl (lv_at hl 2 rfl) ?_
      refine lv_iload_n hx hb dX11_refuseAct_30 rfl (lv_at hl 3 rfl) ?_
      refine lv_iload hx hb dX11_refuseAct_31 (lv_at hl 5 rfl) ?_
      refine g_ir (g_runV (wc := [cell31_ qx sh qh, cell0_ k qh sh, cell1_ k qh sh, cell4_ k qh sh, cell3_ k qh sh, cell2_ k qh sh]) (rest := []) cx hP hD hS [3, 4, 5, 6, 7, 8] rfl (by decide) [.int p0, .int p1, .int p3] (c_X4_allows l D k b (lq [qx 7, qh 1, qh 2, qh 3, qh 4, qh 5]) (lS [(lI [(sh 0 0), (sh 0 1), 0, 0, 0, 0, (sh 0 6), (sh 0 7), (sh 0 8), (sh 0 9), (sh 0 10), (sh 0 11), (sh 0 12)]), (sh 1), (sh 2), (sh 3), (sh 4), (sh 5)]) H.size p0 p1 p3 (show 0 ≤ (sh 0 0).toInt ∧ (sh 0 0).toInt ≤ 5 from by first | decide | omega) (show 0 ≤ (sh 0 1).toInt ∧ (sh 0 1).toInt ≤ 4 from by first | decide | omega) (show 0 ≤ (sh 0 12).toInt ∧ (sh 0 12).toInt ≤ 5 from by first | decide | omega) h_of h_go (show 0 ≤ p1.toInt ∧ p1.toInt ≤ 400 ∧ tot p1 ≤ 4 from by first | decide | omega) (show 0 ≤ p3.toInt from by first | decide | omega) (show 0 ≤ p0.toInt ∧ p0.toInt ≤ 4 from by first | decide | omega)) gX11_refuseAct_X4_allows rfl rfl rfl nd_X4_allows ⟨Nat.le_of_ble_eq_true rfl, Nat.le_of_ble_eq_true rfl⟩ (ci := 2) (q0 := 0) rfl rfl rfl hl.1 rfl (Nat.le_of_ble_eq_true rfl) ⟨Nat.zero_le _, Nat.zero_le _⟩ dX11_refuseAct_33) cx.2.2.1 hP hD hS [3, 4, 5, 6, 7, 8] rfl rfl (fun r10 H locs hw9 hP hS => ?_)
      replace hw9 : (0 ≤ r10.toInt ∧ r10.toInt ≤ 1) ∧ (Imp (r10.toInt = 1) (0 ≤ (J_X0_done p1 p3).toInt ∧ (J_X0_done p1 p3).toInt ≤ 400 ∧ tot (J_X0_done p1 p3) ≤ 4)) ∧ (r10 = J_X4_allows (lS [(lI [(sh 0 0), (sh 0 1), 0, 0, 0, 0, (sh 0 6), (sh 0 7), (sh 0 8), (sh 0 9), (sh 0 10), (sh 0 11), (sh 0 12)]), (sh 1), (sh 2), (sh 3), (sh 4), (sh 5)]) p0 p1 p3) := hw9
      obtain ⟨w11, w12, w13⟩ := hw9
      have k15 : r10 = (J_X4_allows (lS [(lI [(sh 0 0), (sh 0 1), 0, 0, 0, 0, (sh 0 6), (sh 0 7), (sh 0 8), (sh 0 9), (sh 0 10), (sh 0 11), (sh 0 12)]), (sh 1), (sh 2), (sh 3), (sh 4), (sh 5)]) p0 p1 p3) := congrArg (fun z => z) w13
      have zr10 : 0 ≤ r10.toInt ∧ r10.toInt ≤ 1 := w11
      refine lv_if_eq (tgt := 43) hx hb dX11_refuseAct_36 (by decide) (fun c16 => ?_) (fun c16 => ?_)
      · have f16 : r10.toInt = 0 := f_eq rfl (by decide) c16
        refine lv_bipush (v := (-3)) hx hb dX11_refuseAct_43 (by decide) ?_
        have hlit17 : ((-3) : Int32).toInt = -3 := by decide
        rw [hQ]
        exact x_i cx hr () hP hD hS ⟨(show ¬ ((-3) : Int32).toInt = 0 ∨ (0 ≤ p0.toInt ∧ p0.toInt ≤ 4 ∧ p0.toInt < (sh 0 0).toInt ∧ (0 ≤ p1.toInt ∧ p1.toInt ≤ 400 ∧ tot p1 ≤ 4) ∧ tot p1 ≤ (sh 0 1).toInt ∧ 0 ≤ p2.toInt ∧ p2.toInt ≤ 2 ∧ 0 ≤ p3.toInt ∧ 0 ≤ (J_X0_done p1 p3).toInt ∧ (J_X0_done p1 p3).toInt ≤ 400 ∧ tot (J_X0_done p1 p3) ≤ 4) from by omega), (show ((-3) : Int32) = J_X11_refuseAct sx sh p0 p1 p2 p3 from by subst k6 k15; first | (refine Eq.symm ?_; refine Eq.trans (if_pos c7) ?_; refine Eq.trans (if_pos c8) ?_; refine Eq.trans (if_pos c16) ?_; rfl) | (unfold J_X11_refuseAct; try dsimp only; rw [if_pos c7, if_pos c8, if_pos c16]))⟩ dX11_refuseAct_45
      · have f16 : ¬ r10.toInt = 0 := f_ne rfl (by decide) c16
        have k16 : (0 ≤ (J_X0_done p1 p3).toInt ∧ (J_X0_done p1 p3).toInt ≤ 400 ∧ tot (J_X0_done p1 p3) ≤ 4) := w12 (by omega)
        refine lv_iconst (v := 0) hx hb dX11_refuseAct_39 (by decide) ?_
        refine lv_goto (tgt := 45) hx hb dX11_refuseAct_40 (by decide) ?_
        have hlit18 : (0 : Int32).toInt = 0 := by decide
        rw [hQ]
        exact x_i cx hr () hP hD hS ⟨(show ¬ (0 : Int32).toInt = 0 ∨ (0 ≤ p0.toInt ∧ p0.toInt ≤ 4 ∧ p0.toInt < (sh 0 0).toInt ∧ (0 ≤ p1.toInt ∧ p1.toInt ≤ 400 ∧ tot p1 ≤ 4) ∧ tot p1 ≤ (sh 0 1).toInt ∧ 0 ≤ p2.toInt ∧ p2.toInt ≤ 2 ∧ 0 ≤ p3.toInt ∧ 0 ≤ (J_X0_done p1 p3).toInt ∧ (J_X0_done p1 p3).toInt ≤ 400 ∧ tot (J_X0_done p1 p3) ≤ 4) from by omega), (show (0 : Int32) = J_X11_refuseAct sx sh p0 p1 p2 p3 from by subst k6 k15; first | (refine Eq.symm ?_; refine Eq.trans (if_pos c7) ?_; refine Eq.trans (if_pos c8) ?_; refine Eq.trans (if_neg c16) ?_; rfl) | (unfold J_X11_refuseAct; try dsimp only; rw [if_pos c7, if_pos c8, if_neg c16]))⟩ dX11_refuseAct_45
    · have f8 : p3.toInt < 0 := f_nle (by decide) rfl c8
      refine lv_bipush (v := (-2)) hx hb dX11_refuseAct_22 (by decide) ?_
      have hlit19 : ((-2) : Int32).toInt = -2 := by decide
      rw [hQ]
      exact x_i cx hr () hP hD hS ⟨(show ¬ ((-2) : Int32).toInt = 0 ∨ (0 ≤ p0.toInt ∧ p0.toInt ≤ 4 ∧ p0.toInt < (sh 0 0).toInt ∧ (0 ≤ p1.toInt ∧ p1.toInt ≤ 400 ∧ tot p1 ≤ 4) ∧ tot p1 ≤ (sh 0 1).toInt ∧ 0 ≤ p2.toInt ∧ p2.toInt ≤ 2 ∧ 0 ≤ p3.toInt ∧ 0 ≤ (J_X0_done p1 p3).toInt ∧ (J_X0_done p1 p3).toInt ≤ 400 ∧ tot (J_X0_done p1 p3) ≤ 4) from by omega), (show ((-2) : Int32) = J_X11_refuseAct sx sh p0 p1 p2 p3 from by subst k6; first | (refine Eq.symm ?_; refine Eq.trans (if_pos c7) ?_; refine Eq.trans (if_neg c8) ?_; rfl) | (unfold J_X11_refuseAct; try dsimp only; rw [if_pos c7, if_neg c8]))⟩ dX11_refuseAct_24
  · have f7 : ¬ r2.toInt = 0 := f_ne rfl (by decide) c7
    refine lv_iload hx hb dX11_refuseAct_14 (lv_at hl 0 rfl) ?_
    rw [hQ]
    exact x_i cx hr () hP hD hS ⟨(show ¬ r2.toInt = 0 ∨ (0 ≤ p0.toInt ∧ p0.toInt ≤ 4 ∧ p0.toInt < (sh 0 0).toInt ∧ (0 ≤ p1.toInt ∧ p1.toInt ≤ 400 ∧ tot p1 ≤ 4) ∧ tot p1 ≤ (sh 0 1).toInt ∧ 0 ≤ p2.toInt ∧ p2.toInt ≤ 2 ∧ 0 ≤ p3.toInt ∧ 0 ≤ (J_X0_done p1 p3).toInt ∧ (J_X0_done p1 p3).toInt ≤ 400 ∧ tot (J_X0_done p1 p3) ≤ 4) from by omega), (show r2 = J_X11_refuseAct sx sh p0 p1 p2 p3 from by subst k6; first | (refine Eq.symm ?_; refine Eq.trans (if_neg c7) ?_; rfl) | (unfold J_X11_refuseAct; try dsimp only; rw [if_neg c7]))⟩ dX11_refuseAct_16
