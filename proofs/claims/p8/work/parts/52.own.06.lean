theorem fw_X11_refuseState_39 : Cond.fieldLink RX11 39 "StillInAugust" "house" "LStillInAugust$House;" ∈ wsX11_refuseState := by decide +kernel
theorem nd_X11_isHands : yX11_isHands.cls = RX11 ∧ yX11_isHands.cls ≠ "java/lang/invoke/MethodHandle" ∧ yX11_isHands.cls ≠ "java/lang/invoke/VarHandle" ∧ (parseMethodDescriptor yX11_isHands.desc).map (fun d => d.parameters.length) = some 1 := by decide +kernel
theorem nd_X11_isWeek : yX11_isWeek.cls = RX11 ∧ yX11_isWeek.cls ≠ "java/lang/invoke/MethodHandle" ∧ yX11_isWeek.cls ≠ "java/lang/invoke/VarHandle" ∧ (parseMethodDescriptor yX11_isWeek.desc).map (fun d => d.parameters.length) = some 1 := by decide +kernel
theorem iw_X11_refuseState_X11 : ∀ w ∈ u_ws RX11 TX11 17, w ∈ wsX11_refuseState := fun _ h => List.mem_cons_of_mem _ (List.mem_append_left _ (List.mem_append_right _ h))
def J_X11_refuseState (sx : Nat → Nat → Int32) (sh : Nat → Nat → Int32) (p0 : Int32) (p1 : Int32) (p2 : Int32) : Int32 := let y6 := J_X11_isWeek sx (lS [(lI [(sh 0 0), (sh 0 1), 0, 0, 0, 0, (sh 0 6), (sh 0 7), (sh 0 8), (sh 0 9), (sh 0 10), (sh 0 11), (sh 0 12)]), (sh 1), (sh 2), (sh 3), (sh 4), (sh 5)]) p0; if y6 = 0 then ((-1) : Int32) else let y14 := J_X11_isHands sx (lS [(lI [(sh 0 0), (sh 0 1), 0, 0, 0, 0, (sh 0 6), (sh 0 7), (sh 0 8), (sh 0 9), (sh 0 10), (sh 0 11), (sh 0 12)]), (sh 1), (sh 2), (sh 3), (sh 4), (sh 5)]) p1; if y14 = 0 then ((-2) : Int32) else if p2 < 0 then ((-2) : Int32) else let y24 := J_X4_mostComing (lS [(lI [(sh 0 0), (sh 0 1), 0, 0, 0, 0, (sh 0 6), (sh 0 7), (sh 0 8), (sh 0 9), (sh 0 10), (sh 0 11), (sh 0 12)]), (sh 1), (sh 2), (sh 3), (sh 4), (sh 5)]); if p2 ≤ y24 then (0 : Int32) else ((-2) : Int32)
set_option maxHeartbeats 4000000 in
set_option maxRecDepth 100000 in
theorem c_X11_refuseState (l : Launch) (D : va_G) (k : Nat → ClassId) (b : Nat → Nat) (qx : Nat → Nat) (sx : Nat → Nat → Int32) (qh : Nat → Nat) (sh : Nat → Nat → Int32) (sz : Nat) (p0 : Int32) (p1 : Int32) (p2 : Int32) (h_wk : 0 ≤ (sh 0 0).toInt ∧ (sh 0 0).toInt ≤ 5) (h_hk : 0 ≤ (sh 0 1).toInt ∧ (sh 0 1).toInt ≤ 4) : MetI l D k b yX11_refuseState wsX11_refuseState ({ frames := 3, cells := 0, slots := 0, locals := 62 } : Room) [cell30_ qx sx, cell28_ k qx sx, cell29_ k qx sx, cell31_ qx sh qh, cell0_ k qh sh, cell1_ k qh sh, cell4_ k qh sh, cell3_ k qh sh, cell2_ k qh sh] sz [.ref (qx 0), .int p0, .int p1, .int p2] (fun (r : Int32) (u : Unit) => (¬ r.toInt = 0 ∨ (0 ≤ p0.toInt ∧ p0.toInt ≤ 4 ∧ p0.toInt < (sh 0 0).toInt ∧ (0 ≤ p1.toInt ∧ p1.toInt ≤ 400 ∧ tot p1 ≤ 4) ∧ tot p1 ≤ (sh 0 1).toInt ∧ 0 ≤ p2.toInt ∧ p2.toInt ≤ 2)) ∧ (r = J_X11_refuseState sx sh p0 p1 p2)) (fun u => [cell30_ qx sx, cell28_ k qx sx, cell29_ k qx sx, cell31_ qx sh qh, cell0_ k qh sh, cell1_ k qh sh, cell4_ k qh sh, cell3_ k qh sh, cell2_ k qh sh]) := by
  refine g_enter (cc := cX11_refuseState) (maxL := 4) (ret := (some .int)) (by decide) rfl (Nat.le_of_ble_eq_true rfl) ?_
  intro p e s m below meth c A hsz hAe cx hr hP hD hS ls hl
  rw [hAe]
  refine g_q (fun Q hQ => ?_)
  have hx := cx.1.1
  have hb := cx.1.2.1
  have bp0 := i_rng p0
  have bp1 := i_rng p1
  have bp2 := i_rng p2
  have hl : lv_has ls 4 [(0, .ref (qx 0)), (1, .int p0), (2, .int p1), (3, .int p2)] := hl
  obtain ⟨H, eH⟩ : ∃ H : Heap, H = s.heap := ⟨_, rfl⟩
  obtain ⟨locs, el⟩ : ∃ L : List Loc, L = [] := ⟨_, rfl⟩
  have hP : va_P D vwCl [cell30_ qx sx, cell28_ k qx sx, cell29_ k qx sx, cell31_ qx sh qh, cell0_ k qh sh, cell1_ k qh sh, cell4_ k qh sh, cell3_ k qh sh, cell2_ k qh sh] H := by rw [eH]; exact hP
  have hD : va_D A [cell30_ qx sx, cell28_ k qx sx, cell29_ k qx sx, cell31_ qx sh qh, cell0_ k qh sh, cell1_ k qh sh, cell4_ k qh sh, cell3_ k qh sh, cell2_ k qh sh] := hD
  have hS : va_S A s.heap H locs := by rw [eH, el]; exact hS
  suffices goal : W p l e ({ frames := 3, cells := 0, slots := 0, locals := 62 } : Room) s m ([.ref (qx 0), .int p0, .int p1, .int p2] : List Value).toArray below meth c H locs 0 0 Q (F0 m 0 ls []) by rw [eH, el] at goal; exact goal
  refine lv_aload_n hx hb dX11_refuseState_0 rfl (lv_at hl 0 rfl) ?_
  refine lv_iload_n hx hb dX11_refuseState_1 rfl (lv_at hl 1 rfl) ?_
  refine g_iF (w1 := fun (_ : Unit) => [cell30_ qx sx, cell28_ k qx sx, cell29_ k qx sx, cell31_ qx sh qh, cell0_ k qh sh, cell1_ k qh sh, cell4_ k qh sh, cell3_ k qh sh, cell2_ k qh sh]) (g_runVF (ws := [cell30_ qx sx, cell28_ k qx sx, cell29_ k qx sx, cell31_ qx sh qh, cell0_ k qh sh, cell1_ k qh sh, cell4_ k qh sh, cell3_ k qh sh, cell2_ k qh sh]) (rest := []) cx hP hD hS [.int p0] (c_X11_isWeek l D k b qx sx (lq [0, qh 1, qh 2, qh 3, qh 4, qh 5]) (lS [(lI [(sh 0 0), (sh 0 1), 0, 0, 0, 0, (sh 0 6), (sh 0 7), (sh 0 8), (sh 0 9), (sh 0 10), (sh 0 11), (sh 0 12)]), (sh 1), (sh 2), (sh 3), (sh 4), (sh 5)]) H.size p0 (show 0 ≤ (sh 0 0).toInt ∧ (sh 0 0).toInt ≤ 5 from by first | decide | omega)) gX11_refuseState_X11_isWeek rfl rfl rfl nd_X11_isWeek ⟨Nat.le_of_ble_eq_true rfl, Nat.le_of_ble_eq_true rfl⟩ (ci := 9) (q0 := 0) rfl rfl rfl hl.1 rfl (Nat.le_of_ble_eq_true rfl) ⟨Nat.zero_le _, Nat.zero_le _⟩ dX11_refuseState_2) cx.2.2.1 hD hS (fun r2 _ H locs hw1 hP hD hS => ?_)
  replace hw1 : (0 ≤ r2.toInt ∧ r2.toInt ≤ 1) ∧ (Imp (r2.toInt = 1) (0 ≤ p0.toInt ∧ p0.toInt ≤ 4 ∧ p0.toInt < (sh 0 0).toInt)) ∧ (r2 = J_X11_isWeek sx (lS [(lI [(sh 0 0), (sh 0 1), 0, 0, 0, 0, (sh 0 6), (sh 0 7), (sh 0 8), (sh 0 9), (sh 0 10), (sh 0 11), (sh 0 12)]), (sh 1), (sh 2), (sh 3), (sh 4), (sh 5)]) p0) := hw1
  obtain ⟨w3, w4, w5⟩ := hw1
  have k7 : r2 = (J_X11_isWeek sx (lS [(lI [(sh 0 0), (sh 0 1), 0, 0, 0, 0, (sh 0 6), (sh 0 7), (sh 0 8), (sh 0 9), (sh 0 10), (sh 0 11), (sh 0 12)]), (sh 1), (sh 2), (sh 3), (sh 4), (sh 5)]) p0) := congrArg (fun z => z) w5
  have zr2 : 0 ≤ r2.toInt ∧ r2.toInt ≤ 1 := w3
  refine lv_if_ne (tgt := 10) hx hb dX11_refuseState_5 (by decide) (fun c8 => ?_) (fun c8 => ?_)
  · have f8 : ¬ r2.toInt = 0 := f_ne rfl (by decide) c8
    have k8 : (0 ≤ p0.toInt ∧ p0.toInt ≤ 4 ∧ p0.toInt < (sh 0 0).toInt) := w4 (by omega)
    refine lv_aload_n hx hb dX11_refuseState_10 rfl (lv_at hl 0 rfl) ?_
    refine lv_iload_n hx hb dX11_refuseState_11 rfl (lv_at hl 2 rfl) ?_
    refine g_iF (w1 := fun (_ : Unit) => [cell30_ qx sx, cell28_ k qx sx, cell29_ k qx sx, cell31_ qx sh qh, cell0_ k qh sh, cell1_ k qh sh, cell4_ k qh sh, cell3_ k qh sh, cell2_ k qh sh]) (g_runVF (ws := [cell30_ qx sx, cell28_ k qx sx, cell29_ k qx sx, cell31_ qx sh qh, cell0_ k qh sh, cell1_ k qh sh, cell4_ k qh sh, cell3_ k qh sh, cell2_ k qh sh]) (rest := []) cx hP hD hS [.int p1] (c_X11_isHands l D k b qx sx (lq [0, qh 1, qh 2, qh 3, qh 4, qh 5]) (lS [(lI [(sh 0 0), (sh 0 1), 0, 0, 0, 0, (sh 0 6), (sh 0 7), (sh 0 8), (sh 0 9), (sh 0 10), (sh 0 11), (sh 0 12)]), (sh 1), (sh 2), (sh 3), (sh 4), (sh 5)]) H.size p1 (show 0 ≤ (sh 0 1).toInt ∧ (sh 0 1).toInt ≤ 4 from by first | decide | omega)) gX11_refuseState_X11_isHands rfl rfl rfl nd_X11_isHands ⟨Nat.le_of_ble_eq_true rfl, Nat.le_of_ble_eq_true rfl⟩ (ci := 9) (q0 := 0) rfl rfl rfl hl.1 rfl (Nat.le_of_ble_eq_true rfl) ⟨Nat.zero_le _, Nat.zero_le _⟩ dX11_refuseState_12) cx.2.2.1 hD hS (fun r10 _ H locs hw9 hP hD hS => ?_)
    replace hw9 : (0 ≤ r10.toInt ∧ r10.toInt ≤ 1) ∧ (Imp (r10.toInt = 1) ((0 ≤ p1.toInt ∧ p1.toInt ≤ 400 ∧ tot p1 ≤ 4) ∧ tot p1 ≤ (sh 0 1).toInt)) ∧ (r10 = J_X11_isHands sx (lS [(lI [(sh 0 0), (sh 0 1), 0, 0, 0, 0, (sh 0 6), (sh 0 7), (sh 0 8), (sh 0 9), (sh 0 10), (sh 0 11), (sh 0 12)]), (sh 1), (sh 2), (sh 3), (sh 4), (sh 5)]) p1) := hw9
    obtain ⟨w11, w12, w13⟩ := hw9
    have k15 : r10 = (J_X11_isHands sx (lS [(lI [(sh 0 0), (sh 0 1), 0, 0, 0, 0, (sh 0 6), (sh 0 7), (sh 0 8), (sh 0 9), (sh 0 10), (sh 0 11), (sh 0 12)]), (sh 1), (sh 2), (sh 3), (sh 4), (sh 5)]) p1) := congrArg (fun z => z) w13
    have zr10 : 0 ≤ r10.toInt ∧ r10.toInt ≤ 1 := w11
    refine lv_if_eq (tgt := 33) hx hb dX11_refuseState_15 (by decide) (fun c16 => ?_) (fun c16 => ?_)
    · have f16 : r10.toInt = 0 := f_eq rfl (by decide) c16
      refine lv_bipush (v := (-2)) hx hb dX11_refuseState_33 (by decide) ?_
      have hlit17 : ((-2) : Int32).toInt = -2 := by decide
      rw [hQ]
      exact x_i cx hr () hP hD hS ⟨(show ¬ ((-2) : Int32).toInt = 0 ∨ (0 ≤ p0.toInt ∧ p0.toInt ≤ 4 ∧ p0.toInt < (sh 0 0).toInt ∧ (0 ≤ p1.toInt ∧ p1.toInt ≤ 400 ∧ tot p1 ≤ 4) ∧ tot p1 ≤ (sh 0 1).toInt ∧ 0 ≤ p2.toInt ∧ p2.toInt ≤ 2) from by omega), (show ((-2) : Int32) = J_X11_refuseState sx sh p0 p1 p2 from by subst k7 k15; first | (refine Eq.symm ?_; refine Eq.trans (if_neg c8) ?_; refine Eq.trans (if_pos c16) ?_; rfl) | (unfold J_X11_refuseState; try dsimp only; rw [if_neg c8, if_pos c16]))⟩ dX11_refuseState_35
    · have f16 : ¬ r10.toInt = 0 := f_ne rfl (by decide) c16
      have k16 : ((0 ≤ p1.toInt ∧ p1.toInt ≤ 400 ∧ tot p1 ≤ 4) ∧ tot p1 ≤ (sh 0 1).toInt) := w12 (by omega)
      refine lv_iload_n hx hb dX11_refuseState_18 rfl (lv_at hl 3 rfl) ?_
      refine lv_if_lt (tgt := 33) hx hb dX11_refuseState_19 (by decide) (fun c18 => ?_) (fun c18 => ?_)
      · have f18 : p2.toInt < 0 := f_lt rfl (by decide) c18
        refine lv_bipush (v := (-2)) hx hb dX11_refuseState_33 (by decide) ?_
        have hlit19 : ((-2) : Int32).toInt = -2 := by decide
        rw [hQ]
        exact x_i cx hr () hP hD hS ⟨(show ¬ ((-2) : Int32).toInt = 0 ∨ (0 ≤ p0.toInt ∧ p0.toInt ≤ 4 ∧ p0.toInt < (sh 0 0).toInt ∧ (0 ≤ p1.toInt ∧ p1.toInt ≤ 400 ∧ tot p1 ≤ 4) ∧ tot p1 ≤ (sh 0 1).toInt ∧ 0 ≤ p2.toInt ∧ p2.toInt ≤ 2) from by omega), (show ((-2) : Int32) = J_X11_refuseState sx sh p0 p1 p2 from by subst k7 k15; first | (refine Eq.symm ?_; refine Eq.trans (if_neg c8) ?_; refine Eq.trans (if_neg c16) ?_; refine Eq.trans (if_pos c18) ?_; rfl) | (unfold J_X11_refuseState; try dsimp only; rw [if_neg c8, if_neg c16, if_pos c18]))⟩ dX11_refuseState_35
      · have f18 : 0 ≤ p2.toInt := f_nlt rfl (by decide) c18
        refine lv_iload_n hx hb dX11_refuseState_22 rfl (lv_at hl 3 rfl) ?_
        refine lv_aload_n hx hb dX11_refuseState_23 rfl (lv_at hl 0 rfl) ?_
        refine g_get cx hP iw_X11_refuseState_X11 0 rfl rfl 4 (by decide) rfl fw_X11_refuseState_39 rfl dX11_refuseState_24 ?_
        refine g_ir (g_runV (wc := [cell31_ qx sh qh, cell0_ k qh sh, cell1_ k qh sh, cell4_ k qh sh, cell3_ k qh sh, cell2_ k qh sh]) (rest := [.int p2]) cx hP hD hS [3, 4, 5, 6, 7, 8] rfl (by decide) [] (c_X4_mostComing l D k b (lq [qx 7, qh 1, qh 2, qh 3, qh 4, qh 5]) (lS [(lI [(sh 0 0), (sh 0 1), 0, 0, 0, 0, (sh 0 6), (sh 0 7), (sh 0 8), (sh 0 9), (sh 0 10), (sh 0 11), (sh 0 12)]), (sh 1), (sh 2), (sh 3), (sh 4), (sh 5)]) H.size) gX11_refuseState_X4_mostComing rfl rfl rfl nd_X4_mostComing ⟨Nat.le_of_ble_eq_true rfl, Nat.le_of_ble_eq_true rfl⟩ (ci := 2) (q0 := 0) rfl rfl rfl hl.1 rfl (Nat.le_of_ble_eq_true rfl) ⟨Nat.zero_le _, Nat.zero_le _⟩ dX11_refuseState_27) cx.2.2.1 hP hD hS [3, 4, 5, 6, 7, 8] rfl rfl (fun r21 H locs hw20 hP hS => ?_)
        replace hw20 : (r21.toInt = 0 ∨ r21.toInt = 2) ∧ (r21 = J_X4_mostComing (lS [(lI [(sh 0 0), (sh 0 1), 0, 0, 0, 0, (sh 0 6), (sh 0 7), (sh 0 8), (sh 0 9), (sh 0 10), (sh 0 11), (sh 0 12)]), (sh 1), (sh 2), (sh 3), (sh 4), (sh 5)])) := hw20
        obtain ⟨w22, w23⟩ := hw20
        have k25 : r21 = (J_X4_mostComing (lS [(lI [(sh 0 0), (sh 0 1), 0, 0, 0, 0, (sh 0 6), (sh 0 7), (sh 0 8), (sh 0 9), (sh 0 10), (sh 0 11), (sh 0 12)]), (sh 1), (sh 2), (sh 3), (sh 4), (sh 5)])) := congrArg (fun z => z) w23
        refine lv_icmp_le (tgt := 36) hx hb dX11_refuseState_30 (by decide) (fun c26 => ?_) (fun c26 => ?_)
        · have f26 : p2.toInt ≤ r21.toInt := f_le rfl rfl c26
          refine lv_iconst (v := 0) hx hb dX11_refuseState_36 (by decide) ?_
          have hlit27 : (0 : Int32).toInt = 0 := by decide
          rw [hQ]
          exact x_i cx hr () hP hD hS ⟨(show ¬ (0 : Int32).toInt = 0 ∨ (0 ≤ p0.toInt ∧ p0.toInt ≤ 4 ∧ p0.toInt < (sh 0 0).toInt ∧ (0 ≤ p1.toInt ∧ p1.toInt ≤ 400 ∧ tot p1 ≤ 4) ∧ tot p1 ≤ (sh 0 1).toInt ∧ 0 ≤ p2.toInt ∧ p2.toInt ≤ 2) from by omega), (show (0 : Int32) = J_X11_refuseState sx sh p0 p1 p2 from by subst k7 k15 k25; first | (refine Eq.symm ?_; refine Eq.trans (if_neg c8) ?_; refine Eq.trans (if_neg c16) ?_; refine Eq.trans (if_neg c18) ?_; refine Eq.trans (if_pos c26) ?_; rfl) | (unfold J_X11_refuseState; try dsimp only; rw [if_neg c8, if_neg c16, if_neg c18, if_pos c26]))⟩ dX11_refuseState_37
        · have f26 : r21.toInt < p2.toInt := f_nle rfl rfl c26
          refine lv_bipush (v := (-2)) hx hb dX11_refuseState_33 (by decide) ?_
          have hlit28 : ((-2) : Int32).toInt = -2 := by decide
          rw [hQ]
          exact x_i cx hr () hP hD hS ⟨(show ¬ ((-2) : Int32).toInt = 0 ∨ (0 ≤ p0.toInt ∧ p0.toInt ≤ 4 ∧ p0.toInt < (sh 0 0).toInt ∧ (0 ≤ p1.toInt ∧ p1.toInt ≤ 400 ∧ tot p1 ≤ 4) ∧ tot p1 ≤ (sh 0 1).toInt ∧ 0 ≤ p2.toInt ∧ p2.toInt ≤ 2) from by omega), (show ((-2) : Int32) = J_X11_refuseState sx sh p0 p1 p2 from by subst k7 k15 k25; first | (refine Eq.symm ?_; refine Eq.trans (if_neg c8) ?_; refine Eq.trans (if_neg c16) ?_; refine Eq.trans (if_neg c18) ?_; refine Eq.trans (if_neg c26) ?_; rfl) | (unfold J_X11_refuseState; try dsimp only; rw [if_neg c8, if_neg c16, if_neg c18, if_neg c26]))⟩ dX11_refuseState_35
  · have f8 : r2.toInt = 0 := f_eq rfl (by decide) c8
    refine lv_iconst (v := (-1)) hx hb dX11_refuseState_8 (by decide) ?_
    have hlit29 : ((-1) : Int32).toInt = -1 := by decide
    rw [hQ]
    exact x_i cx hr () hP hD hS ⟨(show ¬ ((-1) : Int32).toInt = 0 ∨ (0 ≤ p0.toInt ∧ p0.toInt ≤ 4 ∧ p0.toInt < (sh 0 0).toInt ∧ (0 ≤ p1.toInt ∧ p1.toInt ≤ 400 ∧ tot p1 ≤ 4) ∧ tot p1 ≤ (sh 0 1).toInt ∧ 0 ≤ p2.toInt ∧ p2.toInt ≤ 2) from by omega), (show ((-1) : Int32) = J_X11_refuseState sx sh p0 p1 p2 from by subst k7; first | (refine Eq.symm ?_; refine Eq.trans (if_pos c8) ?_; rfl) | (unfold J_X11_refuseState; try dsimp only; rw [if_pos c8]))⟩ dX11_refuseState_9
