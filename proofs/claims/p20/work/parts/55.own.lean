theorem fw_X11_act_39 : Cond.fieldLink RX11 39 "StillInAugust" "house" "LStillInAugust$House;" ∈ wsX11_act := by decide +kernel
theorem fw_X11_act_69 : Cond.fieldLink RX11 69 "StillInAugust" "summer" "LStillInAugust$Summer;" ∈ wsX11_act := by decide +kernel
theorem iw_X11_act_X11 : ∀ w ∈ u_ws RX11 TX11 17, w ∈ wsX11_act := fun _ h => List.mem_cons_of_mem _ (List.mem_append_left _ (List.mem_append_left _ (List.mem_append_right _ h)))
def J_X11_act (sx : Nat → Nat → Int32) (ssu : Nat → Nat → Int32) (sh : Nat → Nat → Int32) (p0 : Int32) : Int32 × Int32 × Int32 × Int32 × Int32 := if 0 ≤ p0 then let y7 := J_X9_mayAct (lS [(lI [(ssu 0 0), (ssu 0 1), (ssu 0 2), (ssu 0 3), (ssu 0 4), (ssu 0 5)])]) (lS [(lI [(sh 0 0), (sh 0 1), 0, 0, 0, 0, (sh 0 6), (sh 0 7), (sh 0 8), (sh 0 9), (sh 0 10), (sh 0 11), (sh 0 12)]), (sh 1), (sh 2), (sh 3), (sh 4), (sh 5)]) p0; if y7 = 0 then (((-3) : Int32), (ssu 0 1), (ssu 0 3), (ssu 0 4), (ssu 0 5)) else let y20 := J_X9_passWeek (lS [(lI [(ssu 0 0), (ssu 0 1), (ssu 0 2), (ssu 0 3), (ssu 0 4), (ssu 0 5)])]) (lS [(lI [(sh 0 0), (sh 0 1), 0, 0, 0, 0, (sh 0 6), (sh 0 7), (sh 0 8), (sh 0 9), (sh 0 10), (sh 0 11), (sh 0 12)]), (sh 1), (sh 2), (sh 3), (sh 4), (sh 5)]) p0; ((y20.1), (y20.2.1), (y20.2.2.1), (y20.2.2.2.1), (y20.2.2.2.2)) else (((-2) : Int32), (ssu 0 1), (ssu 0 3), (ssu 0 4), (ssu 0 5))
set_option maxHeartbeats 4000000 in
set_option maxRecDepth 100000 in
theorem c_X11_act (l : Launch) (D : va_G) (k : Nat → ClassId) (b : Nat → Nat) (qx : Nat → Nat) (sx : Nat → Nat → Int32) (qsu : Nat → Nat) (ssu : Nat → Nat → Int32) (qh : Nat → Nat) (sh : Nat → Nat → Int32) (sz : Nat) (p0 : Int32) (s_h : 0 ≤ (ssu 0 1).toInt ∧ (ssu 0 1).toInt ≤ 400 ∧ tot (ssu 0 1) ≤ 4) (s_w : 0 ≤ (ssu 0 0).toInt ∧ (ssu 0 0).toInt ≤ 5) (s_k : 0 ≤ (ssu 0 4).toInt ∧ (ssu 0 4).toInt ≤ 1) (s_x : (ssu 0 4).toInt = 0 ∨ (ssu 0 0).toInt ≤ 4) (h_wk : 0 ≤ (sh 0 0).toInt ∧ (sh 0 0).toInt ≤ 5) (h_hk : 0 ≤ (sh 0 1).toInt ∧ (sh 0 1).toInt ≤ 4) (h_fl : 0 ≤ (sh 0 12).toInt ∧ (sh 0 12).toInt ≤ 5) (h_of : ∀ j, 0 ≤ (sh 2 j).toInt ∧ (sh 2 j).toInt ≤ 4) (h_go : ∀ j, 0 ≤ (sh 3 j).toInt ∧ (sh 3 j).toInt ≤ 5) : MetI l D k b yX11_act wsX11_act ({ frames := 4, cells := 0, slots := 0, locals := 90 } : Room) [cell30_ qx sx, cell28_ k qx sx, cell29_ k qx sx, cell38_ qx ssu, cell31_ qx sh qh, cell0_ k qh sh, cell1_ k qh sh, cell4_ k qh sh, cell3_ k qh sh, cell2_ k qh sh] sz [.ref (qx 0), .int p0] (fun (r : Int32) (u : Int32 × Int32 × Int32 × Int32) => (0 ≤ (u.1).toInt ∧ (u.1).toInt ≤ 400 ∧ tot (u.1) ≤ 4) ∧ (0 ≤ (u.2.2.1).toInt ∧ (u.2.2.1).toInt ≤ 1) ∧ ((u.2.2.1).toInt = 0 ∨ (ssu 0 0).toInt ≤ 4) ∧ ((r, (u.1), (u.2.1), (u.2.2.1), (u.2.2.2)) = J_X11_act sx ssu sh p0)) (fun u => [cell30_ qx sx, cell28_ k qx sx, cell29_ k qx sx, cell140_ qx ssu (u.1) (u.2.1) (u.2.2.1) (u.2.2.2), cell31_ qx sh qh, cell0_ k qh sh, cell1_ k qh sh, cell4_ k qh sh, cell3_ k qh sh, cell2_ k qh sh]) := by
  refine g_enter (cc := cX11_act) (maxL := 2) (ret := (some .int)) (by decide) rfl (Nat.le_of_ble_eq_true rfl) ?_
  intro p e s m below meth c A hsz hAe cx hr hP hD hS ls hl
  rw [hAe]
  refine g_q (fun Q hQ => ?_)
  have hx := cx.1.1
  have hb := cx.1.2.1
  have bp0 := i_rng p0
  have hl : lv_has ls 2 [(0, .ref (qx 0)), (1, .int p0)] := hl
  obtain ⟨H, eH⟩ : ∃ H : Heap, H = s.heap := ⟨_, rfl⟩
  obtain ⟨locs, el⟩ : ∃ L : List Loc, L = [] := ⟨_, rfl⟩
  have hP : va_P D vwCl [cell30_ qx sx, cell28_ k qx sx, cell29_ k qx sx, cell38_ qx ssu, cell31_ qx sh qh, cell0_ k qh sh, cell1_ k qh sh, cell4_ k qh sh, cell3_ k qh sh, cell2_ k qh sh] H := by rw [eH]; exact hP
  have hD : va_D A [cell30_ qx sx, cell28_ k qx sx, cell29_ k qx sx, cell38_ qx ssu, cell31_ qx sh qh, cell0_ k qh sh, cell1_ k qh sh, cell4_ k qh sh, cell3_ k qh sh, cell2_ k qh sh] := hD
  have hS : va_S A s.heap H locs := by rw [eH, el]; exact hS
  suffices goal : W p l e ({ frames := 4, cells := 0, slots := 0, locals := 90 } : Room) s m ([.ref (qx 0), .int p0] : List Value).toArray below meth c H locs 0 0 Q (F0 m 0 ls []) by rw [eH, el] at goal; exact goal
  refine lv_iload_n hx hb dX11_act_0 rfl (lv_at hl 1 rfl) ?_
  refine lv_if_ge (tgt := 7) hx hb dX11_act_1 (by decide) (fun c1 => ?_) (fun c1 => ?_)
  · have f1 : 0 ≤ p0.toInt := f_le (by decide) rfl c1
    refine lv_aload_n hx hb dX11_act_7 rfl (lv_at hl 0 rfl) ?_
    refine g_get cx hP iw_X11_act_X11 0 rfl rfl 10 (by decide) rfl fw_X11_act_69 rfl dX11_act_8 ?_
    refine lv_aload_n hx hb dX11_act_11 rfl (lv_at hl 0 rfl) ?_
    refine g_get cx hP iw_X11_act_X11 0 rfl rfl 4 (by decide) rfl fw_X11_act_39 rfl dX11_act_12 ?_
    refine lv_iload_n hx hb dX11_act_15 rfl (lv_at hl 1 rfl) ?_
    refine g_ir (g_runV (wc := [cell38_ qx ssu, cell31_ qx sh qh, cell0_ k qh sh, cell1_ k qh sh, cell4_ k qh sh, cell3_ k qh sh, cell2_ k qh sh]) (rest := []) cx hP hD hS [3, 4, 5, 6, 7, 8, 9] rfl (by decide) [.ref (qx 7), .int p0] (c_X9_mayAct l D k b (lq [qx 12]) (lS [(lI [(ssu 0 0), (ssu 0 1), (ssu 0 2), (ssu 0 3), (ssu 0 4), (ssu 0 5)])]) (lq [qx 7, qh 1, qh 2, qh 3, qh 4, qh 5]) (lS [(lI [(sh 0 0), (sh 0 1), 0, 0, 0, 0, (sh 0 6), (sh 0 7), (sh 0 8), (sh 0 9), (sh 0 10), (sh 0 11), (sh 0 12)]), (sh 1), (sh 2), (sh 3), (sh 4), (sh 5)]) H.size p0 (show 0 ≤ (ssu 0 1).toInt ∧ (ssu 0 1).toInt ≤ 400 ∧ tot (ssu 0 1) ≤ 4 from by first | decide | omega) (show 0 ≤ (ssu 0 0).toInt ∧ (ssu 0 0).toInt ≤ 5 from by first | decide | omega) (show 0 ≤ (ssu 0 4).toInt ∧ (ssu 0 4).toInt ≤ 1 from by first | decide | omega) (show (ssu 0 4).toInt = 0 ∨ (ssu 0 0).toInt ≤ 4 from by first | decide | omega) (show 0 ≤ (sh 0 0).toInt ∧ (sh 0 0).toInt ≤ 5 from by first | decide | omega) (show 0 ≤ (sh 0 1).toInt ∧ (sh 0 1).toInt ≤ 4 from by first | decide | omega) (show 0 ≤ (sh 0 12).toInt ∧ (sh 0 12).toInt ≤ 5 from by first | decide | omega) h_of h_go (show 0 ≤ p0.toInt from by first | decide | omega)) gX11_act_X9_mayAct rfl rfl rfl nd_X9_mayAct ⟨Nat.le_of_ble_eq_true rfl, Nat.le_of_ble_eq_true rfl⟩ (ci := 7) (q0 := 0) rfl rfl rfl hl.1 rfl (Nat.le_of_ble_eq_true rfl) ⟨Nat.zero_le _, Nat.zero_le _⟩ dX11_act_16) cx.2.2.1 hP hD hS [3, 4, 5, 6, 7, 8, 9] rfl rfl (fun r3 H locs hw2 hP hS => ?_)
    replace hw2 : (0 ≤ r3.toInt ∧ r3.toInt ≤ 1) ∧ (Imp (r3.toInt = 1) ((ssu 0 4).toInt = 0 ∧ (ssu 0 0).toInt ≤ 4 ∧ 0 ≤ (J_X0_done (ssu 0 1) p0).toInt ∧ (J_X0_done (ssu 0 1) p0).toInt ≤ 400 ∧ tot (J_X0_done (ssu 0 1) p0) ≤ 4)) ∧ (r3 = J_X9_mayAct (lS [(lI [(ssu 0 0), (ssu 0 1), (ssu 0 2), (ssu 0 3), (ssu 0 4), (ssu 0 5)])]) (lS [(lI [(sh 0 0), (sh 0 1), 0, 0, 0, 0, (sh 0 6), (sh 0 7), (sh 0 8), (sh 0 9), (sh 0 10), (sh 0 11), (sh 0 12)]), (sh 1), (sh 2), (sh 3), (sh 4), (sh 5)]) p0) := hw2
    obtain ⟨w4, w5, w6⟩ := hw2
    have k8 : r3 = (J_X9_mayAct (lS [(lI [(ssu 0 0), (ssu 0 1), (ssu 0 2), (ssu 0 3), (ssu 0 4), (ssu 0 5)])]) (lS [(lI [(sh 0 0), (sh 0 1), 0, 0, 0, 0, (sh 0 6), (sh 0 7), (sh 0 8), (sh 0 9), (sh 0 10), (sh 0 11), (sh 0 12)]), (sh 1), (sh 2), (sh 3), (sh 4), (sh 5)]) p0) := congrArg (fun z => z) w6
    have zr3 : 0 ≤ r3.toInt ∧ r3.toInt ≤ 1 := w4
    refine lv_if_ne (tgt := 25) hx hb dX11_act_19 (by decide) (fun c9 => ?_) (fun c9 => ?_)
    · have f9 : ¬ r3.toInt = 0 := f_ne rfl (by decide) c9
      have k9 : ((ssu 0 4).toInt = 0 ∧ (ssu 0 0).toInt ≤ 4 ∧ 0 ≤ (J_X0_done (ssu 0 1) p0).toInt ∧ (J_X0_done (ssu 0 1) p0).toInt ≤ 400 ∧ tot (J_X0_done (ssu 0 1) p0) ≤ 4) := w5 (by omega)
      refine lv_aload_n hx hb dX11_act_25 rfl (lv_at hl 0 rfl) ?_
      refine g_get cx hP iw_X11_act_X11 0 rfl rfl 10 (by decide) rfl fw_X11_act_69 rfl dX11_act_26 ?_
      refine lv_aload_n hx hb dX11_act_29 rfl (lv_at hl 0 rfl) ?_
      refine g_get cx hP iw_X11_act_X11 0 rfl rfl 4 (by decide) rfl fw_X11_act_39 rfl dX11_act_30 ?_
      refine lv_iload_n hx hb dX11_act_33 rfl (lv_at hl 1 rfl) ?_
      refine g_i (w1 := fun (u : Int32 × Int32 × Int32 × Int32) => [cell140_ qx ssu (u.1) (u.2.1) (u.2.2.1) (u.2.2.2), cell31_ qx sh qh, cell0_ k qh sh, cell1_ k qh sh, cell4_ k qh sh, cell3_ k qh sh, cell2_ k qh sh]) (g_runV (wc := [cell38_ qx ssu, cell31_ qx sh qh, cell0_ k qh sh, cell1_ k qh sh, cell4_ k qh sh, cell3_ k qh sh, cell2_ k qh sh]) (rest := []) cx hP hD hS [3, 4, 5, 6, 7, 8, 9] rfl (by decide) [.ref (qx 7), .int p0] (c_X9_passWeek l D k b (lq [qx 12]) (lS [(lI [(ssu 0 0), (ssu 0 1), (ssu 0 2), (ssu 0 3), (ssu 0 4), (ssu 0 5)])]) (lq [qx 7, qh 1, qh 2, qh 3, qh 4, qh 5]) (lS [(lI [(sh 0 0), (sh 0 1), 0, 0, 0, 0, (sh 0 6), (sh 0 7), (sh 0 8), (sh 0 9), (sh 0 10), (sh 0 11), (sh 0 12)]), (sh 1), (sh 2), (sh 3), (sh 4), (sh 5)]) H.size p0 (show 0 ≤ (ssu 0 0).toInt ∧ (ssu 0 0).toInt ≤ 4 from by first | decide | omega) (show 0 ≤ (J_X0_done (ssu 0 1) p0).toInt ∧ (J_X0_done (ssu 0 1) p0).toInt ≤ 400 ∧ tot (J_X0_done (ssu 0 1) p0) ≤ 4 from by first | decide | omega) (show 0 ≤ p0.toInt from by first | decide | omega)) gX11_act_X9_passWeek rfl rfl rfl nd_X9_passWeek ⟨Nat.le_of_ble_eq_true rfl, Nat.le_of_ble_eq_true rfl⟩ (ci := 7) (q0 := 0) rfl rfl rfl hl.1 rfl (Nat.le_of_ble_eq_true rfl) ⟨Nat.zero_le _, Nat.zero_le _⟩ dX11_act_34) cx.2.2.1 hP hD hS [3, 4, 5, 6, 7, 8, 9] rfl (fun _ => rfl) (fun r12 u11 H locs hw10 hP hD hS => ?_)
      obtain ⟨m13, m14, m15, m16⟩ := u11
      have hP : va_P D vwCl [cell30_ qx sx, cell28_ k qx sx, cell29_ k qx sx, cell140_ qx ssu m13 m14 m15 m16, cell31_ qx sh qh, cell0_ k qh sh, cell1_ k qh sh, cell4_ k qh sh, cell3_ k qh sh, cell2_ k qh sh] H := hP
      have hD : va_D A [cell30_ qx sx, cell28_ k qx sx, cell29_ k qx sx, cell140_ qx ssu m13 m14 m15 m16, cell31_ qx sh qh, cell0_ k qh sh, cell1_ k qh sh, cell4_ k qh sh, cell3_ k qh sh, cell2_ k qh sh] := hD
      replace hw10 : (0 ≤ m13.toInt ∧ m13.toInt ≤ 400 ∧ tot m13 ≤ 4) ∧ (m15.toInt = 1) ∧ ((r12, m13, m14, m15, m16) = J_X9_passWeek (lS [(lI [(ssu 0 0), (ssu 0 1), (ssu 0 2), (ssu 0 3), (ssu 0 4), (ssu 0 5)])]) (lS [(lI [(sh 0 0), (sh 0 1), 0, 0, 0, 0, (sh 0 6), (sh 0 7), (sh 0 8), (sh 0 9), (sh 0 10), (sh 0 11), (sh 0 12)]), (sh 1), (sh 2), (sh 3), (sh 4), (sh 5)]) p0) := hw10
      obtain ⟨w17, w18, w19⟩ := hw10
      have k21 : r12 = ((J_X9_passWeek (lS [(lI [(ssu 0 0), (ssu 0 1), (ssu 0 2), (ssu 0 3), (ssu 0 4), (ssu 0 5)])]) (lS [(lI [(sh 0 0), (sh 0 1), 0, 0, 0, 0, (sh 0 6), (sh 0 7), (sh 0 8), (sh 0 9), (sh 0 10), (sh 0 11), (sh 0 12)]), (sh 1), (sh 2), (sh 3), (sh 4), (sh 5)]) p0).1) := congrArg (fun z => (z.1)) w19
      have k22 : m13 = ((J_X9_passWeek (lS [(lI [(ssu 0 0), (ssu 0 1), (ssu 0 2), (ssu 0 3), (ssu 0 4), (ssu 0 5)])]) (lS [(lI [(sh 0 0), (sh 0 1), 0, 0, 0, 0, (sh 0 6), (sh 0 7), (sh 0 8), (sh 0 9), (sh 0 10), (sh 0 11), (sh 0 12)]), (sh 1), (sh 2), (sh 3), (sh 4), (sh 5)]) p0).2.1) := congrArg (fun z => (z.2.1)) w19
      have k23 : m14 = ((J_X9_passWeek (lS [(lI [(ssu 0 0), (ssu 0 1), (ssu 0 2), (ssu 0 3), (ssu 0 4), (ssu 0 5)])]) (lS [(lI [(sh 0 0), (sh 0 1), 0, 0, 0, 0, (sh 0 6), (sh 0 7), (sh 0 8), (sh 0 9), (sh 0 10), (sh 0 11), (sh 0 12)]), (sh 1), (sh 2), (sh 3), (sh 4), (sh 5)]) p0).2.2.1) := congrArg (fun z => (z.2.2.1)) w19
      have k24 : m15 = ((J_X9_passWeek (lS [(lI [(ssu 0 0), (ssu 0 1), (ssu 0 2), (ssu 0 3), (ssu 0 4), (ssu 0 5)])]) (lS [(lI [(sh 0 0), (sh 0 1), 0, 0, 0, 0, (sh 0 6), (sh 0 7), (sh 0 8), (sh 0 9), (sh 0 10), (sh 0 11), (sh 0 12)]), (sh 1), (sh 2), (sh 3), (sh 4), (sh 5)]) p0).2.2.2.1) := congrArg (fun z => (z.2.2.2.1)) w19
      have k25 : m16 = ((J_X9_passWeek (lS [(lI [(ssu 0 0), (ssu 0 1), (ssu 0 2), (ssu 0 3), (ssu 0 4), (ssu 0 5)])]) (lS [(lI [(sh 0 0), (sh 0 1), 0, 0, 0, 0, (sh 0 6), (sh 0 7), (sh 0 8), (sh 0 9), (sh 0 10), (sh 0 11), (sh 0 12)]), (sh 1), (sh 2), (sh 3), (sh 4), (sh 5)]) p0).2.2.2.2) := congrArg (fun z => (z.2.2.2.2)) w19
      rw [hQ]
      exact x_i cx hr (m13, m14, m15, m16) hP hD hS ⟨(show 0 ≤ m13.toInt ∧ m13.toInt ≤ 400 ∧ tot m13 ≤ 4 from by omega), (show 0 ≤ m15.toInt ∧ m15.toInt ≤ 1 from by omega), (show m15.toInt = 0 ∨ (ssu 0 0).toInt ≤ 4 from by omega), (show (r12, m13, m14, m15, m16) = J_X11_act sx ssu sh p0 from by subst k8 k21 k22 k23 k24 k25; first | (refine Eq.symm ?_; refine Eq.trans (if_pos c1) ?_; refine Eq.trans (if_neg c9) ?_; rfl) | (unfold J_X11_act; try dsimp only; rw [if_pos c1, if_neg c9]))⟩ dX11_act_37
    · have f9 : r3.toInt = 0 := f_eq rfl (by decide) c9
      refine lv_bipush (v := (-3)) hx hb dX11_act_22 (by decide) ?_
      have hlit26 : ((-3) : Int32).toInt = -3 := by decide
      rw [hQ]
      exact x_i cx hr ((ssu 0 1), (ssu 0 3), (ssu 0 4), (ssu 0 5)) hP hD hS ⟨(show 0 ≤ (ssu 0 1).toInt ∧ (ssu 0 1).toInt ≤ 400 ∧ tot (ssu 0 1) ≤ 4 from by omega), (show 0 ≤ (ssu 0 4).toInt ∧ (ssu 0 4).toInt ≤ 1 from by omega), (show (ssu 0 4).toInt = 0 ∨ (ssu 0 0).toInt ≤ 4 from by omega), (show (((-3) : Int32), (ssu 0 1), (ssu 0 3), (ssu 0 4), (ssu 0 5)) = J_X11_act sx ssu sh p0 from by subst k8; first | (refine Eq.symm ?_; refine Eq.trans (if_pos c1) ?_; refine Eq.trans (if_pos c9) ?_; rfl) | (unfold J_X11_act; try dsimp only; rw [if_pos c1, if_pos c9]))⟩ dX11_act_24
  · have f1 : p0.toInt < 0 := f_nle (by decide) rfl c1
    refine lv_bipush (v := (-2)) hx hb dX11_act_4 (by decide) ?_
    have hlit27 : ((-2) : Int32).toInt = -2 := by decide
    rw [hQ]
    exact x_i cx hr ((ssu 0 1), (ssu 0 3), (ssu 0 4), (ssu 0 5)) hP hD hS ⟨(show 0 ≤ (ssu 0 1).toInt ∧ (ssu 0 1).toInt ≤ 400 ∧ tot (ssu 0 1) ≤ 4 from by omega), (show 0 ≤ (ssu 0 4).toInt ∧ (ssu 0 4).toInt ≤ 1 from by omega), (show (ssu 0 4).toInt = 0 ∨ (ssu 0 0).toInt ≤ 4 from by omega), (show (((-2) : Int32), (ssu 0 1), (ssu 0 3), (ssu 0 4), (ssu 0 5)) = J_X11_act sx ssu sh p0 from by first | (refine Eq.symm ?_; refine Eq.trans (if_neg c1) ?_; rfl) | (unfold J_X11_act; try dsimp only; rw [if_neg c1]))⟩ dX11_act_6
theorem fw_X11_gone_291 : Cond.fieldLink RX11 291 "StillInAugust$Summer" "hands" "I" ∈ wsX11_gone := by decide +kernel
theorem fw_X11_gone_39 : Cond.fieldLink RX11 39 "StillInAugust" "house" "LStillInAugust$House;" ∈ wsX11_gone := by decide +kernel
theorem fw_X11_gone_69 : Cond.fieldLink RX11 69 "StillInAugust" "summer" "LStillInAugust$Summer;" ∈ wsX11_gone := by decide +kernel
theorem nd_X3_areLeavers : yX3_areLeavers.cls ≠ "java/lang/invoke/MethodHandle" ∧ yX3_areLeavers.cls ≠ "java/lang/invoke/VarHandle" ∧ (parseMethodDescriptor yX3_areLeavers.desc).map (fun d => d.parameters.length) = some 1 := by decide +kernel
theorem nd_X9_mayLeave : yX9_mayLeave.cls = RX9 ∧ yX9_mayLeave.cls ≠ "java/lang/invoke/MethodHandle" ∧ yX9_mayLeave.cls ≠ "java/lang/invoke/VarHandle" ∧ (parseMethodDescriptor yX9_mayLeave.desc).map (fun d => d.parameters.length) = some 1 := by decide +kernel
theorem iw_X11_gone_X11 : ∀ w ∈ u_ws RX11 TX11 17, w ∈ wsX11_gone := fun _ h => List.mem_cons_of_mem _ (List.mem_append_left _ (List.mem_append_left _ (List.mem_append_right _ h)))
theorem iw_X11_gone_X9 : ∀ w ∈ u_ws RX9 TX9 6, w ∈ wsX11_gone := fun _ h => List.mem_cons_of_mem _ (List.mem_append_left _ (List.mem_append_right _ h))
def J_X11_gone (sx : Nat → Nat → Int32) (ssu : Nat → Nat → Int32) (sh : Nat → Nat → Int32) (p0 : Int32) : Int32 × Int32 × Int32 × Int32 × Int32 × Int32 := if (J_X3_areLeavers p0) = 0 then (((-2) : Int32), (ssu 0 0), (ssu 0 1), (ssu 0 2), (ssu 0 4), (ssu 0 5)) else let y11 := J_X9_mayLeave (lS [(lI [(ssu 0 0), (ssu 0 1), (ssu 0 2), (ssu 0 3), (ssu 0 4), (ssu 0 5)])]) p0; if y11 = 0 then (((-3) : Int32), (ssu 0 0), (ssu 0 1), (ssu 0 2), (ssu 0 4), (ssu 0 5)) else let y25 := J_X9_passSunday (lS [(lI [(ssu 0 0), (ssu 0 1), (ssu 0 2), (ssu 0 3), (ssu 0 4), (ssu 0 5)])]) (lS [(lI [(sh 0 0), (sh 0 1), 0, 0, 0, 0, (sh 0 6), (sh 0 7), (sh 0 8), (sh 0 9), (sh 0 10), (sh 0 11), (sh 0 12)]), (sh 1), (sh 2), (sh 3), (sh 4), (sh 5)]) p0; ((J_X3_total (y25.2.1)), (y25.1), (y25.2.1), (y25.2.2.1), (y25.2.2.2.1), (y25.2.2.2.2))
set_option maxHeartbeats 4000000 in
set_option maxRecDepth 100000 in
theorem c_X11_gone (l : Launch) (D : va_G) (k : Nat → ClassId) (b : Nat → Nat) (qx : Nat → Nat) (sx : Nat → Nat → Int32) (qsu : Nat → Nat) (ssu : Nat → Nat → Int32) (qh : Nat → Nat) (sh : Nat → Nat → Int32) (sz : Nat) (p0 : Int32) (s_h : 0 ≤ (ssu 0 1).toInt ∧ (ssu 0 1).toInt ≤ 400 ∧ tot (ssu 0 1) ≤ 4) (s_w : 0 ≤ (ssu 0 0).toInt ∧ (ssu 0 0).toInt ≤ 5) (s_k : 0 ≤ (ssu 0 4).toInt ∧ (ssu 0 4).toInt ≤ 1) (s_x : (ssu 0 4).toInt = 0 ∨ (ssu 0 0).toInt ≤ 4) (h_wk : 0 ≤ (sh 0 0).toInt ∧ (sh 0 0).toInt ≤ 5) (h_hk : 0 ≤ (sh 0 1).toInt ∧ (sh 0 1).toInt ≤ 4) (h_fl : 0 ≤ (sh 0 12).toInt ∧ (sh 0 12).toInt ≤ 5) (h_of : ∀ j, 0 ≤ (sh 2 j).toInt ∧ (sh 2 j).toInt ≤ 4) (h_go : ∀ j, 0 ≤ (sh 3 j).toInt ∧ (sh 3 j).toInt ≤ 5) : MetI l D k b yX11_gone wsX11_gone ({ frames := 3, cells := 0, slots := 0, locals := 63 } : Room) [cell30_ qx sx, cell28_ k qx sx, cell29_ k qx sx, cell38_ qx ssu, cell31_ qx sh qh, cell0_ k qh sh, cell1_ k qh sh, cell4_ k qh sh, cell3_ k qh sh, cell2_ k qh sh] sz [.ref (qx 0), .int p0] (fun (r : Int32) (u : Int32 × Int32 × Int32 × Int32 × Int32) => (0 ≤ (u.2.1).toInt ∧ (u.2.1).toInt ≤ 400 ∧ tot (u.2.1) ≤ 4) ∧ (0 ≤ (u.1).toInt ∧ (u.1).toInt ≤ 5) ∧ (0 ≤ (u.2.2.2.1).toInt ∧ (u.2.2.2.1).toInt ≤ 1) ∧ ((u.2.2.2.1).toInt = 0 ∨ (u.1).toInt ≤ 4) ∧ ((r, (u.1), (u.2.1), (u.2.2.1), (u.2.2.2.1), (u.2.2.2.2)) = J_X11_gone sx ssu sh p0)) (fun u => [cell30_ qx sx, cell28_ k qx sx, cell29_ k qx sx, cell141_ qx ssu (u.1) (u.2.1) (u.2.2.1) (u.2.2.2.1) (u.2.2.2.2), cell31_ qx sh qh, cell0_ k qh sh, cell1_ k qh sh, cell4_ k qh sh, cell3_ k qh sh, cell2_ k qh sh]) := by
  refine g_enter (cc := cX11_gone) (maxL := 2) (ret := (some .int)) (by decide) rfl (Nat.le_of_ble_eq_true rfl) ?_
  intro p e s m below meth c A hsz hAe cx hr hP hD hS ls hl
  rw [hAe]
  refine g_q (fun Q hQ => ?_)
  have hx := cx.1.1
  have hb := cx.1.2.1
  have bp0 := i_rng p0
  have hl : lv_has ls 2 [(0, .ref (qx 0)), (1, .int p0)] := hl
  obtain ⟨H, eH⟩ : ∃ H : Heap, H = s.heap := ⟨_, rfl⟩
  obtain ⟨locs, el⟩ : ∃ L : List Loc, L = [] := ⟨_, rfl⟩
  have hP : va_P D vwCl [cell30_ qx sx, cell28_ k qx sx, cell29_ k qx sx, cell38_ qx ssu, cell31_ qx sh qh, cell0_ k qh sh, cell1_ k qh sh, cell4_ k qh sh, cell3_ k qh sh, cell2_ k qh sh] H := by rw [eH]; exact hP
  have hD : va_D A [cell30_ qx sx, cell28_ k qx sx, cell29_ k qx sx, cell38_ qx ssu, cell31_ qx sh qh, cell0_ k qh sh, cell1_ k qh sh, cell4_ k qh sh, cell3_ k qh sh, cell2_ k qh sh] := hD
  have hS : va_S A s.heap H locs := by rw [eH, el]; exact hS
  suffices goal : W p l e ({ frames := 3, cells := 0, slots := 0, locals := 63 } : Room) s m ([.ref (qx 0), .int p0] : List Value).toArray below meth c H locs 0 0 Q (F0 m 0 ls []) by rw [eH, el] at goal; exact goal
  refine lv_iload_n hx hb dX11_gone_0 rfl (lv_at hl 1 rfl) ?_
  refine g_ir (g_runS (wc := []) (rest := []) cx hP hD hS [] rfl (by decide) [.int p0] (c_X3_areLeavers l D k b H.size p0) gX11_gone_X3_areLeavers rfl rfl rfl nd_X3_areLeavers ⟨Nat.le_of_ble_eq_true rfl, Nat.le_of_ble_eq_true rfl⟩ rfl hl.1 rfl (Nat.le_of_ble_eq_true rfl) ⟨Nat.zero_le _, Nat.zero_le _⟩ dX11_gone_1) cx.2.2.1 hP hD hS [] rfl rfl (fun r2 H locs hw1 hP hS => ?_)
  have w3 : r2 = J_X3_areLeavers p0 := hw1
  clear hw1
  have zr2 := lev_b w3
  have yr2 : r2.toInt = (J_X3_areLeavers p0).toInt := congrArg Int32.toInt w3
  refine lv_if_ne (tgt := 10) hx hb dX11_gone_4 (by decide) (fun c4 => ?_) (fun c4 => ?_)
  · have f4 : ¬ r2.toInt = 0 := f_ne rfl (by decide) c4
    have k4 : 0 ≤ p0.toInt ∧ p0.toInt ≤ 444 := lev_t w3 c4
    refine lv_aload_n hx hb dX11_gone_10 rfl (lv_at hl 0 rfl) ?_
    refine g_get cx hP iw_X11_gone_X11 0 rfl rfl 10 (by decide) rfl fw_X11_gone_69 rfl dX11_gone_11 ?_
    refine lv_iload_n hx hb dX11_gone_14 rfl (lv_at hl 1 rfl) ?_
    refine g_ir (g_runV (wc := [cell38_ qx ssu]) (rest := []) cx hP hD hS [3] rfl (by decide) [.int p0] (c_X9_mayLeave l D k b (lq [qx 12]) (lS [(lI [(ssu 0 0), (ssu 0 1), (ssu 0 2), (ssu 0 3), (ssu 0 4), (ssu 0 5)])]) H.size p0 (show 0 ≤ (ssu 0 1).toInt ∧ (ssu 0 1).toInt ≤ 400 ∧ tot (ssu 0 1) ≤ 4 from by first | decide | omega) (show 0 ≤ (ssu 0 4).toInt ∧ (ssu 0 4).toInt ≤ 1 from by first | decide | omega) (show 0 ≤ p0.toInt ∧ p0.toInt ≤ 444 from by first | decide | omega)) gX11_gone_X9_mayLeave rfl rfl rfl nd_X9_mayLeave ⟨Nat.le_of_ble_eq_true rfl, Nat.le_of_ble_eq_true rfl⟩ (ci := 7) (q0 := 0) rfl rfl rfl hl.1 rfl (Nat.le_of_ble_eq_true rfl) ⟨Nat.zero_le _, Nat.zero_le _⟩ dX11_gone_15) cx.2.2.1 hP hD hS [3] rfl rfl (fun r6 H locs hw5 hP hS => ?_)
    replace hw5 : (0 ≤ r6.toInt ∧ r6.toInt ≤ 1) ∧ (Imp (r6.toInt = 1) (hasI (ssu 0 1) p0)) ∧ (r6.toInt = 0 ∨ ¬ (ssu 0 4).toInt = 0) ∧ (r6 = J_X9_mayLeave (lS [(lI [(ssu 0 0), (ssu 0 1), (ssu 0 2), (ssu 0 3), (ssu 0 4), (ssu 0 5)])]) p0) := hw5
    obtain ⟨w7, w8, w9, w10⟩ := hw5
    have k12 : r6 = (J_X9_mayLeave (lS [(lI [(ssu 0 0), (ssu 0 1), (ssu 0 2), (ssu 0 3), (ssu 0 4), (ssu 0 5)])]) p0) := congrArg (fun z => z) w10
    have zr6 : 0 ≤ r6.toInt ∧ r6.toInt ≤ 1 := w7
    refine lv_if_ne (tgt := 24) hx hb dX11_gone_18 (by decide) (fun c13 => ?_) (fun c13 => ?_)
    · have f13 : ¬ r6.toInt = 0 := f_ne rfl (by decide) c13
      have k13 : (hasI (ssu 0 1) p0) := w8 (by omega)
      refine lv_aload_n hx hb dX11_gone_24 rfl (lv_at hl 0 rfl) ?_
      refine g_get cx hP iw_X11_gone_X11 0 rfl rfl 10 (by decide) rfl fw_X11_gone_69 rfl dX11_gone_25 ?_
      refine lv_aload_n hx hb dX11_gone_28 rfl (lv_at hl 0 rfl) ?_
      refine g_get cx hP iw_X11_gone_X11 0 rfl rfl 4 (by decide) rfl fw_X11_gone_39 rfl dX11_gone_29 ?_
      refine lv_iload_n hx hb dX11_gone_32 rfl (lv_at hl 1 rfl) ?_
      refine g_v (w1 := fun (u : Int32 × Int32 × Int32 × Int32 × Int32) => [cell141_ qx ssu (u.1) (u.2.1) (u.2.2.1) (u.2.2.2.1) (u.2.2.2.2), cell31_ qx sh qh, cell0_ k qh sh, cell1_ k qh sh, cell4_ k qh sh, cell3_ k qh sh, cell2_ k qh sh]) (g_runV (wc := [cell38_ qx ssu, cell31_ qx sh qh, cell0_ k qh sh, cell1_ k qh sh, cell4_ k qh sh, cell3_ k qh sh, cell2_ k qh sh]) (rest := []) cx hP hD hS [3, 4, 5, 6, 7, 8, 9] rfl (by decide) [.ref (qx 7), .int p0] (c_X9_passSunday l D k b (lq [qx 12]) (lS [(lI [(ssu 0 0), (ssu 0 1), (ssu 0 2), (ssu 0 3), (ssu 0 4), (ssu 0 5)])]) (lq [qx 7, qh 1, qh 2, qh 3, qh 4, qh 5]) (lS [(lI [(sh 0 0), (sh 0 1), 0, 0, 0, 0, (sh 0 6), (sh 0 7), (sh 0 8), (sh 0 9), (sh 0 10), (sh 0 11), (sh 0 12)]), (sh 1), (sh 2), (sh 3), (sh 4), (sh 5)]) H.size p0 (show 0 ≤ (ssu 0 1).toInt ∧ (ssu 0 1).toInt ≤ 400 ∧ tot (ssu 0 1) ≤ 4 from by first | decide | omega) (show 0 ≤ (ssu 0 0).toInt ∧ (ssu 0 0).toInt ≤ 4 from by first | decide | omega) (show hasI (ssu 0 1) p0 from by assumption) (show 0 ≤ p0.toInt ∧ p0.toInt ≤ 444 from by first | decide | omega) (show 0 ≤ (sh 0 0).toInt ∧ (sh 0 0).toInt ≤ 5 from by first | decide | omega)) gX11_gone_X9_passSunday rfl rfl rfl nd_X9_passSunday ⟨Nat.le_of_ble_eq_true rfl, Nat.le_of_ble_eq_true rfl⟩ (ci := 7) (q0 := 0) rfl rfl rfl hl.1 rfl (Nat.le_of_ble_eq_true rfl) ⟨Nat.zero_le _, Nat.zero_le _⟩ dX11_gone_33) cx.2.2.1 hP hD hS [3, 4, 5, 6, 7, 8, 9] rfl (fun _ => rfl) (fun u15 H locs hw14 hP hD hS => ?_)
      obtain ⟨m16, m17, m18, m19, m20⟩ := u15
      have hP : va_P D vwCl [cell30_ qx sx, cell28_ k qx sx, cell29_ k qx sx, cell141_ qx ssu m16 m17 m18 m19 m20, cell31_ qx sh qh, cell0_ k qh sh, cell1_ k qh sh, cell4_ k qh sh, cell3_ k qh sh, cell2_ k qh sh] H := hP
      have hD : va_D A [cell30_ qx sx, cell28_ k qx sx, cell29_ k qx sx, cell141_ qx ssu m16 m17 m18 m19 m20, cell31_ qx sh qh, cell0_ k qh sh, cell1_ k qh sh, cell4_ k qh sh, cell3_ k qh sh, cell2_ k qh sh] := hD
      replace hw14 : (0 ≤ m17.toInt ∧ m17.toInt ≤ 400 ∧ tot m17 ≤ 4) ∧ (0 ≤ m16.toInt ∧ m16.toInt ≤ 5) ∧ (m19.toInt = 0) ∧ ((m16, m17, m18, m19, m20) = J_X9_passSunday (lS [(lI [(ssu 0 0), (ssu 0 1), (ssu 0 2), (ssu 0 3), (ssu 0 4), (ssu 0 5)])]) (lS [(lI [(sh 0 0), (sh 0 1), 0, 0, 0, 0, (sh 0 6), (sh 0 7), (sh 0 8), (sh 0 9), (sh 0 10), (sh 0 11), (sh 0 12)]), (sh 1), (sh 2), (sh 3), (sh 4), (sh 5)]) p0) := hw14
      obtain ⟨w21, w22, w23, w24⟩ := hw14
      have k26 : m16 = ((J_X9_passSunday (lS [(lI [(ssu 0 0), (ssu 0 1), (ssu 0 2), (ssu 0 3), (ssu 0 4), (ssu 0 5)])]) (lS [(lI [(sh 0 0), (sh 0 1), 0, 0, 0, 0, (sh 0 6), (sh 0 7), (sh 0 8), (sh 0 9), (sh 0 10), (sh 0 11), (sh 0 12)]), (sh 1), (sh 2), (sh 3), (sh 4), (sh 5)]) p0).1) := congrArg (fun z => (z.1)) w24
      have k27 : m17 = ((J_X9_passSunday (lS [(lI [(ssu 0 0), (ssu 0 1), (ssu 0 2), (ssu 0 3), (ssu 0 4), (ssu 0 5)])]) (lS [(lI [(sh 0 0), (sh 0 1), 0, 0, 0, 0, (sh 0 6), (sh 0 7), (sh 0 8), (sh 0 9), (sh 0 10), (sh 0 11), (sh 0 12)]), (sh 1), (sh 2), (sh 3), (sh 4), (sh 5)]) p0).2.1) := congrArg (fun z => (z.2.1)) w24
      have k28 : m18 = ((J_X9_passSunday (lS [(lI [(ssu 0 0), (ssu 0 1), (ssu 0 2), (ssu 0 3), (ssu 0 4), (ssu 0 5)])]) (lS [(lI [(sh 0 0), (sh 0 1), 0, 0, 0, 0, (sh 0 6), (sh 0 7), (sh 0 8), (sh 0 9), (sh 0 10), (sh 0 11), (sh 0 12)]), (sh 1), (sh 2), (sh 3), (sh 4), (sh 5)]) p0).2.2.1) := congrArg (fun z => (z.2.2.1)) w24
      have k29 : m19 = ((J_X9_passSunday (lS [(lI [(ssu 0 0), (ssu 0 1), (ssu 0 2), (ssu 0 3), (ssu 0 4), (ssu 0 5)])]) (lS [(lI [(sh 0 0), (sh 0 1), 0, 0, 0, 0, (sh 0 6), (sh 0 7), (sh 0 8), (sh 0 9), (sh 0 10), (sh 0 11), (sh 0 12)]), (sh 1), (sh 2), (sh 3), (sh 4), (sh 5)]) p0).2.2.2.1) := congrArg (fun z => (z.2.2.2.1)) w24
      have k30 : m20 = ((J_X9_passSunday (lS [(lI [(ssu 0 0), (ssu 0 1), (ssu 0 2), (ssu 0 3), (ssu 0 4), (ssu 0 5)])]) (lS [(lI [(sh 0 0), (sh 0 1), 0, 0, 0, 0, (sh 0 6), (sh 0 7), (sh 0 8), (sh 0 9), (sh 0 10), (sh 0 11), (sh 0 12)]), (sh 1), (sh 2), (sh 3), (sh 4), (sh 5)]) p0).2.2.2.2) := congrArg (fun z => (z.2.2.2.2)) w24
      refine lv_aload_n hx hb dX11_gone_36 rfl (lv_at hl 0 rfl) ?_
      refine g_get cx hP iw_X11_gone_X11 0 rfl rfl 10 (by decide) rfl fw_X11_gone_69 rfl dX11_gone_37 ?_
      refine g_get cx hP iw_X11_gone_X9 3 rfl rfl 1 (by decide) rfl fw_X11_gone_291 rfl dX11_gone_40 ?_
      refine g_ir (g_runS (wc := []) (rest := []) cx hP hD hS [] rfl (by decide) [.int m17] (c_X3_total l D k b H.size m17) gX11_gone_X3_total rfl rfl rfl nd_X3_total ⟨Nat.le_of_ble_eq_true rfl, Nat.le_of_ble_eq_true rfl⟩ rfl hl.1 rfl (Nat.le_of_ble_eq_true rfl) ⟨Nat.zero_le _, Nat.zero_le _⟩ dX11_gone_43) cx.2.2.1 hP hD hS [] rfl rfl (fun r32 H locs hw31 hP hS => ?_)
      have w33 : r32 = J_X3_total m17 := hw31
      clear hw31
      have zr32 : r32.toInt = tot m17 := tot3 w33 (show 0 ≤ m17.toInt from by first | decide | omega)
      have yr32 := tot_0 (x := m17) (by first | decide | omega)
      rw [hQ]
      exact x_i cx hr (m16, m17, m18, m19, m20) hP hD hS ⟨(show 0 ≤ m17.toInt ∧ m17.toInt ≤ 400 ∧ tot m17 ≤ 4 from by omega), (show 0 ≤ m16.toInt ∧ m16.toInt ≤ 5 from by omega), (show 0 ≤ m19.toInt ∧ m19.toInt ≤ 1 from by omega), (show m19.toInt = 0 ∨ m16.toInt ≤ 4 from by omega), (show (r32, m16, m17, m18, m19, m20) = J_X11_gone sx ssu sh p0 from by subst w3 k12 k26 k27 k28 k29 k30 w33; first | (refine Eq.symm ?_; refine Eq.trans (if_neg c4) ?_; refine Eq.trans (if_neg c13) ?_; rfl) | (unfold J_X11_gone; try dsimp only; rw [if_neg c4, if_neg c13]))⟩ dX11_gone_46
    · have f13 : r6.toInt = 0 := f_eq rfl (by decide) c13
      refine lv_bipush (v := (-3)) hx hb dX11_gone_21 (by decide) ?_
      have hlit34 : ((-3) : Int32).toInt = -3 := by decide
      rw [hQ]
      exact x_i cx hr ((ssu 0 0), (ssu 0 1), (ssu 0 2), (ssu 0 4), (ssu 0 5)) hP hD hS ⟨(show 0 ≤ (ssu 0 1).toInt ∧ (ssu 0 1).toInt ≤ 400 ∧ tot (ssu 0 1) ≤ 4 from by omega), (show 0 ≤ (ssu 0 0).toInt ∧ (ssu 0 0).toInt ≤ 5 from by omega), (show 0 ≤ (ssu 0 4).toInt ∧ (ssu 0 4).toInt ≤ 1 from by omega), (show (ssu 0 4).toInt = 0 ∨ (ssu 0 0).toInt ≤ 4 from by omega), (show (((-3) : Int32), (ssu 0 0), (ssu 0 1), (ssu 0 2), (ssu 0 4), (ssu 0 5)) = J_X11_gone sx ssu sh p0 from by subst w3 k12; first | (refine Eq.symm ?_; refine Eq.trans (if_neg c4) ?_; refine Eq.trans (if_pos c13) ?_; rfl) | (unfold J_X11_gone; try dsimp only; rw [if_neg c4, if_pos c13]))⟩ dX11_gone_23
  · have f4 : r2.toInt = 0 := f_eq rfl (by decide) c4
    refine lv_bipush (v := (-2)) hx hb dX11_gone_7 (by decide) ?_
    have hlit35 : ((-2) : Int32).toInt = -2 := by decide
    rw [hQ]
    exact x_i cx hr ((ssu 0 0), (ssu 0 1), (ssu 0 2), (ssu 0 4), (ssu 0 5)) hP hD hS ⟨(show 0 ≤ (ssu 0 1).toInt ∧ (ssu 0 1).toInt ≤ 400 ∧ tot (ssu 0 1) ≤ 4 from by omega), (show 0 ≤ (ssu 0 0).toInt ∧ (ssu 0 0).toInt ≤ 5 from by omega), (show 0 ≤ (ssu 0 4).toInt ∧ (ssu 0 4).toInt ≤ 1 from by omega), (show (ssu 0 4).toInt = 0 ∨ (ssu 0 0).toInt ≤ 4 from by omega), (show (((-2) : Int32), (ssu 0 0), (ssu 0 1), (ssu 0 2), (ssu 0 4), (ssu 0 5)) = J_X11_gone sx ssu sh p0 from by subst w3; first | (refine Eq.symm ?_; refine Eq.trans (if_pos c4) ?_; rfl) | (unfold J_X11_gone; try dsimp only; rw [if_pos c4]))⟩ dX11_gone_9
theorem fw_X11_live_291 : Cond.fieldLink RX11 291 "StillInAugust$Summer" "hands" "I" ∈ wsX11_live := by decide +kernel
theorem fw_X11_live_297 : Cond.fieldLink RX11 297 "StillInAugust$Summer" "week" "I" ∈ wsX11_live := by decide +kernel
theorem fw_X11_live_300 : Cond.fieldLink RX11 300 "StillInAugust$Summer" "coming" "I" ∈ wsX11_live := by decide +kernel
theorem fw_X11_live_303 : Cond.fieldLink RX11 303 "StillInAugust$Summer" "worked" "Z" ∈ wsX11_live := by decide +kernel
theorem fw_X11_live_306 : Cond.fieldLink RX11 306 "StillInAugust$Summer" "costs" "I" ∈ wsX11_live := by decide +kernel
theorem fw_X11_live_69 : Cond.fieldLink RX11 69 "StillInAugust" "summer" "LStillInAugust$Summer;" ∈ wsX11_live := by decide +kernel
theorem iw_X11_live_X11 : ∀ w ∈ u_ws RX11 TX11 17, w ∈ wsX11_live := fun _ h => List.mem_cons_of_mem _ (List.mem_append_left _ (List.mem_append_right _ h))
theorem iw_X11_live_X9 : ∀ w ∈ u_ws RX9 TX9 6, w ∈ wsX11_live := fun _ h => List.mem_cons_of_mem _ (List.mem_append_right _ h)
def J_X11_live (sx : Nat → Nat → Int32) (ssu : Nat → Nat → Int32) (p0 : Int32) : Int32 := if p0 = 0 then (ssu 0 0) else if p0 = 1 then (ssu 0 1) else if p0 = 2 then (ssu 0 2) else if p0 = 3 then if (ssu 0 4) = 0 then (0 : Int32) else (1 : Int32) else if p0 = 4 then (ssu 0 5) else ((-2) : Int32)
set_option maxHeartbeats 4000000 in
set_option maxRecDepth 100000 in
theorem c_X11_live (l : Launch) (D : va_G) (k : Nat → ClassId) (b : Nat → Nat) (qx : Nat → Nat) (sx : Nat → Nat → Int32) (qsu : Nat → Nat) (ssu : Nat → Nat → Int32) (sz : Nat) (p0 : Int32) : MetI l D k b yX11_live wsX11_live ({ frames := 0, cells := 0, slots := 0, locals := 0 } : Room) [cell30_ qx sx, cell28_ k qx sx, cell29_ k qx sx, cell38_ qx ssu] sz [.ref (qx 0), .int p0] (fun (r : Int32) (u : Unit) => r = J_X11_live sx ssu p0) (fun u => [cell30_ qx sx, cell28_ k qx sx, cell29_ k qx sx, cell38_ qx ssu]) := by
  refine g_enter (cc := cX11_live) (maxL := 2) (ret := (some .int)) (by decide) rfl (Nat.le_of_ble_eq_true rfl) ?_
  intro p e s m below meth c A hsz hAe cx hr hP hD hS ls hl
  rw [hAe]
  refine g_q (fun Q hQ => ?_)
  have hx := cx.1.1
  have hb := cx.1.2.1
  have bp0 := i_rng p0
  have hl : lv_has ls 2 [(0, .ref (qx 0)), (1, .int p0)] := hl
  obtain ⟨H, eH⟩ : ∃ H : Heap, H = s.heap := ⟨_, rfl⟩
  obtain ⟨locs, el⟩ : ∃ L : List Loc, L = [] := ⟨_, rfl⟩
  have hP : va_P D vwCl [cell30_ qx sx, cell28_ k qx sx, cell29_ k qx sx, cell38_ qx ssu] H := by rw [eH]; exact hP
  have hD : va_D A [cell30_ qx sx, cell28_ k qx sx, cell29_ k qx sx, cell38_ qx ssu] := hD
  have hS : va_S A s.heap H locs := by rw [eH, el]; exact hS
  suffices goal : W p l e ({ frames := 0, cells := 0, slots := 0, locals := 0 } : Room) s m ([.ref (qx 0), .int p0] : List Value).toArray below meth c H locs 0 0 Q (F0 m 0 ls []) by rw [eH, el] at goal; exact goal
  refine lv_iload_n hx hb dX11_live_0 rfl (lv_at hl 1 rfl) ?_
  by_cases c1 : p0 = 0
  · refine lv_tableIn (tgt := 36) (off := 35) hx hb dX11_live_1 (by rw [c1]; decide) (by rw [c1]; decide) (by rw [c1]; decide) (by decide) ?_
    have f1 : p0.toInt = 0 := f_eq rfl (by decide) c1
    refine lv_aload_n hx hb dX11_live_36 rfl (lv_at hl 0 rfl) ?_
    refine g_get cx hP iw_X11_live_X11 0 rfl rfl 10 (by decide) rfl fw_X11_live_69 rfl dX11_live_37 ?_
    refine g_get cx hP iw_X11_live_X9 3 rfl rfl 0 (by decide) rfl fw_X11_live_297 rfl dX11_live_40 ?_
    rw [hQ]
    exact x_i cx hr () hP hD hS (show (ssu 0 0) = J_X11_live sx ssu p0 from by first | (refine Eq.symm ?_; refine Eq.trans (if_pos c1) ?_; rfl) | (unfold J_X11_live; try dsimp only; rw [if_pos c1])) dX11_live_43
  by_cases c2 : p0 = 1
  · refine lv_tableIn (tgt := 44) (off := 43) hx hb dX11_live_1 (by rw [c2]; decide) (by rw [c2]; decide) (by rw [c2]; decide) (by decide) ?_
    have f2 : p0.toInt = 1 := f_eq rfl (by decide) c2
    refine lv_aload_n hx hb dX11_live_44 rfl (lv_at hl 0 rfl) ?_
    refine g_get cx hP iw_X11_live_X11 0 rfl rfl 10 (by decide) rfl fw_X11_live_69 rfl dX11_live_45 ?_
    refine g_get cx hP iw_X11_live_X9 3 rfl rfl 1 (by decide) rfl fw_X11_live_291 rfl dX11_live_48 ?_
    rw [hQ]
    exact x_i cx hr () hP hD hS (show (ssu 0 1) = J_X11_live sx ssu p0 from by first | (refine Eq.symm ?_; refine Eq.trans (if_neg c1) ?_; refine Eq.trans (if_pos c2) ?_; rfl) | (unfold J_X11_live; try dsimp only; rw [if_neg c1, if_pos c2])) dX11_live_51
  by_cases c3 : p0 = 2
  · refine lv_tableIn (tgt := 52) (off := 51) hx hb dX11_live_1 (by rw [c3]; decide) (by rw [c3]; decide) (by rw [c3]; decide) (by decide) ?_
    have f3 : p0.toInt = 2 := f_eq rfl (by decide) c3
    refine lv_aload_n hx hb dX11_live_52 rfl (lv_at hl 0 rfl) ?_
    refine g_get cx hP iw_X11_live_X11 0 rfl rfl 10 (by decide) rfl fw_X11_live_69 rfl dX11_live_53 ?_
    refine g_get cx hP iw_X11_live_X9 3 rfl rfl 2 (by decide) rfl fw_X11_live_300 rfl dX11_live_56 ?_
    rw [hQ]
    exact x_i cx hr () hP hD hS (show (ssu 0 2) = J_X11_live sx ssu p0 from by first | (refine Eq.symm ?_; refine Eq.trans (if_neg c1) ?_; refine Eq.trans (if_neg c2) ?_; refine Eq.trans (if_pos c3) ?_; rfl) | (unfold J_X11_live; try dsimp only; rw [if_neg c1, if_neg c2, if_pos c3])) dX11_live_59
  by_cases c4 : p0 = 3
  · refine lv_tableIn (tgt := 60) (off := 59) hx hb dX11_live_1 (by rw [c4]; decide) (by rw [c4]; decide) (by rw [c4]; decide) (by decide) ?_
    have f4 : p0.toInt = 3 := f_eq rfl (by decide) c4
    refine lv_aload_n hx hb dX11_live_60 rfl (lv_at hl 0 rfl) ?_
    refine g_get cx hP iw_X11_live_X11 0 rfl rfl 10 (by decide) rfl fw_X11_live_69 rfl dX11_live_61 ?_
    refine g_get cx hP iw_X11_live_X9 3 rfl rfl 4 (by decide) rfl fw_X11_live_303 rfl dX11_live_64 ?_
    refine lv_if_eq (tgt := 74) hx hb dX11_live_67 (by decide) (fun c5 => ?_) (fun c5 => ?_)
    · have f5 : (ssu 0 4).toInt = 0 := f_eq rfl (by decide) c5
      refine lv_iconst (v := 0) hx hb dX11_live_74 (by decide) ?_
      have hlit6 : (0 : Int32).toInt = 0 := by decide
      rw [hQ]
      exact x_i cx hr () hP hD hS (show (0 : Int32) = J_X11_live sx ssu p0 from by first | (refine Eq.symm ?_; refine Eq.trans (if_neg c1) ?_; refine Eq.trans (if_neg c2) ?_; refine Eq.trans (if_neg c3) ?_; refine Eq.trans (if_pos c4) ?_; refine Eq.trans (if_pos c5) ?_; rfl) | (unfold J_X11_live; try dsimp only; rw [if_neg c1, if_neg c2, if_neg c3, if_pos c4, if_pos c5])) dX11_live_75
    · have f5 : ¬ (ssu 0 4).toInt = 0 := f_ne rfl (by decide) c5
      refine lv_iconst (v := 1) hx hb dX11_live_70 (by decide) ?_
      refine lv_goto (tgt := 75) hx hb dX11_live_71 (by decide) ?_
      have hlit7 : (1 : Int32).toInt = 1 := by decide
      rw [hQ]
      exact x_i cx hr () hP hD hS (show (1 : Int32) = J_X11_live sx ssu p0 from by first | (refine Eq.symm ?_; refine Eq.trans (if_neg c1) ?_; refine Eq.trans (if_neg c2) ?_; refine Eq.trans (if_neg c3) ?_; refine Eq.trans (if_pos c4) ?_; refine Eq.trans (if_neg c5) ?_; rfl) | (unfold J_X11_live; try dsimp only; rw [if_neg c1, if_neg c2, if_neg c3, if_pos c4, if_neg c5])) dX11_live_75
  by_cases c8 : p0 = 4
  · refine lv_tableIn (tgt := 76) (off := 75) hx hb dX11_live_1 (by rw [c8]; decide) (by rw [c8]; decide) (by rw [c8]; decide) (by decide) ?_
    have f8 : p0.toInt = 4 := f_eq rfl (by decide) c8
    refine lv_aload_n hx hb dX11_live_76 rfl (lv_at hl 0 rfl) ?_
    refine g_get cx hP iw_X11_live_X11 0 rfl rfl 10 (by decide) rfl fw_X11_live_69 rfl dX11_live_77 ?_
    refine g_get cx hP iw_X11_live_X9 3 rfl rfl 5 (by decide) rfl fw_X11_live_306 rfl dX11_live_80 ?_
    rw [hQ]
    exact x_i cx hr () hP hD hS (show (ssu 0 5) = J_X11_live sx ssu p0 from by first | (refine Eq.symm ?_; refine Eq.trans (if_neg c1) ?_; refine Eq.trans (if_neg c2) ?_; refine Eq.trans (if_neg c3) ?_; refine Eq.trans (if_neg c4) ?_; refine Eq.trans (if_pos c8) ?_; rfl) | (unfold J_X11_live; try dsimp only; rw [if_neg c1, if_neg c2, if_neg c3, if_neg c4, if_pos c8])) dX11_live_83
  have gc1 : ¬ p0.toInt = 0 := f_ne rfl (by decide) c1
  have gc2 : ¬ p0.toInt = 1 := f_ne rfl (by decide) c2
  have gc3 : ¬ p0.toInt = 2 := f_ne rfl (by decide) c3
  have gc4 : ¬ p0.toInt = 3 := f_ne rfl (by decide) c4
  have gc8 : ¬ p0.toInt = 4 := f_ne rfl (by decide) c8
  refine lv_tableOut (tgt := 84) hx hb dX11_live_1 (by omega) (by decide) ?_
  refine lv_bipush (v := (-2)) hx hb dX11_live_84 (by decide) ?_
  have hlit10 : ((-2) : Int32).toInt = -2 := by decide
  rw [hQ]
  exact x_i cx hr () hP hD hS (show ((-2) : Int32) = J_X11_live sx ssu p0 from by first | (refine Eq.symm ?_; refine Eq.trans (if_neg c1) ?_; refine Eq.trans (if_neg c2) ?_; refine Eq.trans (if_neg c3) ?_; refine Eq.trans (if_neg c4) ?_; refine Eq.trans (if_neg c8) ?_; rfl) | (unfold J_X11_live; try dsimp only; rw [if_neg c1, if_neg c2, if_neg c3, if_neg c4, if_neg c8])) dX11_live_86
theorem fw_X11_keep_69 : Cond.fieldLink RX11 69 "StillInAugust" "summer" "LStillInAugust$Summer;" ∈ wsX11_keep := by decide +kernel
theorem fw_X11_keep_79 : Cond.fieldLink RX11 79 "StillInAugust" "kept" "[Z" ∈ wsX11_keep := by decide +kernel
theorem nd_X11_isSlot : yX11_isSlot.cls = RX11 ∧ yX11_isSlot.cls ≠ "java/lang/invoke/MethodHandle" ∧ yX11_isSlot.cls ≠ "java/lang/invoke/VarHandle" ∧ (parseMethodDescriptor yX11_isSlot.desc).map (fun d => d.parameters.length) = some 1 := by decide +kernel
theorem nd_X11_keptIn : yX11_keptIn.cls = RX11 ∧ yX11_keptIn.cls ≠ "java/lang/invoke/MethodHandle" ∧ yX11_keptIn.cls ≠ "java/lang/invoke/VarHandle" ∧ (parseMethodDescriptor yX11_keptIn.desc).map (fun d => d.parameters.length) = some 1 := by decide +kernel
theorem nd_X9_copy : yX9_copy.cls = RX9 ∧ yX9_copy.cls ≠ "java/lang/invoke/MethodHandle" ∧ yX9_copy.cls ≠ "java/lang/invoke/VarHandle" ∧ (parseMethodDescriptor yX9_copy.desc).map (fun d => d.parameters.length) = some 1 := by decide +kernel
theorem iw_X11_keep_X11 : ∀ w ∈ u_ws RX11 TX11 17, w ∈ wsX11_keep := fun _ h => List.mem_cons_of_mem _ (List.mem_append_left _ (List.mem_append_right _ h))
def J_X11_keep (sx : Nat → Nat → Int32) (ssu : Nat → Nat → Int32) (sk1 : Nat → Nat → Int32) (sk2 : Nat → Nat → Int32) (p0 : Int32) : Int32 × Int32 × Int32 × Int32 × Int32 × Int32 × Int32 × Int32 × Int32 × Int32 × Int32 × Int32 × Int32 × (Nat → Int32) := let y6 := J_X11_isSlot sx p0; if y6 = 0 then (((-1) : Int32), (sk1 0 0), (sk1 0 1), (sk1 0 2), (sk1 0 3), (sk1 0 4), (sk1 0 5), (sk2 0 0), (sk2 0 1), (sk2 0 2), (sk2 0 3), (sk2 0 4), (sk2 0 5), (sx 2)) else if ((sx 2) (p0).toNatClampNeg) = 0 then if p0 = 0 then let y24 := J_X9_copy (lS [(lI [(sk1 0 0), (sk1 0 1), (sk1 0 2), (sk1 0 3), (sk1 0 4), (sk1 0 5)])]) (lS [(lI [(ssu 0 0), (ssu 0 1), (ssu 0 2), (ssu 0 3), (ssu 0 4), (ssu 0 5)])]); ((1 : Int32), (y24.1), (y24.2.1), (y24.2.2.1), (y24.2.2.2.1), (y24.2.2.2.2.1), (y24.2.2.2.2.2), (sk2 0 0), (sk2 0 1), (sk2 0 2), (sk2 0 3), (sk2 0 4), (sk2 0 5), (upd (sx 2) (p0).toNatClampNeg (vp_nar .boolean 1))) else let y45 := J_X9_copy (lS [(lI [(sk2 0 0), (sk2 0 1), (sk2 0 2), (sk2 0 3), (sk2 0 4), (sk2 0 5)])]) (lS [(lI [(ssu 0 0), (ssu 0 1), (ssu 0 2), (ssu 0 3), (ssu 0 4), (ssu 0 5)])]); ((1 : Int32), (sk1 0 0), (sk1 0 1), (sk1 0 2), (sk1 0 3), (sk1 0 4), (sk1 0 5), (y45.1), (y45.2.1), (y45.2.2.1), (y45.2.2.2.1), (y45.2.2.2.2.1), (y45.2.2.2.2.2), (upd (sx 2) (p0).toNatClampNeg (vp_nar .boolean 1))) else if p0 = 0 then let y67 := J_X9_copy (lS [(lI [(sk1 0 0), (sk1 0 1), (sk1 0 2), (sk1 0 3), (sk1 0 4), (sk1 0 5)])]) (lS [(lI [(ssu 0 0), (ssu 0 1), (ssu 0 2), (ssu 0 3), (ssu 0 4), (ssu 0 5)])]); ((0 : Int32), (y67.1), (y67.2.1), (y67.2.2.1), (y67.2.2.2.1), (y67.2.2.2.2.1), (y67.2.2.2.2.2), (sk2 0 0), (sk2 0 1), (sk2 0 2), (sk2 0 3), (sk2 0 4), (sk2 0 5), (upd (sx 2) (p0).toNatClampNeg (vp_nar .boolean 1))) else let y88 := J_X9_copy (lS [(lI [(sk2 0 0), (sk2 0 1), (sk2 0 2), (sk2 0 3), (sk2 0 4), (sk2 0 5)])]) (lS [(lI [(ssu 0 0), (ssu 0 1), (ssu 0 2), (ssu 0 3), (ssu 0 4), (ssu 0 5)])]); ((0 : Int32), (sk1 0 0), (sk1 0 1), (sk1 0 2), (sk1 0 3), (sk1 0 4), (sk1 0 5), (y88.1), (y88.2.1), (y88.2.2.1), (y88.2.2.2.1), (y88.2.2.2.2.1), (y88.2.2.2.2.2), (upd (sx 2) (p0).toNatClampNeg (vp_nar .boolean 1)))
set_option maxHeartbeats 4000000 in
set_option maxRecDepth 100000 in
theorem c_X11_keep (l : Launch) (D : va_G) (k : Nat → ClassId) (b : Nat → Nat) (qx : Nat → Nat) (sx : Nat → Nat → Int32) (qsu : Nat → Nat) (ssu : Nat → Nat → Int32) (qk1 : Nat → Nat) (sk1 : Nat → Nat → Int32) (qk2 : Nat → Nat) (sk2 : Nat → Nat → Int32) (sz : Nat) (p0 : Int32) (s_h : 0 ≤ (ssu 0 1).toInt ∧ (ssu 0 1).toInt ≤ 400 ∧ tot (ssu 0 1) ≤ 4) (s_w : 0 ≤ (ssu 0 0).toInt ∧ (ssu 0 0).toInt ≤ 5) (s_k : 0 ≤ (ssu 0 4).toInt ∧ (ssu 0 4).toInt ≤ 1) (s_x : (ssu 0 4).toInt = 0 ∨ (ssu 0 0).toInt ≤ 4) (as_h : 0 ≤ (sk1 0 1).toInt ∧ (sk1 0 1).toInt ≤ 400 ∧ tot (sk1 0 1) ≤ 4) (as_w : 0 ≤ (sk1 0 0).toInt ∧ (sk1 0 0).toInt ≤ 5) (as_k : 0 ≤ (sk1 0 4).toInt ∧ (sk1 0 4).toInt ≤ 1) (as_x : (sk1 0 4).toInt = 0 ∨ (sk1 0 0).toInt ≤ 4) (bs_h : 0 ≤ (sk2 0 1).toInt ∧ (sk2 0 1).toInt ≤ 400 ∧ tot (sk2 0 1) ≤ 4) (bs_w : 0 ≤ (sk2 0 0).toInt ∧ (sk2 0 0).toInt ≤ 5) (bs_k : 0 ≤ (sk2 0 4).toInt ∧ (sk2 0 4).toInt ≤ 1) (bs_x : (sk2 0 4).toInt = 0 ∨ (sk2 0 0).toInt ≤ 4) : MetI l D k b yX11_keep wsX11_keep ({ frames := 1, cells := 0, slots := 0, locals := 21 } : Room) [cell30_ qx sx, cell28_ k qx sx, cell29_ k qx sx, cell38_ qx ssu, cell40_ qx sk1, cell41_ qx sk2] sz [.ref (qx 0), .int p0] (fun (r : Int32) (u : Int32 × Int32 × Int32 × Int32 × Int32 × Int32 × Int32 × Int32 × Int32 × Int32 × Int32 × Int32 × (Nat → Int32)) => (0 ≤ (u.2.1).toInt ∧ (u.2.1).toInt ≤ 400 ∧ tot (u.2.1) ≤ 4) ∧ (0 ≤ (u.1).toInt ∧ (u.1).toInt ≤ 5) ∧ (0 ≤ (u.2.2.2.2.1).toInt ∧ (u.2.2.2.2.1).toInt ≤ 1) ∧ ((u.2.2.2.2.1).toInt = 0 ∨ (u.1).toInt ≤ 4) ∧ (0 ≤ (u.2.2.2.2.2.2.2.1).toInt ∧ (u.2.2.2.2.2.2.2.1).toInt ≤ 400 ∧ tot (u.2.2.2.2.2.2.2.1) ≤ 4) ∧ (0 ≤ (u.2.2.2.2.2.2.1).toInt ∧ (u.2.2.2.2.2.2.1).toInt ≤ 5) ∧ (0 ≤ (u.2.2.2.2.2.2.2.2.2.2.1).toInt ∧ (u.2.2.2.2.2.2.2.2.2.2.1).toInt ≤ 1) ∧ ((u.2.2.2.2.2.2.2.2.2.2.1).toInt = 0 ∨ (u.2.2.2.2.2.2.1).toInt ≤ 4) ∧ ((r, (u.1), (u.2.1), (u.2.2.1), (u.2.2.2.1), (u.2.2.2.2.1), (u.2.2.2.2.2.1), (u.2.2.2.2.2.2.1), (u.2.2.2.2.2.2.2.1), (u.2.2.2.2.2.2.2.2.1), (u.2.2.2.2.2.2.2.2.2.1), (u.2.2.2.2.2.2.2.2.2.2.1), (u.2.2.2.2.2.2.2.2.2.2.2.1), (u.2.2.2.2.2.2.2.2.2.2.2.2)) = J_X11_keep sx ssu sk1 sk2 p0)) (fun u => [cell30_ qx sx, cell28_ k qx sx, cell208_ k qx (u.2.2.2.2.2.2.2.2.2.2.2.2), cell38_ qx ssu, cell119_ qx (u.1) (u.2.1) (u.2.2.1) (u.2.2.2.1) (u.2.2.2.2.1) (u.2.2.2.2.2.1), cell120_ qx (u.2.2.2.2.2.2.1) (u.2.2.2.2.2.2.2.1) (u.2.2.2.2.2.2.2.2.1) (u.2.2.2.2.2.2.2.2.2.1) (u.2.2.2.2.2.2.2.2.2.2.1) (u.2.2.2.2.2.2.2.2.2.2.2.1)]) := by
  refine g_enter (cc := cX11_keep) (maxL := 3) (ret := (some .int)) (by decide) rfl (Nat.le_of_ble_eq_true rfl) ?_
  intro p e s m below meth c A hsz hAe cx hr hP hD hS ls hl
  rw [hAe]
  refine g_q (fun Q hQ => ?_)
  have hx := cx.1.1
  have hb := cx.1.2.1
  have bp0 := i_rng p0
  have hl : lv_has ls 3 [(0, .ref (qx 0)), (1, .int p0)] := hl
  obtain ⟨H, eH⟩ : ∃ H : Heap, H = s.heap := ⟨_, rfl⟩
  obtain ⟨locs, el⟩ : ∃ L : List Loc, L = [] := ⟨_, rfl⟩
  have hP : va_P D vwCl [cell30_ qx sx, cell28_ k qx sx, cell29_ k qx sx, cell38_ qx ssu, cell40_ qx sk1, cell41_ qx sk2] H := by rw [eH]; exact hP
  have hD : va_D A [cell30_ qx sx, cell28_ k qx sx, cell29_ k qx sx, cell38_ qx ssu, cell40_ qx sk1, cell41_ qx sk2] := hD
  have hS : va_S A s.heap H locs := by rw [eH, el]; exact hS
  suffices goal : W p l e ({ frames := 1, cells := 0, slots := 0, locals := 21 } : Room) s m ([.ref (qx 0), .int p0] : List Value).toArray below meth c H locs 0 0 Q (F0 m 0 ls []) by rw [eH, el] at goal; exact goal
  refine lv_aload_n hx hb dX11_keep_0 rfl (lv_at hl 0 rfl) ?_
  refine lv_iload_n hx hb dX11_keep_1 rfl (lv_at hl 1 rfl) ?_
  refine g_ir (g_runV (wc := [cell30_ qx sx, cell28_ k qx sx, cell29_ k qx sx]) (rest := []) cx hP hD hS [0, 1, 2] rfl (by decide) [.int p0] (c_X11_isSlot l D k b qx sx H.size p0) gX11_keep_X11_isSlot rfl rfl rfl nd_X11_isSlot ⟨Nat.le_of_ble_eq_true rfl, Nat.le_of_ble_eq_true rfl⟩ (ci := 9) (q0 := 0) rfl rfl rfl hl.1 rfl (Nat.le_of_ble_eq_true rfl) ⟨Nat.zero_le _, Nat.zero_le _⟩ dX11_keep_2) cx.2.2.1 hP hD hS [0, 1, 2] rfl rfl (fun r2 H locs hw1 hP hS => ?_)
  replace hw1 : (0 ≤ r2.toInt ∧ r2.toInt ≤ 1) ∧ (Imp (r2.toInt = 1) (0 ≤ p0.toInt ∧ p0.toInt ≤ 1)) ∧ (r2 = J_X11_isSlot sx p0) := hw1
  obtain ⟨w3, w4, w5⟩ := hw1
  have k7 : r2 = (J_X11_isSlot sx p0) := congrArg (fun z => z) w5
  have zr2 : 0 ≤ r2.toInt ∧ r2.toInt ≤ 1 := w3
  refine lv_if_ne (tgt := 10) hx hb dX11_keep_5 (by decide) (fun c8 => ?_) (fun c8 => ?_)
  · have f8 : ¬ r2.toInt = 0 := f_ne rfl (by decide) c8
    have k8 : (0 ≤ p0.toInt ∧ p0.toInt ≤ 1) := w4 (by omega)
    refine lv_aload_n hx hb dX11_keep_10 rfl (lv_at hl 0 rfl) ?_
    refine g_get cx hP iw_X11_keep_X11 0 rfl rfl 13 (by decide) rfl fw_X11_keep_79 rfl dX11_keep_11 ?_
    refine lv_iload_n hx hb dX11_keep_14 rfl (lv_at hl 1 rfl) ?_
    have hn9 : vp_in p0 2 := f_in (a := p0.toInt) rfl (by omega) (by omega)
    refine va_zald hx hb cx.2.1 hP 2 3 rfl rfl hn9 dX11_keep_15 (lv_topi (fun v10 e10 => ?_))
    refine lv_if_eq (tgt := 23) hx hb dX11_keep_16 (by decide) (fun c11 => ?_) (fun c11 => ?_)
    · have f11 : v10.toInt = 0 := f_eq rfl (by decide) c11
      refine lv_iconst (v := 1) hx hb dX11_keep_23 (by decide) ?_
      refine lv_istore_n (lv' := [(2, .int 1), (0, .ref (qx 0)), (1, .int p0)]) hx hb dX11_keep_24 rfl hl (by decide) rfl (fun ls hl => ?_)
      by_cases c12 : p0 = 0
      · have f12 : p0.toInt = 0 := f_eq rfl (by decide) c12
        refine lv_aload_n hx hb dX11_keep_25 rfl (lv_at hl 1 rfl) ?_
        refine lv_iload_n hx hb dX11_keep_26 rfl (lv_at hl 2 rfl) ?_
        refine g_qr (ra := (qx 13)) (g_runV (wc := [cell30_ qx sx, cell28_ k qx sx, cell29_ k qx sx]) (rest := []) cx hP hD hS [0, 1, 2] rfl (by decide) [.int p0] (c_X11_keptIn_0 l D k b qx sx H.size p0 (show p0.toInt = 0 from by first | decide | omega)) gX11_keep_X11_keptIn rfl rfl rfl nd_X11_keptIn ⟨Nat.le_of_ble_eq_true rfl, Nat.le_of_ble_eq_true rfl⟩ (ci := 9) (q0 := 0) rfl rfl rfl hl.1 rfl (Nat.le_of_ble_eq_true rfl) ⟨Nat.zero_le _, Nat.zero_le _⟩ dX11_keep_27) cx.2.2.1 hP hD hS [0, 1, 2] rfl rfl (fun H locs hw13 hP hS => ?_)
        refine lv_aload_n hx hb dX11_keep_30 rfl (lv_at hl 1 rfl) ?_
        refine g_get cx hP iw_X11_keep_X11 0 rfl rfl 10 (by decide) rfl fw_X11_keep_69 rfl dX11_keep_31 ?_
        refine g_v (w1 := fun (u : Int32 × Int32 × Int32 × Int32 × Int32 × Int32) => [cell119_ qx (u.1) (u.2.1) (u.2.2.1) (u.2.2.2.1) (u.2.2.2.2.1) (u.2.2.2.2.2), cell38_ qx ssu]) (g_runV (wc := [cell40_ qx sk1, cell38_ qx ssu]) (rest := []) cx hP hD hS [4, 3] rfl (by decide) [.ref (qx 12)] (c_X9_copy l D k b (lq [qx 13]) (lS [(lI [(sk1 0 0), (sk1 0 1), (sk1 0 2), (sk1 0 3), (sk1 0 4), (sk1 0 5)])]) (lq [qx 12]) (lS [(lI [(ssu 0 0), (ssu 0 1), (ssu 0 2), (ssu 0 3), (ssu 0 4), (ssu 0 5)])]) H.size (show 0 ≤ (ssu 0 4).toInt ∧ (ssu 0 4).toInt ≤ 1 from by first | decide | omega)) gX11_keep_X9_copy rfl rfl rfl nd_X9_copy ⟨Nat.le_of_ble_eq_true rfl, Nat.le_of_ble_eq_true rfl⟩ (ci := 7) (q0 := 0) rfl rfl rfl hl.1 rfl (Nat.le_of_ble_eq_true rfl) ⟨Nat.zero_le _, Nat.zero_le _⟩ dX11_keep_34) cx.2.2.1 hP hD hS [4, 3] rfl (fun _ => rfl) (fun u15 H locs hw14 hP hD hS => ?_)
        obtain ⟨m16, m17, m18, m19, m20, m21⟩ := u15
        have hP : va_P D vwCl [cell30_ qx sx, cell28_ k qx sx, cell29_ k qx sx, cell38_ qx ssu, cell119_ qx m16 m17 m18 m19 m20 m21, cell41_ qx sk2] H := hP
        have hD : va_D A [cell30_ qx sx, cell28_ k qx sx, cell29_ k qx sx, cell38_ qx ssu, cell119_ qx m16 m17 m18 m19 m20 m21, cell41_ qx sk2] := hD
        replace hw14 : (m16 = (ssu 0 0) ∧ m17 = (ssu 0 1) ∧ m18 = (ssu 0 2) ∧ m19 = (ssu 0 3) ∧ m20 = (ssu 0 4) ∧ m21 = (ssu 0 5)) ∧ ((m16, m17, m18, m19, m20, m21) = J_X9_copy (lS [(lI [(sk1 0 0), (sk1 0 1), (sk1 0 2), (sk1 0 3), (sk1 0 4), (sk1 0 5)])]) (lS [(lI [(ssu 0 0), (ssu 0 1), (ssu 0 2), (ssu 0 3), (ssu 0 4), (ssu 0 5)])])) := hw14
        obtain ⟨w22, w23⟩ := hw14
        have k25 : m16 = ((J_X9_copy (lS [(lI [(sk1 0 0), (sk1 0 1), (sk1 0 2), (sk1 0 3), (sk1 0 4), (sk1 0 5)])]) (lS [(lI [(ssu 0 0), (ssu 0 1), (ssu 0 2), (ssu 0 3), (ssu 0 4), (ssu 0 5)])])).1) := congrArg (fun z => (z.1)) w23
        have k26 : m17 = ((J_X9_copy (lS [(lI [(sk1 0 0), (sk1 0 1), (sk1 0 2), (sk1 0 3), (sk1 0 4), (sk1 0 5)])]) (lS [(lI [(ssu 0 0), (ssu 0 1), (ssu 0 2), (ssu 0 3), (ssu 0 4), (ssu 0 5)])])).2.1) := congrArg (fun z => (z.2.1)) w23
        have k27 : m18 = ((J_X9_copy (lS [(lI [(sk1 0 0), (sk1 0 1), (sk1 0 2), (sk1 0 3), (sk1 0 4), (sk1 0 5)])]) (lS [(lI [(ssu 0 0), (ssu 0 1), (ssu 0 2), (ssu 0 3), (ssu 0 4), (ssu 0 5)])])).2.2.1) := congrArg (fun z => (z.2.2.1)) w23
        have k28 : m19 = ((J_X9_copy (lS [(lI [(sk1 0 0), (sk1 0 1), (sk1 0 2), (sk1 0 3), (sk1 0 4), (sk1 0 5)])]) (lS [(lI [(ssu 0 0), (ssu 0 1), (ssu 0 2), (ssu 0 3), (ssu 0 4), (ssu 0 5)])])).2.2.2.1) := congrArg (fun z => (z.2.2.2.1)) w23
        have k29 : m20 = ((J_X9_copy (lS [(lI [(sk1 0 0), (sk1 0 1), (sk1 0 2), (sk1 0 3), (sk1 0 4), (sk1 0 5)])]) (lS [(lI [(ssu 0 0), (ssu 0 1), (ssu 0 2), (ssu 0 3), (ssu 0 4), (ssu 0 5)])])).2.2.2.2.1) := congrArg (fun z => (z.2.2.2.2.1)) w23
        have k30 : m21 = ((J_X9_copy (lS [(lI [(sk1 0 0), (sk1 0 1), (sk1 0 2), (sk1 0 3), (sk1 0 4), (sk1 0 5)])]) (lS [(lI [(ssu 0 0), (ssu 0 1), (ssu 0 2), (ssu 0 3), (ssu 0 4), (ssu 0 5)])])).2.2.2.2.2) := congrArg (fun z => (z.2.2.2.2.2)) w23
        obtain ⟨c0, c1, c2, c3, c4, c5⟩ := w22
        have q0 : m16.toInt = (ssu 0 0).toInt := congrArg Int32.toInt c0
        have q1 : m17.toInt = (ssu 0 1).toInt := congrArg Int32.toInt c1
        have q4 : m20.toInt = (ssu 0 4).toInt := congrArg Int32.toInt c4
        have qt : tot m17 = tot (ssu 0 1) := congrArg tot c1
        refine lv_aload_n hx hb dX11_keep_37 rfl (lv_at hl 1 rfl) ?_
        refine g_get cx hP iw_X11_keep_X11 0 rfl rfl 13 (by decide) rfl fw_X11_keep_79 rfl dX11_keep_38 ?_
        refine lv_iload_n hx hb dX11_keep_41 rfl (lv_at hl 2 rfl) ?_
        refine lv_iconst (v := 1) hx hb dX11_keep_42 (by decide) ?_
        have hn31 : vp_in p0 2 := f_in (a := p0.toInt) rfl (by omega) (by omega)
        refine va_zast hx hb cx.2.1 hP hD hS 2 3 rfl rfl hn31 dX11_keep_43 (fun H locs hP hD hS => ?_)
        obtain ⟨g32, eg32⟩ : ∃ g : Nat → Int32, g = upd (sx 2) (p0).toNatClampNeg (vp_nar .boolean 1) := ⟨_, rfl⟩
        rw [← eg32] at hP hD
        have hP : va_P D vwCl [cell30_ qx sx, cell28_ k qx sx, (qx 2, .inl (k 3, 2, .inl g32)), cell38_ qx ssu, cell119_ qx m16 m17 m18 m19 m20 m21, cell41_ qx sk2] H := hP
        have hD : va_D A [cell30_ qx sx, cell28_ k qx sx, (qx 2, .inl (k 3, 2, .inl g32)), cell38_ qx ssu, cell119_ qx m16 m17 m18 m19 m20 m21, cell41_ qx sk2] := hD
        refine lv_iload_n hx hb dX11_keep_44 rfl (lv_at hl 0 rfl) ?_
        have hlit33 : (1 : Int32).toInt = 1 := by decide
        rw [hQ]
        exact x_i cx hr (m16, m17, m18, m19, m20, m21, (sk2 0 0), (sk2 0 1), (sk2 0 2), (sk2 0 3), (sk2 0 4), (sk2 0 5), g32) hP hD hS ⟨(show 0 ≤ m17.toInt ∧ m17.toInt ≤ 400 ∧ tot m17 ≤ 4 from by omega), (show 0 ≤ m16.toInt ∧ m16.toInt ≤ 5 from by omega), (show 0 ≤ m20.toInt ∧ m20.toInt ≤ 1 from by omega), (show m20.toInt = 0 ∨ m16.toInt ≤ 4 from by omega), (show 0 ≤ (sk2 0 1).toInt ∧ (sk2 0 1).toInt ≤ 400 ∧ tot (sk2 0 1) ≤ 4 from by omega), (show 0 ≤ (sk2 0 0).toInt ∧ (sk2 0 0).toInt ≤ 5 from by omega), (show 0 ≤ (sk2 0 4).toInt ∧ (sk2 0 4).toInt ≤ 1 from by omega), (show (sk2 0 4).toInt = 0 ∨ (sk2 0 0).toInt ≤ 4 from by omega), (show ((1 : Int32), m16, m17, m18, m19, m20, m21, (sk2 0 0), (sk2 0 1), (sk2 0 2), (sk2 0 3), (sk2 0 4), (sk2 0 5), g32) = J_X11_keep sx ssu sk1 sk2 p0 from by subst k7 e10 k25 k26 k27 k28 k29 k30 eg32; first | (refine Eq.symm ?_; refine Eq.trans (if_neg c8) ?_; refine Eq.trans (if_pos c11) ?_; refine Eq.trans (if_pos c12) ?_; rfl) | (unfold J_X11_keep; try dsimp only; rw [if_neg c8, if_pos c11, if_pos c12]))⟩ dX11_keep_45
      · have f12 : ¬ p0.toInt = 0 := f_ne rfl (by decide) c12
        refine lv_aload_n hx hb dX11_keep_25 rfl (lv_at hl 1 rfl) ?_
        refine lv_iload_n hx hb dX11_keep_26 rfl (lv_at hl 2 rfl) ?_
        refine g_qr (ra := (qx 14)) (g_runV (wc := [cell30_ qx sx, cell28_ k qx sx, cell29_ k qx sx]) (rest := []) cx hP hD hS [0, 1, 2] rfl (by decide) [.int p0] (c_X11_keptIn_1 l D k b qx sx H.size p0 (show ¬ p0.toInt = 0 from by first | decide | omega)) gX11_keep_X11_keptIn rfl rfl rfl nd_X11_keptIn ⟨Nat.le_of_ble_eq_true rfl, Nat.le_of_ble_eq_true rfl⟩ (ci := 9) (q0 := 0) rfl rfl rfl hl.1 rfl (Nat.le_of_ble_eq_true rfl) ⟨Nat.zero_le _, Nat.zero_le _⟩ dX11_keep_27) cx.2.2.1 hP hD hS [0, 1, 2] rfl rfl (fun H locs hw34 hP hS => ?_)
        refine lv_aload_n hx hb dX11_keep_30 rfl (lv_at hl 1 rfl) ?_
        refine g_get cx hP iw_X11_keep_X11 0 rfl rfl 10 (by decide) rfl fw_X11_keep_69 rfl dX11_keep_31 ?_
        refine g_v (w1 := fun (u : Int32 × Int32 × Int32 × Int32 × Int32 × Int32) => [cell120_ qx (u.1) (u.2.1) (u.2.2.1) (u.2.2.2.1) (u.2.2.2.2.1) (u.2.2.2.2.2), cell38_ qx ssu]) (g_runV (wc := [cell41_ qx sk2, cell38_ qx ssu]) (rest := []) cx hP hD hS [5, 3] rfl (by decide) [.ref (qx 12)] (c_X9_copy l D k b (lq [qx 14]) (lS [(lI [(sk2 0 0), (sk2 0 1), (sk2 0 2), (sk2 0 3), (sk2 0 4), (sk2 0 5)])]) (lq [qx 12]) (lS [(lI [(ssu 0 0), (ssu 0 1), (ssu 0 2), (ssu 0 3), (ssu 0 4), (ssu 0 5)])]) H.size (show 0 ≤ (ssu 0 4).toInt ∧ (ssu 0 4).toInt ≤ 1 from by first | decide | omega)) gX11_keep_X9_copy rfl rfl rfl nd_X9_copy ⟨Nat.le_of_ble_eq_true rfl, Nat.le_of_ble_eq_true rfl⟩ (ci := 7) (q0 := 0) rfl rfl rfl hl.1 rfl (Nat.le_of_ble_eq_true rfl) ⟨Nat.zero_le _, Nat.zero_le _⟩ dX11_keep_34) cx.2.2.1 hP hD hS [5, 3] rfl (fun _ => rfl) (fun u36 H locs hw35 hP hD hS => ?_)
        obtain ⟨m37, m38, m39, m40, m41, m42⟩ := u36
        have hP : va_P D vwCl [cell30_ qx sx, cell28_ k qx sx, cell29_ k qx sx, cell38_ qx ssu, cell40_ qx sk1, cell120_ qx m37 m38 m39 m40 m41 m42] H := hP
        have hD : va_D A [cell30_ qx sx, cell28_ k qx sx, cell29_ k qx sx, cell38_ qx ssu, cell40_ qx sk1, cell120_ qx m37 m38 m39 m40 m41 m42] := hD
        replace hw35 : (m37 = (ssu 0 0) ∧ m38 = (ssu 0 1) ∧ m39 = (ssu 0 2) ∧ m40 = (ssu 0 3) ∧ m41 = (ssu 0 4) ∧ m42 = (ssu 0 5)) ∧ ((m37, m38, m39, m40, m41, m42) = J_X9_copy (lS [(lI [(sk2 0 0), (sk2 0 1), (sk2 0 2), (sk2 0 3), (sk2 0 4), (sk2 0 5)])]) (lS [(lI [(ssu 0 0), (ssu 0 1), (ssu 0 2), (ssu 0 3), (ssu 0 4), (ssu 0 5)])])) := hw35
        obtain ⟨w43, w44⟩ := hw35
        have k46 : m37 = ((J_X9_copy (lS [(lI [(sk2 0 0), (sk2 0 1), (sk2 0 2), (sk2 0 3), (sk2 0 4), (sk2 0 5)])]) (lS [(lI [(ssu 0 0), (ssu 0 1), (ssu 0 2), (ssu 0 3), (ssu 0 4), (ssu 0 5)])])).1) := congrArg (fun z => (z.1)) w44
        have k47 : m38 = ((J_X9_copy (lS [(lI [(sk2 0 0), (sk2 0 1), (sk2 0 2), (sk2 0 3), (sk2 0 4), (sk2 0 5)])]) (lS [(lI [(ssu 0 0), (ssu 0 1), (ssu 0 2), (ssu 0 3), (ssu 0 4), (ssu 0 5)])])).2.1) := congrArg (fun z => (z.2.1)) w44
        have k48 : m39 = ((J_X9_copy (lS [(lI [(sk2 0 0), (sk2 0 1), (sk2 0 2), (sk2 0 3), (sk2 0 4), (sk2 0 5)])]) (lS [(lI [(ssu 0 0), (ssu 0 1), (ssu 0 2), (ssu 0 3), (ssu 0 4), (ssu 0 5)])])).2.2.1) := congrArg (fun z => (z.2.2.1)) w44
        have k49 : m40 = ((J_X9_copy (lS [(lI [(sk2 0 0), (sk2 0 1), (sk2 0 2), (sk2 0 3), (sk2 0 4), (sk2 0 5)])]) (lS [(lI [(ssu 0 0), (ssu 0 1), (ssu 0 2), (ssu 0 3), (ssu 0 4), (ssu 0 5)])])).2.2.2.1) := congrArg (fun z => (z.2.2.2.1)) w44
        have k50 : m41 = ((J_X9_copy (lS [(lI [(sk2 0 0), (sk2 0 1), (sk2 0 2), (sk2 0 3), (sk2 0 4), (sk2 0 5)])]) (lS [(lI [(ssu 0 0), (ssu 0 1), (ssu 0 2), (ssu 0 3), (ssu 0 4), (ssu 0 5)])])).2.2.2.2.1) := congrArg (fun z => (z.2.2.2.2.1)) w44
        have k51 : m42 = ((J_X9_copy (lS [(lI [(sk2 0 0), (sk2 0 1), (sk2 0 2), (sk2 0 3), (sk2 0 4), (sk2 0 5)])]) (lS [(lI [(ssu 0 0), (ssu 0 1), (ssu 0 2), (ssu 0 3), (ssu 0 4), (ssu 0 5)])])).2.2.2.2.2) := congrArg (fun z => (z.2.2.2.2.2)) w44
        obtain ⟨c0, c1, c2, c3, c4, c5⟩ := w43
        have q0 : m37.toInt = (ssu 0 0).toInt := congrArg Int32.toInt c0
        have q1 : m38.toInt = (ssu 0 1).toInt := congrArg Int32.toInt c1
        have q4 : m41.toInt = (ssu 0 4).toInt := congrArg Int32.toInt c4
        have qt : tot m38 = tot (ssu 0 1) := congrArg tot c1
        refine lv_aload_n hx hb dX11_keep_37 rfl (lv_at hl 1 rfl) ?_
        refine g_get cx hP iw_X11_keep_X11 0 rfl rfl 13 (by decide) rfl fw_X11_keep_79 rfl dX11_keep_38 ?_
        refine lv_iload_n hx hb dX11_keep_41 rfl (lv_at hl 2 rfl) ?_
        refine lv_iconst (v := 1) hx hb dX11_keep_42 (by decide) ?_
        have hn52 : vp_in p0 2 := f_in (a := p0.toInt) rfl (by omega) (by omega)
        refine va_zast hx hb cx.2.1 hP hD hS 2 3 rfl rfl hn52 dX11_keep_43 (fun H locs hP hD hS => ?_)
        obtain ⟨g53, eg53⟩ : ∃ g : Nat → Int32, g = upd (sx 2) (p0).toNatClampNeg (vp_nar .boolean 1) := ⟨_, rfl⟩
        rw [← eg53] at hP hD
        have hP : va_P D vwCl [cell30_ qx sx, cell28_ k qx sx, (qx 2, .inl (k 3, 2, .inl g53)), cell38_ qx ssu, cell40_ qx sk1, cell120_ qx m37 m38 m39 m40 m41 m42] H := hP
        have hD : va_D A [cell30_ qx sx, cell28_ k qx sx, (qx 2, .inl (k 3, 2, .inl g53)), cell38_ qx ssu, cell40_ qx sk1, cell120_ qx m37 m38 m39 m40 m41 m42] := hD
        refine lv_iload_n hx hb dX11_keep_44 rfl (lv_at hl 0 rfl) ?_
        have hlit54 : (1 : Int32).toInt = 1 := by decide
        rw [hQ]
        exact x_i cx hr ((sk1 0 0), (sk1 0 1), (sk1 0 2), (sk1 0 3), (sk1 0 4), (sk1 0 5), m37, m38, m39, m40, m41, m42, g53) hP hD hS ⟨(show 0 ≤ (sk1 0 1).toInt ∧ (sk1 0 1).toInt ≤ 400 ∧ tot (sk1 0 1) ≤ 4 from by omega), (show 0 ≤ (sk1 0 0).toInt ∧ (sk1 0 0).toInt ≤ 5 from by omega), (show 0 ≤ (sk1 0 4).toInt ∧ (sk1 0 4).toInt ≤ 1 from by omega), (show (sk1 0 4).toInt = 0 ∨ (sk1 0 0).toInt ≤ 4 from by omega), (show 0 ≤ m38.toInt ∧ m38.toInt ≤ 400 ∧ tot m38 ≤ 4 from by omega), (show 0 ≤ m37.toInt ∧ m37.toInt ≤ 5 from by omega), (show 0 ≤ m41.toInt ∧ m41.toInt ≤ 1 from by omega), (show m41.toInt = 0 ∨ m37.toInt ≤ 4 from by omega), (show ((1 : Int32), (sk1 0 0), (sk1 0 1), (sk1 0 2), (sk1 0 3), (sk1 0 4), (sk1 0 5), m37, m38, m39, m40, m41, m42, g53) = J_X11_keep sx ssu sk1 sk2 p0 from by subst k7 e10 k46 k47 k48 k49 k50 k51 eg53; first | (refine Eq.symm ?_; refine Eq.trans (if_neg c8) ?_; refine Eq.trans (if_pos c11) ?_; refine Eq.trans (if_neg c12) ?_; rfl) | (unfold J_X11_keep; try dsimp only; rw [if_neg c8, if_pos c11, if_neg c12]))⟩ dX11_keep_45
    · have f11 : ¬ v10.toInt = 0 := f_ne rfl (by decide) c11
      refine lv_iconst (v := 0) hx hb dX11_keep_19 (by decide) ?_
      refine lv_goto (tgt := 24) hx hb dX11_keep_20 (by decide) ?_
      refine lv_istore_n (lv' := [(2, .int 0), (0, .ref (qx 0)), (1, .int p0)]) hx hb dX11_keep_24 rfl hl (by decide) rfl (fun ls hl => ?_)
      by_cases c55 : p0 = 0
      · have f55 : p0.toInt = 0 := f_eq rfl (by decide) c55
        refine lv_aload_n hx hb dX11_keep_25 rfl (lv_at hl 1 rfl) ?_
        refine lv_iload_n hx hb dX11_keep_26 rfl (lv_at hl 2 rfl) ?_
        refine g_qr (ra := (qx 13)) (g_runV (wc := [cell30_ qx sx, cell28_ k qx sx, cell29_ k qx sx]) (rest := []) cx hP hD hS [0, 1, 2] rfl (by decide) [.int p0] (c_X11_keptIn_0 l D k b qx sx H.size p0 (show p0.toInt = 0 from by first | decide | omega)) gX11_keep_X11_keptIn rfl rfl rfl nd_X11_keptIn ⟨Nat.le_of_ble_eq_true rfl, Nat.le_of_ble_eq_true rfl⟩ (ci := 9) (q0 := 0) rfl rfl rfl hl.1 rfl (Nat.le_of_ble_eq_true rfl) ⟨Nat.zero_le _, Nat.zero_le _⟩ dX11_keep_27) cx.2.2.1 hP hD hS [0, 1, 2] rfl rfl (fun H locs hw56 hP hS => ?_)
        refine lv_aload_n hx hb dX11_keep_30 rfl (lv_at hl 1 rfl) ?_
        refine g_get cx hP iw_X11_keep_X11 0 rfl rfl 10 (by decide) rfl fw_X11_keep_69 rfl dX11_keep_31 ?_
        refine g_v (w1 := fun (u : Int32 × Int32 × Int32 × Int32 × Int32 × Int32) => [cell119_ qx (u.1) (u.2.1) (u.2.2.1) (u.2.2.2.1) (u.2.2.2.2.1) (u.2.2.2.2.2), cell38_ qx ssu]) (g_runV (wc := [cell40_ qx sk1, cell38_ qx ssu]) (rest := []) cx hP hD hS [4, 3] rfl (by decide) [.ref (qx 12)] (c_X9_copy l D k b (lq [qx 13]) (lS [(lI [(sk1 0 0), (sk1 0 1), (sk1 0 2), (sk1 0 3), (sk1 0 4), (sk1 0 5)])]) (lq [qx 12]) (lS [(lI [(ssu 0 0), (ssu 0 1), (ssu 0 2), (ssu 0 3), (ssu 0 4), (ssu 0 5)])]) H.size (show 0 ≤ (ssu 0 4).toInt ∧ (ssu 0 4).toInt ≤ 1 from by first | decide | omega)) gX11_keep_X9_copy rfl rfl rfl nd_X9_copy ⟨Nat.le_of_ble_eq_true rfl, Nat.le_of_ble_eq_true rfl⟩ (ci := 7) (q0 := 0) rfl rfl rfl hl.1 rfl (Nat.le_of_ble_eq_true rfl) ⟨Nat.zero_le _, Nat.zero_le _⟩ dX11_keep_34) cx.2.2.1 hP hD hS [4, 3] rfl (fun _ => rfl) (fun u58 H locs hw57 hP hD hS => ?_)
        obtain ⟨m59, m60, m61, m62, m63, m64⟩ := u58
        have hP : va_P D vwCl [cell30_ qx sx, cell28_ k qx sx, cell29_ k qx sx, cell38_ qx ssu, cell119_ qx m59 m60 m61 m62 m63 m64, cell41_ qx sk2] H := hP
        have hD : va_D A [cell30_ qx sx, cell28_ k qx sx, cell29_ k qx sx, cell38_ qx ssu, cell119_ qx m59 m60 m61 m62 m63 m64, cell41_ qx sk2] := hD
        replace hw57 : (m59 = (ssu 0 0) ∧ m60 = (ssu 0 1) ∧ m61 = (ssu 0 2) ∧ m62 = (ssu 0 3) ∧ m63 = (ssu 0 4) ∧ m64 = (ssu 0 5)) ∧ ((m59, m60, m61, m62, m63, m64) = J_X9_copy (lS [(lI [(sk1 0 0), (sk1 0 1), (sk1 0 2), (sk1 0 3), (sk1 0 4), (sk1 0 5)])]) (lS [(lI [(ssu 0 0), (ssu 0 1), (ssu 0 2), (ssu 0 3), (ssu 0 4), (ssu 0 5)])])) := hw57
        obtain ⟨w65, w66⟩ := hw57
        have k68 : m59 = ((J_X9_copy (lS [(lI [(sk1 0 0), (sk1 0 1), (sk1 0 2), (sk1 0 3), (sk1 0 4), (sk1 0 5)])]) (lS [(lI [(ssu 0 0), (ssu 0 1), (ssu 0 2), (ssu 0 3), (ssu 0 4), (ssu 0 5)])])).1) := congrArg (fun z => (z.1)) w66
        have k69 : m60 = ((J_X9_copy (lS [(lI [(sk1 0 0), (sk1 0 1), (sk1 0 2), (sk1 0 3), (sk1 0 4), (sk1 0 5)])]) (lS [(lI [(ssu 0 0), (ssu 0 1), (ssu 0 2), (ssu 0 3), (ssu 0 4), (ssu 0 5)])])).2.1) := congrArg (fun z => (z.2.1)) w66
        have k70 : m61 = ((J_X9_copy (lS [(lI [(sk1 0 0), (sk1 0 1), (sk1 0 2), (sk1 0 3), (sk1 0 4), (sk1 0 5)])]) (lS [(lI [(ssu 0 0), (ssu 0 1), (ssu 0 2), (ssu 0 3), (ssu 0 4), (ssu 0 5)])])).2.2.1) := congrArg (fun z => (z.2.2.1)) w66
        have k71 : m62 = ((J_X9_copy (lS [(lI [(sk1 0 0), (sk1 0 1), (sk1 0 2), (sk1 0 3), (sk1 0 4), (sk1 0 5)])]) (lS [(lI [(ssu 0 0), (ssu 0 1), (ssu 0 2), (ssu 0 3), (ssu 0 4), (ssu 0 5)])])).2.2.2.1) := congrArg (fun z => (z.2.2.2.1)) w66
        have k72 : m63 = ((J_X9_copy (lS [(lI [(sk1 0 0), (sk1 0 1), (sk1 0 2), (sk1 0 3), (sk1 0 4), (sk1 0 5)])]) (lS [(lI [(ssu 0 0), (ssu 0 1), (ssu 0 2), (ssu 0 3), (ssu 0 4), (ssu 0 5)])])).2.2.2.2.1) := congrArg (fun z => (z.2.2.2.2.1)) w66
        have k73 : m64 = ((J_X9_copy (lS [(lI [(sk1 0 0), (sk1 0 1), (sk1 0 2), (sk1 0 3), (sk1 0 4), (sk1 0 5)])]) (lS [(lI [(ssu 0 0), (ssu 0 1), (ssu 0 2), (ssu 0 3), (ssu 0 4), (ssu 0 5)])])).2.2.2.2.2) := congrArg (fun z => (z.2.2.2.2.2)) w66
        obtain ⟨c0, c1, c2, c3, c4, c5⟩ := w65
        have q0 : m59.toInt = (ssu 0 0).toInt := congrArg Int32.toInt c0
        have q1 : m60.toInt = (ssu 0 1).toInt := congrArg Int32.toInt c1
        have q4 : m63.toInt = (ssu 0 4).toInt := congrArg Int32.toInt c4
        have qt : tot m60 = tot (ssu 0 1) := congrArg tot c1
        refine lv_aload_n hx hb dX11_keep_37 rfl (lv_at hl 1 rfl) ?_
        refine g_get cx hP iw_X11_keep_X11 0 rfl rfl 13 (by decide) rfl fw_X11_keep_79 rfl dX11_keep_38 ?_
        refine lv_iload_n hx hb dX11_keep_41 rfl (lv_at hl 2 rfl) ?_
        refine lv_iconst (v := 1) hx hb dX11_keep_42 (by decide) ?_
        have hn74 : vp_in p0 2 := f_in (a := p0.toInt) rfl (by omega) (by omega)
        refine va_zast hx hb cx.2.1 hP hD hS 2 3 rfl rfl hn74 dX11_keep_43 (fun H locs hP hD hS => ?_)
        obtain ⟨g75, eg75⟩ : ∃ g : Nat → Int32, g = upd (sx 2) (p0).toNatClampNeg (vp_nar .boolean 1) := ⟨_, rfl⟩
        rw [← eg75] at hP hD
        have hP : va_P D vwCl [cell30_ qx sx, cell28_ k qx sx, (qx 2, .inl (k 3, 2, .inl g75)), cell38_ qx ssu, cell119_ qx m59 m60 m61 m62 m63 m64, cell41_ qx sk2] H := hP
        have hD : va_D A [cell30_ qx sx, cell28_ k qx sx, (qx 2, .inl (k 3, 2, .inl g75)), cell38_ qx ssu, cell119_ qx m59 m60 m61 m62 m63 m64, cell41_ qx sk2] := hD
        refine lv_iload_n hx hb dX11_keep_44 rfl (lv_at hl 0 rfl) ?_
        have hlit76 : (0 : Int32).toInt = 0 := by decide
        rw [hQ]
        exact x_i cx hr (m59, m60, m61, m62, m63, m64, (sk2 0 0), (sk2 0 1), (sk2 0 2), (sk2 0 3), (sk2 0 4), (sk2 0 5), g75) hP hD hS ⟨(show 0 ≤ m60.toInt ∧ m60.toInt ≤ 400 ∧ tot m60 ≤ 4 from by omega), (show 0 ≤ m59.toInt ∧ m59.toInt ≤ 5 from by omega), (show 0 ≤ m63.toInt ∧ m63.toInt ≤ 1 from by omega), (show m63.toInt = 0 ∨ m59.toInt ≤ 4 from by omega), (show 0 ≤ (sk2 0 1).toInt ∧ (sk2 0 1).toInt ≤ 400 ∧ tot (sk2 0 1) ≤ 4 from by omega), (show 0 ≤ (sk2 0 0).toInt ∧ (sk2 0 0).toInt ≤ 5 from by omega), (show 0 ≤ (sk2 0 4).toInt ∧ (sk2 0 4).toInt ≤ 1 from by omega), (show (sk2 0 4).toInt = 0 ∨ (sk2 0 0).toInt ≤ 4 from by omega), (show ((0 : Int32), m59, m60, m61, m62, m63, m64, (sk2 0 0), (sk2 0 1), (sk2 0 2), (sk2 0 3), (sk2 0 4), (sk2 0 5), g75) = J_X11_keep sx ssu sk1 sk2 p0 from by subst k7 e10 k68 k69 k70 k71 k72 k73 eg75; first | (refine Eq.symm ?_; refine Eq.trans (if_neg c8) ?_; refine Eq.trans (if_neg c11) ?_; refine Eq.trans (if_pos c55) ?_; rfl) | (unfold J_X11_keep; try dsimp only; rw [if_neg c8, if_neg c11, if_pos c55]))⟩ dX11_keep_45
      · have f55 : ¬ p0.toInt = 0 := f_ne rfl (by decide) c55
        refine lv_aload_n hx hb dX11_keep_25 rfl (lv_at hl 1 rfl) ?_
        refine lv_iload_n hx hb dX11_keep_26 rfl (lv_at hl 2 rfl) ?_
        refine g_qr (ra := (qx 14)) (g_runV (wc := [cell30_ qx sx, cell28_ k qx sx, cell29_ k qx sx]) (rest := []) cx hP hD hS [0, 1, 2] rfl (by decide) [.int p0] (c_X11_keptIn_1 l D k b qx sx H.size p0 (show ¬ p0.toInt = 0 from by first | decide | omega)) gX11_keep_X11_keptIn rfl rfl rfl nd_X11_keptIn ⟨Nat.le_of_ble_eq_true rfl, Nat.le_of_ble_eq_true rfl⟩ (ci := 9) (q0 := 0) rfl rfl rfl hl.1 rfl (Nat.le_of_ble_eq_true rfl) ⟨Nat.zero_le _, Nat.zero_le _⟩ dX11_keep_27) cx.2.2.1 hP hD hS [0, 1, 2] rfl rfl (fun H locs hw77 hP hS => ?_)
        refine lv_aload_n hx hb dX11_keep_30 rfl (lv_at hl 1 rfl) ?_
        refine g_get cx hP iw_X11_keep_X11 0 rfl rfl 10 (by decide) rfl fw_X11_keep_69 rfl dX11_keep_31 ?_
        refine g_v (w1 := fun (u : Int32 × Int32 × Int32 × Int32 × Int32 × Int32) => [cell120_ qx (u.1) (u.2.1) (u.2.2.1) (u.2.2.2.1) (u.2.2.2.2.1) (u.2.2.2.2.2), cell38_ qx ssu]) (g_runV (wc := [cell41_ qx sk2, cell38_ qx ssu]) (rest := []) cx hP hD hS [5, 3] rfl (by decide) [.ref (qx 12)] (c_X9_copy l D k b (lq [qx 14]) (lS [(lI [(sk2 0 0), (sk2 0 1), (sk2 0 2), (sk2 0 3), (sk2 0 4), (sk2 0 5)])]) (lq [qx 12]) (lS [(lI [(ssu 0 0), (ssu 0 1), (ssu 0 2), (ssu 0 3), (ssu 0 4), (ssu 0 5)])]) H.size (show 0 ≤ (ssu 0 4).toInt ∧ (ssu 0 4).toInt ≤ 1 from by first | decide | omega)) gX11_keep_X9_copy rfl rfl rfl nd_X9_copy ⟨Nat.le_of_ble_eq_true rfl, Nat.le_of_ble_eq_true rfl⟩ (ci := 7) (q0 := 0) rfl rfl rfl hl.1 rfl (Nat.le_of_ble_eq_true rfl) ⟨Nat.zero_le _, Nat.zero_le _⟩ dX11_keep_34) cx.2.2.1 hP hD hS [5, 3] rfl (fun _ => rfl) (fun u79 H locs hw78 hP hD hS => ?_)
        obtain ⟨m80, m81, m82, m83, m84, m85⟩ := u79
        have hP : va_P D vwCl [cell30_ qx sx, cell28_ k qx sx, cell29_ k qx sx, cell38_ qx ssu, cell40_ qx sk1, cell120_ qx m80 m81 m82 m83 m84 m85] H := hP
        have hD : va_D A [cell30_ qx sx, cell28_ k qx sx, cell29_ k qx sx, cell38_ qx ssu, cell40_ qx sk1, cell120_ qx m80 m81 m82 m83 m84 m85] := hD
        replace hw78 : (m80 = (ssu 0 0) ∧ m81 = (ssu 0 1) ∧ m82 = (ssu 0 2) ∧ m83 = (ssu 0 3) ∧ m84 = (ssu 0 4) ∧ m85 = (ssu 0 5)) ∧ ((m80, m81, m82, m83, m84, m85) = J_X9_copy (lS [(lI [(sk2 0 0), (sk2 0 1), (sk2 0 2), (sk2 0 3), (sk2 0 4), (sk2 0 5)])]) (lS [(lI [(ssu 0 0), (ssu 0 1), (ssu 0 2), (ssu 0 3), (ssu 0 4), (ssu 0 5)])])) := hw78
        obtain ⟨w86, w87⟩ := hw78
        have k89 : m80 = ((J_X9_copy (lS [(lI [(sk2 0 0), (sk2 0 1), (sk2 0 2), (sk2 0 3), (sk2 0 4), (sk2 0 5)])]) (lS [(lI [(ssu 0 0), (ssu 0 1), (ssu 0 2), (ssu 0 3), (ssu 0 4), (ssu 0 5)])])).1) := congrArg (fun z => (z.1)) w87
        have k90 : m81 = ((J_X9_copy (lS [(lI [(sk2 0 0), (sk2 0 1), (sk2 0 2), (sk2 0 3), (sk2 0 4), (sk2 0 5)])]) (lS [(lI [(ssu 0 0), (ssu 0 1), (ssu 0 2), (ssu 0 3), (ssu 0 4), (ssu 0 5)])])).2.1) := congrArg (fun z => (z.2.1)) w87
        have k91 : m82 = ((J_X9_copy (lS [(lI [(sk2 0 0), (sk2 0 1), (sk2 0 2), (sk2 0 3), (sk2 0 4), (sk2 0 5)])]) (lS [(lI [(ssu 0 0), (ssu 0 1), (ssu 0 2), (ssu 0 3), (ssu 0 4), (ssu 0 5)])])).2.2.1) := congrArg (fun z => (z.2.2.1)) w87
        have k92 : m83 = ((J_X9_copy (lS [(lI [(sk2 0 0), (sk2 0 1), (sk2 0 2), (sk2 0 3), (sk2 0 4), (sk2 0 5)])]) (lS [(lI [(ssu 0 0), (ssu 0 1), (ssu 0 2), (ssu 0 3), (ssu 0 4), (ssu 0 5)])])).2.2.2.1) := congrArg (fun z => (z.2.2.2.1)) w87
        have k93 : m84 = ((J_X9_copy (lS [(lI [(sk2 0 0), (sk2 0 1), (sk2 0 2), (sk2 0 3), (sk2 0 4), (sk2 0 5)])]) (lS [(lI [(ssu 0 0), (ssu 0 1), (ssu 0 2), (ssu 0 3), (ssu 0 4), (ssu 0 5)])])).2.2.2.2.1) := congrArg (fun z => (z.2.2.2.2.1)) w87
        have k94 : m85 = ((J_X9_copy (lS [(lI [(sk2 0 0), (sk2 0 1), (sk2 0 2), (sk2 0 3), (sk2 0 4), (sk2 0 5)])]) (lS [(lI [(ssu 0 0), (ssu 0 1), (ssu 0 2), (ssu 0 3), (ssu 0 4), (ssu 0 5)])])).2.2.2.2.2) := congrArg (fun z => (z.2.2.2.2.2)) w87
        obtain ⟨c0, c1, c2, c3, c4, c5⟩ := w86
        have q0 : m80.toInt = (ssu 0 0).toInt := congrArg Int32.toInt c0
        have q1 : m81.toInt = (ssu 0 1).toInt := congrArg Int32.toInt c1
        have q4 : m84.toInt = (ssu 0 4).toInt := congrArg Int32.toInt c4
        have qt : tot m81 = tot (ssu 0 1) := congrArg tot c1
        refine lv_aload_n hx hb dX11_keep_37 rfl (lv_at hl 1 rfl) ?_
        refine g_get cx hP iw_X11_keep_X11 0 rfl rfl 13 (by decide) rfl fw_X11_keep_79 rfl dX11_keep_38 ?_
        refine lv_iload_n hx hb dX11_keep_41 rfl (lv_at hl 2 rfl) ?_
        refine lv_iconst (v := 1) hx hb dX11_keep_42 (by decide) ?_
        have hn95 : vp_in p0 2 := f_in (a := p0.toInt) rfl (by omega) (by omega)
        refine va_zast hx hb cx.2.1 hP hD hS 2 3 rfl rfl hn95 dX11_keep_43 (fun H locs hP hD hS => ?_)
        obtain ⟨g96, eg96⟩ : ∃ g : Nat → Int32, g = upd (sx 2) (p0).toNatClampNeg (vp_nar .boolean 1) := ⟨_, rfl⟩
        rw [← eg96] at hP hD
        have hP : va_P D vwCl [cell30_ qx sx, cell28_ k qx sx, (qx 2, .inl (k 3, 2, .inl g96)), cell38_ qx ssu, cell40_ qx sk1, cell120_ qx m80 m81 m82 m83 m84 m85] H := hP
        have hD : va_D A [cell30_ qx sx, cell28_ k qx sx, (qx 2, .inl (k 3, 2, .inl g96)), cell38_ qx ssu, cell40_ qx sk1, cell120_ qx m80 m81 m82 m83 m84 m85] := hD
        refine lv_iload_n hx hb dX11_keep_44 rfl (lv_at hl 0 rfl) ?_
        have hlit97 : (0 : Int32).toInt = 0 := by decide
        rw [hQ]
        exact x_i cx hr ((sk1 0 0), (sk1 0 1), (sk1 0 2), (sk1 0 3), (sk1 0 4), (sk1 0 5), m80, m81, m82, m83, m84, m85, g96) hP hD hS ⟨(show 0 ≤ (sk1 0 1).toInt ∧ (sk1 0 1).toInt ≤ 400 ∧ tot (sk1 0 1) ≤ 4 from by omega), (show 0 ≤ (sk1 0 0).toInt ∧ (sk1 0 0).toInt ≤ 5 from by omega), (show 0 ≤ (sk1 0 4).toInt ∧ (sk1 0 4).toInt ≤ 1 from by omega), (show (sk1 0 4).toInt = 0 ∨ (sk1 0 0).toInt ≤ 4 from by omega), (show 0 ≤ m81.toInt ∧ m81.toInt ≤ 400 ∧ tot m81 ≤ 4 from by omega), (show 0 ≤ m80.toInt ∧ m80.toInt ≤ 5 from by omega), (show 0 ≤ m84.toInt ∧ m84.toInt ≤ 1 from by omega), (show m84.toInt = 0 ∨ m80.toInt ≤ 4 from by omega), (show ((0 : Int32), (sk1 0 0), (sk1 0 1), (sk1 0 2), (sk1 0 3), (sk1 0 4), (sk1 0 5), m80, m81, m82, m83, m84, m85, g96) = J_X11_keep sx ssu sk1 sk2 p0 from by subst k7 e10 k89 k90 k91 k92 k93 k94 eg96; first | (refine Eq.symm ?_; refine Eq.trans (if_neg c8) ?_; refine Eq.trans (if_neg c11) ?_; refine Eq.trans (if_neg c55) ?_; rfl) | (unfold J_X11_keep; try dsimp only; rw [if_neg c8, if_neg c11, if_neg c55]))⟩ dX11_keep_45
  · have f8 : r2.toInt = 0 := f_eq rfl (by decide) c8
    refine lv_iconst (v := (-1)) hx hb dX11_keep_8 (by decide) ?_
    have hlit98 : ((-1) : Int32).toInt = -1 := by decide
    rw [hQ]
    exact x_i cx hr ((sk1 0 0), (sk1 0 1), (sk1 0 2), (sk1 0 3), (sk1 0 4), (sk1 0 5), (sk2 0 0), (sk2 0 1), (sk2 0 2), (sk2 0 3), (sk2 0 4), (sk2 0 5), (sx 2)) hP hD hS ⟨(show 0 ≤ (sk1 0 1).toInt ∧ (sk1 0 1).toInt ≤ 400 ∧ tot (sk1 0 1) ≤ 4 from by omega), (show 0 ≤ (sk1 0 0).toInt ∧ (sk1 0 0).toInt ≤ 5 from by omega), (show 0 ≤ (sk1 0 4).toInt ∧ (sk1 0 4).toInt ≤ 1 from by omega), (show (sk1 0 4).toInt = 0 ∨ (sk1 0 0).toInt ≤ 4 from by omega), (show 0 ≤ (sk2 0 1).toInt ∧ (sk2 0 1).toInt ≤ 400 ∧ tot (sk2 0 1) ≤ 4 from by omega), (show 0 ≤ (sk2 0 0).toInt ∧ (sk2 0 0).toInt ≤ 5 from by omega), (show 0 ≤ (sk2 0 4).toInt ∧ (sk2 0 4).toInt ≤ 1 from by omega), (show (sk2 0 4).toInt = 0 ∨ (sk2 0 0).toInt ≤ 4 from by omega), (show (((-1) : Int32), (sk1 0 0), (sk1 0 1), (sk1 0 2), (sk1 0 3), (sk1 0 4), (sk1 0 5), (sk2 0 0), (sk2 0 1), (sk2 0 2), (sk2 0 3), (sk2 0 4), (sk2 0 5), (sx 2)) = J_X11_keep sx ssu sk1 sk2 p0 from by subst k7; first | (refine Eq.symm ?_; refine Eq.trans (if_pos c8) ?_; rfl) | (unfold J_X11_keep; try dsimp only; rw [if_pos c8]))⟩ dX11_keep_9
theorem fw_X11_again_297 : Cond.fieldLink RX11 297 "StillInAugust$Summer" "week" "I" ∈ wsX11_again := by decide +kernel
theorem fw_X11_again_69 : Cond.fieldLink RX11 69 "StillInAugust" "summer" "LStillInAugust$Summer;" ∈ wsX11_again := by decide +kernel
theorem fw_X11_again_79 : Cond.fieldLink RX11 79 "StillInAugust" "kept" "[Z" ∈ wsX11_again := by decide +kernel
theorem iw_X11_again_X11 : ∀ w ∈ u_ws RX11 TX11 17, w ∈ wsX11_again := fun _ h => List.mem_cons_of_mem _ (List.mem_append_left _ (List.mem_append_right _ h))
theorem iw_X11_again_X9 : ∀ w ∈ u_ws RX9 TX9 6, w ∈ wsX11_again := fun _ h => List.mem_cons_of_mem _ (List.mem_append_right _ h)
def J_X11_again (sx : Nat → Nat → Int32) (ssu : Nat → Nat → Int32) (sk1 : Nat → Nat → Int32) (sk2 : Nat → Nat → Int32) (p0 : Int32) : Int32 × Int32 × Int32 × Int32 × Int32 × Int32 × Int32 := let y6 := J_X11_isSlot sx p0; if y6 = 0 then (((-1) : Int32), (ssu 0 0), (ssu 0 1), (ssu 0 2), (ssu 0 3), (ssu 0 4), (ssu 0 5)) else if ((sx 2) (p0).toNatClampNeg) = 0 then (((-3) : Int32), (ssu 0 0), (ssu 0 1), (ssu 0 2), (ssu 0 3), (ssu 0 4), (ssu 0 5)) else if p0 = 0 then let y24 := J_X9_copy (lS [(lI [(ssu 0 0), (ssu 0 1), (ssu 0 2), (ssu 0 3), (ssu 0 4), (ssu 0 5)])]) (lS [(lI [(sk1 0 0), (sk1 0 1), (sk1 0 2), (sk1 0 3), (sk1 0 4), (sk1 0 5)])]); ((y24.1), (y24.1), (y24.2.1), (y24.2.2.1), (y24.2.2.2.1), (y24.2.2.2.2.1), (y24.2.2.2.2.2)) else let y42 := J_X9_copy (lS [(lI [(ssu 0 0), (ssu 0 1), (ssu 0 2), (ssu 0 3), (ssu 0 4), (ssu 0 5)])]) (lS [(lI [(sk2 0 0), (sk2 0 1), (sk2 0 2), (sk2 0 3), (sk2 0 4), (sk2 0 5)])]); ((y42.1), (y42.1), (y42.2.1), (y42.2.2.1), (y42.2.2.2.1), (y42.2.2.2.2.1), (y42.2.2.2.2.2))
set_option maxHeartbeats 4000000 in
set_option maxRecDepth 100000 in
theorem c_X11_again (l : Launch) (D : va_G) (k : Nat → ClassId) (b : Nat → Nat) (qx : Nat → Nat) (sx : Nat → Nat → Int32) (qsu : Nat → Nat) (ssu : Nat → Nat → Int32) (qk1 : Nat → Nat) (sk1 : Nat → Nat → Int32) (qk2 : Nat → Nat) (sk2 : Nat → Nat → Int32) (sz : Nat) (p0 : Int32) (s_h : 0 ≤ (ssu 0 1).toInt ∧ (ssu 0 1).toInt ≤ 400 ∧ tot (ssu 0 1) ≤ 4) (s_w : 0 ≤ (ssu 0 0).toInt ∧ (ssu 0 0).toInt ≤ 5) (s_k : 0 ≤ (ssu 0 4).toInt ∧ (ssu 0 4).toInt ≤ 1) (s_x : (ssu 0 4).toInt = 0 ∨ (ssu 0 0).toInt ≤ 4) (as_h : 0 ≤ (sk1 0 1).toInt ∧ (sk1 0 1).toInt ≤ 400 ∧ tot (sk1 0 1) ≤ 4) (as_w : 0 ≤ (sk1 0 0).toInt ∧ (sk1 0 0).toInt ≤ 5) (as_k : 0 ≤ (sk1 0 4).toInt ∧ (sk1 0 4).toInt ≤ 1) (as_x : (sk1 0 4).toInt = 0 ∨ (sk1 0 0).toInt ≤ 4) (bs_h : 0 ≤ (sk2 0 1).toInt ∧ (sk2 0 1).toInt ≤ 400 ∧ tot (sk2 0 1) ≤ 4) (bs_w : 0 ≤ (sk2 0 0).toInt ∧ (sk2 0 0).toInt ≤ 5) (bs_k : 0 ≤ (sk2 0 4).toInt ∧ (sk2 0 4).toInt ≤ 1) (bs_x : (sk2 0 4).toInt = 0 ∨ (sk2 0 0).toInt ≤ 4) : MetI l D k b yX11_again wsX11_again ({ frames := 1, cells := 0, slots := 0, locals := 21 } : Room) [cell30_ qx sx, cell28_ k qx sx, cell29_ k qx sx, cell38_ qx ssu, cell40_ qx sk1, cell41_ qx sk2] sz [.ref (qx 0), .int p0] (fun (r : Int32) (u : Int32 × Int32 × Int32 × Int32 × Int32 × Int32) => (0 ≤ (u.2.1).toInt ∧ (u.2.1).toInt ≤ 400 ∧ tot (u.2.1) ≤ 4) ∧ (0 ≤ (u.1).toInt ∧ (u.1).toInt ≤ 5) ∧ (0 ≤ (u.2.2.2.2.1).toInt ∧ (u.2.2.2.2.1).toInt ≤ 1) ∧ ((u.2.2.2.2.1).toInt = 0 ∨ (u.1).toInt ≤ 4) ∧ ((r, (u.1), (u.2.1), (u.2.2.1), (u.2.2.2.1), (u.2.2.2.2.1), (u.2.2.2.2.2)) = J_X11_again sx ssu sk1 sk2 p0)) (fun u => [cell30_ qx sx, cell28_ k qx sx, cell29_ k qx sx, cell91_ qx (u.1) (u.2.1) (u.2.2.1) (u.2.2.2.1) (u.2.2.2.2.1) (u.2.2.2.2.2), cell40_ qx sk1, cell41_ qx sk2]) := by
  refine g_enter (cc := cX11_again) (maxL := 2) (ret := (some .int)) (by decide) rfl (Nat.le_of_ble_eq_true rfl) ?_
  intro p e s m below meth c A hsz hAe cx hr hP hD hS ls hl
  rw [hAe]
  refine g_q (fun Q hQ => ?_)
  have hx := cx.1.1
  have hb := cx.1.2.1
  have bp0 := i_rng p0
  have hl : lv_has ls 2 [(0, .ref (qx 0)), (1, .int p0)] := hl
  obtain ⟨H, eH⟩ : ∃ H : Heap, H = s.heap := ⟨_, rfl⟩
  obtain ⟨locs, el⟩ : ∃ L : List Loc, L = [] := ⟨_, rfl⟩
  have hP : va_P D vwCl [cell30_ qx sx, cell28_ k qx sx, cell29_ k qx sx, cell38_ qx ssu, cell40_ qx sk1, cell41_ qx sk2] H := by rw [eH]; exact hP
  have hD : va_D A [cell30_ qx sx, cell28_ k qx sx, cell29_ k qx sx, cell38_ qx ssu, cell40_ qx sk1, cell41_ qx sk2] := hD
  have hS : va_S A s.heap H locs := by rw [eH, el]; exact hS
  suffices goal : W p l e ({ frames := 1, cells := 0, slots := 0, locals := 21 } : Room) s m ([.ref (qx 0), .int p0] : List Value).toArray below meth c H locs 0 0 Q (F0 m 0 ls []) by rw [eH, el] at goal; exact goal
  refine lv_aload_n hx hb dX11_again_0 rfl (lv_at hl 0 rfl) ?_
  refine lv_iload_n hx hb dX11_again_1 rfl (lv_at hl 1 rfl) ?_
  refine g_ir (g_runV (wc := [cell30_ qx sx, cell28_ k qx sx, cell29_ k qx sx]) (rest := []) cx hP hD hS [0, 1, 2] rfl (by decide) [.int p0] (c_X11_isSlot l D k b qx sx H.size p0) gX11_again_X11_isSlot rfl rfl rfl nd_X11_isSlot ⟨Nat.le_of_ble_eq_true rfl, Nat.le_of_ble_eq_true rfl⟩ (ci := 9) (q0 := 0) rfl rfl rfl hl.1 rfl (Nat.le_of_ble_eq_true rfl) ⟨Nat.zero_le _, Nat.zero_le _⟩ dX11_again_2) cx.2.2.1 hP hD hS [0, 1, 2] rfl rfl (fun r2 H locs hw1 hP hS => ?_)
  replace hw1 : (0 ≤ r2.toInt ∧ r2.toInt ≤ 1) ∧ (Imp (r2.toInt = 1) (0 ≤ p0.toInt ∧ p0.toInt ≤ 1)) ∧ (r2 = J_X11_isSlot sx p0) := hw1
  obtain ⟨w3, w4, w5⟩ := hw1
  have k7 : r2 = (J_X11_isSlot sx p0) := congrArg (fun z => z) w5
  have zr2 : 0 ≤ r2.toInt ∧ r2.toInt ≤ 1 := w3
  refine lv_if_ne (tgt := 10) hx hb dX11_again_5 (by decide) (fun c8 => ?_) (fun c8 => ?_)
  · have f8 : ¬ r2.toInt = 0 := f_ne rfl (by decide) c8
    have k8 : (0 ≤ p0.toInt ∧ p0.toInt ≤ 1) := w4 (by omega)
    refine lv_aload_n hx hb dX11_again_10 rfl (lv_at hl 0 rfl) ?_
    refine g_get cx hP iw_X11_again_X11 0 rfl rfl 13 (by decide) rfl fw_X11_again_79 rfl dX11_again_11 ?_
    refine lv_iload_n hx hb dX11_again_14 rfl (lv_at hl 1 rfl) ?_
    have hn9 : vp_in p0 2 := f_in (a := p0.toInt) rfl (by omega) (by omega)
    refine va_zald hx hb cx.2.1 hP 2 3 rfl rfl hn9 dX11_again_15 (lv_topi (fun v10 e10 => ?_))
    refine lv_if_ne (tgt := 22) hx hb dX11_again_16 (by decide) (fun c11 => ?_) (fun c11 => ?_)
    · have f11 : ¬ v10.toInt = 0 := f_ne rfl (by decide) c11
      by_cases c12 : p0 = 0
      · have f12 : p0.toInt = 0 := f_eq rfl (by decide) c12
        refine lv_aload_n hx hb dX11_again_22 rfl (lv_at hl 0 rfl) ?_
        refine g_get cx hP iw_X11_again_X11 0 rfl rfl 10 (by decide) rfl fw_X11_again_69 rfl dX11_again_23 ?_
        refine lv_aload_n hx hb dX11_again_26 rfl (lv_at hl 0 rfl) ?_
        refine lv_iload_n hx hb dX11_again_27 rfl (lv_at hl 1 rfl) ?_
        refine g_qr (ra := (qx 13)) (g_runV (wc := [cell30_ qx sx, cell28_ k qx sx, cell29_ k qx sx]) (rest := [.ref (qx 12)]) cx hP hD hS [0, 1, 2] rfl (by decide) [.int p0] (c_X11_keptIn_0 l D k b qx sx H.size p0 (show p0.toInt = 0 from by first | decide | omega)) gX11_again_X11_keptIn rfl rfl rfl nd_X11_keptIn ⟨Nat.le_of_ble_eq_true rfl, Nat.le_of_ble_eq_true rfl⟩ (ci := 9) (q0 := 0) rfl rfl rfl hl.1 rfl (Nat.le_of_ble_eq_true rfl) ⟨Nat.zero_le _, Nat.zero_le _⟩ dX11_again_28) cx.2.2.1 hP hD hS [0, 1, 2] rfl rfl (fun H locs hw13 hP hS => ?_)
        refine g_v (w1 := fun (u : Int32 × Int32 × Int32 × Int32 × Int32 × Int32) => [cell91_ qx (u.1) (u.2.1) (u.2.2.1) (u.2.2.2.1) (u.2.2.2.2.1) (u.2.2.2.2.2), cell40_ qx sk1]) (g_runV (wc := [cell38_ qx ssu, cell40_ qx sk1]) (rest := []) cx hP hD hS [3, 4] rfl (by decide) [.ref (qx 13)] (c_X9_copy l D k b (lq [qx 12]) (lS [(lI [(ssu 0 0), (ssu 0 1), (ssu 0 2), (ssu 0 3), (ssu 0 4), (ssu 0 5)])]) (lq [qx 13]) (lS [(lI [(sk1 0 0), (sk1 0 1), (sk1 0 2), (sk1 0 3), (sk1 0 4), (sk1 0 5)])]) H.size (show 0 ≤ (sk1 0 4).toInt ∧ (sk1 0 4).toInt ≤ 1 from by first | decide | omega)) gX11_again_X9_copy rfl rfl rfl nd_X9_copy ⟨Nat.le_of_ble_eq_true rfl, Nat.le_of_ble_eq_true rfl⟩ (ci := 7) (q0 := 0) rfl rfl rfl hl.1 rfl (Nat.le_of_ble_eq_true rfl) ⟨Nat.zero_le _, Nat.zero_le _⟩ dX11_again_31) cx.2.2.1 hP hD hS [3, 4] rfl (fun _ => rfl) (fun u15 H locs hw14 hP hD hS => ?_)
        obtain ⟨m16, m17, m18, m19, m20, m21⟩ := u15
        have hP : va_P D vwCl [cell30_ qx sx, cell28_ k qx sx, cell29_ k qx sx, cell91_ qx m16 m17 m18 m19 m20 m21, cell40_ qx sk1, cell41_ qx sk2] H := hP
        have hD : va_D A [cell30_ qx sx, cell28_ k qx sx, cell29_ k qx sx, cell91_ qx m16 m17 m18 m19 m20 m21, cell40_ qx sk1, cell41_ qx sk2] := hD
        replace hw14 : (m16 = (sk1 0 0) ∧ m17 = (sk1 0 1) ∧ m18 = (sk1 0 2) ∧ m19 = (sk1 0 3) ∧ m20 = (sk1 0 4) ∧ m21 = (sk1 0 5)) ∧ ((m16, m17, m18, m19, m20, m21) = J_X9_copy (lS [(lI [(ssu 0 0), (ssu 0 1), (ssu 0 2), (ssu 0 3), (ssu 0 4), (ssu 0 5)])]) (lS [(lI [(sk1 0 0), (sk1 0 1), (sk1 0 2), (sk1 0 3), (sk1 0 4), (sk1 0 5)])])) := hw14
        obtain ⟨w22, w23⟩ := hw14
        have k25 : m16 = ((J_X9_copy (lS [(lI [(ssu 0 0), (ssu 0 1), (ssu 0 2), (ssu 0 3), (ssu 0 4), (ssu 0 5)])]) (lS [(lI [(sk1 0 0), (sk1 0 1), (sk1 0 2), (sk1 0 3), (sk1 0 4), (sk1 0 5)])])).1) := congrArg (fun z => (z.1)) w23
        have k26 : m17 = ((J_X9_copy (lS [(lI [(ssu 0 0), (ssu 0 1), (ssu 0 2), (ssu 0 3), (ssu 0 4), (ssu 0 5)])]) (lS [(lI [(sk1 0 0), (sk1 0 1), (sk1 0 2), (sk1 0 3), (sk1 0 4), (sk1 0 5)])])).2.1) := congrArg (fun z => (z.2.1)) w23
        have k27 : m18 = ((J_X9_copy (lS [(lI [(ssu 0 0), (ssu 0 1), (ssu 0 2), (ssu 0 3), (ssu 0 4), (ssu 0 5)])]) (lS [(lI [(sk1 0 0), (sk1 0 1), (sk1 0 2), (sk1 0 3), (sk1 0 4), (sk1 0 5)])])).2.2.1) := congrArg (fun z => (z.2.2.1)) w23
        have k28 : m19 = ((J_X9_copy (lS [(lI [(ssu 0 0), (ssu 0 1), (ssu 0 2), (ssu 0 3), (ssu 0 4), (ssu 0 5)])]) (lS [(lI [(sk1 0 0), (sk1 0 1), (sk1 0 2), (sk1 0 3), (sk1 0 4), (sk1 0 5)])])).2.2.2.1) := congrArg (fun z => (z.2.2.2.1)) w23
        have k29 : m20 = ((J_X9_copy (lS [(lI [(ssu 0 0), (ssu 0 1), (ssu 0 2), (ssu 0 3), (ssu 0 4), (ssu 0 5)])]) (lS [(lI [(sk1 0 0), (sk1 0 1), (sk1 0 2), (sk1 0 3), (sk1 0 4), (sk1 0 5)])])).2.2.2.2.1) := congrArg (fun z => (z.2.2.2.2.1)) w23
        have k30 : m21 = ((J_X9_copy (lS [(lI [(ssu 0 0), (ssu 0 1), (ssu 0 2), (ssu 0 3), (ssu 0 4), (ssu 0 5)])]) (lS [(lI [(sk1 0 0), (sk1 0 1), (sk1 0 2), (sk1 0 3), (sk1 0 4), (sk1 0 5)])])).2.2.2.2.2) := congrArg (fun z => (z.2.2.2.2.2)) w23
        obtain ⟨c0, c1, c2, c3, c4, c5⟩ := w22
        have q0 : m16.toInt = (sk1 0 0).toInt := congrArg Int32.toInt c0
        have q1 : m17.toInt = (sk1 0 1).toInt := congrArg Int32.toInt c1
        have q4 : m20.toInt = (sk1 0 4).toInt := congrArg Int32.toInt c4
        have qt : tot m17 = tot (sk1 0 1) := congrArg tot c1
        refine lv_aload_n hx hb dX11_again_34 rfl (lv_at hl 0 rfl) ?_
        refine g_get cx hP iw_X11_again_X11 0 rfl rfl 10 (by decide) rfl fw_X11_again_69 rfl dX11_again_35 ?_
        refine g_get cx hP iw_X11_again_X9 3 rfl rfl 0 (by decide) rfl fw_X11_again_297 rfl dX11_again_38 ?_
        rw [hQ]
        exact x_i cx hr (m16, m17, m18, m19, m20, m21) hP hD hS ⟨(show 0 ≤ m17.toInt ∧ m17.toInt ≤ 400 ∧ tot m17 ≤ 4 from by omega), (show 0 ≤ m16.toInt ∧ m16.toInt ≤ 5 from by omega), (show 0 ≤ m20.toInt ∧ m20.toInt ≤ 1 from by omega), (show m20.toInt = 0 ∨ m16.toInt ≤ 4 from by omega), (show (m16, m16, m17, m18, m19, m20, m21) = J_X11_again sx ssu sk1 sk2 p0 from by subst k7 e10 k25 k26 k27 k28 k29 k30; first | (refine Eq.symm ?_; refine Eq.trans (if_neg c8) ?_; refine Eq.trans (if_neg c11) ?_; refine Eq.trans (if_pos c12) ?_; rfl) | (unfold J_X11_again; try dsimp only; rw [if_neg c8, if_neg c11, if_pos c12]))⟩ dX11_again_41
      · have f12 : ¬ p0.toInt = 0 := f_ne rfl (by decide) c12
        refine lv_aload_n hx hb dX11_again_22 rfl (lv_at hl 0 rfl) ?_
        refine g_get cx hP iw_X11_again_X11 0 rfl rfl 10 (by decide) rfl fw_X11_again_69 rfl dX11_again_23 ?_
        refine lv_aload_n hx hb dX11_again_26 rfl (lv_at hl 0 rfl) ?_
        refine lv_iload_n hx hb dX11_again_27 rfl (lv_at hl 1 rfl) ?_
        refine g_qr (ra := (qx 14)) (g_runV (wc := [cell30_ qx sx, cell28_ k qx sx, cell29_ k qx sx]) (rest := [.ref (qx 12)]) cx hP hD hS [0, 1, 2] rfl (by decide) [.int p0] (c_X11_keptIn_1 l D k b qx sx H.size p0 (show ¬ p0.toInt = 0 from by first | decide | omega)) gX11_again_X11_keptIn rfl rfl rfl nd_X11_keptIn ⟨Nat.le_of_ble_eq_true rfl, Nat.le_of_ble_eq_true rfl⟩ (ci := 9) (q0 := 0) rfl rfl rfl hl.1 rfl (Nat.le_of_ble_eq_true rfl) ⟨Nat.zero_le _, Nat.zero_le _⟩ dX11_again_28) cx.2.2.1 hP hD hS [0, 1, 2] rfl rfl (fun H locs hw31 hP hS => ?_)
        refine g_v (w1 := fun (u : Int32 × Int32 × Int32 × Int32 × Int32 × Int32) => [cell91_ qx (u.1) (u.2.1) (u.2.2.1) (u.2.2.2.1) (u.2.2.2.2.1) (u.2.2.2.2.2), cell41_ qx sk2]) (g_runV (wc := [cell38_ qx ssu, cell41_ qx sk2]) (rest := []) cx hP hD hS [3, 5] rfl (by decide) [.ref (qx 14)] (c_X9_copy l D k b (lq [qx 12]) (lS [(lI [(ssu 0 0), (ssu 0 1), (ssu 0 2), (ssu 0 3), (ssu 0 4), (ssu 0 5)])]) (lq [qx 14]) (lS [(lI [(sk2 0 0), (sk2 0 1), (sk2 0 2), (sk2 0 3), (sk2 0 4), (sk2 0 5)])]) H.size (show 0 ≤ (sk2 0 4).toInt ∧ (sk2 0 4).toInt ≤ 1 from by first | decide | omega)) gX11_again_X9_copy rfl rfl rfl nd_X9_copy ⟨Nat.le_of_ble_eq_true rfl, Nat.le_of_ble_eq_true rfl⟩ (ci := 7) (q0 := 0) rfl rfl rfl hl.1 rfl (Nat.le_of_ble_eq_true rfl) ⟨Nat.zero_le _, Nat.zero_le _⟩ dX11_again_31) cx.2.2.1 hP hD hS [3, 5] rfl (fun _ => rfl) (fun u33 H locs hw32 hP hD hS => ?_)
        obtain ⟨m34, m35, m36, m37, m38, m39⟩ := u33
        have hP : va_P D vwCl [cell30_ qx sx, cell28_ k qx sx, cell29_ k qx sx, cell91_ qx m34 m35 m36 m37 m38 m39, cell40_ qx sk1, cell41_ qx sk2] H := hP
        have hD : va_D A [cell30_ qx sx, cell28_ k qx sx, cell29_ k qx sx, cell91_ qx m34 m35 m36 m37 m38 m39, cell40_ qx sk1, cell41_ qx sk2] := hD
        replace hw32 : (m34 = (sk2 0 0) ∧ m35 = (sk2 0 1) ∧ m36 = (sk2 0 2) ∧ m37 = (sk2 0 3) ∧ m38 = (sk2 0 4) ∧ m39 = (sk2 0 5)) ∧ ((m34, m35, m36, m37, m38, m39) = J_X9_copy (lS [(lI [(ssu 0 0), (ssu 0 1), (ssu 0 2), (ssu 0 3), (ssu 0 4), (ssu 0 5)])]) (lS [(lI [(sk2 0 0), (sk2 0 1), (sk2 0 2), (sk2 0 3), (sk2 0 4), (sk2 0 5)])])) := hw32
        obtain ⟨w40, w41⟩ := hw32
        have k43 : m34 = ((J_X9_copy (lS [(lI [(ssu 0 0), (ssu 0 1), (ssu 0 2), (ssu 0 3), (ssu 0 4), (ssu 0 5)])]) (lS [(lI [(sk2 0 0), (sk2 0 1), (sk2 0 2), (sk2 0 3), (sk2 0 4), (sk2 0 5)])])).1) := congrArg (fun z => (z.1)) w41
        have k44 : m35 = ((J_X9_copy (lS [(lI [(ssu 0 0), (ssu 0 1), (ssu 0 2), (ssu 0 3), (ssu 0 4), (ssu 0 5)])]) (lS [(lI [(sk2 0 0), (sk2 0 1), (sk2 0 2), (sk2 0 3), (sk2 0 4), (sk2 0 5)])])).2.1) := congrArg (fun z => (z.2.1)) w41
        have k45 : m36 = ((J_X9_copy (lS [(lI [(ssu 0 0), (ssu 0 1), (ssu 0 2), (ssu 0 3), (ssu 0 4), (ssu 0 5)])]) (lS [(lI [(sk2 0 0), (sk2 0 1), (sk2 0 2), (sk2 0 3), (sk2 0 4), (sk2 0 5)])])).2.2.1) := congrArg (fun z => (z.2.2.1)) w41
        have k46 : m37 = ((J_X9_copy (lS [(lI [(ssu 0 0), (ssu 0 1), (ssu 0 2), (ssu 0 3), (ssu 0 4), (ssu 0 5)])]) (lS [(lI [(sk2 0 0), (sk2 0 1), (sk2 0 2), (sk2 0 3), (sk2 0 4), (sk2 0 5)])])).2.2.2.1) := congrArg (fun z => (z.2.2.2.1)) w41
        have k47 : m38 = ((J_X9_copy (lS [(lI [(ssu 0 0), (ssu 0 1), (ssu 0 2), (ssu 0 3), (ssu 0 4), (ssu 0 5)])]) (lS [(lI [(sk2 0 0), (sk2 0 1), (sk2 0 2), (sk2 0 3), (sk2 0 4), (sk2 0 5)])])).2.2.2.2.1) := congrArg (fun z => (z.2.2.2.2.1)) w41
        have k48 : m39 = ((J_X9_copy (lS [(lI [(ssu 0 0), (ssu 0 1), (ssu 0 2), (ssu 0 3), (ssu 0 4), (ssu 0 5)])]) (lS [(lI [(sk2 0 0), (sk2 0 1), (sk2 0 2), (sk2 0 3), (sk2 0 4), (sk2 0 5)])])).2.2.2.2.2) := congrArg (fun z => (z.2.2.2.2.2)) w41
        obtain ⟨c0, c1, c2, c3, c4, c5⟩ := w40
        have q0 : m34.toInt = (sk2 0 0).toInt := congrArg Int32.toInt c0
        have q1 : m35.toInt = (sk2 0 1).toInt := congrArg Int32.toInt c1
        have q4 : m38.toInt = (sk2 0 4).toInt := congrArg Int32.toInt c4
        have qt : tot m35 = tot (sk2 0 1) := congrArg tot c1
        refine lv_aload_n hx hb dX11_again_34 rfl (lv_at hl 0 rfl) ?_
        refine g_get cx hP iw_X11_again_X11 0 rfl rfl 10 (by decide) rfl fw_X11_again_69 rfl dX11_again_35 ?_
        refine g_get cx hP iw_X11_again_X9 3 rfl rfl 0 (by decide) rfl fw_X11_again_297 rfl dX11_again_38 ?_
        rw [hQ]
        exact x_i cx hr (m34, m35, m36, m37, m38, m39) hP hD hS ⟨(show 0 ≤ m35.toInt ∧ m35.toInt ≤ 400 ∧ tot m35 ≤ 4 from by omega), (show 0 ≤ m34.toInt ∧ m34.toInt ≤ 5 from by omega), (show 0 ≤ m38.toInt ∧ m38.toInt ≤ 1 from by omega), (show m38.toInt = 0 ∨ m34.toInt ≤ 4 from by omega), (show (m34, m34, m35, m36, m37, m38, m39) = J_X11_again sx ssu sk1 sk2 p0 from by subst k7 e10 k43 k44 k45 k46 k47 k48; first | (refine Eq.symm ?_; refine Eq.trans (if_neg c8) ?_; refine Eq.trans (if_neg c11) ?_; refine Eq.trans (if_neg c12) ?_; rfl) | (unfold J_X11_again; try dsimp only; rw [if_neg c8, if_neg c11, if_neg c12]))⟩ dX11_again_41
    · have f11 : v10.toInt = 0 := f_eq rfl (by decide) c11
      refine lv_bipush (v := (-3)) hx hb dX11_again_19 (by decide) ?_
      have hlit49 : ((-3) : Int32).toInt = -3 := by decide
      rw [hQ]
      exact x_i cx hr ((ssu 0 0), (ssu 0 1), (ssu 0 2), (ssu 0 3), (ssu 0 4), (ssu 0 5)) hP hD hS ⟨(show 0 ≤ (ssu 0 1).toInt ∧ (ssu 0 1).toInt ≤ 400 ∧ tot (ssu 0 1) ≤ 4 from by omega), (show 0 ≤ (ssu 0 0).toInt ∧ (ssu 0 0).toInt ≤ 5 from by omega), (show 0 ≤ (ssu 0 4).toInt ∧ (ssu 0 4).toInt ≤ 1 from by omega), (show (ssu 0 4).toInt = 0 ∨ (ssu 0 0).toInt ≤ 4 from by omega), (show (((-3) : Int32), (ssu 0 0), (ssu 0 1), (ssu 0 2), (ssu 0 3), (ssu 0 4), (ssu 0 5)) = J_X11_again sx ssu sk1 sk2 p0 from by subst k7 e10; first | (refine Eq.symm ?_; refine Eq.trans (if_neg c8) ?_; refine Eq.trans (if_pos c11) ?_; rfl) | (unfold J_X11_again; try dsimp only; rw [if_neg c8, if_pos c11]))⟩ dX11_again_21
  · have f8 : r2.toInt = 0 := f_eq rfl (by decide) c8
    refine lv_iconst (v := (-1)) hx hb dX11_again_8 (by decide) ?_
    have hlit50 : ((-1) : Int32).toInt = -1 := by decide
    rw [hQ]
    exact x_i cx hr ((ssu 0 0), (ssu 0 1), (ssu 0 2), (ssu 0 3), (ssu 0 4), (ssu 0 5)) hP hD hS ⟨(show 0 ≤ (ssu 0 1).toInt ∧ (ssu 0 1).toInt ≤ 400 ∧ tot (ssu 0 1) ≤ 4 from by omega), (show 0 ≤ (ssu 0 0).toInt ∧ (ssu 0 0).toInt ≤ 5 from by omega), (show 0 ≤ (ssu 0 4).toInt ∧ (ssu 0 4).toInt ≤ 1 from by omega), (show (ssu 0 4).toInt = 0 ∨ (ssu 0 0).toInt ≤ 4 from by omega), (show (((-1) : Int32), (ssu 0 0), (ssu 0 1), (ssu 0 2), (ssu 0 3), (ssu 0 4), (ssu 0 5)) = J_X11_again sx ssu sk1 sk2 p0 from by subst k7; first | (refine Eq.symm ?_; refine Eq.trans (if_pos c8) ?_; rfl) | (unfold J_X11_again; try dsimp only; rw [if_pos c8]))⟩ dX11_again_9
theorem fw_X11_tell_318 : Cond.fieldLink RX11 318 "StillInAugust$Row" "length" "I" ∈ wsX11_tell := by decide +kernel
theorem fw_X11_tell_86 : Cond.fieldLink RX11 86 "StillInAugust" "row" "LStillInAugust$Row;" ∈ wsX11_tell := by decide +kernel
theorem nd_X7_append : yX7_append.cls = RX7 ∧ yX7_append.cls ≠ "java/lang/invoke/MethodHandle" ∧ yX7_append.cls ≠ "java/lang/invoke/VarHandle" ∧ (parseMethodDescriptor yX7_append.desc).map (fun d => d.parameters.length) = some 2 := by decide +kernel
theorem iw_X11_tell_X11 : ∀ w ∈ u_ws RX11 TX11 17, w ∈ wsX11_tell := fun _ h => List.mem_cons_of_mem _ (List.mem_append_left _ (List.mem_append_right _ h))
theorem iw_X11_tell_X7 : ∀ w ∈ u_ws RX7 TX7 9, w ∈ wsX11_tell := fun _ h => List.mem_cons_of_mem _ (List.mem_append_right _ h)
def J_X11_tell (sx : Nat → Nat → Int32) (sro : Nat → Nat → Int32) (tro : Nat → Nat → Int64) (spa : Nat → Nat → Int32) (p0 : Int32) (p1 : Int32) : Int32 × (Nat → Int32) × (Nat → Int32) × Int32 := if p0 < 0 then (((-2) : Int32), (sro 1), (sro 2), (sro 0 2)) else if 9999 < p0 then (((-2) : Int32), (sro 1), (sro 2), (sro 0 2)) else if (J_X3_areLeavers p1) = 0 then (((-2) : Int32), (sro 1), (sro 2), (sro 0 2)) else if (sro 0 2) < 5 then let y19 := J_X7_append (lS [(lI [0, 0, (sro 0 2), 0, (sro 0 4), (sro 0 5), (sro 0 6)]), (sro 1), (sro 2)]) (lT [(lJ [0, 0, 0, 0, 0, 0, 0, (tro 0 7), (tro 0 8)]), (fun _ => 0), (fun _ => 0)]) spa p0 p1; ((y19.2.2), (y19.1), (y19.2.1), (y19.2.2)) else (((-4) : Int32), (sro 1), (sro 2), (sro 0 2))
set_option maxHeartbeats 4000000 in
set_option maxRecDepth 100000 in
theorem c_X11_tell (l : Launch) (D : va_G) (k : Nat → ClassId) (b : Nat → Nat) (qx : Nat → Nat) (sx : Nat → Nat → Int32) (qro : Nat → Nat) (sro : Nat → Nat → Int32) (tro : Nat → Nat → Int64) (qpa : Nat → Nat) (spa : Nat → Nat → Int32) (sz : Nat) (p0 : Int32) (p1 : Int32) (r_l : 0 ≤ (sro 0 2).toInt ∧ (sro 0 2).toInt ≤ 5) (r_a : ∀ j, 0 ≤ (sro 1 j).toInt ∧ (sro 1 j).toInt ≤ 9999) (r_g : ∀ j, 0 ≤ (sro 2 j).toInt ∧ (sro 2 j).toInt ≤ 444) : MetI l D k b yX11_tell wsX11_tell ({ frames := 1, cells := 0, slots := 0, locals := 22 } : Room) [cell30_ qx sx, cell28_ k qx sx, cell29_ k qx sx, cell48_ qx qro sro qpa tro, cell0_ k qro sro, cell1_ k qro sro, cell36_ qpa spa] sz [.ref (qx 0), .int p0, .int p1] (fun (r : Int32) (u : (Nat → Int32) × (Nat → Int32) × Int32) => (∀ j, 0 ≤ ((u.1) j).toInt ∧ ((u.1) j).toInt ≤ 9999) ∧ (∀ j, 0 ≤ ((u.2.1) j).toInt ∧ ((u.2.1) j).toInt ≤ 444) ∧ (0 ≤ (u.2.2).toInt ∧ (u.2.2).toInt ≤ 5) ∧ ((r, (u.1), (u.2.1), (u.2.2)) = J_X11_tell sx sro tro spa p0 p1)) (fun u => [cell30_ qx sx, cell28_ k qx sx, cell29_ k qx sx, cell105_ qx qro qpa sro tro (u.2.2), cell85_ k qro (u.1), cell97_ k qro (u.2.1), cell36_ qpa spa]) := by
  refine g_enter (cc := cX11_tell) (maxL := 3) (ret := (some .int)) (by decide) rfl (Nat.le_of_ble_eq_true rfl) ?_
  intro p e s m below meth c A hsz hAe cx hr hP hD hS ls hl
  rw [hAe]
  refine g_q (fun Q hQ => ?_)
  have hx := cx.1.1
  have hb := cx.1.2.1
  have bp0 := i_rng p0
  have bp1 := i_rng p1
  have hl : lv_has ls 3 [(0, .ref (qx 0)), (1, .int p0), (2, .int p1)] := hl
  obtain ⟨H, eH⟩ : ∃ H : Heap, H = s.heap := ⟨_, rfl⟩
  obtain ⟨locs, el⟩ : ∃ L : List Loc, L = [] := ⟨_, rfl⟩
  have hP : va_P D vwCl [cell30_ qx sx, cell28_ k qx sx, cell29_ k qx sx, cell48_ qx qro sro qpa tro, cell0_ k qro sro, cell1_ k qro sro, cell36_ qpa spa] H := by rw [eH]; exact hP
  have hD : va_D A [cell30_ qx sx, cell28_ k qx sx, cell29_ k qx sx, cell48_ qx qro sro qpa tro, cell0_ k qro sro, cell1_ k qro sro, cell36_ qpa spa] := hD
  have hS : va_S A s.heap H locs := by rw [eH, el]; exact hS
  suffices goal : W p l e ({ frames := 1, cells := 0, slots := 0, locals := 22 } : Room) s m ([.ref (qx 0), .int p0, .int p1] : List Value).toArray below meth c H locs 0 0 Q (F0 m 0 ls []) by rw [eH, el] at goal; exact goal
  refine lv_iload_n hx hb dX11_tell_0 rfl (lv_at hl 1 rfl) ?_
  refine lv_if_lt (tgt := 18) hx hb dX11_tell_1 (by decide) (fun c1 => ?_) (fun c1 => ?_)
  · have f1 : p0.toInt < 0 := f_lt rfl (by decide) c1
    refine lv_bipush (v := (-2)) hx hb dX11_tell_18 (by decide) ?_
    have hlit2 : ((-2) : Int32).toInt = -2 := by decide
    rw [hQ]
    exact x_i cx hr ((sro 1), (sro 2), (sro 0 2)) hP hD hS ⟨r_a, r_g, (show 0 ≤ (sro 0 2).toInt ∧ (sro 0 2).toInt ≤ 5 from by omega), (show (((-2) : Int32), (sro 1), (sro 2), (sro 0 2)) = J_X11_tell sx sro tro spa p0 p1 from by first | (refine Eq.symm ?_; refine Eq.trans (if_pos c1) ?_; rfl) | (unfold J_X11_tell; try dsimp only; rw [if_pos c1]))⟩ dX11_tell_20
  · have f1 : 0 ≤ p0.toInt := f_nlt rfl (by decide) c1
    refine lv_iload_n hx hb dX11_tell_4 rfl (lv_at hl 1 rfl) ?_
    refine lv_sipush (v := 9999) hx hb dX11_tell_5 (by decide) ?_
    refine lv_icmp_gt (tgt := 18) hx hb dX11_tell_8 (by decide) (fun c3 => ?_) (fun c3 => ?_)
    · have f3 : 9999 < p0.toInt := f_lt (by decide) rfl c3
      refine lv_bipush (v := (-2)) hx hb dX11_tell_18 (by decide) ?_
      have hlit4 : ((-2) : Int32).toInt = -2 := by decide
      rw [hQ]
      exact x_i cx hr ((sro 1), (sro 2), (sro 0 2)) hP hD hS ⟨r_a, r_g, (show 0 ≤ (sro 0 2).toInt ∧ (sro 0 2).toInt ≤ 5 from by omega), (show (((-2) : Int32), (sro 1), (sro 2), (sro 0 2)) = J_X11_tell sx sro tro spa p0 p1 from by first | (refine Eq.symm ?_; refine Eq.trans (if_neg c1) ?_; refine Eq.trans (if_pos c3) ?_; rfl) | (unfold J_X11_tell; try dsimp only; rw [if_neg c1, if_pos c3]))⟩ dX11_tell_20
    · have f3 : p0.toInt ≤ 9999 := f_nlt (by decide) rfl c3
      refine lv_iload_n hx hb dX11_tell_11 rfl (lv_at hl 2 rfl) ?_
      refine g_ir (g_runS (wc := []) (rest := []) cx hP hD hS [] rfl (by decide) [.int p1] (c_X3_areLeavers l D k b H.size p1) gX11_tell_X3_areLeavers rfl rfl rfl nd_X3_areLeavers ⟨Nat.le_of_ble_eq_true rfl, Nat.le_of_ble_eq_true rfl⟩ rfl hl.1 rfl (Nat.le_of_ble_eq_true rfl) ⟨Nat.zero_le _, Nat.zero_le _⟩ dX11_tell_12) cx.2.2.1 hP hD hS [] rfl rfl (fun r6 H locs hw5 hP hS => ?_)
      have w7 : r6 = J_X3_areLeavers p1 := hw5
      clear hw5
      have zr6 := lev_b w7
      have yr6 : r6.toInt = (J_X3_areLeavers p1).toInt := congrArg Int32.toInt w7
      refine lv_if_ne (tgt := 21) hx hb dX11_tell_15 (by decide) (fun c8 => ?_) (fun c8 => ?_)
      · have f8 : ¬ r6.toInt = 0 := f_ne rfl (by decide) c8
        have k8 : 0 ≤ p1.toInt ∧ p1.toInt ≤ 444 := lev_t w7 c8
        refine lv_aload_n hx hb dX11_tell_21 rfl (lv_at hl 0 rfl) ?_
        refine g_get cx hP iw_X11_tell_X11 0 rfl rfl 14 (by decide) rfl fw_X11_tell_86 rfl dX11_tell_22 ?_
        refine g_get cx hP iw_X11_tell_X7 3 rfl rfl 2 (by decide) rfl fw_X11_tell_318 rfl dX11_tell_25 ?_
        refine lv_iconst (v := 5) hx hb dX11_tell_28 (by decide) ?_
        refine lv_icmp_lt (tgt := 35) hx hb dX11_tell_29 (by decide) (fun c9 => ?_) (fun c9 => ?_)
        · have f9 : (sro 0 2).toInt < 5 := f_lt rfl (by decide) c9
          refine lv_aload_n hx hb dX11_tell_35 rfl (lv_at hl 0 rfl) ?_
          refine g_get cx hP iw_X11_tell_X11 0 rfl rfl 14 (by decide) rfl fw_X11_tell_86 rfl dX11_tell_36 ?_
          refine lv_iload_n hx hb dX11_tell_39 rfl (lv_at hl 1 rfl) ?_
          refine lv_iload_n hx hb dX11_tell_40 rfl (lv_at hl 2 rfl) ?_
          refine g_v (w1 := fun (u : (Nat → Int32) × (Nat → Int32) × Int32) => [cell105_ qx qro qpa sro tro (u.2.2), cell85_ k qro (u.1), cell97_ k qro (u.2.1), cell36_ qpa spa]) (g_runV (wc := [cell48_ qx qro sro qpa tro, cell0_ k qro sro, cell1_ k qro sro, cell36_ qpa spa]) (rest := []) cx hP hD hS [3, 4, 5, 6] rfl (by decide) [.int p0, .int p1] (c_X7_append l D k b (lq [qx 15, qro 1, qro 2]) (lS [(lI [0, 0, (sro 0 2), 0, (sro 0 4), (sro 0 5), (sro 0 6)]), (sro 1), (sro 2)]) (lT [(lJ [0, 0, 0, 0, 0, 0, 0, (tro 0 7), (tro 0 8)]), (fun _ => 0), (fun _ => 0)]) qpa spa H.size p0 p1 (show 0 ≤ (sro 0 2).toInt ∧ (sro 0 2).toInt ≤ 4 from by first | decide | omega) r_a r_g (show 0 ≤ p0.toInt ∧ p0.toInt ≤ 9999 from by first | decide | omega) (show 0 ≤ p1.toInt ∧ p1.toInt ≤ 444 from by first | decide | omega)) gX11_tell_X7_append rfl rfl rfl nd_X7_append ⟨Nat.le_of_ble_eq_true rfl, Nat.le_of_ble_eq_true rfl⟩ (ci := 5) (q0 := 0) rfl rfl rfl hl.1 rfl (Nat.le_of_ble_eq_true rfl) ⟨Nat.zero_le _, Nat.zero_le _⟩ dX11_tell_41) cx.2.2.1 hP hD hS [3, 4, 5, 6] rfl (fun _ => rfl) (fun u11 H locs hw10 hP hD hS => ?_)
          obtain ⟨m12, m13, m14⟩ := u11
          have hP : va_P D vwCl [cell30_ qx sx, cell28_ k qx sx, cell29_ k qx sx, cell105_ qx qro qpa sro tro m14, (qro 1, .inl (k 0, 5, .inl m12)), (qro 2, .inl (k 0, 5, .inl m13)), cell36_ qpa spa] H := hP
          have hD : va_D A [cell30_ qx sx, cell28_ k qx sx, cell29_ k qx sx, cell105_ qx qro qpa sro tro m14, (qro 1, .inl (k 0, 5, .inl m12)), (qro 2, .inl (k 0, 5, .inl m13)), cell36_ qpa spa] := hD
          replace hw10 : (∀ j, 0 ≤ (m12 j).toInt ∧ (m12 j).toInt ≤ 9999) ∧ (∀ j, 0 ≤ (m13 j).toInt ∧ (m13 j).toInt ≤ 444) ∧ (m14.toInt = (sro 0 2).toInt + 1) ∧ ((m12, m13, m14) = J_X7_append (lS [(lI [0, 0, (sro 0 2), 0, (sro 0 4), (sro 0 5), (sro 0 6)]), (sro 1), (sro 2)]) (lT [(lJ [0, 0, 0, 0, 0, 0, 0, (tro 0 7), (tro 0 8)]), (fun _ => 0), (fun _ => 0)]) spa p0 p1) := hw10
          obtain ⟨w15, w16, w17, w18⟩ := hw10
          have k20 : m12 = ((J_X7_append (lS [(lI [0, 0, (sro 0 2), 0, (sro 0 4), (sro 0 5), (sro 0 6)]), (sro 1), (sro 2)]) (lT [(lJ [0, 0, 0, 0, 0, 0, 0, (tro 0 7), (tro 0 8)]), (fun _ => 0), (fun _ => 0)]) spa p0 p1).1) := congrArg (fun z => (z.1)) w18
          have k21 : m13 = ((J_X7_append (lS [(lI [0, 0, (sro 0 2), 0, (sro 0 4), (sro 0 5), (sro 0 6)]), (sro 1), (sro 2)]) (lT [(lJ [0, 0, 0, 0, 0, 0, 0, (tro 0 7), (tro 0 8)]), (fun _ => 0), (fun _ => 0)]) spa p0 p1).2.1) := congrArg (fun z => (z.2.1)) w18
          have k22 : m14 = ((J_X7_append (lS [(lI [0, 0, (sro 0 2), 0, (sro 0 4), (sro 0 5), (sro 0 6)]), (sro 1), (sro 2)]) (lT [(lJ [0, 0, 0, 0, 0, 0, 0, (tro 0 7), (tro 0 8)]), (fun _ => 0), (fun _ => 0)]) spa p0 p1).2.2) := congrArg (fun z => (z.2.2)) w18
          refine lv_aload_n hx hb dX11_tell_44 rfl (lv_at hl 0 rfl) ?_
          refine g_get cx hP iw_X11_tell_X11 0 rfl rfl 14 (by decide) rfl fw_X11_tell_86 rfl dX11_tell_45 ?_
          refine g_get cx hP iw_X11_tell_X7 3 rfl rfl 2 (by decide) rfl fw_X11_tell_318 rfl dX11_tell_48 ?_
          rw [hQ]
          exact x_i cx hr (m12, m13, m14) hP hD hS ⟨w15, w16, (show 0 ≤ m14.toInt ∧ m14.toInt ≤ 5 from by omega), (show (m14, m12, m13, m14) = J_X11_tell sx sro tro spa p0 p1 from by subst w7 k20 k21 k22; first | (refine Eq.symm ?_; refine Eq.trans (if_neg c1) ?_; refine Eq.trans (if_neg c3) ?_; refine Eq.trans (if_neg c8) ?_; refine Eq.trans (if_pos c9) ?_; rfl) | (unfold J_X11_tell; try dsimp only; rw [if_neg c1, if_neg c3, if_neg c8, if_pos c9]))⟩ dX11_tell_51
        · have f9 : 5 ≤ (sro 0 2).toInt := f_nlt rfl (by decide) c9
          refine lv_bipush (v := (-4)) hx hb dX11_tell_32 (by decide) ?_
          have hlit23 : ((-4) : Int32).toInt = -4 := by decide
          rw [hQ]
          exact x_i cx hr ((sro 1), (sro 2), (sro 0 2)) hP hD hS ⟨r_a, r_g, (show 0 ≤ (sro 0 2).toInt ∧ (sro 0 2).toInt ≤ 5 from by omega), (show (((-4) : Int32), (sro 1), (sro 2), (sro 0 2)) = J_X11_tell sx sro tro spa p0 p1 from by subst w7; first | (refine Eq.symm ?_; refine Eq.trans (if_neg c1) ?_; refine Eq.trans (if_neg c3) ?_; refine Eq.trans (if_neg c8) ?_; refine Eq.trans (if_neg c9) ?_; rfl) | (unfold J_X11_tell; try dsimp only; rw [if_neg c1, if_neg c3, if_neg c8, if_neg c9]))⟩ dX11_tell_34
      · have f8 : r6.toInt = 0 := f_eq rfl (by decide) c8
        refine lv_bipush (v := (-2)) hx hb dX11_tell_18 (by decide) ?_
        have hlit24 : ((-2) : Int32).toInt = -2 := by decide
        rw [hQ]
        exact x_i cx hr ((sro 1), (sro 2), (sro 0 2)) hP hD hS ⟨r_a, r_g, (show 0 ≤ (sro 0 2).toInt ∧ (sro 0 2).toInt ≤ 5 from by omega), (show (((-2) : Int32), (sro 1), (sro 2), (sro 0 2)) = J_X11_tell sx sro tro spa p0 p1 from by subst w7; first | (refine Eq.symm ?_; refine Eq.trans (if_neg c1) ?_; refine Eq.trans (if_neg c3) ?_; refine Eq.trans (if_pos c8) ?_; rfl) | (unfold J_X11_tell; try dsimp only; rw [if_neg c1, if_neg c3, if_pos c8]))⟩ dX11_tell_20
theorem fw_X11_untell_318 : Cond.fieldLink RX11 318 "StillInAugust$Row" "length" "I" ∈ wsX11_untell := by decide +kernel
theorem fw_X11_untell_86 : Cond.fieldLink RX11 86 "StillInAugust" "row" "LStillInAugust$Row;" ∈ wsX11_untell := by decide +kernel
theorem iw_X11_untell_X11 : ∀ w ∈ u_ws RX11 TX11 17, w ∈ wsX11_untell := fun _ h => List.mem_cons_of_mem _ (List.mem_append_left _ (List.mem_append_right _ h))
theorem iw_X11_untell_X7 : ∀ w ∈ u_ws RX7 TX7 9, w ∈ wsX11_untell := fun _ h => List.mem_cons_of_mem _ (List.mem_append_right _ h)
def J_X11_untell (sx : Nat → Nat → Int32) (sro : Nat → Nat → Int32) (tro : Nat → Nat → Int64) (spa : Nat → Nat → Int32) : Int32 × Int32 := ((sro 0 2), (0 : Int32))
set_option maxHeartbeats 4000000 in
set_option maxRecDepth 100000 in
theorem c_X11_untell (l : Launch) (D : va_G) (k : Nat → ClassId) (b : Nat → Nat) (qx : Nat → Nat) (sx : Nat → Nat → Int32) (qro : Nat → Nat) (sro : Nat → Nat → Int32) (tro : Nat → Nat → Int64) (qpa : Nat → Nat) (spa : Nat → Nat → Int32) (sz : Nat) : MetI l D k b yX11_untell wsX11_untell ({ frames := 0, cells := 0, slots := 0, locals := 0 } : Room) [cell30_ qx sx, cell28_ k qx sx, cell29_ k qx sx, cell48_ qx qro sro qpa tro, cell0_ k qro sro, cell1_ k qro sro, cell36_ qpa spa] sz [.ref (qx 0)] (fun (r : Int32) (u : Int32) => (r.toInt = (sro 0 2).toInt) ∧ (u.toInt = 0) ∧ ((r, u) = J_X11_untell sx sro tro spa)) (fun u => [cell30_ qx sx, cell28_ k qx sx, cell29_ k qx sx, cell105_ qx qro qpa sro tro u, cell0_ k qro sro, cell1_ k qro sro, cell36_ qpa spa]) := by
  refine g_enter (cc := cX11_untell) (maxL := 2) (ret := (some .int)) (by decide) rfl (Nat.le_of_ble_eq_true rfl) ?_
  intro p e s m below meth c A hsz hAe cx hr hP hD hS ls hl
  rw [hAe]
  refine g_q (fun Q hQ => ?_)
  have hx := cx.1.1
  have hb := cx.1.2.1
  have hl : lv_has ls 2 [(0, .ref (qx 0))] := hl
  obtain ⟨H, eH⟩ : ∃ H : Heap, H = s.heap := ⟨_, rfl⟩
  obtain ⟨locs, el⟩ : ∃ L : List Loc, L = [] := ⟨_, rfl⟩
  have hP : va_P D vwCl [cell30_ qx sx, cell28_ k qx sx, cell29_ k qx sx, cell48_ qx qro sro qpa tro, cell0_ k qro sro, cell1_ k qro sro, cell36_ qpa spa] H := by rw [eH]; exact hP
  have hD : va_D A [cell30_ qx sx, cell28_ k qx sx, cell29_ k qx sx, cell48_ qx qro sro qpa tro, cell0_ k qro sro, cell1_ k qro sro, cell36_ qpa spa] := hD
  have hS : va_S A s.heap H locs := by rw [eH, el]; exact hS
  suffices goal : W p l e ({ frames := 0, cells := 0, slots := 0, locals := 0 } : Room) s m ([.ref (qx 0)] : List Value).toArray below meth c H locs 0 0 Q (F0 m 0 ls []) by rw [eH, el] at goal; exact goal
  refine lv_aload_n hx hb dX11_untell_0 rfl (lv_at hl 0 rfl) ?_
  refine g_get cx hP iw_X11_untell_X11 0 rfl rfl 14 (by decide) rfl fw_X11_untell_86 rfl dX11_untell_1 ?_
  refine g_get cx hP iw_X11_untell_X7 3 rfl rfl 2 (by decide) rfl fw_X11_untell_318 rfl dX11_untell_4 ?_
  refine lv_istore_n (lv' := [(1, .int (sro 0 2)), (0, .ref (qx 0))]) hx hb dX11_untell_7 rfl hl (by decide) rfl (fun ls hl => ?_)
  refine lv_aload_n hx hb dX11_untell_8 rfl (lv_at hl 1 rfl) ?_
  refine g_get cx hP iw_X11_untell_X11 0 rfl rfl 14 (by decide) rfl fw_X11_untell_86 rfl dX11_untell_9 ?_
  refine lv_iconst (v := 0) hx hb dX11_untell_12 (by decide) ?_
  refine g_pt cx hP hD hS iw_X11_untell_X7 tyX7 tyX7_ok nmX7 3 rfl rfl 2 (by decide) rfl fw_X11_untell_318 (ty := .int) rfl rfl rfl (Nat.le_of_ble_eq_true rfl) dX11_untell_13 (fun H locs hP hD hS => ?_)
  have hP : va_P D vwCl [cell30_ qx sx, cell28_ k qx sx, cell29_ k qx sx, cell105_ qx qro qpa sro tro 0, cell0_ k qro sro, cell1_ k qro sro, cell36_ qpa spa] H := hP
  have hD : va_D A [cell30_ qx sx, cell28_ k qx sx, cell29_ k qx sx, cell105_ qx qro qpa sro tro 0, cell0_ k qro sro, cell1_ k qro sro, cell36_ qpa spa] := hD
  have hlit1 : (0 : Int32).toInt = 0 := by decide
  refine lv_iload_n hx hb dX11_untell_16 rfl (lv_at hl 0 rfl) ?_
  have hlit2 : (0 : Int32).toInt = 0 := by decide
  rw [hQ]
  exact x_i cx hr 0 hP hD hS ⟨(show (sro 0 2).toInt = (sro 0 2).toInt from by omega), (show (0 : Int32).toInt = 0 from by omega), (show ((sro 0 2), (0 : Int32)) = J_X11_untell sx sro tro spa from by rfl)⟩ dX11_untell_17
theorem fw_X11_judge_324 : Cond.fieldLink RX11 324 "StillInAugust$Row" "wrongWeek" "I" ∈ wsX11_judge := by decide +kernel
theorem fw_X11_judge_39 : Cond.fieldLink RX11 39 "StillInAugust" "house" "LStillInAugust$House;" ∈ wsX11_judge := by decide +kernel
theorem fw_X11_judge_86 : Cond.fieldLink RX11 86 "StillInAugust" "row" "LStillInAugust$Row;" ∈ wsX11_judge := by decide +kernel
theorem nd_X7_judgeBy : yX7_judgeBy.cls = RX7 ∧ yX7_judgeBy.cls ≠ "java/lang/invoke/MethodHandle" ∧ yX7_judgeBy.cls ≠ "java/lang/invoke/VarHandle" ∧ (parseMethodDescriptor yX7_judgeBy.desc).map (fun d => d.parameters.length) = some 1 := by decide +kernel
theorem iw_X11_judge_X11 : ∀ w ∈ u_ws RX11 TX11 17, w ∈ wsX11_judge := fun _ h => List.mem_cons_of_mem _ (List.mem_append_left _ (List.mem_append_left _ (List.mem_append_left _ (List.mem_append_right _ h))))
theorem iw_X11_judge_X7 : ∀ w ∈ u_ws RX7 TX7 9, w ∈ wsX11_judge := fun _ h => List.mem_cons_of_mem _ (List.mem_append_left _ (List.mem_append_left _ (List.mem_append_right _ h)))
def J_X11_judge (sx : Nat → Nat → Int32) (sro : Nat → Nat → Int32) (tro : Nat → Nat → Int64) (spa : Nat → Nat → Int32) (sh : Nat → Nat → Int32) : Int32 × Int32 × Int32 × Int32 × Int32 × Int32 × Int32 × Int32 × Int32 × Int32 × Int64 × Int64 := LetF (J_X7_judgeBy (lS [(lI [0, 0, (sro 0 2), 0, (sro 0 4), (sro 0 5), (sro 0 6)]), (sro 1), (sro 2)]) (lT [(lJ [0, 0, 0, 0, 0, 0, 0, (tro 0 7), (tro 0 8)]), (fun _ => 0), (fun _ => 0)]) spa (lS [(lI [(sh 0 0), (sh 0 1), 0, 0, 0, 0, (sh 0 6), (sh 0 7), (sh 0 8), (sh 0 9), (sh 0 10), (sh 0 11), (sh 0 12)]), (sh 1), (sh 2), (sh 3), (sh 4), (sh 5)])) (fun y19 => ((y19.2.2.2.2.2.2.1), (y19.1), (y19.2.1), (y19.2.2.1), (y19.2.2.2.1), (y19.2.2.2.2.1), (y19.2.2.2.2.2.1), (y19.2.2.2.2.2.2.1), (y19.2.2.2.2.2.2.2.1), (y19.2.2.2.2.2.2.2.2.1), (y19.2.2.2.2.2.2.2.2.2.1), (y19.2.2.2.2.2.2.2.2.2.2)))
theorem exl_X11_judge_0 {sx : Nat → Nat → Int32} {sro : Nat → Nat → Int32} {tro : Nat → Nat → Int64} {spa : Nat → Nat → Int32} {sh : Nat → Nat → Int32} {m9 : Int32} {m3 : Int32} {m4 : Int32} {m5 : Int32} {m6 : Int32} {m7 : Int32} {m8 : Int32} {m10 : Int32} {m11 : Int32} {m12 : Int64} {m13 : Int64} (w18 : (m3, m4, m5, m6, m7, m8, m9, m10, m11, m12, m13) = J_X7_judgeBy (lS [(lI [0, 0, (sro 0 2), 0, (sro 0 4), (sro 0 5), (sro 0 6)]), (sro 1), (sro 2)]) (lT [(lJ [0, 0, 0, 0, 0, 0, 0, (tro 0 7), (tro 0 8)]), (fun _ => 0), (fun _ => 0)]) spa (lS [(lI [(sh 0 0), (sh 0 1), 0, 0, 0, 0, (sh 0 6), (sh 0 7), (sh 0 8), (sh 0 9), (sh 0 10), (sh 0 11), (sh 0 12)]), (sh 1), (sh 2), (sh 3), (sh 4), (sh 5)])) : (m9, m3, m4, m5, m6, m7, m8, m9, m10, m11, m12, m13) = J_X11_judge sx sro tro spa sh := by refine Eq.symm ?_; unfold J_X11_judge; refine lt_e w18 ?_; rfl
set_option maxHeartbeats 4000000 in
set_option maxRecDepth 100000 in
theorem c_X11_judge (l : Launch) (D : va_G) (k : Nat → ClassId) (b : Nat → Nat) (qx : Nat → Nat) (sx : Nat → Nat → Int32) (qro : Nat → Nat) (sro : Nat → Nat → Int32) (tro : Nat → Nat → Int64) (qpa : Nat → Nat) (spa : Nat → Nat → Int32) (qh : Nat → Nat) (sh : Nat → Nat → Int32) (sz : Nat) (h_wk : 0 ≤ (sh 0 0).toInt ∧ (sh 0 0).toInt ≤ 5) (h_hk : 0 ≤ (sh 0 1).toInt ∧ (sh 0 1).toInt ≤ 4) (h_fl : 0 ≤ (sh 0 12).toInt ∧ (sh 0 12).toInt ≤ 5) (h_of : ∀ j, 0 ≤ (sh 2 j).toInt ∧ (sh 2 j).toInt ≤ 4) (h_go : ∀ j, 0 ≤ (sh 3 j).toInt ∧ (sh 3 j).toInt ≤ 5) (r_l : 0 ≤ (sro 0 2).toInt ∧ (sro 0 2).toInt ≤ 5) (r_a : ∀ j, 0 ≤ (sro 1 j).toInt ∧ (sro 1 j).toInt ≤ 9999) (r_g : ∀ j, 0 ≤ (sro 2 j).toInt ∧ (sro 2 j).toInt ≤ 444) : MetI l D k b yX11_judge wsX11_judge ({ frames := 6, cells := 0, slots := 0, locals := 137 } : Room) [cell30_ qx sx, cell28_ k qx sx, cell29_ k qx sx, cell48_ qx qro sro qpa tro, cell0_ k qro sro, cell1_ k qro sro, cell36_ qpa spa, cell31_ qx sh qh, cell0_ k qh sh, cell1_ k qh sh, cell4_ k qh sh, cell3_ k qh sh, cell2_ k qh sh] sz [.ref (qx 0)] (fun (r : Int32) (u : Int32 × Int32 × Int32 × Int32 × Int32 × Int32 × Int32 × Int32 × Int32 × Int64 × Int64) => (r, (u.1), (u.2.1), (u.2.2.1), (u.2.2.2.1), (u.2.2.2.2.1), (u.2.2.2.2.2.1), (u.2.2.2.2.2.2.1), (u.2.2.2.2.2.2.2.1), (u.2.2.2.2.2.2.2.2.1), (u.2.2.2.2.2.2.2.2.2.1), (u.2.2.2.2.2.2.2.2.2.2)) = J_X11_judge sx sro tro spa sh) (fun u => [cell30_ qx sx, cell28_ k qx sx, cell29_ k qx sx, cell80_ qx qro sro qpa (u.2.2.2.2.2.2.1) (u.2.2.2.2.2.2.2.1) (u.2.2.2.2.2.2.2.2.1) (u.2.2.2.2.2.2.2.2.2.1) (u.2.2.2.2.2.2.2.2.2.2), cell0_ k qro sro, cell1_ k qro sro, cell68_ qpa (u.1) (u.2.1) (u.2.2.1) (u.2.2.2.1) (u.2.2.2.2.1) (u.2.2.2.2.2.1), cell31_ qx sh qh, cell0_ k qh sh, cell1_ k qh sh, cell4_ k qh sh, cell3_ k qh sh, cell2_ k qh sh]) := by
  refine g_enter (cc := cX11_judge) (maxL := 1) (ret := (some .int)) (by decide) rfl (Nat.le_of_ble_eq_true rfl) ?_
  intro p e s m below meth c A hsz hAe cx hr hP hD hS ls hl
  rw [hAe]
  refine g_q (fun Q hQ => ?_)
  have hx := cx.1.1
  have hb := cx.1.2.1
  have hl : lv_has ls 1 [(0, .ref (qx 0))] := hl
  obtain ⟨H, eH⟩ : ∃ H : Heap, H = s.heap := ⟨_, rfl⟩
  obtain ⟨locs, el⟩ : ∃ L : List Loc, L = [] := ⟨_, rfl⟩
  have hP : va_P D vwCl [cell30_ qx sx, cell28_ k qx sx, cell29_ k qx sx, cell48_ qx qro sro qpa tro, cell0_ k qro sro, cell1_ k qro sro, cell36_ qpa spa, cell31_ qx sh qh, cell0_ k qh sh, cell1_ k qh sh, cell4_ k qh sh, cell3_ k qh sh, cell2_ k qh sh] H := by rw [eH]; exact hP
  have hD : va_D A [cell30_ qx sx, cell28_ k qx sx, cell29_ k qx sx, cell48_ qx qro sro qpa tro, cell0_ k qro sro, cell1_ k qro sro, cell36_ qpa spa, cell31_ qx sh qh, cell0_ k qh sh, cell1_ k qh sh, cell4_ k qh sh, cell3_ k qh sh, cell2_ k qh sh] := hD
  have hS : va_S A s.heap H locs := by rw [eH, el]; exact hS
  suffices goal : W p l e ({ frames := 6, cells := 0, slots := 0, locals := 137 } : Room) s m ([.ref (qx 0)] : List Value).toArray below meth c H locs 0 0 Q (F0 m 0 ls []) by rw [eH, el] at goal; exact goal
  refine lv_aload_n hx hb dX11_judge_0 rfl (lv_at hl 0 rfl) ?_
  refine g_get cx hP iw_X11_judge_X11 0 rfl rfl 14 (by decide) rfl fw_X11_judge_86 rfl dX11_judge_1 ?_
  refine lv_aload_n hx hb dX11_judge_4 rfl (lv_at hl 0 rfl) ?_
  refine g_get cx hP iw_X11_judge_X11 0 rfl rfl 4 (by decide) rfl fw_X11_judge_39 rfl dX11_judge_5 ?_
  refine g_v (w1 := fun (u : Int32 × Int32 × Int32 × Int32 × Int32 × Int32 × Int32 × Int32 × Int32 × Int64 × Int64) => [cell80_ qx qro sro qpa (u.2.2.2.2.2.2.1) (u.2.2.2.2.2.2.2.1) (u.2.2.2.2.2.2.2.2.1) (u.2.2.2.2.2.2.2.2.2.1) (u.2.2.2.2.2.2.2.2.2.2), cell0_ k qro sro, cell1_ k qro sro, cell68_ qpa (u.1) (u.2.1) (u.2.2.1) (u.2.2.2.1) (u.2.2.2.2.1) (u.2.2.2.2.2.1), cell31_ qx sh qh, cell0_ k qh sh, cell1_ k qh sh, cell4_ k qh sh, cell3_ k qh sh, cell2_ k qh sh]) (g_runV (wc := [cell48_ qx qro sro qpa tro, cell0_ k qro sro, cell1_ k qro sro, cell36_ qpa spa, cell31_ qx sh qh, cell0_ k qh sh, cell1_ k qh sh, cell4_ k qh sh, cell3_ k qh sh, cell2_ k qh sh]) (rest := []) cx hP hD hS [3, 4, 5, 6, 7, 8, 9, 10, 11, 12] rfl (by decide) [.ref (qx 7)] (c_X7_judgeBy l D k b (lq [qx 15, qro 1, qro 2]) (lS [(lI [0, 0, (sro 0 2), 0, (sro 0 4), (sro 0 5), (sro 0 6)]), (sro 1), (sro 2)]) (lT [(lJ [0, 0, 0, 0, 0, 0, 0, (tro 0 7), (tro 0 8)]), (fun _ => 0), (fun _ => 0)]) qpa spa (lq [qx 7, qh 1, qh 2, qh 3, qh 4, qh 5]) (lS [(lI [(sh 0 0), (sh 0 1), 0, 0, 0, 0, (sh 0 6), (sh 0 7), (sh 0 8), (sh 0 9), (sh 0 10), (sh 0 11), (sh 0 12)]), (sh 1), (sh 2), (sh 3), (sh 4), (sh 5)]) H.size (show 0 ≤ (sh 0 0).toInt ∧ (sh 0 0).toInt ≤ 5 from by first | decide | omega) (show 0 ≤ (sh 0 1).toInt ∧ (sh 0 1).toInt ≤ 4 from by first | decide | omega) (show 0 ≤ (sh 0 12).toInt ∧ (sh 0 12).toInt ≤ 5 from by first | decide | omega) h_of h_go (show 0 ≤ (sro 0 2).toInt ∧ (sro 0 2).toInt ≤ 5 from by first | decide | omega) r_a r_g) gX11_judge_X7_judgeBy rfl rfl rfl nd_X7_judgeBy ⟨Nat.le_of_ble_eq_true rfl, Nat.le_of_ble_eq_true rfl⟩ (ci := 5) (q0 := 0) rfl rfl rfl hl.1 rfl (Nat.le_of_ble_eq_true rfl) ⟨Nat.zero_le _, Nat.zero_le _⟩ dX11_judge_8) cx.2.2.1 hP hD hS [3, 4, 5, 6, 7, 8, 9, 10, 11, 12] rfl (fun _ => rfl) (fun u2 H locs hw1 hP hD hS => ?_)
  obtain ⟨m3, m4, m5, m6, m7, m8, m9, m10, m11, m12, m13⟩ := u2
  have hP : va_P D vwCl [cell30_ qx sx, cell28_ k qx sx, cell29_ k qx sx, cell80_ qx qro sro qpa m9 m10 m11 m12 m13, cell0_ k qro sro, cell1_ k qro sro, cell68_ qpa m3 m4 m5 m6 m7 m8, cell31_ qx sh qh, cell0_ k qh sh, cell1_ k qh sh, cell4_ k qh sh, cell3_ k qh sh, cell2_ k qh sh] H := hP
  have hD : va_D A [cell30_ qx sx, cell28_ k qx sx, cell29_ k qx sx, cell80_ qx qro sro qpa m9 m10 m11 m12 m13, cell0_ k qro sro, cell1_ k qro sro, cell68_ qpa m3 m4 m5 m6 m7 m8, cell31_ qx sh qh, cell0_ k qh sh, cell1_ k qh sh, cell4_ k qh sh, cell3_ k qh sh, cell2_ k qh sh] := hD
  replace hw1 : (0 ≤ m4.toInt ∧ m4.toInt ≤ 400 ∧ tot m4 ≤ 4) ∧ (0 ≤ m3.toInt ∧ m3.toInt ≤ 5) ∧ (0 ≤ m7.toInt ∧ m7.toInt ≤ 1) ∧ (m7.toInt = 0 ∨ m3.toInt ≤ 4) ∧ ((m3, m4, m5, m6, m7, m8, m9, m10, m11, m12, m13) = J_X7_judgeBy (lS [(lI [0, 0, (sro 0 2), 0, (sro 0 4), (sro 0 5), (sro 0 6)]), (sro 1), (sro 2)]) (lT [(lJ [0, 0, 0, 0, 0, 0, 0, (tro 0 7), (tro 0 8)]), (fun _ => 0), (fun _ => 0)]) spa (lS [(lI [(sh 0 0), (sh 0 1), 0, 0, 0, 0, (sh 0 6), (sh 0 7), (sh 0 8), (sh 0 9), (sh 0 10), (sh 0 11), (sh 0 12)]), (sh 1), (sh 2), (sh 3), (sh 4), (sh 5)])) := hw1
  obtain ⟨w14, w15, w16, w17, w18⟩ := hw1
  refine lv_aload_n hx hb dX11_judge_11 rfl (lv_at hl 0 rfl) ?_
  refine g_get cx hP iw_X11_judge_X11 0 rfl rfl 14 (by decide) rfl fw_X11_judge_86 rfl dX11_judge_12 ?_
  refine g_get cx hP iw_X11_judge_X7 3 rfl rfl 4 (by decide) rfl fw_X11_judge_324 rfl dX11_judge_15 ?_
  rw [hQ]
  exact x_i cx hr (m3, m4, m5, m6, m7, m8, m9, m10, m11, m12, m13) hP hD hS (show (m9, m3, m4, m5, m6, m7, m8, m9, m10, m11, m12, m13) = J_X11_judge sx sro tro spa sh from (exl_X11_judge_0 w18)) dX11_judge_18
theorem fw_X11_paid_306 : Cond.fieldLink RX11 306 "StillInAugust$Summer" "costs" "I" ∈ wsX11_paid := by decide +kernel
theorem fw_X11_paid_324 : Cond.fieldLink RX11 324 "StillInAugust$Row" "wrongWeek" "I" ∈ wsX11_paid := by decide +kernel
theorem fw_X11_paid_327 : Cond.fieldLink RX11 327 "StillInAugust$Row" "past" "LStillInAugust$Summer;" ∈ wsX11_paid := by decide +kernel
theorem fw_X11_paid_39 : Cond.fieldLink RX11 39 "StillInAugust" "house" "LStillInAugust$House;" ∈ wsX11_paid := by decide +kernel
theorem fw_X11_paid_86 : Cond.fieldLink RX11 86 "StillInAugust" "row" "LStillInAugust$Row;" ∈ wsX11_paid := by decide +kernel
theorem iw_X11_paid_X11 : ∀ w ∈ u_ws RX11 TX11 17, w ∈ wsX11_paid := fun _ h => List.mem_cons_of_mem _ (List.mem_append_left _ (List.mem_append_left _ (List.mem_append_left _ (List.mem_append_right _ h))))
theorem iw_X11_paid_X7 : ∀ w ∈ u_ws RX7 TX7 9, w ∈ wsX11_paid := fun _ h => List.mem_cons_of_mem _ (List.mem_append_left _ (List.mem_append_left _ (List.mem_append_right _ h)))
theorem iw_X11_paid_X9 : ∀ w ∈ u_ws RX9 TX9 6, w ∈ wsX11_paid := fun _ h => List.mem_cons_of_mem _ (List.mem_append_left _ (List.mem_append_right _ h))
def J_X11_paid (sx : Nat → Nat → Int32) (sro : Nat → Nat → Int32) (tro : Nat → Nat → Int64) (spa : Nat → Nat → Int32) (sh : Nat → Nat → Int32) : Int32 × Int32 × Int32 × Int32 × Int32 × Int32 × Int32 × Int32 × Int32 × Int32 × Int64 × Int64 := LetF (J_X7_judgeBy (lS [(lI [0, 0, (sro 0 2), 0, (sro 0 4), (sro 0 5), (sro 0 6)]), (sro 1), (sro 2)]) (lT [(lJ [0, 0, 0, 0, 0, 0, 0, (tro 0 7), (tro 0 8)]), (fun _ => 0), (fun _ => 0)]) spa (lS [(lI [(sh 0 0), (sh 0 1), 0, 0, 0, 0, (sh 0 6), (sh 0 7), (sh 0 8), (sh 0 9), (sh 0 10), (sh 0 11), (sh 0 12)]), (sh 1), (sh 2), (sh 3), (sh 4), (sh 5)])) (fun y19 => if (y19.2.2.2.2.2.2.1) = (-9) then ((y19.2.2.2.2.2.1), (y19.1), (y19.2.1), (y19.2.2.1), (y19.2.2.2.1), (y19.2.2.2.2.1), (y19.2.2.2.2.2.1), (y19.2.2.2.2.2.2.1), (y19.2.2.2.2.2.2.2.1), (y19.2.2.2.2.2.2.2.2.1), (y19.2.2.2.2.2.2.2.2.2.1), (y19.2.2.2.2.2.2.2.2.2.2)) else (((-3) : Int32), (y19.1), (y19.2.1), (y19.2.2.1), (y19.2.2.2.1), (y19.2.2.2.2.1), (y19.2.2.2.2.2.1), (y19.2.2.2.2.2.2.1), (y19.2.2.2.2.2.2.2.1), (y19.2.2.2.2.2.2.2.2.1), (y19.2.2.2.2.2.2.2.2.2.1), (y19.2.2.2.2.2.2.2.2.2.2)))
theorem exl_X11_paid_0 {sx : Nat → Nat → Int32} {sro : Nat → Nat → Int32} {tro : Nat → Nat → Int64} {spa : Nat → Nat → Int32} {sh : Nat → Nat → Int32} {m8 : Int32} {m3 : Int32} {m4 : Int32} {m5 : Int32} {m6 : Int32} {m7 : Int32} {m9 : Int32} {m10 : Int32} {m11 : Int32} {m12 : Int64} {m13 : Int64} (w18 : (m3, m4, m5, m6, m7, m8, m9, m10, m11, m12, m13) = J_X7_judgeBy (lS [(lI [0, 0, (sro 0 2), 0, (sro 0 4), (sro 0 5), (sro 0 6)]), (sro 1), (sro 2)]) (lT [(lJ [0, 0, 0, 0, 0, 0, 0, (tro 0 7), (tro 0 8)]), (fun _ => 0), (fun _ => 0)]) spa (lS [(lI [(sh 0 0), (sh 0 1), 0, 0, 0, 0, (sh 0 6), (sh 0 7), (sh 0 8), (sh 0 9), (sh 0 10), (sh 0 11), (sh 0 12)]), (sh 1), (sh 2), (sh 3), (sh 4), (sh 5)])) (c20 : m9 = ((-9) : Int32)) : (m8, m3, m4, m5, m6, m7, m8, m9, m10, m11, m12, m13) = J_X11_paid sx sro tro spa sh := by refine Eq.symm ?_; unfold J_X11_paid; refine lt_e w18 ?_; refine Eq.trans (if_pos c20) ?_; rfl
theorem exl_X11_paid_1 {sx : Nat → Nat → Int32} {sro : Nat → Nat → Int32} {tro : Nat → Nat → Int64} {spa : Nat → Nat → Int32} {sh : Nat → Nat → Int32} {m3 : Int32} {m4 : Int32} {m5 : Int32} {m6 : Int32} {m7 : Int32} {m8 : Int32} {m9 : Int32} {m10 : Int32} {m11 : Int32} {m12 : Int64} {m13 : Int64} (w18 : (m3, m4, m5, m6, m7, m8, m9, m10, m11, m12, m13) = J_X7_judgeBy (lS [(lI [0, 0, (sro 0 2), 0, (sro 0 4), (sro 0 5), (sro 0 6)]), (sro 1), (sro 2)]) (lT [(lJ [0, 0, 0, 0, 0, 0, 0, (tro 0 7), (tro 0 8)]), (fun _ => 0), (fun _ => 0)]) spa (lS [(lI [(sh 0 0), (sh 0 1), 0, 0, 0, 0, (sh 0 6), (sh 0 7), (sh 0 8), (sh 0 9), (sh 0 10), (sh 0 11), (sh 0 12)]), (sh 1), (sh 2), (sh 3), (sh 4), (sh 5)])) (c20 : ¬ (m9 = ((-9) : Int32))) : (((-3) : Int32), m3, m4, m5, m6, m7, m8, m9, m10, m11, m12, m13) = J_X11_paid sx sro tro spa sh := by refine Eq.symm ?_; unfold J_X11_paid; refine lt_e w18 ?_; refine Eq.trans (if_neg c20) ?_; rfl
set_option maxHeartbeats 4000000 in
set_option maxRecDepth 100000 in
theorem c_X11_paid (l : Launch) (D : va_G) (k : Nat → ClassId) (b : Nat → Nat) (qx : Nat → Nat) (sx : Nat → Nat → Int32) (qro : Nat → Nat) (sro : Nat → Nat → Int32) (tro : Nat → Nat → Int64) (qpa : Nat → Nat) (spa : Nat → Nat → Int32) (qh : Nat → Nat) (sh : Nat → Nat → Int32) (sz : Nat) (h_wk : 0 ≤ (sh 0 0).toInt ∧ (sh 0 0).toInt ≤ 5) (h_hk : 0 ≤ (sh 0 1).toInt ∧ (sh 0 1).toInt ≤ 4) (h_fl : 0 ≤ (sh 0 12).toInt ∧ (sh 0 12).toInt ≤ 5) (h_of : ∀ j, 0 ≤ (sh 2 j).toInt ∧ (sh 2 j).toInt ≤ 4) (h_go : ∀ j, 0 ≤ (sh 3 j).toInt ∧ (sh 3 j).toInt ≤ 5) (r_l : 0 ≤ (sro 0 2).toInt ∧ (sro 0 2).toInt ≤ 5) (r_a : ∀ j, 0 ≤ (sro 1 j).toInt ∧ (sro 1 j).toInt ≤ 9999) (r_g : ∀ j, 0 ≤ (sro 2 j).toInt ∧ (sro 2 j).toInt ≤ 444) : MetI l D k b yX11_paid wsX11_paid ({ frames := 6, cells := 0, slots := 0, locals := 137 } : Room) [cell30_ qx sx, cell28_ k qx sx, cell29_ k qx sx, cell48_ qx qro sro qpa tro, cell0_ k qro sro, cell1_ k qro sro, cell36_ qpa spa, cell31_ qx sh qh, cell0_ k qh sh, cell1_ k qh sh, cell4_ k qh sh, cell3_ k qh sh, cell2_ k qh sh] sz [.ref (qx 0)] (fun (r : Int32) (u : Int32 × Int32 × Int32 × Int32 × Int32 × Int32 × Int32 × Int32 × Int32 × Int64 × Int64) => (r, (u.1), (u.2.1), (u.2.2.1), (u.2.2.2.1), (u.2.2.2.2.1), (u.2.2.2.2.2.1), (u.2.2.2.2.2.2.1), (u.2.2.2.2.2.2.2.1), (u.2.2.2.2.2.2.2.2.1), (u.2.2.2.2.2.2.2.2.2.1), (u.2.2.2.2.2.2.2.2.2.2)) = J_X11_paid sx sro tro spa sh) (fun u => [cell30_ qx sx, cell28_ k qx sx, cell29_ k qx sx, cell80_ qx qro sro qpa (u.2.2.2.2.2.2.1) (u.2.2.2.2.2.2.2.1) (u.2.2.2.2.2.2.2.2.1) (u.2.2.2.2.2.2.2.2.2.1) (u.2.2.2.2.2.2.2.2.2.2), cell0_ k qro sro, cell1_ k qro sro, cell68_ qpa (u.1) (u.2.1) (u.2.2.1) (u.2.2.2.1) (u.2.2.2.2.1) (u.2.2.2.2.2.1), cell31_ qx sh qh, cell0_ k qh sh, cell1_ k qh sh, cell4_ k qh sh, cell3_ k qh sh, cell2_ k qh sh]) := by
  refine g_enter (cc := cX11_paid) (maxL := 1) (ret := (some .int)) (by decide) rfl (Nat.le_of_ble_eq_true rfl) ?_
  intro p e s m below meth c A hsz hAe cx hr hP hD hS ls hl
  rw [hAe]
  refine g_q (fun Q hQ => ?_)
  have hx := cx.1.1
  have hb := cx.1.2.1
  have hl : lv_has ls 1 [(0, .ref (qx 0))] := hl
  obtain ⟨H, eH⟩ : ∃ H : Heap, H = s.heap := ⟨_, rfl⟩
  obtain ⟨locs, el⟩ : ∃ L : List Loc, L = [] := ⟨_, rfl⟩
  have hP : va_P D vwCl [cell30_ qx sx, cell28_ k qx sx, cell29_ k qx sx, cell48_ qx qro sro qpa tro, cell0_ k qro sro, cell1_ k qro sro, cell36_ qpa spa, cell31_ qx sh qh, cell0_ k qh sh, cell1_ k qh sh, cell4_ k qh sh, cell3_ k qh sh, cell2_ k qh sh] H := by rw [eH]; exact hP
  have hD : va_D A [cell30_ qx sx, cell28_ k qx sx, cell29_ k qx sx, cell48_ qx qro sro qpa tro, cell0_ k qro sro, cell1_ k qro sro, cell36_ qpa spa, cell31_ qx sh qh, cell0_ k qh sh, cell1_ k qh sh, cell4_ k qh sh, cell3_ k qh sh, cell2_ k qh sh] := hD
  have hS : va_S A s.heap H locs := by rw [eH, el]; exact hS
  suffices goal : W p l e ({ frames := 6, cells := 0, slots := 0, locals := 137 } : Room) s m ([.ref (qx 0)] : List Value).toArray below meth c H locs 0 0 Q (F0 m 0 ls []) by rw [eH, el] at goal; exact goal
  refine lv_aload_n hx hb dX11_paid_0 rfl (lv_at hl 0 rfl) ?_
  refine g_get cx hP iw_X11_paid_X11 0 rfl rfl 14 (by decide) rfl fw_X11_paid_86 rfl dX11_paid_1 ?_
  refine lv_aload_n hx hb dX11_paid_4 rfl (lv_at hl 0 rfl) ?_
  refine g_get cx hP iw_X11_paid_X11 0 rfl rfl 4 (by decide) rfl fw_X11_paid_39 rfl dX11_paid_5 ?_
  refine g_v (w1 := fun (u : Int32 × Int32 × Int32 × Int32 × Int32 × Int32 × Int32 × Int32 × Int32 × Int64 × Int64) => [cell80_ qx qro sro qpa (u.2.2.2.2.2.2.1) (u.2.2.2.2.2.2.2.1) (u.2.2.2.2.2.2.2.2.1) (u.2.2.2.2.2.2.2.2.2.1) (u.2.2.2.2.2.2.2.2.2.2), cell0_ k qro sro, cell1_ k qro sro, cell68_ qpa (u.1) (u.2.1) (u.2.2.1) (u.2.2.2.1) (u.2.2.2.2.1) (u.2.2.2.2.2.1), cell31_ qx sh qh, cell0_ k qh sh, cell1_ k qh sh, cell4_ k qh sh, cell3_ k qh sh, cell2_ k qh sh]) (g_runV (wc := [cell48_ qx qro sro qpa tro, cell0_ k qro sro, cell1_ k qro sro, cell36_ qpa spa, cell31_ qx sh qh, cell0_ k qh sh, cell1_ k qh sh, cell4_ k qh sh, cell3_ k qh sh, cell2_ k qh sh]) (rest := []) cx hP hD hS [3, 4, 5, 6, 7, 8, 9, 10, 11, 12] rfl (by decide) [.ref (qx 7)] (c_X7_judgeBy l D k b (lq [qx 15, qro 1, qro 2]) (lS [(lI [0, 0, (sro 0 2), 0, (sro 0 4), (sro 0 5), (sro 0 6)]), (sro 1), (sro 2)]) (lT [(lJ [0, 0, 0, 0, 0, 0, 0, (tro 0 7), (tro 0 8)]), (fun _ => 0), (fun _ => 0)]) qpa spa (lq [qx 7, qh 1, qh 2, qh 3, qh 4, qh 5]) (lS [(lI [(sh 0 0), (sh 0 1), 0, 0, 0, 0, (sh 0 6), (sh 0 7), (sh 0 8), (sh 0 9), (sh 0 10), (sh 0 11), (sh 0 12)]), (sh 1), (sh 2), (sh 3), (sh 4), (sh 5)]) H.size (show 0 ≤ (sh 0 0).toInt ∧ (sh 0 0).toInt ≤ 5 from by first | decide | omega) (show 0 ≤ (sh 0 1).toInt ∧ (sh 0 1).toInt ≤ 4 from by first | decide | omega) (show 0 ≤ (sh 0 12).toInt ∧ (sh 0 12).toInt ≤ 5 from by first | decide | omega) h_of h_go (show 0 ≤ (sro 0 2).toInt ∧ (sro 0 2).toInt ≤ 5 from by first | decide | omega) r_a r_g) gX11_paid_X7_judgeBy rfl rfl rfl nd_X7_judgeBy ⟨Nat.le_of_ble_eq_true rfl, Nat.le_of_ble_eq_true rfl⟩ (ci := 5) (q0 := 0) rfl rfl rfl hl.1 rfl (Nat.le_of_ble_eq_true rfl) ⟨Nat.zero_le _, Nat.zero_le _⟩ dX11_paid_8) cx.2.2.1 hP hD hS [3, 4, 5, 6, 7, 8, 9, 10, 11, 12] rfl (fun _ => rfl) (fun u2 H locs hw1 hP hD hS => ?_)
  obtain ⟨m3, m4, m5, m6, m7, m8, m9, m10, m11, m12, m13⟩ := u2
  have hP : va_P D vwCl [cell30_ qx sx, cell28_ k qx sx, cell29_ k qx sx, cell80_ qx qro sro qpa m9 m10 m11 m12 m13, cell0_ k qro sro, cell1_ k qro sro, cell68_ qpa m3 m4 m5 m6 m7 m8, cell31_ qx sh qh, cell0_ k qh sh, cell1_ k qh sh, cell4_ k qh sh, cell3_ k qh sh, cell2_ k qh sh] H := hP
  have hD : va_D A [cell30_ qx sx, cell28_ k qx sx, cell29_ k qx sx, cell80_ qx qro sro qpa m9 m10 m11 m12 m13, cell0_ k qro sro, cell1_ k qro sro, cell68_ qpa m3 m4 m5 m6 m7 m8, cell31_ qx sh qh, cell0_ k qh sh, cell1_ k qh sh, cell4_ k qh sh, cell3_ k qh sh, cell2_ k qh sh] := hD
  replace hw1 : (0 ≤ m4.toInt ∧ m4.toInt ≤ 400 ∧ tot m4 ≤ 4) ∧ (0 ≤ m3.toInt ∧ m3.toInt ≤ 5) ∧ (0 ≤ m7.toInt ∧ m7.toInt ≤ 1) ∧ (m7.toInt = 0 ∨ m3.toInt ≤ 4) ∧ ((m3, m4, m5, m6, m7, m8, m9, m10, m11, m12, m13) = J_X7_judgeBy (lS [(lI [0, 0, (sro 0 2), 0, (sro 0 4), (sro 0 5), (sro 0 6)]), (sro 1), (sro 2)]) (lT [(lJ [0, 0, 0, 0, 0, 0, 0, (tro 0 7), (tro 0 8)]), (fun _ => 0), (fun _ => 0)]) spa (lS [(lI [(sh 0 0), (sh 0 1), 0, 0, 0, 0, (sh 0 6), (sh 0 7), (sh 0 8), (sh 0 9), (sh 0 10), (sh 0 11), (sh 0 12)]), (sh 1), (sh 2), (sh 3), (sh 4), (sh 5)])) := hw1
  obtain ⟨w14, w15, w16, w17, w18⟩ := hw1
  refine lv_aload_n hx hb dX11_paid_11 rfl (lv_at hl 0 rfl) ?_
  refine g_get cx hP iw_X11_paid_X11 0 rfl rfl 14 (by decide) rfl fw_X11_paid_86 rfl dX11_paid_12 ?_
  refine g_get cx hP iw_X11_paid_X7 3 rfl rfl 4 (by decide) rfl fw_X11_paid_324 rfl dX11_paid_15 ?_
  refine lv_bipush (v := (-9)) hx hb dX11_paid_18 (by decide) ?_
  refine lv_icmp_eq (tgt := 28) hx hb dX11_paid_20 (by decide) (fun c20 => ?_) (fun c20 => ?_)
  · have f20 : m9.toInt = (-9) := f_eq rfl (by decide) c20
    refine lv_aload_n hx hb dX11_paid_28 rfl (lv_at hl 0 rfl) ?_
    refine g_get cx hP iw_X11_paid_X11 0 rfl rfl 14 (by decide) rfl fw_X11_paid_86 rfl dX11_paid_29 ?_
    refine g_get cx hP iw_X11_paid_X7 3 rfl rfl 3 (by decide) rfl fw_X11_paid_327 rfl dX11_paid_32 ?_
    refine g_get cx hP iw_X11_paid_X9 6 rfl rfl 5 (by decide) rfl fw_X11_paid_306 rfl dX11_paid_35 ?_
    rw [hQ]
    exact x_i cx hr (m3, m4, m5, m6, m7, m8, m9, m10, m11, m12, m13) hP hD hS (show (m8, m3, m4, m5, m6, m7, m8, m9, m10, m11, m12, m13) = J_X11_paid sx sro tro spa sh from (exl_X11_paid_0 w18 c20)) dX11_paid_38
  · have f20 : ¬ m9.toInt = (-9) := f_ne rfl (by decide) c20
    refine lv_bipush (v := (-3)) hx hb dX11_paid_23 (by decide) ?_
    refine lv_goto (tgt := 38) hx hb dX11_paid_25 (by decide) ?_
    have hlit21 : ((-3) : Int32).toInt = -3 := by decide
    rw [hQ]
    exact x_i cx hr (m3, m4, m5, m6, m7, m8, m9, m10, m11, m12, m13) hP hD hS (show (((-3) : Int32), m3, m4, m5, m6, m7, m8, m9, m10, m11, m12, m13) = J_X11_paid sx sro tro spa sh from (exl_X11_paid_1 w18 c20)) dX11_paid_38
theorem fw_X11_worst_324 : Cond.fieldLink RX11 324 "StillInAugust$Row" "wrongWeek" "I" ∈ wsX11_worst := by decide +kernel
theorem fw_X11_worst_336 : Cond.fieldLink RX11 336 "StillInAugust$Row" "worstWeek" "I" ∈ wsX11_worst := by decide +kernel
theorem fw_X11_worst_39 : Cond.fieldLink RX11 39 "StillInAugust" "house" "LStillInAugust$House;" ∈ wsX11_worst := by decide +kernel
theorem fw_X11_worst_86 : Cond.fieldLink RX11 86 "StillInAugust" "row" "LStillInAugust$Row;" ∈ wsX11_worst := by decide +kernel
theorem iw_X11_worst_X11 : ∀ w ∈ u_ws RX11 TX11 17, w ∈ wsX11_worst := fun _ h => List.mem_cons_of_mem _ (List.mem_append_left _ (List.mem_append_left _ (List.mem_append_left _ (List.mem_append_right _ h))))
theorem iw_X11_worst_X7 : ∀ w ∈ u_ws RX7 TX7 9, w ∈ wsX11_worst := fun _ h => List.mem_cons_of_mem _ (List.mem_append_left _ (List.mem_append_left _ (List.mem_append_right _ h)))
def J_X11_worst (sx : Nat → Nat → Int32) (sro : Nat → Nat → Int32) (tro : Nat → Nat → Int64) (spa : Nat → Nat → Int32) (sh : Nat → Nat → Int32) : Int32 × Int32 × Int32 × Int32 × Int32 × Int32 × Int32 × Int32 × Int32 × Int32 × Int64 × Int64 := LetF (J_X7_judgeBy (lS [(lI [0, 0, (sro 0 2), 0, (sro 0 4), (sro 0 5), (sro 0 6)]), (sro 1), (sro 2)]) (lT [(lJ [0, 0, 0, 0, 0, 0, 0, (tro 0 7), (tro 0 8)]), (fun _ => 0), (fun _ => 0)]) spa (lS [(lI [(sh 0 0), (sh 0 1), 0, 0, 0, 0, (sh 0 6), (sh 0 7), (sh 0 8), (sh 0 9), (sh 0 10), (sh 0 11), (sh 0 12)]), (sh 1), (sh 2), (sh 3), (sh 4), (sh 5)])) (fun y19 => if (y19.2.2.2.2.2.2.1) = (-9) then ((y19.2.2.2.2.2.2.2.1), (y19.1), (y19.2.1), (y19.2.2.1), (y19.2.2.2.1), (y19.2.2.2.2.1), (y19.2.2.2.2.2.1), (y19.2.2.2.2.2.2.1), (y19.2.2.2.2.2.2.2.1), (y19.2.2.2.2.2.2.2.2.1), (y19.2.2.2.2.2.2.2.2.2.1), (y19.2.2.2.2.2.2.2.2.2.2)) else (((-3) : Int32), (y19.1), (y19.2.1), (y19.2.2.1), (y19.2.2.2.1), (y19.2.2.2.2.1), (y19.2.2.2.2.2.1), (y19.2.2.2.2.2.2.1), (y19.2.2.2.2.2.2.2.1), (y19.2.2.2.2.2.2.2.2.1), (y19.2.2.2.2.2.2.2.2.2.1), (y19.2.2.2.2.2.2.2.2.2.2)))
theorem exl_X11_worst_0 {sx : Nat → Nat → Int32} {sro : Nat → Nat → Int32} {tro : Nat → Nat → Int64} {spa : Nat → Nat → Int32} {sh : Nat → Nat → Int32} {m10 : Int32} {m3 : Int32} {m4 : Int32} {m5 : Int32} {m6 : Int32} {m7 : Int32} {m8 : Int32} {m9 : Int32} {m11 : Int32} {m12 : Int64} {m13 : Int64} (w18 : (m3, m4, m5, m6, m7, m8, m9, m10, m11, m12, m13) = J_X7_judgeBy (lS [(lI [0, 0, (sro 0 2), 0, (sro 0 4), (sro 0 5), (sro 0 6)]), (sro 1), (sro 2)]) (lT [(lJ [0, 0, 0, 0, 0, 0, 0, (tro 0 7), (tro 0 8)]), (fun _ => 0), (fun _ => 0)]) spa (lS [(lI [(sh 0 0), (sh 0 1), 0, 0, 0, 0, (sh 0 6), (sh 0 7), (sh 0 8), (sh 0 9), (sh 0 10), (sh 0 11), (sh 0 12)]), (sh 1), (sh 2), (sh 3), (sh 4), (sh 5)])) (c20 : m9 = ((-9) : Int32)) : (m10, m3, m4, m5, m6, m7, m8, m9, m10, m11, m12, m13) = J_X11_worst sx sro tro spa sh := by refine Eq.symm ?_; unfold J_X11_worst; refine lt_e w18 ?_; refine Eq.trans (if_pos c20) ?_; rfl
theorem exl_X11_worst_1 {sx : Nat → Nat → Int32} {sro : Nat → Nat → Int32} {tro : Nat → Nat → Int64} {spa : Nat → Nat → Int32} {sh : Nat → Nat → Int32} {m3 : Int32} {m4 : Int32} {m5 : Int32} {m6 : Int32} {m7 : Int32} {m8 : Int32} {m9 : Int32} {m10 : Int32} {m11 : Int32} {m12 : Int64} {m13 : Int64} (w18 : (m3, m4, m5, m6, m7, m8, m9, m10, m11, m12, m13) = J_X7_judgeBy (lS [(lI [0, 0, (sro 0 2), 0, (sro 0 4), (sro 0 5), (sro 0 6)]), (sro 1), (sro 2)]) (lT [(lJ [0, 0, 0, 0, 0, 0, 0, (tro 0 7), (tro 0 8)]), (fun _ => 0), (fun _ => 0)]) spa (lS [(lI [(sh 0 0), (sh 0 1), 0, 0, 0, 0, (sh 0 6), (sh 0 7), (sh 0 8), (sh 0 9), (sh 0 10), (sh 0 11), (sh 0 12)]), (sh 1), (sh 2), (sh 3), (sh 4), (sh 5)])) (c20 : ¬ (m9 = ((-9) : Int32))) : (((-3) : Int32), m3, m4, m5, m6, m7, m8, m9, m10, m11, m12, m13) = J_X11_worst sx sro tro spa sh := by refine Eq.symm ?_; unfold J_X11_worst; refine lt_e w18 ?_; refine Eq.trans (if_neg c20) ?_; rfl
set_option maxHeartbeats 4000000 in
set_option maxRecDepth 100000 in
theorem c_X11_worst (l : Launch) (D : va_G) (k : Nat → ClassId) (b : Nat → Nat) (qx : Nat → Nat) (sx : Nat → Nat → Int32) (qro : Nat → Nat) (sro : Nat → Nat → Int32) (tro : Nat → Nat → Int64) (qpa : Nat → Nat) (spa : Nat → Nat → Int32) (qh : Nat → Nat) (sh : Nat → Nat → Int32) (sz : Nat) (h_wk : 0 ≤ (sh 0 0).toInt ∧ (sh 0 0).toInt ≤ 5) (h_hk : 0 ≤ (sh 0 1).toInt ∧ (sh 0 1).toInt ≤ 4) (h_fl : 0 ≤ (sh 0 12).toInt ∧ (sh 0 12).toInt ≤ 5) (h_of : ∀ j, 0 ≤ (sh 2 j).toInt ∧ (sh 2 j).toInt ≤ 4) (h_go : ∀ j, 0 ≤ (sh 3 j).toInt ∧ (sh 3 j).toInt ≤ 5) (r_l : 0 ≤ (sro 0 2).toInt ∧ (sro 0 2).toInt ≤ 5) (r_a : ∀ j, 0 ≤ (sro 1 j).toInt ∧ (sro 1 j).toInt ≤ 9999) (r_g : ∀ j, 0 ≤ (sro 2 j).toInt ∧ (sro 2 j).toInt ≤ 444) : MetI l D k b yX11_worst wsX11_worst ({ frames := 6, cells := 0, slots := 0, locals := 137 } : Room) [cell30_ qx sx, cell28_ k qx sx, cell29_ k qx sx, cell48_ qx qro sro qpa tro, cell0_ k qro sro, cell1_ k qro sro, cell36_ qpa spa, cell31_ qx sh qh, cell0_ k qh sh, cell1_ k qh sh, cell4_ k qh sh, cell3_ k qh sh, cell2_ k qh sh] sz [.ref (qx 0)] (fun (r : Int32) (u : Int32 × Int32 × Int32 × Int32 × Int32 × Int32 × Int32 × Int32 × Int32 × Int64 × Int64) => (r, (u.1), (u.2.1), (u.2.2.1), (u.2.2.2.1), (u.2.2.2.2.1), (u.2.2.2.2.2.1), (u.2.2.2.2.2.2.1), (u.2.2.2.2.2.2.2.1), (u.2.2.2.2.2.2.2.2.1), (u.2.2.2.2.2.2.2.2.2.1), (u.2.2.2.2.2.2.2.2.2.2)) = J_X11_worst sx sro tro spa sh) (fun u => [cell30_ qx sx, cell28_ k qx sx, cell29_ k qx sx, cell80_ qx qro sro qpa (u.2.2.2.2.2.2.1) (u.2.2.2.2.2.2.2.1) (u.2.2.2.2.2.2.2.2.1) (u.2.2.2.2.2.2.2.2.2.1) (u.2.2.2.2.2.2.2.2.2.2), cell0_ k qro sro, cell1_ k qro sro, cell68_ qpa (u.1) (u.2.1) (u.2.2.1) (u.2.2.2.1) (u.2.2.2.2.1) (u.2.2.2.2.2.1), cell31_ qx sh qh, cell0_ k qh sh, cell1_ k qh sh, cell4_ k qh sh, cell3_ k qh sh, cell2_ k qh sh]) := by
  refine g_enter (cc := cX11_worst) (maxL := 1) (ret := (some .int)) (by decide) rfl (Nat.le_of_ble_eq_true rfl) ?_
  intro p e s m below meth c A hsz hAe cx hr hP hD hS ls hl
  rw [hAe]
  refine g_q (fun Q hQ => ?_)
  have hx := cx.1.1
  have hb := cx.1.2.1
  have hl : lv_has ls 1 [(0, .ref (qx 0))] := hl
  obtain ⟨H, eH⟩ : ∃ H : Heap, H = s.heap := ⟨_, rfl⟩
  obtain ⟨locs, el⟩ : ∃ L : List Loc, L = [] := ⟨_, rfl⟩
  have hP : va_P D vwCl [cell30_ qx sx, cell28_ k qx sx, cell29_ k qx sx, cell48_ qx qro sro qpa tro, cell0_ k qro sro, cell1_ k qro sro, cell36_ qpa spa, cell31_ qx sh qh, cell0_ k qh sh, cell1_ k qh sh, cell4_ k qh sh, cell3_ k qh sh, cell2_ k qh sh] H := by rw [eH]; exact hP
  have hD : va_D A [cell30_ qx sx, cell28_ k qx sx, cell29_ k qx sx, cell48_ qx qro sro qpa tro, cell0_ k qro sro, cell1_ k qro sro, cell36_ qpa spa, cell31_ qx sh qh, cell0_ k qh sh, cell1_ k qh sh, cell4_ k qh sh, cell3_ k qh sh, cell2_ k qh sh] := hD
  have hS : va_S A s.heap H locs := by rw [eH, el]; exact hS
  suffices goal : W p l e ({ frames := 6, cells := 0, slots := 0, locals := 137 } : Room) s m ([.ref (qx 0)] : List Value).toArray below meth c H locs 0 0 Q (F0 m 0 ls []) by rw [eH, el] at goal; exact goal
  refine lv_aload_n hx hb dX11_worst_0 rfl (lv_at hl 0 rfl) ?_
  refine g_get cx hP iw_X11_worst_X11 0 rfl rfl 14 (by decide) rfl fw_X11_worst_86 rfl dX11_worst_1 ?_
  refine lv_aload_n hx hb dX11_worst_4 rfl (lv_at hl 0 rfl) ?_
  refine g_get cx hP iw_X11_worst_X11 0 rfl rfl 4 (by decide) rfl fw_X11_worst_39 rfl dX11_worst_5 ?_
  refine g_v (w1 := fun (u : Int32 × Int32 × Int32 × Int32 × Int32 × Int32 × Int32 × Int32 × Int32 × Int64 × Int64) => [cell80_ qx qro sro qpa (u.2.2.2.2.2.2.1) (u.2.2.2.2.2.2.2.1) (u.2.2.2.2.2.2.2.2.1) (u.2.2.2.2.2.2.2.2.2.1) (u.2.2.2.2.2.2.2.2.2.2), cell0_ k qro sro, cell1_ k qro sro, cell68_ qpa (u.1) (u.2.1) (u.2.2.1) (u.2.2.2.1) (u.2.2.2.2.1) (u.2.2.2.2.2.1), cell31_ qx sh qh, cell0_ k qh sh, cell1_ k qh sh, cell4_ k qh sh, cell3_ k qh sh, cell2_ k qh sh]) (g_runV (wc := [cell48_ qx qro sro qpa tro, cell0_ k qro sro, cell1_ k qro sro, cell36_ qpa spa, cell31_ qx sh qh, cell0_ k qh sh, cell1_ k qh sh, cell4_ k qh sh, cell3_ k qh sh, cell2_ k qh sh]) (rest := []) cx hP hD hS [3, 4, 5, 6, 7, 8, 9, 10, 11, 12] rfl (by decide) [.ref (qx 7)] (c_X7_judgeBy l D k b (lq [qx 15, qro 1, qro 2]) (lS [(lI [0, 0, (sro 0 2), 0, (sro 0 4), (sro 0 5), (sro 0 6)]), (sro 1), (sro 2)]) (lT [(lJ [0, 0, 0, 0, 0, 0, 0, (tro 0 7), (tro 0 8)]), (fun _ => 0), (fun _ => 0)]) qpa spa (lq [qx 7, qh 1, qh 2, qh 3, qh 4, qh 5]) (lS [(lI [(sh 0 0), (sh 0 1), 0, 0, 0, 0, (sh 0 6), (sh 0 7), (sh 0 8), (sh 0 9), (sh 0 10), (sh 0 11), (sh 0 12)]), (sh 1), (sh 2), (sh 3), (sh 4), (sh 5)]) H.size (show 0 ≤ (sh 0 0).toInt ∧ (sh 0 0).toInt ≤ 5 from by first | decide | omega) (show 0 ≤ (sh 0 1).toInt ∧ (sh 0 1).toInt ≤ 4 from by first | decide | omega) (show 0 ≤ (sh 0 12).toInt ∧ (sh 0 12).toInt ≤ 5 from by first | decide | omega) h_of h_go (show 0 ≤ (sro 0 2).toInt ∧ (sro 0 2).toInt ≤ 5 from by first | decide | omega) r_a r_g) gX11_worst_X7_judgeBy rfl rfl rfl nd_X7_judgeBy ⟨Nat.le_of_ble_eq_true rfl, Nat.le_of_ble_eq_true rfl⟩ (ci := 5) (q0 := 0) rfl rfl rfl hl.1 rfl (Nat.le_of_ble_eq_true rfl) ⟨Nat.zero_le _, Nat.zero_le _⟩ dX11_worst_8) cx.2.2.1 hP hD hS [3, 4, 5, 6, 7, 8, 9, 10, 11, 12] rfl (fun _ => rfl) (fun u2 H locs hw1 hP hD hS => ?_)
  obtain ⟨m3, m4, m5, m6, m7, m8, m9, m10, m11, m12, m13⟩ := u2
  have hP : va_P D vwCl [cell30_ qx sx, cell28_ k qx sx, cell29_ k qx sx, cell80_ qx qro sro qpa m9 m10 m11 m12 m13, cell0_ k qro sro, cell1_ k qro sro, cell68_ qpa m3 m4 m5 m6 m7 m8, cell31_ qx sh qh, cell0_ k qh sh, cell1_ k qh sh, cell4_ k qh sh, cell3_ k qh sh, cell2_ k qh sh] H := hP
  have hD : va_D A [cell30_ qx sx, cell28_ k qx sx, cell29_ k qx sx, cell80_ qx qro sro qpa m9 m10 m11 m12 m13, cell0_ k qro sro, cell1_ k qro sro, cell68_ qpa m3 m4 m5 m6 m7 m8, cell31_ qx sh qh, cell0_ k qh sh, cell1_ k qh sh, cell4_ k qh sh, cell3_ k qh sh, cell2_ k qh sh] := hD
  replace hw1 : (0 ≤ m4.toInt ∧ m4.toInt ≤ 400 ∧ tot m4 ≤ 4) ∧ (0 ≤ m3.toInt ∧ m3.toInt ≤ 5) ∧ (0 ≤ m7.toInt ∧ m7.toInt ≤ 1) ∧ (m7.toInt = 0 ∨ m3.toInt ≤ 4) ∧ ((m3, m4, m5, m6, m7, m8, m9, m10, m11, m12, m13) = J_X7_judgeBy (lS [(lI [0, 0, (sro 0 2), 0, (sro 0 4), (sro 0 5), (sro 0 6)]), (sro 1), (sro 2)]) (lT [(lJ [0, 0, 0, 0, 0, 0, 0, (tro 0 7), (tro 0 8)]), (fun _ => 0), (fun _ => 0)]) spa (lS [(lI [(sh 0 0), (sh 0 1), 0, 0, 0, 0, (sh 0 6), (sh 0 7), (sh 0 8), (sh 0 9), (sh 0 10), (sh 0 11), (sh 0 12)]), (sh 1), (sh 2), (sh 3), (sh 4), (sh 5)])) := hw1
  obtain ⟨w14, w15, w16, w17, w18⟩ := hw1
  refine lv_aload_n hx hb dX11_worst_11 rfl (lv_at hl 0 rfl) ?_
  refine g_get cx hP iw_X11_worst_X11 0 rfl rfl 14 (by decide) rfl fw_X11_worst_86 rfl dX11_worst_12 ?_
  refine g_get cx hP iw_X11_worst_X7 3 rfl rfl 4 (by decide) rfl fw_X11_worst_324 rfl dX11_worst_15 ?_
  refine lv_bipush (v := (-9)) hx hb dX11_worst_18 (by decide) ?_
  refine lv_icmp_eq (tgt := 28) hx hb dX11_worst_20 (by decide) (fun c20 => ?_) (fun c20 => ?_)
  · have f20 : m9.toInt = (-9) := f_eq rfl (by decide) c20
    refine lv_aload_n hx hb dX11_worst_28 rfl (lv_at hl 0 rfl) ?_
    refine g_get cx hP iw_X11_worst_X11 0 rfl rfl 14 (by decide) rfl fw_X11_worst_86 rfl dX11_worst_29 ?_
    refine g_get cx hP iw_X11_worst_X7 3 rfl rfl 5 (by decide) rfl fw_X11_worst_336 rfl dX11_worst_32 ?_
    rw [hQ]
    exact x_i cx hr (m3, m4, m5, m6, m7, m8, m9, m10, m11, m12, m13) hP hD hS (show (m10, m3, m4, m5, m6, m7, m8, m9, m10, m11, m12, m13) = J_X11_worst sx sro tro spa sh from (exl_X11_worst_0 w18 c20)) dX11_worst_35
  · have f20 : ¬ m9.toInt = (-9) := f_ne rfl (by decide) c20
    refine lv_bipush (v := (-3)) hx hb dX11_worst_23 (by decide) ?_
    refine lv_goto (tgt := 35) hx hb dX11_worst_25 (by decide) ?_
    have hlit21 : ((-3) : Int32).toInt = -3 := by decide
    rw [hQ]
    exact x_i cx hr (m3, m4, m5, m6, m7, m8, m9, m10, m11, m12, m13) hP hD hS (show (((-3) : Int32), m3, m4, m5, m6, m7, m8, m9, m10, m11, m12, m13) = J_X11_worst sx sro tro spa sh from (exl_X11_worst_1 w18 c20)) dX11_worst_35
theorem fw_X11_luck_324 : Cond.fieldLink RX11 324 "StillInAugust$Row" "wrongWeek" "I" ∈ wsX11_luck := by decide +kernel
theorem fw_X11_luck_332 : Cond.fieldLink RX11 332 "StillInAugust$Row" "chance" "J" ∈ wsX11_luck := by decide +kernel
theorem fw_X11_luck_335 : Cond.fieldLink RX11 335 "StillInAugust$Row" "scale" "J" ∈ wsX11_luck := by decide +kernel
theorem fw_X11_luck_39 : Cond.fieldLink RX11 39 "StillInAugust" "house" "LStillInAugust$House;" ∈ wsX11_luck := by decide +kernel
theorem fw_X11_luck_86 : Cond.fieldLink RX11 86 "StillInAugust" "row" "LStillInAugust$Row;" ∈ wsX11_luck := by decide +kernel
theorem kJ_X11_luck_330 : Cond.constantLong RX11 330 (-3) ∈ wsX11_luck := by decide +kernel
theorem iw_X11_luck_X11 : ∀ w ∈ u_ws RX11 TX11 17, w ∈ wsX11_luck := fun _ h => List.mem_cons_of_mem _ (List.mem_append_left _ (List.mem_append_left _ (List.mem_append_left _ (List.mem_append_right _ h))))
theorem iw_X11_luck_X7 : ∀ w ∈ u_ws RX7 TX7 9, w ∈ wsX11_luck := fun _ h => List.mem_cons_of_mem _ (List.mem_append_left _ (List.mem_append_left _ (List.mem_append_right _ h)))
def J_X11_luck (sx : Nat → Nat → Int32) (sro : Nat → Nat → Int32) (tro : Nat → Nat → Int64) (spa : Nat → Nat → Int32) (sh : Nat → Nat → Int32) (p0 : Int32) : Int64 × Int32 × Int32 × Int32 × Int32 × Int32 × Int32 × Int32 × Int32 × Int32 × Int64 × Int64 := LetF (J_X7_judgeBy (lS [(lI [0, 0, (sro 0 2), 0, (sro 0 4), (sro 0 5), (sro 0 6)]), (sro 1), (sro 2)]) (lT [(lJ [0, 0, 0, 0, 0, 0, 0, (tro 0 7), (tro 0 8)]), (fun _ => 0), (fun _ => 0)]) spa (lS [(lI [(sh 0 0), (sh 0 1), 0, 0, 0, 0, (sh 0 6), (sh 0 7), (sh 0 8), (sh 0 9), (sh 0 10), (sh 0 11), (sh 0 12)]), (sh 1), (sh 2), (sh 3), (sh 4), (sh 5)])) (fun y19 => if (y19.2.2.2.2.2.2.1) = (-9) then LetF (J_X11_told (y19.2.2.2.2.2.2.2.2.2.1) (y19.2.2.2.2.2.2.2.2.2.2) p0) (fun y24 => (y24, (y19.1), (y19.2.1), (y19.2.2.1), (y19.2.2.2.1), (y19.2.2.2.2.1), (y19.2.2.2.2.2.1), (y19.2.2.2.2.2.2.1), (y19.2.2.2.2.2.2.2.1), (y19.2.2.2.2.2.2.2.2.1), (y19.2.2.2.2.2.2.2.2.2.1), (y19.2.2.2.2.2.2.2.2.2.2))) else (((-3) : Int64), (y19.1), (y19.2.1), (y19.2.2.1), (y19.2.2.2.1), (y19.2.2.2.2.1), (y19.2.2.2.2.2.1), (y19.2.2.2.2.2.2.1), (y19.2.2.2.2.2.2.2.1), (y19.2.2.2.2.2.2.2.2.1), (y19.2.2.2.2.2.2.2.2.2.1), (y19.2.2.2.2.2.2.2.2.2.2)))
theorem exl_X11_luck_0 {sx : Nat → Nat → Int32} {sro : Nat → Nat → Int32} {tro : Nat → Nat → Int64} {spa : Nat → Nat → Int32} {sh : Nat → Nat → Int32} {p0 : Int32} {r22 : Int64} {m3 : Int32} {m4 : Int32} {m5 : Int32} {m6 : Int32} {m7 : Int32} {m8 : Int32} {m9 : Int32} {m10 : Int32} {m11 : Int32} {m12 : Int64} {m13 : Int64} (w18 : (m3, m4, m5, m6, m7, m8, m9, m10, m11, m12, m13) = J_X7_judgeBy (lS [(lI [0, 0, (sro 0 2), 0, (sro 0 4), (sro 0 5), (sro 0 6)]), (sro 1), (sro 2)]) (lT [(lJ [0, 0, 0, 0, 0, 0, 0, (tro 0 7), (tro 0 8)]), (fun _ => 0), (fun _ => 0)]) spa (lS [(lI [(sh 0 0), (sh 0 1), 0, 0, 0, 0, (sh 0 6), (sh 0 7), (sh 0 8), (sh 0 9), (sh 0 10), (sh 0 11), (sh 0 12)]), (sh 1), (sh 2), (sh 3), (sh 4), (sh 5)])) (c20 : m9 = ((-9) : Int32)) (w23 : r22 = J_X11_told m12 m13 p0) : (r22, m3, m4, m5, m6, m7, m8, m9, m10, m11, m12, m13) = J_X11_luck sx sro tro spa sh p0 := by refine Eq.symm ?_; unfold J_X11_luck; refine lt_e w18 ?_; refine Eq.trans (if_pos c20) ?_; refine lt_e w23 ?_; rfl
theorem exl_X11_luck_1 {sx : Nat → Nat → Int32} {sro : Nat → Nat → Int32} {tro : Nat → Nat → Int64} {spa : Nat → Nat → Int32} {sh : Nat → Nat → Int32} {p0 : Int32} {m3 : Int32} {m4 : Int32} {m5 : Int32} {m6 : Int32} {m7 : Int32} {m8 : Int32} {m9 : Int32} {m10 : Int32} {m11 : Int32} {m12 : Int64} {m13 : Int64} (w18 : (m3, m4, m5, m6, m7, m8, m9, m10, m11, m12, m13) = J_X7_judgeBy (lS [(lI [0, 0, (sro 0 2), 0, (sro 0 4), (sro 0 5), (sro 0 6)]), (sro 1), (sro 2)]) (lT [(lJ [0, 0, 0, 0, 0, 0, 0, (tro 0 7), (tro 0 8)]), (fun _ => 0), (fun _ => 0)]) spa (lS [(lI [(sh 0 0), (sh 0 1), 0, 0, 0, 0, (sh 0 6), (sh 0 7), (sh 0 8), (sh 0 9), (sh 0 10), (sh 0 11), (sh 0 12)]), (sh 1), (sh 2), (sh 3), (sh 4), (sh 5)])) (c20 : ¬ (m9 = ((-9) : Int32))) : (((-3) : Int64), m3, m4, m5, m6, m7, m8, m9, m10, m11, m12, m13) = J_X11_luck sx sro tro spa sh p0 := by refine Eq.symm ?_; unfold J_X11_luck; refine lt_e w18 ?_; refine Eq.trans (if_neg c20) ?_; rfl
set_option maxHeartbeats 4000000 in
set_option maxRecDepth 100000 in
theorem c_X11_luck (l : Launch) (D : va_G) (k : Nat → ClassId) (b : Nat → Nat) (qx : Nat → Nat) (sx : Nat → Nat → Int32) (qro : Nat → Nat) (sro : Nat → Nat → Int32) (tro : Nat → Nat → Int64) (qpa : Nat → Nat) (spa : Nat → Nat → Int32) (qh : Nat → Nat) (sh : Nat → Nat → Int32) (sz : Nat) (p0 : Int32) (h_wk : 0 ≤ (sh 0 0).toInt ∧ (sh 0 0).toInt ≤ 5) (h_hk : 0 ≤ (sh 0 1).toInt ∧ (sh 0 1).toInt ≤ 4) (h_fl : 0 ≤ (sh 0 12).toInt ∧ (sh 0 12).toInt ≤ 5) (h_of : ∀ j, 0 ≤ (sh 2 j).toInt ∧ (sh 2 j).toInt ≤ 4) (h_go : ∀ j, 0 ≤ (sh 3 j).toInt ∧ (sh 3 j).toInt ≤ 5) (r_l : 0 ≤ (sro 0 2).toInt ∧ (sro 0 2).toInt ≤ 5) (r_a : ∀ j, 0 ≤ (sro 1 j).toInt ∧ (sro 1 j).toInt ≤ 9999) (r_g : ∀ j, 0 ≤ (sro 2 j).toInt ∧ (sro 2 j).toInt ≤ 444) : MetL l D k b yX11_luck wsX11_luck ({ frames := 6, cells := 0, slots := 0, locals := 137 } : Room) [cell30_ qx sx, cell28_ k qx sx, cell29_ k qx sx, cell48_ qx qro sro qpa tro, cell0_ k qro sro, cell1_ k qro sro, cell36_ qpa spa, cell31_ qx sh qh, cell0_ k qh sh, cell1_ k qh sh, cell4_ k qh sh, cell3_ k qh sh, cell2_ k qh sh] sz [.ref (qx 0), .int p0] (fun (r : Int64) (u : Int32 × Int32 × Int32 × Int32 × Int32 × Int32 × Int32 × Int32 × Int32 × Int64 × Int64) => (r, (u.1), (u.2.1), (u.2.2.1), (u.2.2.2.1), (u.2.2.2.2.1), (u.2.2.2.2.2.1), (u.2.2.2.2.2.2.1), (u.2.2.2.2.2.2.2.1), (u.2.2.2.2.2.2.2.2.1), (u.2.2.2.2.2.2.2.2.2.1), (u.2.2.2.2.2.2.2.2.2.2)) = J_X11_luck sx sro tro spa sh p0) (fun u => [cell30_ qx sx, cell28_ k qx sx, cell29_ k qx sx, cell80_ qx qro sro qpa (u.2.2.2.2.2.2.1) (u.2.2.2.2.2.2.2.1) (u.2.2.2.2.2.2.2.2.1) (u.2.2.2.2.2.2.2.2.2.1) (u.2.2.2.2.2.2.2.2.2.2), cell0_ k qro sro, cell1_ k qro sro, cell68_ qpa (u.1) (u.2.1) (u.2.2.1) (u.2.2.2.1) (u.2.2.2.2.1) (u.2.2.2.2.2.1), cell31_ qx sh qh, cell0_ k qh sh, cell1_ k qh sh, cell4_ k qh sh, cell3_ k qh sh, cell2_ k qh sh]) := by
  refine g_enter (cc := cX11_luck) (maxL := 2) (ret := (some .long)) (by decide) rfl (Nat.le_of_ble_eq_true rfl) ?_
  intro p e s m below meth c A hsz hAe cx hr hP hD hS ls hl
  rw [hAe]
  refine g_q (fun Q hQ => ?_)
  have hx := cx.1.1
  have hb := cx.1.2.1
  have bp0 := i_rng p0
  have hl : lv_has ls 2 [(0, .ref (qx 0)), (1, .int p0)] := hl
  obtain ⟨H, eH⟩ : ∃ H : Heap, H = s.heap := ⟨_, rfl⟩
  obtain ⟨locs, el⟩ : ∃ L : List Loc, L = [] := ⟨_, rfl⟩
  have hP : va_P D vwCl [cell30_ qx sx, cell28_ k qx sx, cell29_ k qx sx, cell48_ qx qro sro qpa tro, cell0_ k qro sro, cell1_ k qro sro, cell36_ qpa spa, cell31_ qx sh qh, cell0_ k qh sh, cell1_ k qh sh, cell4_ k qh sh, cell3_ k qh sh, cell2_ k qh sh] H := by rw [eH]; exact hP
  have hD : va_D A [cell30_ qx sx, cell28_ k qx sx, cell29_ k qx sx, cell48_ qx qro sro qpa tro, cell0_ k qro sro, cell1_ k qro sro, cell36_ qpa spa, cell31_ qx sh qh, cell0_ k qh sh, cell1_ k qh sh, cell4_ k qh sh, cell3_ k qh sh, cell2_ k qh sh] := hD
  have hS : va_S A s.heap H locs := by rw [eH, el]; exact hS
  suffices goal : W p l e ({ frames := 6, cells := 0, slots := 0, locals := 137 } : Room) s m ([.ref (qx 0), .int p0] : List Value).toArray below meth c H locs 0 0 Q (F0 m 0 ls []) by rw [eH, el] at goal; exact goal
  refine lv_aload_n hx hb dX11_luck_0 rfl (lv_at hl 0 rfl) ?_
  refine g_get cx hP iw_X11_luck_X11 0 rfl rfl 14 (by decide) rfl fw_X11_luck_86 rfl dX11_luck_1 ?_
  refine lv_aload_n hx hb dX11_luck_4 rfl (lv_at hl 0 rfl) ?_
  refine g_get cx hP iw_X11_luck_X11 0 rfl rfl 4 (by decide) rfl fw_X11_luck_39 rfl dX11_luck_5 ?_
  refine g_v (w1 := fun (u : Int32 × Int32 × Int32 × Int32 × Int32 × Int32 × Int32 × Int32 × Int32 × Int64 × Int64) => [cell80_ qx qro sro qpa (u.2.2.2.2.2.2.1) (u.2.2.2.2.2.2.2.1) (u.2.2.2.2.2.2.2.2.1) (u.2.2.2.2.2.2.2.2.2.1) (u.2.2.2.2.2.2.2.2.2.2), cell0_ k qro sro, cell1_ k qro sro, cell68_ qpa (u.1) (u.2.1) (u.2.2.1) (u.2.2.2.1) (u.2.2.2.2.1) (u.2.2.2.2.2.1), cell31_ qx sh qh, cell0_ k qh sh, cell1_ k qh sh, cell4_ k qh sh, cell3_ k qh sh, cell2_ k qh sh]) (g_runV (wc := [cell48_ qx qro sro qpa tro, cell0_ k qro sro, cell1_ k qro sro, cell36_ qpa spa, cell31_ qx sh qh, cell0_ k qh sh, cell1_ k qh sh, cell4_ k qh sh, cell3_ k qh sh, cell2_ k qh sh]) (rest := []) cx hP hD hS [3, 4, 5, 6, 7, 8, 9, 10, 11, 12] rfl (by decide) [.ref (qx 7)] (c_X7_judgeBy l D k b (lq [qx 15, qro 1, qro 2]) (lS [(lI [0, 0, (sro 0 2), 0, (sro 0 4), (sro 0 5), (sro 0 6)]), (sro 1), (sro 2)]) (lT [(lJ [0, 0, 0, 0, 0, 0, 0, (tro 0 7), (tro 0 8)]), (fun _ => 0), (fun _ => 0)]) qpa spa (lq [qx 7, qh 1, qh 2, qh 3, qh 4, qh 5]) (lS [(lI [(sh 0 0), (sh 0 1), 0, 0, 0, 0, (sh 0 6), (sh 0 7), (sh 0 8), (sh 0 9), (sh 0 10), (sh 0 11), (sh 0 12)]), (sh 1), (sh 2), (sh 3), (sh 4), (sh 5)]) H.size (show 0 ≤ (sh 0 0).toInt ∧ (sh 0 0).toInt ≤ 5 from by first | decide | omega) (show 0 ≤ (sh 0 1).toInt ∧ (sh 0 1).toInt ≤ 4 from by first | decide | omega) (show 0 ≤ (sh 0 12).toInt ∧ (sh 0 12).toInt ≤ 5 from by first | decide | omega) h_of h_go (show 0 ≤ (sro 0 2).toInt ∧ (sro 0 2).toInt ≤ 5 from by first | decide | omega) r_a r_g) gX11_luck_X7_judgeBy rfl rfl rfl nd_X7_judgeBy ⟨Nat.le_of_ble_eq_true rfl, Nat.le_of_ble_eq_true rfl⟩ (ci := 5) (q0 := 0) rfl rfl rfl hl.1 rfl (Nat.le_of_ble_eq_true rfl) ⟨Nat.zero_le _, Nat.zero_le _⟩ dX11_luck_8) cx.2.2.1 hP hD hS [3, 4, 5, 6, 7, 8, 9, 10, 11, 12] rfl (fun _ => rfl) (fun u2 H locs hw1 hP hD hS => ?_)
  obtain ⟨m3, m4, m5, m6, m7, m8, m9, m10, m11, m12, m13⟩ := u2
  have hP : va_P D vwCl [cell30_ qx sx, cell28_ k qx sx, cell29_ k qx sx, cell80_ qx qro sro qpa m9 m10 m11 m12 m13, cell0_ k qro sro, cell1_ k qro sro, cell68_ qpa m3 m4 m5 m6 m7 m8, cell31_ qx sh qh, cell0_ k qh sh, cell1_ k qh sh, cell4_ k qh sh, cell3_ k qh sh, cell2_ k qh sh] H := hP
  have hD : va_D A [cell30_ qx sx, cell28_ k qx sx, cell29_ k qx sx, cell80_ qx qro sro qpa m9 m10 m11 m12 m13, cell0_ k qro sro, cell1_ k qro sro, cell68_ qpa m3 m4 m5 m6 m7 m8, cell31_ qx sh qh, cell0_ k qh sh, cell1_ k qh sh, cell4_ k qh sh, cell3_ k qh sh, cell2_ k qh sh] := hD
  replace hw1 : (0 ≤ m4.toInt ∧ m4.toInt ≤ 400 ∧ tot m4 ≤ 4) ∧ (0 ≤ m3.toInt ∧ m3.toInt ≤ 5) ∧ (0 ≤ m7.toInt ∧ m7.toInt ≤ 1) ∧ (m7.toInt = 0 ∨ m3.toInt ≤ 4) ∧ ((m3, m4, m5, m6, m7, m8, m9, m10, m11, m12, m13) = J_X7_judgeBy (lS [(lI [0, 0, (sro 0 2), 0, (sro 0 4), (sro 0 5), (sro 0 6)]), (sro 1), (sro 2)]) (lT [(lJ [0, 0, 0, 0, 0, 0, 0, (tro 0 7), (tro 0 8)]), (fun _ => 0), (fun _ => 0)]) spa (lS [(lI [(sh 0 0), (sh 0 1), 0, 0, 0, 0, (sh 0 6), (sh 0 7), (sh 0 8), (sh 0 9), (sh 0 10), (sh 0 11), (sh 0 12)]), (sh 1), (sh 2), (sh 3), (sh 4), (sh 5)])) := hw1
  obtain ⟨w14, w15, w16, w17, w18⟩ := hw1
  refine lv_aload_n hx hb dX11_luck_11 rfl (lv_at hl 0 rfl) ?_
  refine g_get cx hP iw_X11_luck_X11 0 rfl rfl 14 (by decide) rfl fw_X11_luck_86 rfl dX11_luck_12 ?_
  refine g_get cx hP iw_X11_luck_X7 3 rfl rfl 4 (by decide) rfl fw_X11_luck_324 rfl dX11_luck_15 ?_
  refine lv_bipush (v := (-9)) hx hb dX11_luck_18 (by decide) ?_
  refine lv_icmp_eq (tgt := 29) hx hb dX11_luck_20 (by decide) (fun c20 => ?_) (fun c20 => ?_)
  · have f20 : m9.toInt = (-9) := f_eq rfl (by decide) c20
    refine lv_aload_n hx hb dX11_luck_29 rfl (lv_at hl 0 rfl) ?_
    refine g_get cx hP iw_X11_luck_X11 0 rfl rfl 14 (by decide) rfl fw_X11_luck_86 rfl dX11_luck_30 ?_
    refine g_get cx hP iw_X11_luck_X7 3 rfl rfl 7 (by decide) rfl fw_X11_luck_332 rfl dX11_luck_33 ?_
    refine lv_aload_n hx hb dX11_luck_36 rfl (lv_at hl 0 rfl) ?_
    refine g_get cx hP iw_X11_luck_X11 0 rfl rfl 14 (by decide) rfl fw_X11_luck_86 rfl dX11_luck_37 ?_
    refine g_get cx hP iw_X11_luck_X7 3 rfl rfl 8 (by decide) rfl fw_X11_luck_335 rfl dX11_luck_40 ?_
    refine lv_iload_n hx hb dX11_luck_43 rfl (lv_at hl 1 rfl) ?_
    refine g_lr (g_runS (wc := []) (rest := []) cx hP hD hS [] rfl (by decide) [.long m12, .long m13, .int p0] (c_X11_told l D k b H.size m12 m13 p0) gX11_luck_X11_told rfl rfl rfl nd_X11_told ⟨Nat.le_of_ble_eq_true rfl, Nat.le_of_ble_eq_true rfl⟩ rfl hl.1 rfl (Nat.le_of_ble_eq_true rfl) ⟨Nat.zero_le _, Nat.zero_le _⟩ dX11_luck_44) cx.2.2.1 hP hD hS [] rfl rfl (fun r22 H locs hw21 hP hS => ?_)
    have w23 : r22 = J_X11_told m12 m13 p0 := hw21
    clear hw21
    rw [hQ]
    exact x_l cx hr (m3, m4, m5, m6, m7, m8, m9, m10, m11, m12, m13) hP hD hS (show (r22, m3, m4, m5, m6, m7, m8, m9, m10, m11, m12, m13) = J_X11_luck sx sro tro spa sh p0 from (exl_X11_luck_0 w18 c20 w23)) dX11_luck_47
  · have f20 : ¬ m9.toInt = (-9) := f_ne rfl (by decide) c20
    refine lv_ldc2 (v := (-3)) hx hb cx.1.2.2.2.1 (cx.1.2.2.2.2 _ kJ_X11_luck_330) dX11_luck_23 ?_
    refine lv_goto (tgt := 47) hx hb dX11_luck_26 (by decide) ?_
    rw [hQ]
    exact x_l cx hr (m3, m4, m5, m6, m7, m8, m9, m10, m11, m12, m13) hP hD hS (show (((-3) : Int64), m3, m4, m5, m6, m7, m8, m9, m10, m11, m12, m13) = J_X11_luck sx sro tro spa sh p0 from (exl_X11_luck_1 w18 c20)) dX11_luck_47
theorem fw_X11_count_10 : Cond.fieldLink RX11 10 "StillInAugust" "text" "LStillInAugust$Text;" ∈ wsX11_count := by decide +kernel
theorem fw_X11_count_105 : Cond.fieldLink RX11 105 "StillInAugust$Text" "length" "I" ∈ wsX11_count := by decide +kernel
theorem fw_X11_count_146 : Cond.fieldLink RX11 146 "StillInAugust$House" "wants" "[I" ∈ wsX11_count := by decide +kernel
theorem fw_X11_count_149 : Cond.fieldLink RX11 149 "StillInAugust$House" "offers" "[I" ∈ wsX11_count := by decide +kernel
theorem fw_X11_count_318 : Cond.fieldLink RX11 318 "StillInAugust$Row" "length" "I" ∈ wsX11_count := by decide +kernel
theorem fw_X11_count_39 : Cond.fieldLink RX11 39 "StillInAugust" "house" "LStillInAugust$House;" ∈ wsX11_count := by decide +kernel
theorem fw_X11_count_86 : Cond.fieldLink RX11 86 "StillInAugust" "row" "LStillInAugust$Row;" ∈ wsX11_count := by decide +kernel
theorem nd_X4_sumOf : yX4_sumOf.cls = RX4 ∧ yX4_sumOf.cls ≠ "java/lang/invoke/MethodHandle" ∧ yX4_sumOf.cls ≠ "java/lang/invoke/VarHandle" ∧ (parseMethodDescriptor yX4_sumOf.desc).map (fun d => d.parameters.length) = some 1 := by decide +kernel
theorem iw_X11_count_X10 : ∀ w ∈ u_ws RX10 TX10 2, w ∈ wsX11_count := fun _ h => List.mem_cons_of_mem _ (List.mem_append_left _ (List.mem_append_left _ (List.mem_append_right _ h)))
theorem iw_X11_count_X11 : ∀ w ∈ u_ws RX11 TX11 17, w ∈ wsX11_count := fun _ h => List.mem_cons_of_mem _ (List.mem_append_left _ (List.mem_append_left _ (List.mem_append_left _ (List.mem_append_right _ h))))
theorem iw_X11_count_X4 : ∀ w ∈ u_ws RX4 TX4 14, w ∈ wsX11_count := fun _ h => List.mem_cons_of_mem _ (List.mem_append_right _ h)
theorem iw_X11_count_X7 : ∀ w ∈ u_ws RX7 TX7 9, w ∈ wsX11_count := fun _ h => List.mem_cons_of_mem _ (List.mem_append_left _ (List.mem_append_right _ h))
def J_X11_count (sx : Nat → Nat → Int32) (st : Nat → Nat → Int32) (sro : Nat → Nat → Int32) (tro : Nat → Nat → Int64) (spa : Nat → Nat → Int32) (sh : Nat → Nat → Int32) (p0 : Int32) : Int32 := if p0 = 0 then (st 0 1) else if p0 = 1 then (sro 0 2) else if p0 = 2 then let y7 := J_X4_sumOf_1 (lS [(lI [(sh 0 0), (sh 0 1), 0, 0, 0, 0, (sh 0 6), (sh 0 7), (sh 0 8), (sh 0 9), (sh 0 10), (sh 0 11), (sh 0 12)]), (sh 1), (sh 2), (sh 3), (sh 4), (sh 5)]); y7 else if p0 = 3 then let y13 := J_X4_sumOf_2 (lS [(lI [(sh 0 0), (sh 0 1), 0, 0, 0, 0, (sh 0 6), (sh 0 7), (sh 0 8), (sh 0 9), (sh 0 10), (sh 0 11), (sh 0 12)]), (sh 1), (sh 2), (sh 3), (sh 4), (sh 5)]); y13 else ((-2) : Int32)
set_option maxHeartbeats 4000000 in
set_option maxRecDepth 100000 in
theorem c_X11_count (l : Launch) (D : va_G) (k : Nat → ClassId) (b : Nat → Nat) (qx : Nat → Nat) (sx : Nat → Nat → Int32) (qt : Nat → Nat) (st : Nat → Nat → Int32) (qro : Nat → Nat) (sro : Nat → Nat → Int32) (tro : Nat → Nat → Int64) (qpa : Nat → Nat) (spa : Nat → Nat → Int32) (qh : Nat → Nat) (sh : Nat → Nat → Int32) (sz : Nat) (p0 : Int32) (h_wk : 0 ≤ (sh 0 0).toInt ∧ (sh 0 0).toInt ≤ 5) (h_hk : 0 ≤ (sh 0 1).toInt ∧ (sh 0 1).toInt ≤ 4) (h_fl : 0 ≤ (sh 0 12).toInt ∧ (sh 0 12).toInt ≤ 5) (h_of : ∀ j, 0 ≤ (sh 2 j).toInt ∧ (sh 2 j).toInt ≤ 4) (h_go : ∀ j, 0 ≤ (sh 3 j).toInt ∧ (sh 3 j).toInt ≤ 5) : MetI l D k b yX11_count wsX11_count ({ frames := 1, cells := 0, slots := 0, locals := 23 } : Room) [cell30_ qx sx, cell28_ k qx sx, cell29_ k qx sx, cell37_ qx qt st, cell27_ k qt st, cell48_ qx qro sro qpa tro, cell0_ k qro sro, cell1_ k qro sro, cell36_ qpa spa, cell31_ qx sh qh, cell0_ k qh sh, cell1_ k qh sh, cell4_ k qh sh, cell3_ k qh sh, cell2_ k qh sh] sz [.ref (qx 0), .int p0] (fun (r : Int32) (u : Unit) => r = J_X11_count sx st sro tro spa sh p0) (fun u => [cell30_ qx sx, cell28_ k qx sx, cell29_ k qx sx, cell37_ qx qt st, cell27_ k qt st, cell48_ qx qro sro qpa tro, cell0_ k qro sro, cell1_ k qro sro, cell36_ qpa spa, cell31_ qx sh qh, cell0_ k qh sh, cell1_ k qh sh, cell4_ k qh sh, cell3_ k qh sh, cell2_ k qh sh]) := by
  refine g_enter (cc := cX11_count) (maxL := 2) (ret := (some .int)) (by decide) rfl (Nat.le_of_ble_eq_true rfl) ?_
  intro p e s m below meth c A hsz hAe cx hr hP hD hS ls hl
  rw [hAe]
  refine g_q (fun Q hQ => ?_)
  have hx := cx.1.1
  have hb := cx.1.2.1
  have bp0 := i_rng p0
  have hl : lv_has ls 2 [(0, .ref (qx 0)), (1, .int p0)] := hl
  obtain ⟨H, eH⟩ : ∃ H : Heap, H = s.heap := ⟨_, rfl⟩
  obtain ⟨locs, el⟩ : ∃ L : List Loc, L = [] := ⟨_, rfl⟩
  have hP : va_P D vwCl [cell30_ qx sx, cell28_ k qx sx, cell29_ k qx sx, cell37_ qx qt st, cell27_ k qt st, cell48_ qx qro sro qpa tro, cell0_ k qro sro, cell1_ k qro sro, cell36_ qpa spa, cell31_ qx sh qh, cell0_ k qh sh, cell1_ k qh sh, cell4_ k qh sh, cell3_ k qh sh, cell2_ k qh sh] H := by rw [eH]; exact hP
  have hD : va_D A [cell30_ qx sx, cell28_ k qx sx, cell29_ k qx sx, cell37_ qx qt st, cell27_ k qt st, cell48_ qx qro sro qpa tro, cell0_ k qro sro, cell1_ k qro sro, cell36_ qpa spa, cell31_ qx sh qh, cell0_ k qh sh, cell1_ k qh sh, cell4_ k qh sh, cell3_ k qh sh, cell2_ k qh sh] := hD
  have hS : va_S A s.heap H locs := by rw [eH, el]; exact hS
  suffices goal : W p l e ({ frames := 1, cells := 0, slots := 0, locals := 23 } : Room) s m ([.ref (qx 0), .int p0] : List Value).toArray below meth c H locs 0 0 Q (F0 m 0 ls []) by rw [eH, el] at goal; exact goal
  refine lv_iload_n hx hb dX11_count_0 rfl (lv_at hl 1 rfl) ?_
  by_cases c1 : p0 = 0
  · refine lv_tableIn (tgt := 32) (off := 31) hx hb dX11_count_1 (by rw [c1]; decide) (by rw [c1]; decide) (by rw [c1]; decide) (by decide) ?_
    have f1 : p0.toInt = 0 := f_eq rfl (by decide) c1
    refine lv_aload_n hx hb dX11_count_32 rfl (lv_at hl 0 rfl) ?_
    refine g_get cx hP iw_X11_count_X11 0 rfl rfl 0 (by decide) rfl fw_X11_count_10 rfl dX11_count_33 ?_
    refine g_get cx hP iw_X11_count_X10 3 rfl rfl 1 (by decide) rfl fw_X11_count_105 rfl dX11_count_36 ?_
    rw [hQ]
    exact x_i cx hr () hP hD hS (show (st 0 1) = J_X11_count sx st sro tro spa sh p0 from by first | (refine Eq.symm ?_; refine Eq.trans (if_pos c1) ?_; rfl) | (unfold J_X11_count; try dsimp only; rw [if_pos c1])) dX11_count_39
  by_cases c2 : p0 = 1
  · refine lv_tableIn (tgt := 40) (off := 39) hx hb dX11_count_1 (by rw [c2]; decide) (by rw [c2]; decide) (by rw [c2]; decide) (by decide) ?_
    have f2 : p0.toInt = 1 := f_eq rfl (by decide) c2
    refine lv_aload_n hx hb dX11_count_40 rfl (lv_at hl 0 rfl) ?_
    refine g_get cx hP iw_X11_count_X11 0 rfl rfl 14 (by decide) rfl fw_X11_count_86 rfl dX11_count_41 ?_
    refine g_get cx hP iw_X11_count_X7 5 rfl rfl 2 (by decide) rfl fw_X11_count_318 rfl dX11_count_44 ?_
    rw [hQ]
    exact x_i cx hr () hP hD hS (show (sro 0 2) = J_X11_count sx st sro tro spa sh p0 from by first | (refine Eq.symm ?_; refine Eq.trans (if_neg c1) ?_; refine Eq.trans (if_pos c2) ?_; rfl) | (unfold J_X11_count; try dsimp only; rw [if_neg c1, if_pos c2])) dX11_count_47
  by_cases c3 : p0 = 2
  · refine lv_tableIn (tgt := 48) (off := 47) hx hb dX11_count_1 (by rw [c3]; decide) (by rw [c3]; decide) (by rw [c3]; decide) (by decide) ?_
    have f3 : p0.toInt = 2 := f_eq rfl (by decide) c3
    refine lv_aload_n hx hb dX11_count_48 rfl (lv_at hl 0 rfl) ?_
    refine g_get cx hP iw_X11_count_X11 0 rfl rfl 4 (by decide) rfl fw_X11_count_39 rfl dX11_count_49 ?_
    refine lv_aload_n hx hb dX11_count_52 rfl (lv_at hl 0 rfl) ?_
    refine g_get cx hP iw_X11_count_X11 0 rfl rfl 4 (by decide) rfl fw_X11_count_39 rfl dX11_count_53 ?_
    refine g_get cx hP iw_X11_count_X4 9 rfl rfl 2 (by decide) rfl fw_X11_count_146 rfl dX11_count_56 ?_
    refine g_ir (g_runV (wc := [cell31_ qx sh qh, cell0_ k qh sh, cell1_ k qh sh, cell4_ k qh sh, cell3_ k qh sh, cell2_ k qh sh]) (rest := []) cx hP hD hS [9, 10, 11, 12, 13, 14] rfl (by decide) [.ref (qh 1)] (c_X4_sumOf_1 l D k b (lq [qx 7, qh 1, qh 2, qh 3, qh 4, qh 5]) (lS [(lI [(sh 0 0), (sh 0 1), 0, 0, 0, 0, (sh 0 6), (sh 0 7), (sh 0 8), (sh 0 9), (sh 0 10), (sh 0 11), (sh 0 12)]), (sh 1), (sh 2), (sh 3), (sh 4), (sh 5)]) H.size (show 0 ≤ (sh 0 0).toInt ∧ (sh 0 0).toInt ≤ 5 from by first | decide | omega)) gX11_count_X4_sumOf rfl rfl rfl nd_X4_sumOf ⟨Nat.le_of_ble_eq_true rfl, Nat.le_of_ble_eq_true rfl⟩ (ci := 2) (q0 := 0) rfl rfl rfl hl.1 rfl (Nat.le_of_ble_eq_true rfl) ⟨Nat.zero_le _, Nat.zero_le _⟩ dX11_count_59) cx.2.2.1 hP hD hS [9, 10, 11, 12, 13, 14] rfl rfl (fun r5 H locs hw4 hP hS => ?_)
    have w6 : r5 = J_X4_sumOf_1 (lS [(lI [(sh 0 0), (sh 0 1), 0, 0, 0, 0, (sh 0 6), (sh 0 7), (sh 0 8), (sh 0 9), (sh 0 10), (sh 0 11), (sh 0 12)]), (sh 1), (sh 2), (sh 3), (sh 4), (sh 5)]) := hw4
    clear hw4
    have k8 : r5 = (J_X4_sumOf_1 (lS [(lI [(sh 0 0), (sh 0 1), 0, 0, 0, 0, (sh 0 6), (sh 0 7), (sh 0 8), (sh 0 9), (sh 0 10), (sh 0 11), (sh 0 12)]), (sh 1), (sh 2), (sh 3), (sh 4), (sh 5)])) := congrArg (fun z => z) w6
    rw [hQ]
    exact x_i cx hr () hP hD hS (show r5 = J_X11_count sx st sro tro spa sh p0 from by subst k8; first | (refine Eq.symm ?_; refine Eq.trans (if_neg c1) ?_; refine Eq.trans (if_neg c2) ?_; refine Eq.trans (if_pos c3) ?_; rfl) | (unfold J_X11_count; try dsimp only; rw [if_neg c1, if_neg c2, if_pos c3])) dX11_count_62
  by_cases c9 : p0 = 3
  · refine lv_tableIn (tgt := 63) (off := 62) hx hb dX11_count_1 (by rw [c9]; decide) (by rw [c9]; decide) (by rw [c9]; decide) (by decide) ?_
    have f9 : p0.toInt = 3 := f_eq rfl (by decide) c9
    refine lv_aload_n hx hb dX11_count_63 rfl (lv_at hl 0 rfl) ?_
    refine g_get cx hP iw_X11_count_X11 0 rfl rfl 4 (by decide) rfl fw_X11_count_39 rfl dX11_count_64 ?_
    refine lv_aload_n hx hb dX11_count_67 rfl (lv_at hl 0 rfl) ?_
    refine g_get cx hP iw_X11_count_X11 0 rfl rfl 4 (by decide) rfl fw_X11_count_39 rfl dX11_count_68 ?_
    refine g_get cx hP iw_X11_count_X4 9 rfl rfl 3 (by decide) rfl fw_X11_count_149 rfl dX11_count_71 ?_
    refine g_ir (g_runV (wc := [cell31_ qx sh qh, cell0_ k qh sh, cell1_ k qh sh, cell4_ k qh sh, cell3_ k qh sh, cell2_ k qh sh]) (rest := []) cx hP hD hS [9, 10, 11, 12, 13, 14] rfl (by decide) [.ref (qh 2)] (c_X4_sumOf_2 l D k b (lq [qx 7, qh 1, qh 2, qh 3, qh 4, qh 5]) (lS [(lI [(sh 0 0), (sh 0 1), 0, 0, 0, 0, (sh 0 6), (sh 0 7), (sh 0 8), (sh 0 9), (sh 0 10), (sh 0 11), (sh 0 12)]), (sh 1), (sh 2), (sh 3), (sh 4), (sh 5)]) H.size (show 0 ≤ (sh 0 0).toInt ∧ (sh 0 0).toInt ≤ 5 from by first | decide | omega)) gX11_count_X4_sumOf rfl rfl rfl nd_X4_sumOf ⟨Nat.le_of_ble_eq_true rfl, Nat.le_of_ble_eq_true rfl⟩ (ci := 2) (q0 := 0) rfl rfl rfl hl.1 rfl (Nat.le_of_ble_eq_true rfl) ⟨Nat.zero_le _, Nat.zero_le _⟩ dX11_count_74) cx.2.2.1 hP hD hS [9, 10, 11, 12, 13, 14] rfl rfl (fun r11 H locs hw10 hP hS => ?_)
    have w12 : r11 = J_X4_sumOf_2 (lS [(lI [(sh 0 0), (sh 0 1), 0, 0, 0, 0, (sh 0 6), (sh 0 7), (sh 0 8), (sh 0 9), (sh 0 10), (sh 0 11), (sh 0 12)]), (sh 1), (sh 2), (sh 3), (sh 4), (sh 5)]) := hw10
    clear hw10
    have k14 : r11 = (J_X4_sumOf_2 (lS [(lI [(sh 0 0), (sh 0 1), 0, 0, 0, 0, (sh 0 6), (sh 0 7), (sh 0 8), (sh 0 9), (sh 0 10), (sh 0 11), (sh 0 12)]), (sh 1), (sh 2), (sh 3), (sh 4), (sh 5)])) := congrArg (fun z => z) w12
    rw [hQ]
    exact x_i cx hr () hP hD hS (show r11 = J_X11_count sx st sro tro spa sh p0 from by subst k14; first | (refine Eq.symm ?_; refine Eq.trans (if_neg c1) ?_; refine Eq.trans (if_neg c2) ?_; refine Eq.trans (if_neg c3) ?_; refine Eq.trans (if_pos c9) ?_; rfl) | (unfold J_X11_count; try dsimp only; rw [if_neg c1, if_neg c2, if_neg c3, if_pos c9])) dX11_count_77
  have gc1 : ¬ p0.toInt = 0 := f_ne rfl (by decide) c1
  have gc2 : ¬ p0.toInt = 1 := f_ne rfl (by decide) c2
  have gc3 : ¬ p0.toInt = 2 := f_ne rfl (by decide) c3
  have gc9 : ¬ p0.toInt = 3 := f_ne rfl (by decide) c9
  refine lv_tableOut (tgt := 78) hx hb dX11_count_1 (by omega) (by decide) ?_
  refine lv_bipush (v := (-2)) hx hb dX11_count_78 (by decide) ?_
  have hlit16 : ((-2) : Int32).toInt = -2 := by decide
  rw [hQ]
  exact x_i cx hr () hP hD hS (show ((-2) : Int32) = J_X11_count sx st sro tro spa sh p0 from by first | (refine Eq.symm ?_; refine Eq.trans (if_neg c1) ?_; refine Eq.trans (if_neg c2) ?_; refine Eq.trans (if_neg c3) ?_; refine Eq.trans (if_neg c9) ?_; rfl) | (unfold J_X11_count; try dsimp only; rw [if_neg c1, if_neg c2, if_neg c3, if_neg c9])) dX11_count_80
