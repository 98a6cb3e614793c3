theorem fw_X11_takes_39 : Cond.fieldLink RX11 39 "StillInAugust" "house" "LStillInAugust$House;" ∈ wsX11_takes := by decide +kernel
theorem iw_X11_takes_X11 : ∀ w ∈ u_ws RX11 TX11 17, w ∈ wsX11_takes := fun _ h => List.mem_cons_of_mem _ (List.mem_append_left _ (List.mem_append_right _ h))
def J_X11_takes (sx : Nat → Nat → Int32) (sh : Nat → Nat → Int32) (p0 : Int32) (p1 : Int32) (p2 : Int32) : Int32 := let y6 := J_X11_isRule sx p0; if y6 = 0 then ((-1) : Int32) else let y15 := J_X11_isWeek sx (lS [(lI [(sh 0 0), (sh 0 1), 0, 0, 0, 0, (sh 0 6), (sh 0 7), (sh 0 8), (sh 0 9), (sh 0 10), (sh 0 11), (sh 0 12)]), (sh 1), (sh 2), (sh 3), (sh 4), (sh 5)]) p1; if y15 = 0 then ((-1) : Int32) else let y23 := J_X11_isHands sx (lS [(lI [(sh 0 0), (sh 0 1), 0, 0, 0, 0, (sh 0 6), (sh 0 7), (sh 0 8), (sh 0 9), (sh 0 10), (sh 0 11), (sh 0 12)]), (sh 1), (sh 2), (sh 3), (sh 4), (sh 5)]) p2; if y23 = 0 then ((-2) : Int32) else let y29 := J_X11_levelBy sx p0 p1; let y35 := J_X4_takenByLevel (lS [(lI [(sh 0 0), (sh 0 1), 0, 0, 0, 0, (sh 0 6), (sh 0 7), (sh 0 8), (sh 0 9), (sh 0 10), (sh 0 11), (sh 0 12)]), (sh 1), (sh 2), (sh 3), (sh 4), (sh 5)]) p1 p2 y29; y35
set_option maxHeartbeats 4000000 in
set_option maxRecDepth 100000 in
theorem c_X11_takes (l : Launch) (D : va_G) (k : Nat → ClassId) (b : Nat → Nat) (qx : Nat → Nat) (sx : Nat → Nat → Int32) (qh : Nat → Nat) (sh : Nat → Nat → Int32) (sz : Nat) (p0 : Int32) (p1 : Int32) (p2 : Int32) (h_wk : 0 ≤ (sh 0 0).toInt ∧ (sh 0 0).toInt ≤ 5) (h_hk : 0 ≤ (sh 0 1).toInt ∧ (sh 0 1).toInt ≤ 4) (h_fl : 0 ≤ (sh 0 12).toInt ∧ (sh 0 12).toInt ≤ 5) (h_of : ∀ j, 0 ≤ (sh 2 j).toInt ∧ (sh 2 j).toInt ≤ 4) (h_go : ∀ j, 0 ≤ (sh 3 j).toInt ∧ (sh 3 j).toInt ≤ 5) : MetI l D k b yX11_takes wsX11_takes ({ frames := 3, cells := 0, slots := 0, locals := 66 } : Room) [cell30_ qx sx, cell28_ k qx sx, cell29_ k qx sx, cell31_ qx sh qh, cell0_ k qh sh, cell1_ k qh sh, cell4_ k qh sh, cell3_ k qh sh, cell2_ k qh sh] sz [.ref (qx 0), .int p0, .int p1, .int p2] (fun (r : Int32) (u : Unit) => r = J_X11_takes sx sh p0 p1 p2) (fun u => [cell30_ qx sx, cell28_ k qx sx, cell29_ k qx sx, cell31_ qx sh qh, cell0_ k qh sh, cell1_ k qh sh, cell4_ k qh sh, cell3_ k qh sh, cell2_ k qh sh]) := by
  refine g_enter (cc := cX11_takes) (maxL := 4) (ret := (some .int)) (by decide) rfl (Nat.le_of_ble_eq_true rfl) ?_
  intro p e s m below meth c A hsz hAe cx hr hP hD hS ls hl
  rw [hAe]
  refine g_q (fun Q hQ => ?_)
  have hx := cx.1.1
  have hb := cx.1.2.1
  have bp0 := i_rng p0
  have bp1 := i_rng p1
  have bp2 := i_rng p2
  have hl : lv_has ls 4 [(0, .ref (qx 0)), (1, .int p0), (2, .int p1), (3, .int p2)] := hl
  obtain ⟨H, eH⟩ : ∃ H : Heap, H = s.heap := ⟨_, rfl⟩
  obtain ⟨locs, el⟩ : ∃ L : List Loc, L = [] := ⟨_, rfl⟩
  have hP : va_P D vwCl [cell30_ qx sx, cell28_ k qx sx, cell29_ k qx sx, cell31_ qx sh qh, cell0_ k qh sh, cell1_ k qh sh, cell4_ k qh sh, cell3_ k qh sh, cell2_ k qh sh] H := by rw [eH]; exact hP
  have hD : va_D A [cell30_ qx sx, cell28_ k qx sx, cell29_ k qx sx, cell31_ qx sh qh, cell0_ k qh sh, cell1_ k qh sh, cell4_ k qh sh, cell3_ k qh sh, cell2_ k qh sh] := hD
  have hS : va_S A s.heap H locs := by rw [eH, el]; exact hS
  suffices goal : W p l e ({ frames := 3, cells := 0, slots := 0, locals := 66 } : Room) s m ([.ref (qx 0), .int p0, .int p1, .int p2] : List Value).toArray below meth c H locs 0 0 Q (F0 m 0 ls []) by rw [eH, el] at goal; exact goal
  refine lv_aload_n hx hb dX11_takes_0 rfl (lv_at hl 0 rfl) ?_
  refine lv_iload_n hx hb dX11_takes_1 rfl (lv_at hl 1 rfl) ?_
  refine g_ir (g_runV (wc := [cell30_ qx sx, cell28_ k qx sx, cell29_ k qx sx]) (rest := []) cx hP hD hS [0, 1, 2] rfl (by decide) [.int p0] (c_X11_isRule l D k b qx sx H.size p0) gX11_takes_X11_isRule rfl rfl rfl nd_X11_isRule ⟨Nat.le_of_ble_eq_true rfl, Nat.le_of_ble_eq_true rfl⟩ (ci := 9) (q0 := 0) rfl rfl rfl hl.1 rfl (Nat.le_of_ble_eq_true rfl) ⟨Nat.zero_le _, Nat.zero_le _⟩ dX11_takes_2) cx.2.2.1 hP hD hS [0, 1, 2] rfl rfl (fun r2 H locs hw1 hP hS => ?_)
  replace hw1 : (0 ≤ r2.toInt ∧ r2.toInt ≤ 1) ∧ (Imp (r2.toInt = 1) (0 ≤ p0.toInt ∧ p0.toInt ≤ 2)) ∧ (r2 = J_X11_isRule sx p0) := hw1
  obtain ⟨w3, w4, w5⟩ := hw1
  have k7 : r2 = (J_X11_isRule sx p0) := congrArg (fun z => z) w5
  have zr2 : 0 ≤ r2.toInt ∧ r2.toInt ≤ 1 := w3
  refine lv_if_eq (tgt := 16) hx hb dX11_takes_5 (by decide) (fun c8 => ?_) (fun c8 => ?_)
  · have f8 : r2.toInt = 0 := f_eq rfl (by decide) c8
    refine lv_iconst (v := (-1)) hx hb dX11_takes_16 (by decide) ?_
    have hlit9 : ((-1) : Int32).toInt = -1 := by decide
    rw [hQ]
    exact x_i cx hr () hP hD hS (show ((-1) : Int32) = J_X11_takes sx sh p0 p1 p2 from by subst k7; first | (refine Eq.symm ?_; refine Eq.trans (if_pos c8) ?_; rfl) | (unfold J_X11_takes; try dsimp only; rw [if_pos c8])) dX11_takes_17
  · have f8 : ¬ r2.toInt = 0 := f_ne rfl (by decide) c8
    have k8 : (0 ≤ p0.toInt ∧ p0.toInt ≤ 2) := w4 (by omega)
    refine lv_aload_n hx hb dX11_takes_8 rfl (lv_at hl 0 rfl) ?_
    refine lv_iload_n hx hb dX11_takes_9 rfl (lv_at hl 2 rfl) ?_
    refine g_iF (w1 := fun (_ : Unit) => [cell30_ qx sx, cell28_ k qx sx, cell29_ k qx sx, cell31_ qx sh qh, cell0_ k qh sh, cell1_ k qh sh, cell4_ k qh sh, cell3_ k qh sh, cell2_ k qh sh]) (g_runVF (ws := [cell30_ qx sx, cell28_ k qx sx, cell29_ k qx sx, cell31_ qx sh qh, cell0_ k qh sh, cell1_ k qh sh, cell4_ k qh sh, cell3_ k qh sh, cell2_ k qh sh]) (rest := []) cx hP hD hS [.int p1] (c_X11_isWeek l D k b qx sx (lq [0, qh 1, qh 2, qh 3, qh 4, qh 5]) (lS [(lI [(sh 0 0), (sh 0 1), 0, 0, 0, 0, (sh 0 6), (sh 0 7), (sh 0 8), (sh 0 9), (sh 0 10), (sh 0 11), (sh 0 12)]), (sh 1), (sh 2), (sh 3), (sh 4), (sh 5)]) H.size p1 (show 0 ≤ (sh 0 0).toInt ∧ (sh 0 0).toInt ≤ 5 from by first | decide | omega)) gX11_takes_X11_isWeek rfl rfl rfl nd_X11_isWeek ⟨Nat.le_of_ble_eq_true rfl, Nat.le_of_ble_eq_true rfl⟩ (ci := 9) (q0 := 0) rfl rfl rfl hl.1 rfl (Nat.le_of_ble_eq_true rfl) ⟨Nat.zero_le _, Nat.zero_le _⟩ dX11_takes_10) cx.2.2.1 hD hS (fun r11 _ H locs hw10 hP hD hS => ?_)
    replace hw10 : (0 ≤ r11.toInt ∧ r11.toInt ≤ 1) ∧ (Imp (r11.toInt = 1) (0 ≤ p1.toInt ∧ p1.toInt ≤ 4 ∧ p1.toInt < (sh 0 0).toInt)) ∧ (r11 = J_X11_isWeek sx (lS [(lI [(sh 0 0), (sh 0 1), 0, 0, 0, 0, (sh 0 6), (sh 0 7), (sh 0 8), (sh 0 9), (sh 0 10), (sh 0 11), (sh 0 12)]), (sh 1), (sh 2), (sh 3), (sh 4), (sh 5)]) p1) := hw10
    obtain ⟨w12, w13, w14⟩ := hw10
    have k16 : r11 = (J_X11_isWeek sx (lS [(lI [(sh 0 0), (sh 0 1), 0, 0, 0, 0, (sh 0 6), (sh 0 7), (sh 0 8), (sh 0 9), (sh 0 10), (sh 0 11), (sh 0 12)]), (sh 1), (sh 2), (sh 3), (sh 4), (sh 5)]) p1) := congrArg (fun z => z) w14
    have zr11 : 0 ≤ r11.toInt ∧ r11.toInt ≤ 1 := w12
    refine lv_if_ne (tgt := 18) hx hb dX11_takes_13 (by decide) (fun c17 => ?_) (fun c17 => ?_)
    · have f17 : ¬ r11.toInt = 0 := f_ne rfl (by decide) c17
      have k17 : (0 ≤ p1.toInt ∧ p1.toInt ≤ 4 ∧ p1.toInt < (sh 0 0).toInt) := w13 (by omega)
      refine lv_aload_n hx hb dX11_takes_18 rfl (lv_at hl 0 rfl) ?_
      refine lv_iload_n hx hb dX11_takes_19 rfl (lv_at hl 3 rfl) ?_
      refine g_iF (w1 := fun (_ : Unit) => [cell30_ qx sx, cell28_ k qx sx, cell29_ k qx sx, cell31_ qx sh qh, cell0_ k qh sh, cell1_ k qh sh, cell4_ k qh sh, cell3_ k qh sh, cell2_ k qh sh]) (g_runVF (ws := [cell30_ qx sx, cell28_ k qx sx, cell29_ k qx sx, cell31_ qx sh qh, cell0_ k qh sh, cell1_ k qh sh, cell4_ k qh sh, cell3_ k qh sh, cell2_ k qh sh]) (rest := []) cx hP hD hS [.int p2] (c_X11_isHands l D k b qx sx (lq [0, qh 1, qh 2, qh 3, qh 4, qh 5]) (lS [(lI [(sh 0 0), (sh 0 1), 0, 0, 0, 0, (sh 0 6), (sh 0 7), (sh 0 8), (sh 0 9), (sh 0 10), (sh 0 11), (sh 0 12)]), (sh 1), (sh 2), (sh 3), (sh 4), (sh 5)]) H.size p2 (show 0 ≤ (sh 0 1).toInt ∧ (sh 0 1).toInt ≤ 4 from by first | decide | omega)) gX11_takes_X11_isHands rfl rfl rfl nd_X11_isHands ⟨Nat.le_of_ble_eq_true rfl, Nat.le_of_ble_eq_true rfl⟩ (ci := 9) (q0 := 0) rfl rfl rfl hl.1 rfl (Nat.le_of_ble_eq_true rfl) ⟨Nat.zero_le _, Nat.zero_le _⟩ dX11_takes_20) cx.2.2.1 hD hS (fun r19 _ H locs hw18 hP hD hS => ?_)
      replace hw18 : (0 ≤ r19.toInt ∧ r19.toInt ≤ 1) ∧ (Imp (r19.toInt = 1) ((0 ≤ p2.toInt ∧ p2.toInt ≤ 400 ∧ tot p2 ≤ 4) ∧ tot p2 ≤ (sh 0 1).toInt)) ∧ (r19 = J_X11_isHands sx (lS [(lI [(sh 0 0), (sh 0 1), 0, 0, 0, 0, (sh 0 6), (sh 0 7), (sh 0 8), (sh 0 9), (sh 0 10), (sh 0 11), (sh 0 12)]), (sh 1), (sh 2), (sh 3), (sh 4), (sh 5)]) p2) := hw18
      obtain ⟨w20, w21, w22⟩ := hw18
      have k24 : r19 = (J_X11_isHands sx (lS [(lI [(sh 0 0), (sh 0 1), 0, 0, 0, 0, (sh 0 6), (sh 0 7), (sh 0 8), (sh 0 9), (sh 0 10), (sh 0 11), (sh 0 12)]), (sh 1), (sh 2), (sh 3), (sh 4), (sh 5)]) p2) := congrArg (fun z => z) w22
      have zr19 : 0 ≤ r19.toInt ∧ r19.toInt ≤ 1 := w20
      refine lv_if_ne (tgt := 29) hx hb dX11_takes_23 (by decide) (fun c25 => ?_) (fun c25 => ?_)
      · have f25 : ¬ r19.toInt = 0 := f_ne rfl (by decide) c25
        have k25 : ((0 ≤ p2.toInt ∧ p2.toInt ≤ 400 ∧ tot p2 ≤ 4) ∧ tot p2 ≤ (sh 0 1).toInt) := w21 (by omega)
        refine lv_aload_n hx hb dX11_takes_29 rfl (lv_at hl 0 rfl) ?_
        refine g_get cx hP iw_X11_takes_X11 0 rfl rfl 4 (by decide) rfl fw_X11_takes_39 rfl dX11_takes_30 ?_
        refine lv_iload_n hx hb dX11_takes_33 rfl (lv_at hl 2 rfl) ?_
        refine lv_iload_n hx hb dX11_takes_34 rfl (lv_at hl 3 rfl) ?_
        refine lv_aload_n hx hb dX11_takes_35 rfl (lv_at hl 0 rfl) ?_
        refine lv_iload_n hx hb dX11_takes_36 rfl (lv_at hl 1 rfl) ?_
        refine lv_iload_n hx hb dX11_takes_37 rfl (lv_at hl 2 rfl) ?_
        refine g_ir (g_runV (wc := [cell30_ qx sx, cell28_ k qx sx, cell29_ k qx sx]) (rest := [.int p2, .int p1, .ref (qx 7)]) cx hP hD hS [0, 1, 2] rfl (by decide) [.int p0, .int p1] (c_X11_levelBy l D k b qx sx H.size p0 p1 (show 0 ≤ p0.toInt ∧ p0.toInt ≤ 2 from by first | decide | omega) (show 0 ≤ p1.toInt ∧ p1.toInt ≤ 4 from by first | decide | omega)) gX11_takes_X11_levelBy rfl rfl rfl nd_X11_levelBy ⟨Nat.le_of_ble_eq_true rfl, Nat.le_of_ble_eq_true rfl⟩ (ci := 9) (q0 := 0) rfl rfl rfl hl.1 rfl (Nat.le_of_ble_eq_true rfl) ⟨Nat.zero_le _, Nat.zero_le _⟩ dX11_takes_38) cx.2.2.1 hP hD hS [0, 1, 2] rfl rfl (fun r27 H locs hw26 hP hS => ?_)
        have w28 : r27 = J_X11_levelBy sx p0 p1 := hw26
        clear hw26
        have k30 : r27 = (J_X11_levelBy sx p0 p1) := congrArg (fun z => z) w28
        refine g_ir (g_runV (wc := [cell31_ qx sh qh, cell0_ k qh sh, cell1_ k qh sh, cell4_ k qh sh, cell3_ k qh sh, cell2_ k qh sh]) (rest := []) cx hP hD hS [3, 4, 5, 6, 7, 8] rfl (by decide) [.int p1, .int p2, .int r27] (c_X4_takenByLevel l D k b (lq [qx 7, qh 1, qh 2, qh 3, qh 4, qh 5]) (lS [(lI [(sh 0 0), (sh 0 1), 0, 0, 0, 0, (sh 0 6), (sh 0 7), (sh 0 8), (sh 0 9), (sh 0 10), (sh 0 11), (sh 0 12)]), (sh 1), (sh 2), (sh 3), (sh 4), (sh 5)]) H.size p1 p2 r27 (show 0 ≤ (sh 0 1).toInt ∧ (sh 0 1).toInt ≤ 4 from by first | decide | omega) h_of (show 0 ≤ p2.toInt ∧ p2.toInt ≤ 400 ∧ tot p2 ≤ 4 from by first | decide | omega) (show tot p2 ≤ (sh 0 1).toInt from by first | decide | omega) (show 0 ≤ p1.toInt ∧ p1.toInt ≤ 4 from by first | decide | omega)) gX11_takes_X4_takenByLevel rfl rfl rfl nd_X4_takenByLevel ⟨Nat.le_of_ble_eq_true rfl, Nat.le_of_ble_eq_true rfl⟩ (ci := 2) (q0 := 0) rfl rfl rfl hl.1 rfl (Nat.le_of_ble_eq_true rfl) ⟨Nat.zero_le _, Nat.zero_le _⟩ dX11_takes_41) cx.2.2.1 hP hD hS [3, 4, 5, 6, 7, 8] rfl rfl (fun r32 H locs hw31 hP hS => ?_)
        replace hw31 : (0 ≤ r32.toInt ∧ r32.toInt ≤ 4 ∧ r32.toInt ≤ (sh 0 1).toInt - (tot p2)) ∧ (r32 = J_X4_takenByLevel (lS [(lI [(sh 0 0), (sh 0 1), 0, 0, 0, 0, (sh 0 6), (sh 0 7), (sh 0 8), (sh 0 9), (sh 0 10), (sh 0 11), (sh 0 12)]), (sh 1), (sh 2), (sh 3), (sh 4), (sh 5)]) p1 p2 r27) := hw31
        obtain ⟨w33, w34⟩ := hw31
        have k36 : r32 = (J_X4_takenByLevel (lS [(lI [(sh 0 0), (sh 0 1), 0, 0, 0, 0, (sh 0 6), (sh 0 7), (sh 0 8), (sh 0 9), (sh 0 10), (sh 0 11), (sh 0 12)]), (sh 1), (sh 2), (sh 3), (sh 4), (sh 5)]) p1 p2 r27) := congrArg (fun z => z) w34
        rw [hQ]
        exact x_i cx hr () hP hD hS (show r32 = J_X11_takes sx sh p0 p1 p2 from by subst k7 k16 k24 k30 k36; first | (refine Eq.symm ?_; refine Eq.trans (if_neg c8) ?_; refine Eq.trans (if_neg c17) ?_; refine Eq.trans (if_neg c25) ?_; rfl) | (unfold J_X11_takes; try dsimp only; rw [if_neg c8, if_neg c17, if_neg c25])) dX11_takes_44
      · have f25 : r19.toInt = 0 := f_eq rfl (by decide) c25
        refine lv_bipush (v := (-2)) hx hb dX11_takes_26 (by decide) ?_
        have hlit37 : ((-2) : Int32).toInt = -2 := by decide
        rw [hQ]
        exact x_i cx hr () hP hD hS (show ((-2) : Int32) = J_X11_takes sx sh p0 p1 p2 from by subst k7 k16 k24; first | (refine Eq.symm ?_; refine Eq.trans (if_neg c8) ?_; refine Eq.trans (if_neg c17) ?_; refine Eq.trans (if_pos c25) ?_; rfl) | (unfold J_X11_takes; try dsimp only; rw [if_neg c8, if_neg c17, if_pos c25])) dX11_takes_28
    · have f17 : r11.toInt = 0 := f_eq rfl (by decide) c17
      refine lv_iconst (v := (-1)) hx hb dX11_takes_16 (by decide) ?_
      have hlit38 : ((-1) : Int32).toInt = -1 := by decide
      rw [hQ]
      exact x_i cx hr () hP hD hS (show ((-1) : Int32) = J_X11_takes sx sh p0 p1 p2 from by subst k7 k16; first | (refine Eq.symm ?_; refine Eq.trans (if_neg c8) ?_; refine Eq.trans (if_pos c17) ?_; rfl) | (unfold J_X11_takes; try dsimp only; rw [if_neg c8, if_pos c17])) dX11_takes_17

