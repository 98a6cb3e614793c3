theorem fw_X11_sunday_39 : Cond.fieldLink RX11 39 "StillInAugust" "house" "LStillInAugust$House;" ∈ wsX11_sunday := by decide +kernel
theorem kJ_X11_sunday_205 : Cond.constantLong RX11 205 (-2) ∈ wsX11_sunday := by decide +kernel
theorem kJ_X11_sunday_210 : Cond.constantLong RX11 210 (625) ∈ wsX11_sunday := by decide +kernel
theorem nd_X11_told : yX11_told.cls ≠ "java/lang/invoke/MethodHandle" ∧ yX11_told.cls ≠ "java/lang/invoke/VarHandle" ∧ (parseMethodDescriptor yX11_told.desc).map (fun d => d.parameters.length) = some 3 := by decide +kernel
theorem nd_X4_becomes : yX4_becomes.cls = RX4 ∧ yX4_becomes.cls ≠ "java/lang/invoke/MethodHandle" ∧ yX4_becomes.cls ≠ "java/lang/invoke/VarHandle" ∧ (parseMethodDescriptor yX4_becomes.desc).map (fun d => d.parameters.length) = some 2 := by decide +kernel
theorem iw_X11_sunday_X11 : ∀ w ∈ u_ws RX11 TX11 17, w ∈ wsX11_sunday := fun _ h => List.mem_cons_of_mem _ (List.mem_append_left _ (List.mem_append_right _ h))
set_option maxHeartbeats 4000000 in
set_option maxRecDepth 100000 in
theorem c_X11_sunday (l : Launch) (D : va_G) (k : Nat → ClassId) (b : Nat → Nat) (qx : Nat → Nat) (sx : Nat → Nat → Int32) (qh : Nat → Nat) (sh : Nat → Nat → Int32) (sz : Nat) (p0 : Int32) (p1 : Int32) (p2 : Int32) (h_wk : 0 ≤ (sh 0 0).toInt ∧ (sh 0 0).toInt ≤ 5) (h_hk : 0 ≤ (sh 0 1).toInt ∧ (sh 0 1).toInt ≤ 4) (h_fl : 0 ≤ (sh 0 12).toInt ∧ (sh 0 12).toInt ≤ 5) (h_of : ∀ j, 0 ≤ (sh 2 j).toInt ∧ (sh 2 j).toInt ≤ 4) (h_go : ∀ j, 0 ≤ (sh 3 j).toInt ∧ (sh 3 j).toInt ≤ 5) (h_su : SUok (sh 5)) : MetL l D k b yX11_sunday wsX11_sunday ({ frames := 3, cells := 0, slots := 0, locals := 63 } : Room) [cell30_ qx sx, cell28_ k qx sx, cell29_ k qx sx, cell31_ qx sh qh, cell0_ k qh sh, cell1_ k qh sh, cell4_ k qh sh, cell3_ k qh sh, cell2_ k qh sh] sz [.ref (qx 0), .int p0, .int p1, .int p2] (fun (r : Int64) (u : Unit) => True) (fun u => [cell30_ qx sx, cell28_ k qx sx, cell29_ k qx sx, cell31_ qx sh qh, cell0_ k qh sh, cell1_ k qh sh, cell4_ k qh sh, cell3_ k qh sh, cell2_ k qh sh]) := by
  refine g_enter (cc := cX11_sunday) (maxL := 4) (ret := (some .long)) (by decide) rfl (Nat.le_of_ble_eq_true rfl) ?_
  intro p e s m below meth c A hsz hAe cx hr hP hD hS ls hl
  rw [hAe]
  refine g_q (fun Q hQ => ?_)
  have hx := cx.1.1
  have hb := cx.1.2.1
  have bp0 := i_rng p0
  have bp1 := i_rng p1
  have bp2 := i_rng p2
  have hl : lv_has ls 4 [(0, .ref (qx 0)), (1, .int p0), (2, .int p1), (3, .int p2)] := hl
  obtain ⟨H, eH⟩ : ∃ H : Heap, H = s.heap := ⟨_, rfl⟩
  obtain ⟨locs, el⟩ : ∃ L : List Loc, L = [] := ⟨_, rfl⟩
  have hP : va_P D vwCl [cell30_ qx sx, cell28_ k qx sx, cell29_ k qx sx, cell31_ qx sh qh, cell0_ k qh sh, cell1_ k qh sh, cell4_ k qh sh, cell3_ k qh sh, cell2_ k qh sh] H := by rw [eH]; exact hP
  have hD : va_D A [cell30_ qx sx, cell28_ k qx sx, cell29_ k qx sx, cell31_ qx sh qh, cell0_ k qh sh, cell1_ k qh sh, cell4_ k qh sh, cell3_ k qh sh, cell2_ k qh sh] := hD
  have hS : va_S A s.heap H locs := by rw [eH, el]; exact hS
  suffices goal : W p l e ({ frames := 3, cells := 0, slots := 0, locals := 63 } : Room) s m ([.ref (qx 0), .int p0, .int p1, .int p2] : List Value).toArray below meth c H locs 0 0 Q (F0 m 0 ls []) by rw [eH, el] at goal; exact goal
  refine lv_aload_n hx hb dX11_sunday_0 rfl (lv_at hl 0 rfl) ?_
  refine lv_iload_n hx hb dX11_sunday_1 rfl (lv_at hl 1 rfl) ?_
  refine g_iF (w1 := fun (_ : Unit) => [cell30_ qx sx, cell28_ k qx sx, cell29_ k qx sx, cell31_ qx sh qh, cell0_ k qh sh, cell1_ k qh sh, cell4_ k qh sh, cell3_ k qh sh, cell2_ k qh sh]) (g_runVF (ws := [cell30_ qx sx, cell28_ k qx sx, cell29_ k qx sx, cell31_ qx sh qh, cell0_ k qh sh, cell1_ k qh sh, cell4_ k qh sh, cell3_ k qh sh, cell2_ k qh sh]) (rest := []) cx hP hD hS [.int p0] (c_X11_isHands l D k b qx sx (lq [0, qh 1, qh 2, qh 3, qh 4, qh 5]) (lS [(lI [(sh 0 0), (sh 0 1), 0, 0, 0, 0, (sh 0 6), (sh 0 7), (sh 0 8), (sh 0 9), (sh 0 10), (sh 0 11), (sh 0 12)]), (sh 1), (sh 2), (sh 3), (sh 4), (sh 5)]) H.size p0 (show 0 ≤ (sh 0 1).toInt ∧ (sh 0 1).toInt ≤ 4 from by first | decide | omega)) gX11_sunday_X11_isHands rfl rfl rfl nd_X11_isHands ⟨Nat.le_of_ble_eq_true rfl, Nat.le_of_ble_eq_true rfl⟩ (ci := 9) (q0 := 0) rfl rfl rfl hl.1 rfl (Nat.le_of_ble_eq_true rfl) ⟨Nat.zero_le _, Nat.zero_le _⟩ dX11_sunday_2) cx.2.2.1 hD hS (fun r2 _ H locs hw1 hP hD hS => ?_)
  replace hw1 : (0 ≤ r2.toInt ∧ r2.toInt ≤ 1) ∧ (Imp (r2.toInt = 1) ((0 ≤ p0.toInt ∧ p0.toInt ≤ 400 ∧ tot p0 ≤ 4) ∧ tot p0 ≤ (sh 0 1).toInt)) ∧ (r2 = J_X11_isHands sx (lS [(lI [(sh 0 0), (sh 0 1), 0, 0, 0, 0, (sh 0 6), (sh 0 7), (sh 0 8), (sh 0 9), (sh 0 10), (sh 0 11), (sh 0 12)]), (sh 1), (sh 2), (sh 3), (sh 4), (sh 5)]) p0) := hw1
  obtain ⟨w3, w4, w5⟩ := hw1
  have k7 : r2 = (J_X11_isHands sx (lS [(lI [(sh 0 0), (sh 0 1), 0, 0, 0, 0, (sh 0 6), (sh 0 7), (sh 0 8), (sh 0 9), (sh 0 10), (sh 0 11), (sh 0 12)]), (sh 1), (sh 2), (sh 3), (sh 4), (sh 5)]) p0) := congrArg (fun z => z) w5
  have zr2 : 0 ≤ r2.toInt ∧ r2.toInt ≤ 1 := w3
  refine lv_if_ne (tgt := 12) hx hb dX11_sunday_5 (by decide) (fun c8 => ?_) (fun c8 => ?_)
  · have f8 : ¬ r2.toInt = 0 := f_ne rfl (by decide) c8
    have k8 : ((0 ≤ p0.toInt ∧ p0.toInt ≤ 400 ∧ tot p0 ≤ 4) ∧ tot p0 ≤ (sh 0 1).toInt) := w4 (by omega)
    refine lv_aload_n hx hb dX11_sunday_12 rfl (lv_at hl 0 rfl) ?_
    refine g_get cx hP iw_X11_sunday_X11 0 rfl rfl 4 (by decide) rfl fw_X11_sunday_39 rfl dX11_sunday_13 ?_
    refine lv_iload_n hx hb dX11_sunday_16 rfl (lv_at hl 1 rfl) ?_
    refine lv_iload_n hx hb dX11_sunday_17 rfl (lv_at hl 2 rfl) ?_
    refine g_ir (g_runV (wc := [cell31_ qx sh qh, cell0_ k qh sh, cell1_ k qh sh, cell4_ k qh sh, cell3_ k qh sh, cell2_ k qh sh]) (rest := []) cx hP hD hS [3, 4, 5, 6, 7, 8] rfl (by decide) [.int p0, .int p1] (c_X4_becomes l D k b (lq [qx 7, qh 1, qh 2, qh 3, qh 4, qh 5]) (lS [(lI [(sh 0 0), (sh 0 1), 0, 0, 0, 0, (sh 0 6), (sh 0 7), (sh 0 8), (sh 0 9), (sh 0 10), (sh 0 11), (sh 0 12)]), (sh 1), (sh 2), (sh 3), (sh 4), (sh 5)]) H.size p0 p1 (show SUok (sh 5) from by assumption) (show 0 ≤ p0.toInt ∧ p0.toInt ≤ 400 ∧ tot p0 ≤ 4 from by first | decide | omega)) gX11_sunday_X4_becomes rfl rfl rfl nd_X4_becomes ⟨Nat.le_of_ble_eq_true rfl, Nat.le_of_ble_eq_true rfl⟩ (ci := 2) (q0 := 0) rfl rfl rfl hl.1 rfl (Nat.le_of_ble_eq_true rfl) ⟨Nat.zero_le _, Nat.zero_le _⟩ dX11_sunday_18) cx.2.2.1 hP hD hS [3, 4, 5, 6, 7, 8] rfl rfl (fun r10 H locs hw9 hP hS => ?_)
    clear hw9
    obtain ⟨v11, e11⟩ : ∃ z : Int64, z = (r10 : Int32).toInt64 := ⟨_, rfl⟩
    refine lv_i2l (v := v11) hx hb dX11_sunday_21 e11.symm ?_
    refine lv_ldc2 (v := 625) hx hb cx.1.2.2.2.1 (cx.1.2.2.2.2 _ kJ_X11_sunday_210) dX11_sunday_22 ?_
    refine lv_iload_n hx hb dX11_sunday_25 rfl (lv_at hl 3 rfl) ?_
    refine g_lr (g_runS (wc := []) (rest := []) cx hP hD hS [] rfl (by decide) [.long v11, .long 625, .int p2] (c_X11_told l D k b H.size v11 625 p2) gX11_sunday_X11_told rfl rfl rfl nd_X11_told ⟨Nat.le_of_ble_eq_true rfl, Nat.le_of_ble_eq_true rfl⟩ rfl hl.1 rfl (Nat.le_of_ble_eq_true rfl) ⟨Nat.zero_le _, Nat.zero_le _⟩ dX11_sunday_26) cx.2.2.1 hP hD hS [] rfl rfl (fun r13 H locs hw12 hP hS => ?_)
    clear hw12
    rw [hQ]
    exact x_l cx hr () hP hD hS trivial dX11_sunday_29
  · have f8 : r2.toInt = 0 := f_eq rfl (by decide) c8
    refine lv_ldc2 (v := (-2)) hx hb cx.1.2.2.2.1 (cx.1.2.2.2.2 _ kJ_X11_sunday_205) dX11_sunday_8 ?_
    rw [hQ]
    exact x_l cx hr () hP hD hS trivial dX11_sunday_11
