theorem fw_X11_goInto_39 : Cond.fieldLink RX11 39 "StillInAugust" "house" "LStillInAugust$House;" ∈ wsX11_goInto := by decide +kernel
theorem fw_X11_goInto_52 : Cond.fieldLink RX11 52 "StillInAugust" "course" "LStillInAugust$Course;" ∈ wsX11_goInto := by decide +kernel
theorem nd_X11_goAheadOf : yX11_goAheadOf.cls = RX11 ∧ yX11_goAheadOf.cls ≠ "java/lang/invoke/MethodHandle" ∧ yX11_goAheadOf.cls ≠ "java/lang/invoke/VarHandle" ∧ (parseMethodDescriptor yX11_goAheadOf.desc).map (fun d => d.parameters.length) = some 2 := by decide +kernel
theorem iw_X11_goInto_X11 : ∀ w ∈ u_ws RX11 TX11 17, w ∈ wsX11_goInto := fun _ h => List.mem_cons_of_mem _ (List.mem_append_left _ (List.mem_append_left _ (List.mem_append_right _ h)))
set_option maxHeartbeats 4000000 in
set_option maxRecDepth 100000 in
theorem c_X11_goInto (l : Launch) (D : va_G) (k : Nat → ClassId) (b : Nat → Nat) (qx : Nat → Nat) (sx : Nat → Nat → Int32) (qh : Nat → Nat) (sh : Nat → Nat → Int32) (qco : Nat → Nat) (sco : Nat → Nat → Int32) (tco : Nat → Nat → Int64) (sz : Nat) (p0 : Int32) (p1 : Int32) (h_wk : 0 ≤ (sh 0 0).toInt ∧ (sh 0 0).toInt ≤ 5) (h_hk : 0 ≤ (sh 0 1).toInt ∧ (sh 0 1).toInt ≤ 4) (h_fl : 0 ≤ (sh 0 12).toInt ∧ (sh 0 12).toInt ≤ 5) (h_of : ∀ j, 0 ≤ (sh 2 j).toInt ∧ (sh 2 j).toInt ≤ 4) (h_go : ∀ j, 0 ≤ (sh 3 j).toInt ∧ (sh 3 j).toInt ≤ 5) (h_su : SUok (sh 5)) (hp0 : 0 ≤ p0.toInt ∧ p0.toInt ≤ 2) (hp1 : 0 ≤ p1.toInt ∧ p1.toInt ≤ 4) : MetV l D k b yX11_goInto wsX11_goInto ({ frames := 5, cells := 0, slots := 0, locals := 128 } : Room) [cell30_ qx sx, cell28_ k qx sx, cell29_ k qx sx, cell31_ qx sh qh, cell0_ k qh sh, cell1_ k qh sh, cell4_ k qh sh, cell3_ k qh sh, cell2_ k qh sh, cell47_ qx qco tco, cell35_ k qco tco, cell34_ k qco tco] sz [.ref (qx 0), .int p0, .int p1] (fun (u : (Nat → Int64) × (Nat → Int64) × Int64 × Int64 × Int64 × Int64) => True) (fun u => [cell30_ qx sx, cell28_ k qx sx, cell29_ k qx sx, cell31_ qx sh qh, cell0_ k qh sh, cell1_ k qh sh, cell4_ k qh sh, cell3_ k qh sh, cell2_ k qh sh, cell57_ qx qco (u.2.2.1) (u.2.2.2.1) (u.2.2.2.2.1) (u.2.2.2.2.2), cell98_ k qco (u.1), cell99_ k qco (u.2.1)]) := by
  refine g_enter (cc := cX11_goInto) (maxL := 3) (ret := none) (by decide) rfl (Nat.le_of_ble_eq_true rfl) ?_
  intro p e s m below meth c A hsz hAe cx hr hP hD hS ls hl
  rw [hAe]
  refine g_q (fun Q hQ => ?_)
  have hx := cx.1.1
  have hb := cx.1.2.1
  have bp0 := i_rng p0
  have bp1 := i_rng p1
  have hl : lv_has ls 3 [(0, .ref (qx 0)), (1, .int p0), (2, .int p1)] := hl
  obtain ⟨H, eH⟩ : ∃ H : Heap, H = s.heap := ⟨_, rfl⟩
  obtain ⟨locs, el⟩ : ∃ L : List Loc, L = [] := ⟨_, rfl⟩
  have hP : va_P D vwCl [cell30_ qx sx, cell28_ k qx sx, cell29_ k qx sx, cell31_ qx sh qh, cell0_ k qh sh, cell1_ k qh sh, cell4_ k qh sh, cell3_ k qh sh, cell2_ k qh sh, cell47_ qx qco tco, cell35_ k qco tco, cell34_ k qco tco] H := by rw [eH]; exact hP
  have hD : va_D A [cell30_ qx sx, cell28_ k qx sx, cell29_ k qx sx, cell31_ qx sh qh, cell0_ k qh sh, cell1_ k qh sh, cell4_ k qh sh, cell3_ k qh sh, cell2_ k qh sh, cell47_ qx qco tco, cell35_ k qco tco, cell34_ k qco tco] := hD
  have hS : va_S A s.heap H locs := by rw [eH, el]; exact hS
  suffices goal : W p l e ({ frames := 5, cells := 0, slots := 0, locals := 128 } : Room) s m ([.ref (qx 0), .int p0, .int p1] : List Value).toArray below meth c H locs 0 0 Q (F0 m 0 ls []) by rw [eH, el] at goal; exact goal
  refine lv_aload_n hx hb dX11_goInto_0 rfl (lv_at hl 0 rfl) ?_
  refine lv_iload_n hx hb dX11_goInto_1 rfl (lv_at hl 1 rfl) ?_
  refine lv_iload_n hx hb dX11_goInto_2 rfl (lv_at hl 2 rfl) ?_
  refine g_vF (w1 := fun (u : (Nat → Int64) × (Nat → Int64) × Int64 × Int64 × Int64 × Int64) => [cell30_ qx sx, cell28_ k qx sx, cell29_ k qx sx, cell31_ qx sh qh, cell0_ k qh sh, cell1_ k qh sh, cell4_ k qh sh, cell3_ k qh sh, cell2_ k qh sh, cell57_ qx qco (u.2.2.1) (u.2.2.2.1) (u.2.2.2.2.1) (u.2.2.2.2.2), cell98_ k qco (u.1), cell99_ k qco (u.2.1)]) (g_runVF (ws := [cell30_ qx sx, cell28_ k qx sx, cell29_ k qx sx, cell31_ qx sh qh, cell0_ k qh sh, cell1_ k qh sh, cell4_ k qh sh, cell3_ k qh sh, cell2_ k qh sh, cell47_ qx qco tco, cell35_ k qco tco, cell34_ k qco tco]) (rest := []) cx hP hD hS [.int p0, .int p1] (c_X11_goAheadOf l D k b qx sx (lq [0, qh 1, qh 2, qh 3, qh 4, qh 5]) (lS [(lI [(sh 0 0), (sh 0 1), 0, 0, 0, 0, (sh 0 6), (sh 0 7), (sh 0 8), (sh 0 9), (sh 0 10), (sh 0 11), (sh 0 12)]), (sh 1), (sh 2), (sh 3), (sh 4), (sh 5)]) (lq [0, qco 1, qco 2]) (lS [(lI []), (fun _ => 0), (fun _ => 0)]) (lT [(lJ [0, 0, (tco 0 2), (tco 0 3), (tco 0 4), (tco 0 5)]), (tco 1), (tco 2)]) H.size p0 p1 (show 0 ≤ (sh 0 0).toInt ∧ (sh 0 0).toInt ≤ 5 from by first | decide | omega) (show 0 ≤ (sh 0 1).toInt ∧ (sh 0 1).toInt ≤ 4 from by first | decide | omega) (show 0 ≤ (sh 0 12).toInt ∧ (sh 0 12).toInt ≤ 5 from by first | decide | omega) h_of h_go (show SUok (sh 5) from by assumption) (show 0 ≤ p0.toInt ∧ p0.toInt ≤ 2 from by first | decide | omega) (show 0 ≤ p1.toInt ∧ p1.toInt ≤ 5 from by first | decide | omega)) gX11_goInto_X11_goAheadOf rfl rfl rfl nd_X11_goAheadOf ⟨Nat.le_of_ble_eq_true rfl, Nat.le_of_ble_eq_true rfl⟩ (ci := 9) (q0 := 0) rfl rfl rfl hl.1 rfl (Nat.le_of_ble_eq_true rfl) ⟨Nat.zero_le _, Nat.zero_le _⟩ dX11_goInto_3) cx.2.2.1 hD hS (fun u2 H locs hw1 hP hD hS => ?_)
  obtain ⟨m3, m4, m5, m6, m7, m8⟩ := u2
  have hP : va_P D vwCl [cell30_ qx sx, cell28_ k qx sx, cell29_ k qx sx, cell31_ qx sh qh, cell0_ k qh sh, cell1_ k qh sh, cell4_ k qh sh, cell3_ k qh sh, cell2_ k qh sh, cell57_ qx qco m5 m6 m7 m8, (qco 1, .inl (k 1, 35, .inr (.inl m3))), (qco 2, .inl (k 1, 35, .inr (.inl m4)))] H := hP
  have hD : va_D A [cell30_ qx sx, cell28_ k qx sx, cell29_ k qx sx, cell31_ qx sh qh, cell0_ k qh sh, cell1_ k qh sh, cell4_ k qh sh, cell3_ k qh sh, cell2_ k qh sh, cell57_ qx qco m5 m6 m7 m8, (qco 1, .inl (k 1, 35, .inr (.inl m3))), (qco 2, .inl (k 1, 35, .inr (.inl m4)))] := hD
  have w9 : CUok m3 (sh 0 1).toInt := hw1
  clear hw1
  refine lv_aload_n hx hb dX11_goInto_6 rfl (lv_at hl 0 rfl) ?_
  refine g_get cx hP iw_X11_goInto_X11 0 rfl rfl 7 (by decide) rfl fw_X11_goInto_52 rfl dX11_goInto_7 ?_
  refine lv_aload_n hx hb dX11_goInto_10 rfl (lv_at hl 0 rfl) ?_
  refine g_get cx hP iw_X11_goInto_X11 0 rfl rfl 4 (by decide) rfl fw_X11_goInto_39 rfl dX11_goInto_11 ?_
  refine lv_iload_n hx hb dX11_goInto_14 rfl (lv_at hl 2 rfl) ?_
  refine lv_aload_n hx hb dX11_goInto_15 rfl (lv_at hl 0 rfl) ?_
  refine lv_iload_n hx hb dX11_goInto_16 rfl (lv_at hl 1 rfl) ?_
  refine lv_iload_n hx hb dX11_goInto_17 rfl (lv_at hl 2 rfl) ?_
  refine g_ir (g_runV (wc := [cell30_ qx sx, cell28_ k qx sx, cell29_ k qx sx]) (rest := [.int p1, .ref (qx 7), .ref (qx 9)]) cx hP hD hS [0, 1, 2] rfl (by decide) [.int p0, .int p1] (c_X11_levelBy l D k b qx sx H.size p0 p1 (show 0 ≤ p0.toInt ∧ p0.toInt ≤ 2 from by first | decide | omega) (show 0 ≤ p1.toInt ∧ p1.toInt ≤ 4 from by first | decide | omega)) gX11_goInto_X11_levelBy rfl rfl rfl nd_X11_levelBy ⟨Nat.le_of_ble_eq_true rfl, Nat.le_of_ble_eq_true rfl⟩ (ci := 9) (q0 := 0) rfl rfl rfl hl.1 rfl (Nat.le_of_ble_eq_true rfl) ⟨Nat.zero_le _, Nat.zero_le _⟩ dX11_goInto_18) cx.2.2.1 hP hD hS [0, 1, 2] rfl rfl (fun r11 H locs hw10 hP hS => ?_)
  have w12 : r11 = J_X11_levelBy sx p0 p1 := hw10
  clear hw10
  have k14 : r11 = (J_X11_levelBy sx p0 p1) := congrArg (fun z => z) w12
  refine lv_iconst (v := 0) hx hb dX11_goInto_21 (by decide) ?_
  have hlit15 : (0 : Int32).toInt = 0 := by decide
  refine g_v (w1 := fun (u : (Nat → Int64) × Int64 × Int64 × Int64) => [cell57_ qx qco m5 (u.2.1) (u.2.2.1) (u.2.2.2), (qco 1, .inl (k 1, 35, .inr (.inl m3))), cell99_ k qco (u.1), cell31_ qx sh qh, cell0_ k qh sh, cell1_ k qh sh, cell4_ k qh sh, cell3_ k qh sh, cell2_ k qh sh]) (g_runV (wc := [cell57_ qx qco m5 m6 m7 m8, (qco 1, .inl (k 1, 35, .inr (.inl m3))), (qco 2, .inl (k 1, 35, .inr (.inl m4))), cell31_ qx sh qh, cell0_ k qh sh, cell1_ k qh sh, cell4_ k qh sh, cell3_ k qh sh, cell2_ k qh sh]) (rest := []) cx hP hD hS [9, 10, 11, 3, 4, 5, 6, 7, 8] rfl (by decide) [.ref (qx 7), .int p1, .int r11, .int 0] (c_X1_passWeek l D k b (lq [qx 9, qco 1, qco 2]) (lS [(lI []), (fun _ => 0), (fun _ => 0)]) (lT [(lJ [0, 0, m5, m6, m7, m8]), m3, m4]) (lq [qx 7, qh 1, qh 2, qh 3, qh 4, qh 5]) (lS [(lI [(sh 0 0), (sh 0 1), 0, 0, 0, 0, (sh 0 6), (sh 0 7), (sh 0 8), (sh 0 9), (sh 0 10), (sh 0 11), (sh 0 12)]), (sh 1), (sh 2), (sh 3), (sh 4), (sh 5)]) H.size p1 r11 0 (show 0 ≤ (sh 0 1).toInt ∧ (sh 0 1).toInt ≤ 4 from by first | decide | omega) h_of (show CUok m3 (sh 0 1).toInt from by assumption) (show 0 ≤ p1.toInt ∧ p1.toInt ≤ 4 from by first | decide | omega)) gX11_goInto_X1_passWeek rfl rfl rfl nd_X1_passWeek ⟨Nat.le_of_ble_eq_true rfl, Nat.le_of_ble_eq_true rfl⟩ (ci := 0) (q0 := 0) rfl rfl rfl hl.1 rfl (Nat.le_of_ble_eq_true rfl) ⟨Nat.zero_le _, Nat.zero_le _⟩ dX11_goInto_22) cx.2.2.1 hP hD hS [9, 10, 11, 3, 4, 5, 6, 7, 8] rfl (fun _ => rfl) (fun u17 H locs hw16 hP hD hS => ?_)
  obtain ⟨m18, m19, m20, m21⟩ := u17
  have hP : va_P D vwCl [cell30_ qx sx, cell28_ k qx sx, cell29_ k qx sx, cell31_ qx sh qh, cell0_ k qh sh, cell1_ k qh sh, cell4_ k qh sh, cell3_ k qh sh, cell2_ k qh sh, cell57_ qx qco m5 m19 m20 m21, (qco 1, .inl (k 1, 35, .inr (.inl m3))), (qco 2, .inl (k 1, 35, .inr (.inl m18)))] H := hP
  have hD : va_D A [cell30_ qx sx, cell28_ k qx sx, cell29_ k qx sx, cell31_ qx sh qh, cell0_ k qh sh, cell1_ k qh sh, cell4_ k qh sh, cell3_ k qh sh, cell2_ k qh sh, cell57_ qx qco m5 m19 m20 m21, (qco 1, .inl (k 1, 35, .inr (.inl m3))), (qco 2, .inl (k 1, 35, .inr (.inl m18)))] := hD
  have w22 : CUok m18 (sh 0 1).toInt := hw16
  clear hw16
  rw [hQ]
  exact x_v cx hr (m3, m18, m5, m19, m20, m21) hP hD hS trivial dX11_goInto_25
