theorem fw_X11_planOnce_119 : Cond.fieldLink RX11 119 "StillInAugust" "planned" "Z" ∈ wsX11_planOnce := by decide +kernel
theorem fw_X11_planOnce_39 : Cond.fieldLink RX11 39 "StillInAugust" "house" "LStillInAugust$House;" ∈ wsX11_planOnce := by decide +kernel
theorem fw_X11_planOnce_59 : Cond.fieldLink RX11 59 "StillInAugust" "plan" "LStillInAugust$Plan;" ∈ wsX11_planOnce := by decide +kernel
theorem nd_X6_solve : yX6_solve.cls = RX6 ∧ yX6_solve.cls ≠ "java/lang/invoke/MethodHandle" ∧ yX6_solve.cls ≠ "java/lang/invoke/VarHandle" ∧ (parseMethodDescriptor yX6_solve.desc).map (fun d => d.parameters.length) = some 1 := by decide +kernel
theorem iw_X11_planOnce_X11 : ∀ w ∈ u_ws RX11 TX11 17, w ∈ wsX11_planOnce := fun _ h => List.mem_cons_of_mem _ (List.mem_append_left _ (List.mem_append_left _ (List.mem_append_right _ h)))
set_option maxHeartbeats 4000000 in
set_option maxRecDepth 100000 in
theorem c_X11_planOnce (l : Launch) (D : va_G) (k : Nat → ClassId) (b : Nat → Nat) (qx : Nat → Nat) (sx : Nat → Nat → Int32) (qh : Nat → Nat) (sh : Nat → Nat → Int32) (qpl : Nat → Nat) (spl : Nat → Nat → Int32) (tpl : Nat → Nat → Int64) (sz : Nat) (h_wk : 0 ≤ (sh 0 0).toInt ∧ (sh 0 0).toInt ≤ 5) (h_hk : 0 ≤ (sh 0 1).toInt ∧ (sh 0 1).toInt ≤ 4) (h_fl : 0 ≤ (sh 0 12).toInt ∧ (sh 0 12).toInt ≤ 5) (h_of : ∀ j, 0 ≤ (sh 2 j).toInt ∧ (sh 2 j).toInt ≤ 4) (h_go : ∀ j, 0 ≤ (sh 3 j).toInt ∧ (sh 3 j).toInt ≤ 5) (h_su : SUok (sh 5)) (h_pl : (sx 0 15).toInt = 0 ∨ (spl 0 0).toInt = (sh 0 0).toInt) : MetV l D k b yX11_planOnce wsX11_planOnce ({ frames := 6, cells := 0, slots := 0, locals := 156 } : Room) [cell30_ qx sx, cell28_ k qx sx, cell29_ k qx sx, cell31_ qx sh qh, cell0_ k qh sh, cell1_ k qh sh, cell4_ k qh sh, cell3_ k qh sh, cell2_ k qh sh, cell42_ qx spl qpl, cell26_ k qpl tpl, cell23_ k qpl spl, cell24_ k qpl tpl, cell25_ k qpl spl] sz [.ref (qx 0)] (fun (u : Int32 × Int32 × (Nat → Int64) × (Nat → Int32) × (Nat → Int64) × (Nat → Int32)) => (u.2.1).toInt = (sh 0 0).toInt) (fun u => [cell75_ qx sx (u.1), cell28_ k qx sx, cell29_ k qx sx, cell31_ qx sh qh, cell0_ k qh sh, cell1_ k qh sh, cell4_ k qh sh, cell3_ k qh sh, cell2_ k qh sh, cell73_ qx qpl (u.2.1), cell108_ k qpl (u.2.2.1), cell109_ k qpl (u.2.2.2.1), cell115_ k qpl (u.2.2.2.2.1), cell116_ k qpl (u.2.2.2.2.2)]) := by
  refine g_enter (cc := cX11_planOnce) (maxL := 1) (ret := none) (by decide) rfl (Nat.le_of_ble_eq_true rfl) ?_
  intro p e s m below meth c A hsz hAe cx hr hP hD hS ls hl
  rw [hAe]
  refine g_q (fun Q hQ => ?_)
  have hx := cx.1.1
  have hb := cx.1.2.1
  have hl : lv_has ls 1 [(0, .ref (qx 0))] := hl
  obtain ⟨H, eH⟩ : ∃ H : Heap, H = s.heap := ⟨_, rfl⟩
  obtain ⟨locs, el⟩ : ∃ L : List Loc, L = [] := ⟨_, rfl⟩
  have hP : va_P D vwCl [cell30_ qx sx, cell28_ k qx sx, cell29_ k qx sx, cell31_ qx sh qh, cell0_ k qh sh, cell1_ k qh sh, cell4_ k qh sh, cell3_ k qh sh, cell2_ k qh sh, cell42_ qx spl qpl, cell26_ k qpl tpl, cell23_ k qpl spl, cell24_ k qpl tpl, cell25_ k qpl spl] H := by rw [eH]; exact hP
  have hD : va_D A [cell30_ qx sx, cell28_ k qx sx, cell29_ k qx sx, cell31_ qx sh qh, cell0_ k qh sh, cell1_ k qh sh, cell4_ k qh sh, cell3_ k qh sh, cell2_ k qh sh, cell42_ qx spl qpl, cell26_ k qpl tpl, cell23_ k qpl spl, cell24_ k qpl tpl, cell25_ k qpl spl] := hD
  have hS : va_S A s.heap H locs := by rw [eH, el]; exact hS
  suffices goal : W p l e ({ frames := 6, cells := 0, slots := 0, locals := 156 } : Room) s m ([.ref (qx 0)] : List Value).toArray below meth c H locs 0 0 Q (F0 m 0 ls []) by rw [eH, el] at goal; exact goal
  refine lv_aload_n hx hb dX11_planOnce_0 rfl (lv_at hl 0 rfl) ?_
  refine g_get cx hP iw_X11_planOnce_X11 0 rfl rfl 15 (by decide) rfl fw_X11_planOnce_119 rfl dX11_planOnce_1 ?_
  refine lv_if_ne (tgt := 23) hx hb dX11_planOnce_4 (by decide) (fun c1 => ?_) (fun c1 => ?_)
  · have f1 : ¬ (sx 0 15).toInt = 0 := f_ne rfl (by decide) c1
    rw [hQ]
    exact x_v cx hr ((sx 0 15), (spl 0 0), (tpl 1), (spl 2), (tpl 3), (spl 4)) hP hD hS (show (spl 0 0).toInt = (sh 0 0).toInt from by omega) dX11_planOnce_23
  · have f1 : (sx 0 15).toInt = 0 := f_eq rfl (by decide) c1
    refine lv_aload_n hx hb dX11_planOnce_7 rfl (lv_at hl 0 rfl) ?_
    refine g_get cx hP iw_X11_planOnce_X11 0 rfl rfl 8 (by decide) rfl fw_X11_planOnce_59 rfl dX11_planOnce_8 ?_
    refine lv_aload_n hx hb dX11_planOnce_11 rfl (lv_at hl 0 rfl) ?_
    refine g_get cx hP iw_X11_planOnce_X11 0 rfl rfl 4 (by decide) rfl fw_X11_planOnce_39 rfl dX11_planOnce_12 ?_
    refine g_v (w1 := fun (u : Int32 × (Nat → Int64) × (Nat → Int32) × (Nat → Int64) × (Nat → Int32)) => [cell73_ qx qpl (u.1), cell108_ k qpl (u.2.1), cell109_ k qpl (u.2.2.1), cell115_ k qpl (u.2.2.2.1), cell116_ k qpl (u.2.2.2.2), cell31_ qx sh qh, cell0_ k qh sh, cell1_ k qh sh, cell4_ k qh sh, cell3_ k qh sh, cell2_ k qh sh]) (g_runV (wc := [cell42_ qx spl qpl, cell26_ k qpl tpl, cell23_ k qpl spl, cell24_ k qpl tpl, cell25_ k qpl spl, cell31_ qx sh qh, cell0_ k qh sh, cell1_ k qh sh, cell4_ k qh sh, cell3_ k qh sh, cell2_ k qh sh]) (rest := []) cx hP hD hS [9, 10, 11, 12, 13, 3, 4, 5, 6, 7, 8] rfl (by decide) [.ref (qx 7)] (c_X6_solve l D k b (lq [qx 10, qpl 1, qpl 2, qpl 3, qpl 4]) (lS [(lI [(spl 0 0)]), (fun _ => 0), (spl 2), (fun _ => 0), (spl 4)]) (lT [(lJ []), (tpl 1), (fun _ => 0), (tpl 3), (fun _ => 0)]) (lq [qx 7, qh 1, qh 2, qh 3, qh 4, qh 5]) (lS [(lI [(sh 0 0), (sh 0 1), 0, 0, 0, 0, (sh 0 6), (sh 0 7), (sh 0 8), (sh 0 9), (sh 0 10), (sh 0 11), (sh 0 12)]), (sh 1), (sh 2), (sh 3), (sh 4), (sh 5)]) H.size (show SUok (sh 5) from by assumption) (show 0 ≤ (sh 0 0).toInt ∧ (sh 0 0).toInt ≤ 5 from by first | decide | omega) (show 0 ≤ (sh 0 1).toInt ∧ (sh 0 1).toInt ≤ 4 from by first | decide | omega) h_of) gX11_planOnce_X6_solve rfl rfl rfl nd_X6_solve ⟨Nat.le_of_ble_eq_true rfl, Nat.le_of_ble_eq_true rfl⟩ (ci := 4) (q0 := 0) rfl rfl rfl hl.1 rfl (Nat.le_of_ble_eq_true rfl) ⟨Nat.zero_le _, Nat.zero_le _⟩ dX11_planOnce_15) cx.2.2.1 hP hD hS [9, 10, 11, 12, 13, 3, 4, 5, 6, 7, 8] rfl (fun _ => rfl) (fun u3 H locs hw2 hP hD hS => ?_)
    obtain ⟨m4, m5, m6, m7, m8⟩ := u3
    have hP : va_P D vwCl [cell30_ qx sx, cell28_ k qx sx, cell29_ k qx sx, cell31_ qx sh qh, cell0_ k qh sh, cell1_ k qh sh, cell4_ k qh sh, cell3_ k qh sh, cell2_ k qh sh, cell73_ qx qpl m4, (qpl 1, .inl (k 1, 630, .inr (.inl m5))), (qpl 2, .inl (k 0, 525, .inl m6)), (qpl 3, .inl (k 1, 35, .inr (.inl m7))), (qpl 4, .inl (k 0, 35, .inl m8))] H := hP
    have hD : va_D A [cell30_ qx sx, cell28_ k qx sx, cell29_ k qx sx, cell31_ qx sh qh, cell0_ k qh sh, cell1_ k qh sh, cell4_ k qh sh, cell3_ k qh sh, cell2_ k qh sh, cell73_ qx qpl m4, (qpl 1, .inl (k 1, 630, .inr (.inl m5))), (qpl 2, .inl (k 0, 525, .inl m6)), (qpl 3, .inl (k 1, 35, .inr (.inl m7))), (qpl 4, .inl (k 0, 35, .inl m8))] := hD
    have w9 : m4.toInt = (sh 0 0).toInt := hw2
    clear hw2
    refine lv_aload_n hx hb dX11_planOnce_18 rfl (lv_at hl 0 rfl) ?_
    refine lv_iconst (v := 1) hx hb dX11_planOnce_19 (by decide) ?_
    refine g_pt cx hP hD hS iw_X11_planOnce_X11 tyX11 tyX11_ok nmX11 0 rfl rfl 15 (by decide) rfl fw_X11_planOnce_119 (ty := .boolean) rfl rfl rfl (Nat.le_of_ble_eq_true rfl) dX11_planOnce_20 (fun H locs hP hD hS => ?_)
    have hP : va_P D vwCl [cell75_ qx sx 1, cell28_ k qx sx, cell29_ k qx sx, cell31_ qx sh qh, cell0_ k qh sh, cell1_ k qh sh, cell4_ k qh sh, cell3_ k qh sh, cell2_ k qh sh, cell73_ qx qpl m4, (qpl 1, .inl (k 1, 630, .inr (.inl m5))), (qpl 2, .inl (k 0, 525, .inl m6)), (qpl 3, .inl (k 1, 35, .inr (.inl m7))), (qpl 4, .inl (k 0, 35, .inl m8))] H := hP
    have hD : va_D A [cell75_ qx sx 1, cell28_ k qx sx, cell29_ k qx sx, cell31_ qx sh qh, cell0_ k qh sh, cell1_ k qh sh, cell4_ k qh sh, cell3_ k qh sh, cell2_ k qh sh, cell73_ qx qpl m4, (qpl 1, .inl (k 1, 630, .inr (.inl m5))), (qpl 2, .inl (k 0, 525, .inl m6)), (qpl 3, .inl (k 1, 35, .inr (.inl m7))), (qpl 4, .inl (k 0, 35, .inl m8))] := hD
    have hlit10 : (1 : Int32).toInt = 1 := by decide
    have hlit11 : (1 : Int32).toInt = 1 := by decide
    rw [hQ]
    exact x_v cx hr (1, m4, m5, m6, m7, m8) hP hD hS (show m4.toInt = (sh 0 0).toInt from by omega) dX11_planOnce_23
