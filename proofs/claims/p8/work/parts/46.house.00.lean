theorem fw_X4_clear_15 : Cond.fieldLink RX4 15 "StillInAugust$House" "offers" "[I" ∈ wsX4_clear := by decide +kernel
theorem fw_X4_clear_18 : Cond.fieldLink RX4 18 "StillInAugust$House" "goes" "[I" ∈ wsX4_clear := by decide +kernel
theorem fw_X4_clear_21 : Cond.fieldLink RX4 21 "StillInAugust$House" "does" "[I" ∈ wsX4_clear := by decide +kernel
theorem fw_X4_clear_32 : Cond.fieldLink RX4 32 "StillInAugust$House" "weeks" "I" ∈ wsX4_clear := by decide +kernel
theorem fw_X4_clear_36 : Cond.fieldLink RX4 36 "StillInAugust$House" "hooks" "I" ∈ wsX4_clear := by decide +kernel
theorem fw_X4_clear_45 : Cond.fieldLink RX4 45 "StillInAugust$House" "pay" "I" ∈ wsX4_clear := by decide +kernel
theorem fw_X4_clear_48 : Cond.fieldLink RX4 48 "StillInAugust$House" "shortPrice" "I" ∈ wsX4_clear := by decide +kernel
theorem fw_X4_clear_51 : Cond.fieldLink RX4 51 "StillInAugust$House" "letGoPrice" "I" ∈ wsX4_clear := by decide +kernel
theorem fw_X4_clear_54 : Cond.fieldLink RX4 54 "StillInAugust$House" "teachPrice" "I" ∈ wsX4_clear := by decide +kernel
theorem fw_X4_clear_57 : Cond.fieldLink RX4 57 "StillInAugust$House" "agencyPrice" "I" ∈ wsX4_clear := by decide +kernel
theorem fw_X4_clear_60 : Cond.fieldLink RX4 60 "StillInAugust$House" "bonus" "I" ∈ wsX4_clear := by decide +kernel
theorem fw_X4_clear_63 : Cond.fieldLink RX4 63 "StillInAugust$House" "fifthsLess" "I" ∈ wsX4_clear := by decide +kernel
theorem fw_X4_clear_9 : Cond.fieldLink RX4 9 "StillInAugust$House" "wants" "[I" ∈ wsX4_clear := by decide +kernel
theorem nd_J7_fill_53178 : yJ7_fill_53178.cls ≠ "java/lang/invoke/MethodHandle" ∧ yJ7_fill_53178.cls ≠ "java/lang/invoke/VarHandle" ∧ (parseMethodDescriptor yJ7_fill_53178.desc).map (fun d => d.parameters.length) = some 2 := by decide +kernel
theorem iw_X4_clear_X4 : ∀ w ∈ u_ws RX4 TX4 14, w ∈ wsX4_clear := fun _ h => List.mem_cons_of_mem _ (List.mem_append_right _ h)
def J_X4_clear (sh : Nat → Nat → Int32) : Int32 × Int32 × (Nat → Int32) × (Nat → Int32) × (Nat → Int32) × (Nat → Int32) × Int32 × Int32 × Int32 × Int32 × Int32 × Int32 × Int32 := let y9 := J_J7_fill_53178_5 (fun _ => (sh 1)) 0; let y17 := J_J7_fill_53178_5 (fun _ => (sh 2)) 1; let y25 := J_J7_fill_53178_3 (fun _ => (sh 3)) 1; let y33 := J_J7_fill_53178_3 (fun _ => (sh 4)) 4; ((1 : Int32), (2 : Int32), y9, y17, y25, y33, (1 : Int32), (1 : Int32), ((-9) : Int32), ((-9) : Int32), ((-9) : Int32), ((-9) : Int32), (0 : Int32))
set_option maxHeartbeats 4000000 in
set_option maxRecDepth 100000 in
theorem c_X4_clear (l : Launch) (D : va_G) (k : Nat → ClassId) (b : Nat → Nat) (qh : Nat → Nat) (sh : Nat → Nat → Int32) (sz : Nat) (h_of : ∀ j, 0 ≤ (sh 2 j).toInt ∧ (sh 2 j).toInt ≤ 4) (h_go : ∀ j, 0 ≤ (sh 3 j).toInt ∧ (sh 3 j).toInt ≤ 5) : MetV l D k b yX4_clear wsX4_clear ({ frames := 1, cells := 0, slots := 0, locals := 23 } : Room) [cell32_ qh sh, cell0_ k qh sh, cell1_ k qh sh, cell4_ k qh sh, cell3_ k qh sh, cell2_ k qh sh] sz [.ref (qh 0)] (fun (u : Int32 × Int32 × (Nat → Int32) × (Nat → Int32) × (Nat → Int32) × (Nat → Int32) × Int32 × Int32 × Int32 × Int32 × Int32 × Int32 × Int32) => (0 ≤ (u.1).toInt ∧ (u.1).toInt ≤ 5) ∧ (0 ≤ (u.2.1).toInt ∧ (u.2.1).toInt ≤ 4) ∧ (0 ≤ (u.2.2.2.2.2.2.2.2.2.2.2.2).toInt ∧ (u.2.2.2.2.2.2.2.2.2.2.2.2).toInt ≤ 5) ∧ (∀ j, 0 ≤ ((u.2.2.2.1) j).toInt ∧ ((u.2.2.2.1) j).toInt ≤ 4) ∧ (∀ j, 0 ≤ ((u.2.2.2.2.1) j).toInt ∧ ((u.2.2.2.2.1) j).toInt ≤ 5) ∧ (((u.1), (u.2.1), (u.2.2.1), (u.2.2.2.1), (u.2.2.2.2.1), (u.2.2.2.2.2.1), (u.2.2.2.2.2.2.1), (u.2.2.2.2.2.2.2.1), (u.2.2.2.2.2.2.2.2.1), (u.2.2.2.2.2.2.2.2.2.1), (u.2.2.2.2.2.2.2.2.2.2.1), (u.2.2.2.2.2.2.2.2.2.2.2.1), (u.2.2.2.2.2.2.2.2.2.2.2.2)) = J_X4_clear sh)) (fun u => [cell114_ qh (u.1) (u.2.1) (u.2.2.2.2.2.2.1) (u.2.2.2.2.2.2.2.1) (u.2.2.2.2.2.2.2.2.1) (u.2.2.2.2.2.2.2.2.2.1) (u.2.2.2.2.2.2.2.2.2.2.1) (u.2.2.2.2.2.2.2.2.2.2.2.1) (u.2.2.2.2.2.2.2.2.2.2.2.2), cell86_ k qh (u.2.2.1), cell97_ k qh (u.2.2.2.1), cell102_ k qh (u.2.2.2.2.1), cell103_ k qh (u.2.2.2.2.2.1), cell2_ k qh sh]) := by
  refine g_enter (cc := cX4_clear) (maxL := 1) (ret := none) (by decide) rfl (Nat.le_of_ble_eq_true rfl) ?_
  intro p e s m below meth c A hsz hAe cx hr hP hD hS ls hl
  rw [hAe]
  refine g_q (fun Q hQ => ?_)
  have hx := cx.1.1
  have hb := cx.1.2.1
  have hl : lv_has ls 1 [(0, .ref (qh 0))] := hl
  obtain ⟨H, eH⟩ : ∃ H : Heap, H = s.heap := ⟨_, rfl⟩
  obtain ⟨locs, el⟩ : ∃ L : List Loc, L = [] := ⟨_, rfl⟩
  have hP : va_P D vwCl [cell32_ qh sh, cell0_ k qh sh, cell1_ k qh sh, cell4_ k qh sh, cell3_ k qh sh, cell2_ k qh sh] H := by rw [eH]; exact hP
  have hD : va_D A [cell32_ qh sh, cell0_ k qh sh, cell1_ k qh sh, cell4_ k qh sh, cell3_ k qh sh, cell2_ k qh sh] := hD
  have hS : va_S A s.heap H locs := by rw [eH, el]; exact hS
  suffices goal : W p l e ({ frames := 1, cells := 0, slots := 0, locals := 23 } : Room) s m ([.ref (qh 0)] : List Value).toArray below meth c H locs 0 0 Q (F0 m 0 ls []) by rw [eH, el] at goal; exact goal
  refine lv_aload_n hx hb dX4_clear_0 rfl (lv_at hl 0 rfl) ?_
  refine lv_iconst (v := 1) hx hb dX4_clear_1 (by decide) ?_
  refine g_pt cx hP hD hS iw_X4_clear_X4 tyX4 tyX4_ok nmX4 0 rfl rfl 0 (by decide) rfl fw_X4_clear_32 (ty := .int) rfl rfl rfl (Nat.le_of_ble_eq_true rfl) dX4_clear_2 (fun H locs hP hD hS => ?_)
  have hP : va_P D vwCl [cell164_ qh sh 1, cell0_ k qh sh, cell1_ k qh sh, cell4_ k qh sh, cell3_ k qh sh, cell2_ k qh sh] H := hP
  have hD : va_D A [cell164_ qh sh 1, cell0_ k qh sh, cell1_ k qh sh, cell4_ k qh sh, cell3_ k qh sh, cell2_ k qh sh] := hD
  have hlit1 : (1 : Int32).toInt = 1 := by decide
  refine lv_aload_n hx hb dX4_clear_5 rfl (lv_at hl 0 rfl) ?_
  refine lv_iconst (v := 2) hx hb dX4_clear_6 (by decide) ?_
  refine g_pt cx hP hD hS iw_X4_clear_X4 tyX4 tyX4_ok nmX4 0 rfl rfl 1 (by decide) rfl fw_X4_clear_36 (ty := .int) rfl rfl rfl (Nat.le_of_ble_eq_true rfl) dX4_clear_7 (fun H locs hP hD hS => ?_)
  have hP : va_P D vwCl [cell149_ qh sh 1 2, cell0_ k qh sh, cell1_ k qh sh, cell4_ k qh sh, cell3_ k qh sh, cell2_ k qh sh] H := hP
  have hD : va_D A [cell149_ qh sh 1 2, cell0_ k qh sh, cell1_ k qh sh, cell4_ k qh sh, cell3_ k qh sh, cell2_ k qh sh] := hD
  have hlit2 : (2 : Int32).toInt = 2 := by decide
  refine lv_aload_n hx hb dX4_clear_10 rfl (lv_at hl 0 rfl) ?_
  refine g_get cx hP iw_X4_clear_X4 0 rfl rfl 2 (by decide) rfl fw_X4_clear_9 rfl dX4_clear_11 ?_
  refine lv_iconst (v := 0) hx hb dX4_clear_14 (by decide) ?_
  have hlit3 : (0 : Int32).toInt = 0 := by decide
  refine g_v (w1 := fun (u : (Nat → Int32)) => [(qh 1, .inl (k 0, 5, .inl u))]) (g_runS (wc := [cell0_ k qh sh]) (rest := []) cx hP hD hS [1] rfl (by decide) [.ref (qh 1), .int 0] (c_J7_fill_53178_5 l D k b (fun _ => qh 1) (fun _ => (sh 1)) H.size 0) gX4_clear_J7_fill_53178 rfl rfl rfl nd_J7_fill_53178 ⟨Nat.le_of_ble_eq_true rfl, Nat.le_of_ble_eq_true rfl⟩ rfl hl.1 rfl (Nat.le_of_ble_eq_true rfl) ⟨Nat.zero_le _, Nat.zero_le _⟩ dX4_clear_15) cx.2.2.1 hP hD hS [1] rfl (fun _ => rfl) (fun u5 H locs hw4 hP hD hS => ?_)
  obtain ⟨m6, rfl⟩ : ∃ z, z = u5 := ⟨_, rfl⟩
  have hP : va_P D vwCl [cell149_ qh sh 1 2, (qh 1, .inl (k 0, 5, .inl m6)), cell1_ k qh sh, cell4_ k qh sh, cell3_ k qh sh, cell2_ k qh sh] H := hP
  have hD : va_D A [cell149_ qh sh 1 2, (qh 1, .inl (k 0, 5, .inl m6)), cell1_ k qh sh, cell4_ k qh sh, cell3_ k qh sh, cell2_ k qh sh] := hD
  replace hw4 : (m6 = fillI 5 (0 : Int32) (sh 1)) ∧ (m6 = J_J7_fill_53178_5 (fun _ => (sh 1)) (0 : Int32)) := hw4
  obtain ⟨w7, w8⟩ := hw4
  have k10 : m6 = (J_J7_fill_53178_5 (fun _ => (sh 1)) (0 : Int32)) := congrArg (fun z => z) w8
  refine lv_aload_n hx hb dX4_clear_18 rfl (lv_at hl 0 rfl) ?_
  refine g_get cx hP iw_X4_clear_X4 0 rfl rfl 3 (by decide) rfl fw_X4_clear_15 rfl dX4_clear_19 ?_
  refine lv_iconst (v := 1) hx hb dX4_clear_22 (by decide) ?_
  have hlit11 : (1 : Int32).toInt = 1 := by decide
  refine g_v (w1 := fun (u : (Nat → Int32)) => [(qh 2, .inl (k 0, 5, .inl u))]) (g_runS (wc := [cell1_ k qh sh]) (rest := []) cx hP hD hS [2] rfl (by decide) [.ref (qh 2), .int 1] (c_J7_fill_53178_5 l D k b (fun _ => qh 2) (fun _ => (sh 2)) H.size 1) gX4_clear_J7_fill_53178 rfl rfl rfl nd_J7_fill_53178 ⟨Nat.le_of_ble_eq_true rfl, Nat.le_of_ble_eq_true rfl⟩ rfl hl.1 rfl (Nat.le_of_ble_eq_true rfl) ⟨Nat.zero_le _, Nat.zero_le _⟩ dX4_clear_23) cx.2.2.1 hP hD hS [2] rfl (fun _ => rfl) (fun u13 H locs hw12 hP hD hS => ?_)
  obtain ⟨m14, rfl⟩ : ∃ z, z = u13 := ⟨_, rfl⟩
  have hP : va_P D vwCl [cell149_ qh sh 1 2, (qh 1, .inl (k 0, 5, .inl m6)), (qh 2, .inl (k 0, 5, .inl m14)), cell4_ k qh sh, cell3_ k qh sh, cell2_ k qh sh] H := hP
  have hD : va_D A [cell149_ qh sh 1 2, (qh 1, .inl (k 0, 5, .inl m6)), (qh 2, .inl (k 0, 5, .inl m14)), cell4_ k qh sh, cell3_ k qh sh, cell2_ k qh sh] := hD
  replace hw12 : (m14 = fillI 5 (1 : Int32) (sh 2)) ∧ (m14 = J_J7_fill_53178_5 (fun _ => (sh 2)) (1 : Int32)) := hw12
  obtain ⟨w15, w16⟩ := hw12
  have k18 : m14 = (J_J7_fill_53178_5 (fun _ => (sh 2)) (1 : Int32)) := congrArg (fun z => z) w16
  have afw15 := fillI_all w15 h_of ⟨by decide, by decide⟩
  refine lv_aload_n hx hb dX4_clear_26 rfl (lv_at hl 0 rfl) ?_
  refine g_get cx hP iw_X4_clear_X4 0 rfl rfl 4 (by decide) rfl fw_X4_clear_18 rfl dX4_clear_27 ?_
  refine lv_iconst (v := 1) hx hb dX4_clear_30 (by decide) ?_
  have hlit19 : (1 : Int32).toInt = 1 := by decide
  refine g_v (w1 := fun (u : (Nat → Int32)) => [(qh 3, .inl (k 0, 3, .inl u))]) (g_runS (wc := [cell4_ k qh sh]) (rest := []) cx hP hD hS [3] rfl (by decide) [.ref (qh 3), .int 1] (c_J7_fill_53178_3 l D k b (fun _ => qh 3) (fun _ => (sh 3)) H.size 1) gX4_clear_J7_fill_53178 rfl rfl rfl nd_J7_fill_53178 ⟨Nat.le_of_ble_eq_true rfl, Nat.le_of_ble_eq_true rfl⟩ rfl hl.1 rfl (Nat.le_of_ble_eq_true rfl) ⟨Nat.zero_le _, Nat.zero_le _⟩ dX4_clear_31) cx.2.2.1 hP hD hS [3] rfl (fun _ => rfl) (fun u21 H locs hw20 hP hD hS => ?_)
  obtain ⟨m22, rfl⟩ : ∃ z, z = u21 := ⟨_, rfl⟩
  have hP : va_P D vwCl [cell149_ qh sh 1 2, (qh 1, .inl (k 0, 5, .inl m6)), (qh 2, .inl (k 0, 5, .inl m14)), (qh 3, .inl (k 0, 3, .inl m22)), cell3_ k qh sh, cell2_ k qh sh] H := hP
  have hD : va_D A [cell149_ qh sh 1 2, (qh 1, .inl (k 0, 5, .inl m6)), (qh 2, .inl (k 0, 5, .inl m14)), (qh 3, .inl (k 0, 3, .inl m22)), cell3_ k qh sh, cell2_ k qh sh] := hD
  replace hw20 : (m22 = fillI 3 (1 : Int32) (sh 3)) ∧ (m22 = J_J7_fill_53178_3 (fun _ => (sh 3)) (1 : Int32)) := hw20
  obtain ⟨w23, w24⟩ := hw20
  have k26 : m22 = (J_J7_fill_53178_3 (fun _ => (sh 3)) (1 : Int32)) := congrArg (fun z => z) w24
  have afw23 := fillI_all w23 h_go ⟨by decide, by decide⟩
  refine lv_aload_n hx hb dX4_clear_34 rfl (lv_at hl 0 rfl) ?_
  refine g_get cx hP iw_X4_clear_X4 0 rfl rfl 5 (by decide) rfl fw_X4_clear_21 rfl dX4_clear_35 ?_
  refine lv_iconst (v := 4) hx hb dX4_clear_38 (by decide) ?_
  have hlit27 : (4 : Int32).toInt = 4 := by decide
  refine g_v (w1 := fun (u : (Nat → Int32)) => [(qh 4, .inl (k 0, 3, .inl u))]) (g_runS (wc := [cell3_ k qh sh]) (rest := []) cx hP hD hS [4] rfl (by decide) [.ref (qh 4), .int 4] (c_J7_fill_53178_3 l D k b (fun _ => qh 4) (fun _ => (sh 4)) H.size 4) gX4_clear_J7_fill_53178 rfl rfl rfl nd_J7_fill_53178 ⟨Nat.le_of_ble_eq_true rfl, Nat.le_of_ble_eq_true rfl⟩ rfl hl.1 rfl (Nat.le_of_ble_eq_true rfl) ⟨Nat.zero_le _, Nat.zero_le _⟩ dX4_clear_39) cx.2.2.1 hP hD hS [4] rfl (fun _ => rfl) (fun u29 H locs hw28 hP hD hS => ?_)
  obtain ⟨m30, rfl⟩ : ∃ z, z = u29 := ⟨_, rfl⟩
  have hP : va_P D vwCl [cell149_ qh sh 1 2, (qh 1, .inl (k 0, 5, .inl m6)), (qh 2, .inl (k 0, 5, .inl m14)), (qh 3, .inl (k 0, 3, .inl m22)), (qh 4, .inl (k 0, 3, .inl m30)), cell2_ k qh sh] H := hP
  have hD : va_D A [cell149_ qh sh 1 2, (qh 1, .inl (k 0, 5, .inl m6)), (qh 2, .inl (k 0, 5, .inl m14)), (qh 3, .inl (k 0, 3, .inl m22)), (qh 4, .inl (k 0, 3, .inl m30)), cell2_ k qh sh] := hD
  replace hw28 : (m30 = fillI 3 (4 : Int32) (sh 4)) ∧ (m30 = J_J7_fill_53178_3 (fun _ => (sh 4)) (4 : Int32)) := hw28
  obtain ⟨w31, w32⟩ := hw28
  have k34 : m30 = (J_J7_fill_53178_3 (fun _ => (sh 4)) (4 : Int32)) := congrArg (fun z => z) w32
  refine lv_aload_n hx hb dX4_clear_42 rfl (lv_at hl 0 rfl) ?_
  refine lv_iconst (v := 1) hx hb dX4_clear_43 (by decide) ?_
  refine g_pt cx hP hD hS iw_X4_clear_X4 tyX4 tyX4_ok nmX4 0 rfl rfl 6 (by decide) rfl fw_X4_clear_45 (ty := .int) rfl rfl rfl (Nat.le_of_ble_eq_true rfl) dX4_clear_44 (fun H locs hP hD hS => ?_)
  have hP : va_P D vwCl [(qh 0, .inr (2, [.int 1, .int 2, .ref (qh 1), .ref (qh 2), .ref (qh 3), .ref (qh 4), .int 1, .int (sh 0 7), .int (sh 0 8), .int (sh 0 9), .int (sh 0 10), .int (sh 0 11), .int (sh 0 12), .ref (qh 5)])), (qh 1, .inl (k 0, 5, .inl m6)), (qh 2, .inl (k 0, 5, .inl m14)), (qh 3, .inl (k 0, 3, .inl m22)), (qh 4, .inl (k 0, 3, .inl m30)), cell2_ k qh sh] H := hP
  have hD : va_D A [(qh 0, .inr (2, [.int 1, .int 2, .ref (qh 1), .ref (qh 2), .ref (qh 3), .ref (qh 4), .int 1, .int (sh 0 7), .int (sh 0 8), .int (sh 0 9), .int (sh 0 10), .int (sh 0 11), .int (sh 0 12), .ref (qh 5)])), (qh 1, .inl (k 0, 5, .inl m6)), (qh 2, .inl (k 0, 5, .inl m14)), (qh 3, .inl (k 0, 3, .inl m22)), (qh 4, .inl (k 0, 3, .inl m30)), cell2_ k qh sh] := hD
  have hlit35 : (1 : Int32).toInt = 1 := by decide
  refine lv_aload_n hx hb dX4_clear_47 rfl (lv_at hl 0 rfl) ?_
  refine lv_iconst (v := 1) hx hb dX4_clear_48 (by decide) ?_
  refine g_pt cx hP hD hS iw_X4_clear_X4 tyX4 tyX4_ok nmX4 0 rfl rfl 7 (by decide) rfl fw_X4_clear_48 (ty := .int) rfl rfl rfl (Nat.le_of_ble_eq_true rfl) dX4_clear_49 (fun H locs hP hD hS => ?_)
  have hP : va_P D vwCl [(qh 0, .inr (2, [.int 1, .int 2, .ref (qh 1), .ref (qh 2), .ref (qh 3), .ref (qh 4), .int 1, .int 1, .int (sh 0 8), .int (sh 0 9), .int (sh 0 10), .int (sh 0 11), .int (sh 0 12), .ref (qh 5)])), (qh 1, .inl (k 0, 5, .inl m6)), (qh 2, .inl (k 0, 5, .inl m14)), (qh 3, .inl (k 0, 3, .inl m22)), (qh 4, .inl (k 0, 3, .inl m30)), cell2_ k qh sh] H := hP
  have hD : va_D A [(qh 0, .inr (2, [.int 1, .int 2, .ref (qh 1), .ref (qh 2), .ref (qh 3), .ref (qh 4), .int 1, .int 1, .int (sh 0 8), .int (sh 0 9), .int (sh 0 10), .int (sh 0 11), .int (sh 0 12), .ref (qh 5)])), (qh 1, .inl (k 0, 5, .inl m6)), (qh 2, .inl (k 0, 5, .inl m14)), (qh 3, .inl (k 0, 3, .inl m22)), (qh 4, .inl (k 0, 3, .inl m30)), cell2_ k qh sh] := hD
  have hlit36 : (1 : Int32).toInt = 1 := by decide
  refine lv_aload_n hx hb dX4_clear_52 rfl (lv_at hl 0 rfl) ?_
  refine lv_bipush (v := (-9)) hx hb dX4_clear_53 (by decide) ?_
  refine g_pt cx hP hD hS iw_X4_clear_X4 tyX4 tyX4_ok nmX4 0 rfl rfl 8 (by decide) rfl fw_X4_clear_51 (ty := .int) rfl rfl rfl (Nat.le_of_ble_eq_true rfl) dX4_clear_55 (fun H locs hP hD hS => ?_)
  have hP : va_P D vwCl [(qh 0, .inr (2, [.int 1, .int 2, .ref (qh 1), .ref (qh 2), .ref (qh 3), .ref (qh 4), .int 1, .int 1, .int (-9), .int (sh 0 9), .int (sh 0 10), .int (sh 0 11), .int (sh 0 12), .ref (qh 5)])), (qh 1, .inl (k 0, 5, .inl m6)), (qh 2, .inl (k 0, 5, .inl m14)), (qh 3, .inl (k 0, 3, .inl m22)), (qh 4, .inl (k 0, 3, .inl m30)), cell2_ k qh sh] H := hP
  have hD : va_D A [(qh 0, .inr (2, [.int 1, .int 2, .ref (qh 1), .ref (qh 2), .ref (qh 3), .ref (qh 4), .int 1, .int 1, .int (-9), .int (sh 0 9), .int (sh 0 10), .int (sh 0 11), .int (sh 0 12), .ref (qh 5)])), (qh 1, .inl (k 0, 5, .inl m6)), (qh 2, .inl (k 0, 5, .inl m14)), (qh 3, .inl (k 0, 3, .inl m22)), (qh 4, .inl (k 0, 3, .inl m30)), cell2_ k qh sh] := hD
  have hlit37 : ((-9) : Int32).toInt = -9 := by decide
  refine lv_aload_n hx hb dX4_clear_58 rfl (lv_at hl 0 rfl) ?_
  refine lv_bipush (v := (-9)) hx hb dX4_clear_59 (by decide) ?_
  refine g_pt cx hP hD hS iw_X4_clear_X4 tyX4 tyX4_ok nmX4 0 rfl rfl 9 (by decide) rfl fw_X4_clear_54 (ty := .int) rfl rfl rfl (Nat.le_of_ble_eq_true rfl) dX4_clear_61 (fun H locs hP hD hS => ?_)
  have hP : va_P D vwCl [(qh 0, .inr (2, [.int 1, .int 2, .ref (qh 1), .ref (qh 2), .ref (qh 3), .ref (qh 4), .int 1, .int 1, .int (-9), .int (-9), .int (sh 0 10), .int (sh 0 11), .int (sh 0 12), .ref (qh 5)])), (qh 1, .inl (k 0, 5, .inl m6)), (qh 2, .inl (k 0, 5, .inl m14)), (qh 3, .inl (k 0, 3, .inl m22)), (qh 4, .inl (k 0, 3, .inl m30)), cell2_ k qh sh] H := hP
  have hD : va_D A [(qh 0, .inr (2, [.int 1, .int 2, .ref (qh 1), .ref (qh 2), .ref (qh 3), .ref (qh 4), .int 1, .int 1, .int (-9), .int (-9), .int (sh 0 10), .int (sh 0 11), .int (sh 0 12), .ref (qh 5)])), (qh 1, .inl (k 0, 5, .inl m6)), (qh 2, .inl (k 0, 5, .inl m14)), (qh 3, .inl (k 0, 3, .inl m22)), (qh 4, .inl (k 0, 3, .inl m30)), cell2_ k qh sh] := hD
  have hlit38 : ((-9) : Int32).toInt = -9 := by decide
  refine lv_aload_n hx hb dX4_clear_64 rfl (lv_at hl 0 rfl) ?_
  refine lv_bipush (v := (-9)) hx hb dX4_clear_65 (by decide) ?_
  refine g_pt cx hP hD hS iw_X4_clear_X4 tyX4 tyX4_ok nmX4 0 rfl rfl 10 (by decide) rfl fw_X4_clear_57 (ty := .int) rfl rfl rfl (Nat.le_of_ble_eq_true rfl) dX4_clear_67 (fun H locs hP hD hS => ?_)
  have hP : va_P D vwCl [(qh 0, .inr (2, [.int 1, .int 2, .ref (qh 1), .ref (qh 2), .ref (qh 3), .ref (qh 4), .int 1, .int 1, .int (-9), .int (-9), .int (-9), .int (sh 0 11), .int (sh 0 12), .ref (qh 5)])), (qh 1, .inl (k 0, 5, .inl m6)), (qh 2, .inl (k 0, 5, .inl m14)), (qh 3, .inl (k 0, 3, .inl m22)), (qh 4, .inl (k 0, 3, .inl m30)), cell2_ k qh sh] H := hP
  have hD : va_D A [(qh 0, .inr (2, [.int 1, .int 2, .ref (qh 1), .ref (qh 2), .ref (qh 3), .ref (qh 4), .int 1, .int 1, .int (-9), .int (-9), .int (-9), .int (sh 0 11), .int (sh 0 12), .ref (qh 5)])), (qh 1, .inl (k 0, 5, .inl m6)), (qh 2, .inl (k 0, 5, .inl m14)), (qh 3, .inl (k 0, 3, .inl m22)), (qh 4, .inl (k 0, 3, .inl m30)), cell2_ k qh sh] := hD
  have hlit39 : ((-9) : Int32).toInt = -9 := by decide
  refine lv_aload_n hx hb dX4_clear_70 rfl (lv_at hl 0 rfl) ?_
  refine lv_bipush (v := (-9)) hx hb dX4_clear_71 (by decide) ?_
  refine g_pt cx hP hD hS iw_X4_clear_X4 tyX4 tyX4_ok nmX4 0 rfl rfl 11 (by decide) rfl fw_X4_clear_60 (ty := .int) rfl rfl rfl (Nat.le_of_ble_eq_true rfl) dX4_clear_73 (fun H locs hP hD hS => ?_)
  have hP : va_P D vwCl [(qh 0, .inr (2, [.int 1, .int 2, .ref (qh 1), .ref (qh 2), .ref (qh 3), .ref (qh 4), .int 1, .int 1, .int (-9), .int (-9), .int (-9), .int (-9), .int (sh 0 12), .ref (qh 5)])), (qh 1, .inl (k 0, 5, .inl m6)), (qh 2, .inl (k 0, 5, .inl m14)), (qh 3, .inl (k 0, 3, .inl m22)), (qh 4, .inl (k 0, 3, .inl m30)), cell2_ k qh sh] H := hP
  have hD : va_D A [(qh 0, .inr (2, [.int 1, .int 2, .ref (qh 1), .ref (qh 2), .ref (qh 3), .ref (qh 4), .int 1, .int 1, .int (-9), .int (-9), .int (-9), .int (-9), .int (sh 0 12), .ref (qh 5)])), (qh 1, .inl (k 0, 5, .inl m6)), (qh 2, .inl (k 0, 5, .inl m14)), (qh 3, .inl (k 0, 3, .inl m22)), (qh 4, .inl (k 0, 3, .inl m30)), cell2_ k qh sh] := hD
  have hlit40 : ((-9) : Int32).toInt = -9 := by decide
  refine lv_aload_n hx hb dX4_clear_76 rfl (lv_at hl 0 rfl) ?_
  refine lv_iconst (v := 0) hx hb dX4_clear_77 (by decide) ?_
  refine g_pt cx hP hD hS iw_X4_clear_X4 tyX4 tyX4_ok nmX4 0 rfl rfl 12 (by decide) rfl fw_X4_clear_63 (ty := .int) rfl rfl rfl (Nat.le_of_ble_eq_true rfl) dX4_clear_78 (fun H locs hP hD hS => ?_)
  have hP : va_P D vwCl [cell114_ qh 1 2 1 1 (-9) (-9) (-9) (-9) 0, (qh 1, .inl (k 0, 5, .inl m6)), (qh 2, .inl (k 0, 5, .inl m14)), (qh 3, .inl (k 0, 3, .inl m22)), (qh 4, .inl (k 0, 3, .inl m30)), cell2_ k qh sh] H := hP
  have hD : va_D A [cell114_ qh 1 2 1 1 (-9) (-9) (-9) (-9) 0, (qh 1, .inl (k 0, 5, .inl m6)), (qh 2, .inl (k 0, 5, .inl m14)), (qh 3, .inl (k 0, 3, .inl m22)), (qh 4, .inl (k 0, 3, .inl m30)), cell2_ k qh sh] := hD
  have hlit41 : (0 : Int32).toInt = 0 := by decide
  have hlit42 : (1 : Int32).toInt = 1 := by decide
  have hlit43 : (2 : Int32).toInt = 2 := by decide
  have hlit44 : (1 : Int32).toInt = 1 := by decide
  have hlit45 : (1 : Int32).toInt = 1 := by decide
  have hlit46 : ((-9) : Int32).toInt = -9 := by decide
  have hlit47 : ((-9) : Int32).toInt = -9 := by decide
  have hlit48 : ((-9) : Int32).toInt = -9 := by decide
  have hlit49 : ((-9) : Int32).toInt = -9 := by decide
  have hlit50 : (0 : Int32).toInt = 0 := by decide
  rw [hQ]
  exact x_v cx hr (1, 2, m6, m14, m22, m30, 1, 1, (-9), (-9), (-9), (-9), 0) hP hD hS ⟨(show 0 ≤ (1 : Int32).toInt ∧ (1 : Int32).toInt ≤ 5 from by omega), (show 0 ≤ (2 : Int32).toInt ∧ (2 : Int32).toInt ≤ 4 from by omega), (show 0 ≤ (0 : Int32).toInt ∧ (0 : Int32).toInt ≤ 5 from by omega), afw15, afw23, (show ((1 : Int32), (2 : Int32), m6, m14, m22, m30, (1 : Int32), (1 : Int32), ((-9) : Int32), ((-9) : Int32), ((-9) : Int32), ((-9) : Int32), (0 : Int32)) = J_X4_clear sh from by subst k10 k18 k26 k34; rfl)⟩ dX4_clear_81
