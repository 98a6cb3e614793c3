theorem fw_X4_clear_15 : Cond.fieldLink RX4 15 "StillInAugust$House" "offers" "[I" ∈ wsX4_clear := by decide +kernel
theorem fw_X4_clear_18 : Cond.fieldLink RX4 18 "StillInAugust$House" "goes" "[I" ∈ wsX4_clear := by decide +kernel
theorem fw_X4_clear_21 : Cond.fieldLink RX4 21 "StillInAugust$House" "does" "[I" ∈ wsX4_clear := by decide +kernel
theorem fw_X4_clear_32 : Cond.fieldLink RX4 32 "StillInAugust$House" "weeks" "I" ∈ wsX4_clear := by decide +kernel
theorem fw_X4_clear_36 : Cond.fieldLink RX4 36 "StillInAugust$House" "hooks" "I" ∈ wsX4_clear := by decide +kernel
theorem fw_X4_clear_45 : Cond.fieldLink RX4 45 "StillInAugust$House" "pay" "I" ∈ wsX4_clear := by decide +kernel
theorem fw_X4_clear_48 : Cond.fieldLink RX4 48 "StillInAugust$House" "shortPrice" "I" ∈ wsX4_clear := by decide +kernel
theorem fw_X4_clear_51 : Cond.fieldLink RX4 51 "StillInAugust$House" "letGoPrice" "I" ∈ wsX4_clear := by decide +kernel
theorem fw_X4_clear_54 : Cond.fieldLink RX4 54 "StillInAugust$House" "teachPrice" "I" ∈ wsX4_clear := by decide +kernel
theorem fw_X4_clear_57 : Cond.fieldLink RX4 57 "StillInAugust$House" "agencyPrice" "I" ∈ wsX4_clear := by decide +kernel
theorem fw_X4_clear_60 : Cond.fieldLink RX4 60 "StillInAugust$House" "bonus" "I" ∈ wsX4_clear := by decide +kernel
theorem fw_X4_clear_63 : Cond.fieldLink RX4 63 "StillInAugust$House" "fifthsLess" "I" ∈ wsX4_clear := by decide +kernel
theorem fw_X4_clear_9 : Cond.fieldLink RX4 9 "StillInAugust$House" "wants" "[I" ∈ wsX4_clear := by decide +kernel
theorem nd_J7_fill_53178 : yJ7_fill_53178.cls ≠ "java/lang/invoke/MethodHandle" ∧ yJ7_fill_53178.cls ≠ "java/lang/invoke/VarHandle" ∧ (parseMethodDescriptor yJ7_fill_53178.desc).map (fun d => d.parameters.length) = some 2 := by decide +kernel
theorem iw_X4_clear_X4 : ∀ w ∈ u_ws RX4 TX4 14, w ∈ wsX4_clear := fun _ h => List.mem_cons_of_mem _ (List.mem_append_right _ h)
def J_X4_clear (sh : Nat → Nat → Int32) : Int32 × Int32 × (Nat → Int32) × (Nat → Int32) × (Nat → Int32) × (Nat → Int32) × Int32 × Int32 × Int32 × Int32 × Int32 × Int32 × Int32 := let y9 := J_J7_fill_53178_5 (fun _ => (sh 1)) 0; let y17 := J_J7_fill_53178_5 (fun _ => (sh 2)) 1; let y25 := J_J7_fill_53178_3 (fun _ => (sh 3)) 1; let y33 := J_J7_fill_53178_3 (fun _ => (sh 4)) 4; ((1 : Int32), (2 : Int32), y9, y17, y25, y33, (1 : Int32), (1 : Int32), ((-9) : Int32), ((-9) : Int32), ((-9) : Int32), ((-9) : Int32), (0 : Int32))
set_option maxHeartbeats 4000000 in
set_option maxRecDepth 100000 in
theorem c_X4_clear (l : Launch) (D : va_G) (k : Nat → ClassId) (b : Nat → Nat) (qh : Nat → Nat) (sh : Nat → Nat → Int32) (sz : Nat) (h_of : ∀ j, 0 ≤ (sh 2 j).toInt ∧ (sh 2 j).toInt ≤ 4) (h_go : ∀ j, 0 ≤ (sh 3 j).toInt ∧ (sh 3 j).toInt ≤ 5) : MetV l D k b yX4_clear wsX4_clear ({ frames := 1, cells := 0, slots := 0, locals := 23 } : Room) [cell32_ qh sh, cell0_ k qh sh, cell1_ k qh sh, cell4_ k qh sh, cell3_ k qh sh, cell2_ k qh sh] sz [.ref (qh 0)] (fun (u : Int32 × Int32 × (Nat → Int32) × (Nat → Int32) × (Nat → Int32) × (Nat → Int32) × Int32 × Int32 × Int32 × Int32 × Int32 × Int32 × Int32) => (0 ≤ (u.1).toInt ∧ (u.1).toInt ≤ 5) ∧ (0 ≤ (u.2.1).toInt ∧ (u.2.1).toInt ≤ 4) ∧ (0 ≤ (u.2.2.2.2.2.2.2.2.2.2.2.2).toInt ∧ (u.2.2.2.2.2.2.2.2.2.2.2.2).toInt ≤ 5) ∧ (∀ j, 0 ≤ ((u.2.2.2.1) j).toInt ∧ ((u.2.2.2.1) j).toInt ≤ 4) ∧ (∀ j, 0 ≤ ((u.2.2.2.2.1) j).toInt ∧ ((u.2.2.2.2.1) j).toInt ≤ 5) ∧ (((u.1), (u.2.1), (u.2.2.1), (u.2.2.2.1), (u.2.2.2.2.1), (u.2.2.2.2.2.1), (u.2.2.2.2.2.2.1), (u.2.2.2.2.2.2.2.1), (u.2.2.2.2.2.2.2.2.1), (u.2.2.2.2.2.2.2.2.2.1), (u.2.2.2.2.2.2.2.2.2.2.1), (u.2.2.2.2.2.2.2.2.2.2.2.1), (u.2.2.2.2.2.2.2.2.2.2.2.2)) = J_X4_clear sh)) (fun u => [cell114_ qh (u.1) (u.2.1) (u.2.2.2.2.2.2.1) (u.2.2.2.2.2.2.2.1) (u.2.2.2.2.2.2.2.2.1) (u.2.2.2.2.2.2.2.2.2.1) (u.2.2.2.2.2.2.2.2.2.2.1) (u.2.2.2.2.2.2.2.2.2.2.2.1) (u.2.2.2.2.2.2.2.2.2.2.2.2), cell85_ k qh (u.2.2.1), cell97_ k qh (u.2.2.2.1), cell102_ k qh (u.2.2.2.2.1), cell103_ k qh (u.2.2.2.2.2.1), cell2_ k qh sh]) := by
  refine g_enter (cc := cX4_clear) (maxL := 1) (ret := none) (by decide) rfl (Nat.le_of_ble_eq_true rfl) ?_
  intro p e s m below meth c A hsz hAe cx hr hP hD hS ls hl
  rw [hAe]
  refine g_q (fun Q hQ => ?_)
  have hx := cx.1.1
  have hb := cx.1.2.1
  have hl : lv_has ls 1 [(0, .ref (qh 0))] := hl
  obtain ⟨H, eH⟩ : ∃ H : Heap, H = s.heap := ⟨_, rfl⟩
  obtain ⟨locs, el⟩ : ∃ L : List Loc, L = [] := ⟨_, rfl⟩
  have hP : va_P D vwCl [cell32_ qh sh, cell0_ k qh sh, cell1_ k qh sh, cell4_ k qh sh, cell3_ k qh sh, cell2_ k qh sh] H := by rw [eH]; exact hP
  have hD : va_D A [cell32_ qh sh, cell0_ k qh sh, cell1_ k qh sh, cell4_ k qh sh, cell3_ k qh sh, cell2_ k qh sh] := hD
  have hS : va_S A s.heap H locs := by rw [eH, el]; exact hS
  suffices goal : W p l e ({ frames := 1, cells := 0, slots := 0, locals := 23 } : Room) s m ([.ref (qh 0)] : List Value).toArray below meth c H locs 0 0 Q (F0 m 0 ls []) by rw [eH, el] at goal; exact goal
  refine lv_aload_n hx hb dX4_clear_0 rfl (lv_at hl 0 rfl) ?_
  refine lv_iconst (v := 1) hx hb dX4_clear_1 (by decide) ?_
  refine g_pt cx hP hD hS iw_X4_clear_X4 tyX4 tyX4_ok nmX4 0 rfl rfl 0 (by decide) rfl fw_X4_clear_32 (ty := .int) rfl rfl rfl (Nat.le_of_ble_eq_true rfl) dX4_clear_2 (fun H locs hP hD hS => ?_)
  have hP : va_P D vwCl [cell163_ qh sh 1, cell0_ k qh sh, cell1_ k qh sh, cell4_ k qh sh, cell3_ k qh sh, cell2_ k qh sh] H := hP
  have hD : va_D A [cell163_ qh sh 1, cell0_ k qh sh, cell1_ k qh sh, cell4_ k qh sh, cell3_ k qh sh, cell2_ k qh sh] := hD
  have hlit1 : (1 : Int32).toInt = 1 := by decide
  refine lv_aload_n hx hb dX4_clear_5 rfl (lv_at hl 0 rfl) ?_
  refine lv_iconst (v := 2) hx hb dX4_clear_6 (by decide) ?_
  refine g_pt cx hP hD hS iw_X4_clear_X4 tyX4 tyX4_ok nmX4 0 rfl rfl 1 (by decide) rfl fw_X4_clear_36 (ty := .int) rfl rfl rfl (Nat.le_of_ble_eq_true rfl) dX4_clear_7 (fun H locs hP hD hS => ?_)
  have hP : va_P D vwCl [cell149_ qh sh 1 2, cell0_ k qh sh, cell1_ k qh sh, cell4_ k qh sh, cell3_ k qh sh, cell2_ k qh sh] H := hP
  have hD : va_D A [cell149_ qh sh 1 2, cell0_ k qh sh, cell1_ k qh sh, cell4_ k qh sh, cell3_ k qh sh, cell2_ k qh sh] := hD
  have hlit2 : (2 : Int32).toInt = 2 := by decide
  refine lv_aload_n hx hb dX4_clear_10 rfl (lv_at hl 0 rfl) ?_
  refine g_get cx hP iw_X4_clear_X4 0 rfl rfl 2 (by decide) rfl fw_X4_clear_9 rfl dX4_clear_11 ?_
  refine lv_iconst (v := 0) hx hb dX4_clear_14 (by decide) ?_
  have hlit3 : (0 : Int32).toInt = 0 := by decide
  refine g_v (w1 := fun (u : (Nat → Int32)) => [(qh 1, .inl (k 0, 5, .inl u))]) (g_runS (wc := [cell0_ k qh sh]) (rest := []) cx hP hD hS [1] rfl (by decide) [.ref (qh 1), .int 0] (c_J7_fill_53178_5 l D k b (fun _ => qh 1) (fun _ => (sh 1)) H.size 0) gX4_clear_J7_fill_53178 rfl rfl rfl nd_J7_fill_53178 ⟨Nat.le_of_ble_eq_true rfl, Nat.le_of_ble_eq_true rfl⟩ rfl hl.1 rfl (Nat.le_of_ble_eq_true rfl) ⟨Nat.zero_le _, Nat.zero_le _⟩ dX4_clear_15) cx.2.2.1 hP hD hS [1] rfl (fun _ => rfl) (fun u5 H locs hw4 hP hD hS => ?_)
  obtain ⟨m6, rfl⟩ : ∃ z, z = u5 := ⟨_, rfl⟩
  have hP : va_P D vwCl [cell149_ qh sh 1 2, (qh 1, .inl (k 0, 5, .inl m6)), cell1_ k qh sh, cell4_ k qh sh, cell3_ k qh sh, cell2_ k qh sh] H := hP
  have hD : va_D A [cell149_ qh sh 1 2, (qh 1, .inl (k 0, 5, .inl m6)), cell1_ k qh sh, cell4_ k qh sh, cell3_ k qh sh, cell2_ k qh sh] := hD
  replace hw4 : (m6 = fillI 5 (0 : Int32) (sh 1)) ∧ (m6 = J_J7_fill_53178_5 (fun _ => (sh 1)) (0 : Int32)) := hw4
  obtain ⟨w7, w8⟩ := hw4
  have k10 : m6 = (J_J7_fill_53178_5 (fun _ => (sh 1)) (0 : Int32)) := congrArg (fun z => z) w8
  refine lv_aload_n hx hb dX4_clear_18 rfl (lv_at hl 0 rfl) ?_
  refine g_get cx hP iw_X4_clear_X4 0 rfl rfl 3 (by decide) rfl fw_X4_clear_15 rfl dX4_clear_19 ?_
  refine lv_iconst (v := 1) hx hb dX4_clear_22 (by decide) ?_
  have hlit11 : (1 : Int32).toInt = 1 := by decide
  refine g_v (w1 := fun (u : (Nat → Int32)) => [(qh 2, .inl (k 0, 5, .inl u))]) (g_runS (wc := [cell1_ k qh sh]) (rest := []) cx hP hD hS [2] rfl (by decide) [.ref (qh 2), .int 1] (c_J7_fill_53178_5 l D k b (fun _ => qh 2) (fun _ => (sh 2)) H.size 1) gX4_clear_J7_fill_53178 rfl rfl rfl nd_J7_fill_53178 ⟨Nat.le_of_ble_eq_true rfl, Nat.le_of_ble_eq_true rfl⟩ rfl hl.1 rfl (Nat.le_of_ble_eq_true rfl) ⟨Nat.zero_le _, Nat.zero_le _⟩ dX4_clear_23) cx.2.2.1 hP hD hS [2] rfl (fun _ => rfl) (fun u13 H locs hw12 hP hD hS => ?_)
  obtain ⟨m14, rfl⟩ : ∃ z, z = u13 := ⟨_, rfl⟩
  have hP : va_P D vwCl [cell149_ qh sh 1 2, (qh 1, .inl (k 0, 5, .inl m6)), (qh 2, .inl (k 0, 5, .inl m14)), cell4_ k qh sh, cell3_ k qh sh, cell2_ k qh sh] H := hP
  have hD : va_D A [cell149_ qh sh 1 2, (qh 1, .inl (k 0, 5, .inl m6)), (qh 2, .inl (k 0, 5, .inl m14)), cell4_ k qh sh, cell3_ k qh sh, cell2_ k qh sh] := hD
  replace hw12 : (m14 = fillI 5 (1 : Int32) (sh 2)) ∧ (m14 = J_J7_fill_53178_5 (fun _ => (sh 2)) (1 : Int32)) := hw12
  obtain ⟨w15, w16⟩ := hw12
  have k18 : m14 = (J_J7_fill_53178_5 (fun _ => (sh 2)) (1 : Int32)) := congrArg (fun z => z) w16
  have afw15 := fillI_all w15 h_of ⟨by decide, by decide⟩
  refine lv_aload_n hx hb dX4_clear_26 rfl (lv_at hl 0 rfl) ?_
  refine g_get cx hP iw_X4_clear_X4 0 rfl rfl 4 (by decide) rfl fw_X4_clear_18 rfl dX4_clear_27 ?_
  refine lv_iconst (v := 1) hx hb dX4_clear_30 (by decide) ?_
  have hlit19 : (1 : Int32).toInt = 1 := by decide
  refine g_v (w1 := fun (u : (Nat → Int32)) => [(qh 3, .inl (k 0, 3, .inl u))]) (g_runS (wc := [cell4_ k qh sh]) (rest := []) cx hP hD hS [3] rfl (by decide) [.ref (qh 3), .int 1] (c_J7_fill_53178_3 l D k b (fun _ => qh 3) (fun _ => (sh 3)) H.size 1) gX4_clear_J7_fill_53178 rfl rfl rfl nd_J7_fill_53178 ⟨Nat.le_of_ble_eq_true rfl, Nat.le_of_ble_eq_true rfl⟩ rfl hl.1 rfl (Nat.le_of_ble_eq_true rfl) ⟨Nat.zero_le _, Nat.zero_le _⟩ dX4_clear_31) cx.2.2.1 hP hD hS [3] rfl (fun _ => rfl) (fun u21 H locs hw20 hP hD hS => ?_)
  obtain ⟨m22, rfl⟩ : ∃ z, z = u21 := ⟨_, rfl⟩
  have hP : va_P D vwCl [cell149_ qh sh 1 2, (qh 1, .inl (k 0, 5, .inl m6)), (qh 2, .inl (k 0, 5, .inl m14)), (qh 3, .inl (k 0, 3, .inl m22)), cell3_ k qh sh, cell2_ k qh sh] H := hP
  have hD : va_D A [cell149_ qh sh 1 2, (qh 1, .inl (k 0, 5, .inl m6)), (qh 2, .inl (k 0, 5, .inl m14)), (qh 3, .inl (k 0, 3, .inl m22)), cell3_ k qh sh, cell2_ k qh sh] := hD
  replace hw20 : (m22 = fillI 3 (1 : Int32) (sh 3)) ∧ (m22 = J_J7_fill_53178_3 (fun _ => (sh 3)) (1 : Int32)) := hw20
  obtain ⟨w23, w24⟩ := hw20
  have k26 : m22 = (J_J7_fill_53178_3 (fun _ => (sh 3)) (1 : Int32)) := congrArg (fun z => z) w24
  have afw23 := fillI_all w23 h_go ⟨by decide, by decide⟩
  refine lv_aload_n hx hb dX4_clear_34 rfl (lv_at hl 0 rfl) ?_
  refine g_get cx hP iw_X4_clear_X4 0 rfl rfl 5 (by decide) rfl fw_X4_clear_21 rfl dX4_clear_35 ?_
  refine lv_iconst (v := 4) hx hb dX4_clear_38 (by decide) ?_
  have hlit27 : (4 : Int32).toInt = 4 := by decide
  refine g_v (w1 := fun (u : (Nat → Int32)) => [(qh 4, .inl (k 0, 3, .inl u))]) (g_runS (wc := [cell3_ k qh sh]) (rest := []) cx hP hD hS [4] rfl (by decide) [.ref (qh 4), .int 4] (c_J7_fill_53178_3 l D k b (fun _ => qh 4) (fun _ => (sh 4)) H.size 4) gX4_clear_J7_fill_53178 rfl rfl rfl nd_J7_fill_53178 ⟨Nat.le_of_ble_eq_true rfl, Nat.le_of_ble_eq_true rfl⟩ rfl hl.1 rfl (Nat.le_of_ble_eq_true rfl) ⟨Nat.zero_le _, Nat.zero_le _⟩ dX4_clear_39) cx.2.2.1 hP hD hS [4] rfl (fun _ => rfl) (fun u29 H locs hw28 hP hD hS => ?_)
  obtain ⟨m30, rfl⟩ : ∃ z, z = u29 := ⟨_, rfl⟩
  have hP : va_P D vwCl [cell149_ qh sh 1 2, (qh 1, .inl (k 0, 5, .inl m6)), (qh 2, .inl (k 0, 5, .inl m14)), (qh 3, .inl (k 0, 3, .inl m22)), (qh 4, .inl (k 0, 3, .inl m30)), cell2_ k qh sh] H := hP
  have hD : va_D A [cell149_ qh sh 1 2, (qh 1, .inl (k 0, 5, .inl m6)), (qh 2, .inl (k 0, 5, .inl m14)), (qh 3, .inl (k 0, 3, .inl m22)), (qh 4, .inl (k 0, 3, .inl m30)), cell2_ k qh sh] := hD
  replace hw28 : (m30 = fillI 3 (4 : Int32) (sh 4)) ∧ (m30 = J_J7_fill_53178_3 (fun _ => (sh 4)) (4 : Int32)) := hw28
  obtain ⟨w31, w32⟩ := hw28
  have k34 : m30 = (J_J7_fill_53178_3 (fun _ => (sh 4)) (4 : Int32)) := congrArg (fun z => z) w32
  refine lv_aload_n hx hb dX4_clear_42 rfl (lv_at hl 0 rfl) ?_
  refine lv_iconst (v := 1) hx hb dX4_clear_43 (by decide) ?_
  refine g_pt cx hP hD hS iw_X4_clear_X4 tyX4 tyX4_ok nmX4 0 rfl rfl 6 (by decide) rfl fw_X4_clear_45 (ty := .int) rfl rfl rfl (Nat.le_of_ble_eq_true rfl) dX4_clear_44 (fun H locs hP hD hS => ?_)
  have hP : va_P D vwCl [(qh 0, .inr (2, [.int 1, .int 2, .ref (qh 1), .ref (qh 2), .ref (qh 3), .ref (qh 4), .int 1, .int (sh 0 7), .int (sh 0 8), .int (sh 0 9), .int (sh 0 10), .int (sh 0 11), .int (sh 0 12), .ref (qh 5)])), (qh 1, .inl (k 0, 5, .inl m6)), (qh 2, .inl (k 0, 5, .inl m14)), (qh 3, .inl (k 0, 3, .inl m22)), (qh 4, .inl (k 0, 3, .inl m30)), cell2_ k qh sh] H := hP
  have hD : va_D A [(qh 0, .inr (2, [.int 1, .int 2, .ref (qh 1), .ref (qh 2), .ref (qh 3), .ref (qh 4), .int 1, .int (sh 0 7), .int (sh 0 8), .int (sh 0 9), .int (sh 0 10), .int (sh 0 11), .int (sh 0 12), .ref (qh 5)])), (qh 1, .inl (k 0, 5, .inl m6)), (qh 2, .inl (k 0, 5, .inl m14)), (qh 3, .inl (k 0, 3, .inl m22)), (qh 4, .inl (k 0, 3, .inl m30)), cell2_ k qh sh] := hD
  have hlit35 : (1 : Int32).toInt = 1 := by decide
  refine lv_aload_n hx hb dX4_clear_47 rfl (lv_at hl 0 rfl) ?_
  refine lv_iconst (v := 1) hx hb dX4_clear_48 (by decide) ?_
  refine g_pt cx hP hD hS iw_X4_clear_X4 tyX4 tyX4_ok nmX4 0 rfl rfl 7 (by decide) rfl fw_X4_clear_48 (ty := .int) rfl rfl rfl (Nat.le_of_ble_eq_true rfl) dX4_clear_49 (fun H locs hP hD hS => ?_)
  have hP : va_P D vwCl [(qh 0, .inr (2, [.int 1, .int 2, .ref (qh 1), .ref (qh 2), .ref (qh 3), .ref (qh 4), .int 1, .int 1, .int (sh 0 8), .int (sh 0 9), .int (sh 0 10), .int (sh 0 11), .int (sh 0 12), .ref (qh 5)])), (qh 1, .inl (k 0, 5, .inl m6)), (qh 2, .inl (k 0, 5, .inl m14)), (qh 3, .inl (k 0, 3, .inl m22)), (qh 4, .inl (k 0, 3, .inl m30)), cell2_ k qh sh] H := hP
  have hD : va_D A [(qh 0, .inr (2, [.int 1, .int 2, .ref (qh 1), .ref (qh 2), .ref (qh 3), .ref (qh 4), .int 1, .int 1, .int (sh 0 8), .int (sh 0 9), .int (sh 0 10), .int (sh 0 11), .int (sh 0 12), .ref (qh 5)])), (qh 1, .inl (k 0, 5, .inl m6)), (qh 2, .inl (k 0, 5, .inl m14)), (qh 3, .inl (k 0, 3, .inl m22)), (qh 4, .inl (k 0, 3, .inl m30)), cell2_ k qh sh] := hD
  have hlit36 : (1 : Int32).toInt = 1 := by decide
  refine lv_aload_n hx hb dX4_clear_52 rfl (lv_at hl 0 rfl) ?_
  refine lv_bipush (v := (-9)) hx hb dX4_clear_53 (by decide) ?_
  refine g_pt cx hP hD hS iw_X4_clear_X4 tyX4 tyX4_ok nmX4 0 rfl rfl 8 (by decide) rfl fw_X4_clear_51 (ty := .int) rfl rfl rfl (Nat.le_of_ble_eq_true rfl) dX4_clear_55 (fun H locs hP hD hS => ?_)
  have hP : va_P D vwCl [(qh 0, .inr (2, [.int 1, .int 2, .ref (qh 1), .ref (qh 2), .ref (qh 3), .ref (qh 4), .int 1, .int 1, .int (-9), .int (sh 0 9), .int (sh 0 10), .int (sh 0 11), .int (sh 0 12), .ref (qh 5)])), (qh 1, .inl (k 0, 5, .inl m6)), (qh 2, .inl (k 0, 5, .inl m14)), (qh 3, .inl (k 0, 3, .inl m22)), (qh 4, .inl (k 0, 3, .inl m30)), cell2_ k qh sh] H := hP
  have hD : va_D A [(qh 0, .inr (2, [.int 1, .int 2, .ref (qh 1), .ref (qh 2), .ref (qh 3), .ref (qh 4), .int 1, .int 1, .int (-9), .int (sh 0 9), .int (sh 0 10), .int (sh 0 11), .int (sh 0 12), .ref (qh 5)])), (qh 1, .inl (k 0, 5, .inl m6)), (qh 2, .inl (k 0, 5, .inl m14)), (qh 3, .inl (k 0, 3, .inl m22)), (qh 4, .inl (k 0, 3, .inl m30)), cell2_ k qh sh] := hD
  have hlit37 : ((-9) : Int32).toInt = -9 := by decide
  refine lv_aload_n hx hb dX4_clear_58 rfl (lv_at hl 0 rfl) ?_
  refine lv_bipush (v := (-9)) hx hb dX4_clear_59 (by decide) ?_
  refine g_pt cx hP hD hS iw_X4_clear_X4 tyX4 tyX4_ok nmX4 0 rfl rfl 9 (by decide) rfl fw_X4_clear_54 (ty := .int) rfl rfl rfl (Nat.le_of_ble_eq_true rfl) dX4_clear_61 (fun H locs hP hD hS => ?_)
  have hP : va_P D vwCl [(qh 0, .inr (2, [.int 1, .int 2, .ref (qh 1), .ref (qh 2), .ref (qh 3), .ref (qh 4), .int 1, .int 1, .int (-9), .int (-9), .int (sh 0 10), .int (sh 0 11), .int (sh 0 12), .ref (qh 5)])), (qh 1, .inl (k 0, 5, .inl m6)), (qh 2, .inl (k 0, 5, .inl m14)), (qh 3, .inl (k 0, 3, .inl m22)), (qh 4, .inl (k 0, 3, .inl m30)), cell2_ k qh sh] H := hP
  have hD : va_D A [(qh 0, .inr (2, [.int 1, .int 2, .ref (qh 1), .ref (qh 2), .ref (qh 3), .ref (qh 4), .int 1, .int 1, .int (-9), .int (-9), .int (sh 0 10), .int (sh 0 11), .int (sh 0 12), .ref (qh 5)])), (qh 1, .inl (k 0, 5, .inl m6)), (qh 2, .inl (k 0, 5, .inl m14)), (qh 3, .inl (k 0, 3, .inl m22)), (qh 4, .inl (k 0, 3, .inl m30)), cell2_ k qh sh] := hD
  have hlit38 : ((-9) : Int32).toInt = -9 := by decide
  refine lv_aload_n hx hb dX4_clear_64 rfl (lv_at hl 0 rfl) ?_
  refine lv_bipush (v := (-9)) hx hb dX4_clear_65 (by decide) ?_
  refine g_pt cx hP hD hS iw_X4_clear_X4 tyX4 tyX4_ok nmX4 0 rfl rfl 10 (by decide) rfl fw_X4_clear_57 (ty := .int) rfl rfl rfl (Nat.le_of_ble_eq_true rfl) dX4_clear_67 (fun H locs hP hD hS => ?_)
  have hP : va_P D vwCl [(qh 0, .inr (2, [.int 1, .int 2, .ref (qh 1), .ref (qh 2), .ref (qh 3), .ref (qh 4), .int 1, .int 1, .int (-9), .int (-9), .int (-9), .int (sh 0 11), .int (sh 0 12), .ref (qh 5)])), (qh 1, .inl (k 0, 5, .inl m6)), (qh 2, .inl (k 0, 5, .inl m14)), (qh 3, .inl (k 0, 3, .inl m22)), (qh 4, .inl (k 0, 3, .inl m30)), cell2_ k qh sh] H := hP
  have hD : va_D A [(qh 0, .inr (2, [.int 1, .int 2, .ref (qh 1), .ref (qh 2), .ref (qh 3), .ref (qh 4), .int 1, .int 1, .int (-9), .int (-9), .int (-9), .int (sh 0 11), .int (sh 0 12), .ref (qh 5)])), (qh 1, .inl (k 0, 5, .inl m6)), (qh 2, .inl (k 0, 5, .inl m14)), (qh 3, .inl (k 0, 3, .inl m22)), (qh 4, .inl (k 0, 3, .inl m30)), cell2_ k qh sh] := hD
  have hlit39 : ((-9) : Int32).toInt = -9 := by decide
  refine lv_aload_n hx hb dX4_clear_70 rfl (lv_at hl 0 rfl) ?_
  refine lv_bipush (v := (-9)) hx hb dX4_clear_71 (by decide) ?_
  refine g_pt cx hP hD hS iw_X4_clear_X4 tyX4 tyX4_ok nmX4 0 rfl rfl 11 (by decide) rfl fw_X4_clear_60 (ty := .int) rfl rfl rfl (Nat.le_of_ble_eq_true rfl) dX4_clear_73 (fun H locs hP hD hS => ?_)
  have hP : va_P D vwCl [(qh 0, .inr (2, [.int 1, .int 2, .ref (qh 1), .ref (qh 2), .ref (qh 3), .ref (qh 4), .int 1, .int 1, .int (-9), .int (-9), .int (-9), .int (-9), .int (sh 0 12), .ref (qh 5)])), (qh 1, .inl (k 0, 5, .inl m6)), (qh 2, .inl (k 0, 5, .inl m14)), (qh 3, .inl (k 0, 3, .inl m22)), (qh 4, .inl (k 0, 3, .inl m30)), cell2_ k qh sh] H := hP
  have hD : va_D A [(qh 0, .inr (2, [.int 1, .int 2, .ref (qh 1), .ref (qh 2), .ref (qh 3), .ref (qh 4), .int 1, .int 1, .int (-9), .int (-9), .int (-9), .int (-9), .int (sh 0 12), .ref (qh 5)])), (qh 1, .inl (k 0, 5, .inl m6)), (qh 2, .inl (k 0, 5, .inl m14)), (qh 3, .inl (k 0, 3, .inl m22)), (qh 4, .inl (k 0, 3, .inl m30)), cell2_ k qh sh] := hD
  have hlit40 : ((-9) : Int32).toInt = -9 := by decide
  refine lv_aload_n hx hb dX4_clear_76 rfl (lv_at hl 0 rfl) ?_
  refine lv_iconst (v := 0) hx hb dX4_clear_77 (by decide) ?_
  refine g_pt cx hP hD hS iw_X4_clear_X4 tyX4 tyX4_ok nmX4 0 rfl rfl 12 (by decide) rfl fw_X4_clear_63 (ty := .int) rfl rfl rfl (Nat.le_of_ble_eq_true rfl) dX4_clear_78 (fun H locs hP hD hS => ?_)
  have hP : va_P D vwCl [cell114_ qh 1 2 1 1 (-9) (-9) (-9) (-9) 0, (qh 1, .inl (k 0, 5, .inl m6)), (qh 2, .inl (k 0, 5, .inl m14)), (qh 3, .inl (k 0, 3, .inl m22)), (qh 4, .inl (k 0, 3, .inl m30)), cell2_ k qh sh] H := hP
  have hD : va_D A [cell114_ qh 1 2 1 1 (-9) (-9) (-9) (-9) 0, (qh 1, .inl (k 0, 5, .inl m6)), (qh 2, .inl (k 0, 5, .inl m14)), (qh 3, .inl (k 0, 3, .inl m22)), (qh 4, .inl (k 0, 3, .inl m30)), cell2_ k qh sh] := hD
  have hlit41 : (0 : Int32).toInt = 0 := by decide
  have hlit42 : (1 : Int32).toInt = 1 := by decide
  have hlit43 : (2 : Int32).toInt = 2 := by decide
  have hlit44 : (1 : Int32).toInt = 1 := by decide
  have hlit45 : (1 : Int32).toInt = 1 := by decide
  have hlit46 : ((-9) : Int32).toInt = -9 := by decide
  have hlit47 : ((-9) : Int32).toInt = -9 := by decide
  have hlit48 : ((-9) : Int32).toInt = -9 := by decide
  have hlit49 : ((-9) : Int32).toInt = -9 := by decide
  have hlit50 : (0 : Int32).toInt = 0 := by decide
  rw [hQ]
  exact x_v cx hr (1, 2, m6, m14, m22, m30, 1, 1, (-9), (-9), (-9), (-9), 0) hP hD hS ⟨(show 0 ≤ (1 : Int32).toInt ∧ (1 : Int32).toInt ≤ 5 from by omega), (show 0 ≤ (2 : Int32).toInt ∧ (2 : Int32).toInt ≤ 4 from by omega), (show 0 ≤ (0 : Int32).toInt ∧ (0 : Int32).toInt ≤ 5 from by omega), afw15, afw23, (show ((1 : Int32), (2 : Int32), m6, m14, m22, m30, (1 : Int32), (1 : Int32), ((-9) : Int32), ((-9) : Int32), ((-9) : Int32), ((-9) : Int32), (0 : Int32)) = J_X4_clear sh from by subst k10 k18 k26 k34; rfl)⟩ dX4_clear_81
theorem fw_X4_putMeans_51 : Cond.fieldLink RX4 51 "StillInAugust$House" "letGoPrice" "I" ∈ wsX4_putMeans := by decide +kernel
theorem fw_X4_putMeans_54 : Cond.fieldLink RX4 54 "StillInAugust$House" "teachPrice" "I" ∈ wsX4_putMeans := by decide +kernel
theorem fw_X4_putMeans_57 : Cond.fieldLink RX4 57 "StillInAugust$House" "agencyPrice" "I" ∈ wsX4_putMeans := by decide +kernel
theorem fw_X4_putMeans_60 : Cond.fieldLink RX4 60 "StillInAugust$House" "bonus" "I" ∈ wsX4_putMeans := by decide +kernel
theorem fw_X4_putMeans_63 : Cond.fieldLink RX4 63 "StillInAugust$House" "fifthsLess" "I" ∈ wsX4_putMeans := by decide +kernel
theorem iw_X4_putMeans_X4 : ∀ w ∈ u_ws RX4 TX4 14, w ∈ wsX4_putMeans := fun _ h => List.mem_cons_of_mem _ (List.mem_append_right _ h)
def J_X4_putMeans (sh : Nat → Nat → Int32) (p0 : Int32) (p1 : Int32) (p2 : Int32) : Int32 × Int32 × Int32 × Int32 × Int32 := if p0 = 65 then ((sh 0 8), (sh 0 9), p1, (sh 0 11), (sh 0 12)) else if p0 = 66 then ((sh 0 8), (sh 0 9), (sh 0 10), p1, p2) else if p0 = 71 then (p1, (sh 0 9), (sh 0 10), (sh 0 11), (sh 0 12)) else if p0 = 84 then ((sh 0 8), p1, (sh 0 10), (sh 0 11), (sh 0 12)) else ((sh 0 8), (sh 0 9), (sh 0 10), (sh 0 11), (sh 0 12))
set_option maxHeartbeats 4000000 in
set_option maxRecDepth 100000 in
theorem c_X4_putMeans (l : Launch) (D : va_G) (k : Nat → ClassId) (b : Nat → Nat) (qh : Nat → Nat) (sh : Nat → Nat → Int32) (sz : Nat) (p0 : Int32) (p1 : Int32) (p2 : Int32) (h_fl : 0 ≤ (sh 0 12).toInt ∧ (sh 0 12).toInt ≤ 5) (hs : ¬ p0.toInt = 66 ∨ (0 ≤ p2.toInt ∧ p2.toInt ≤ 5)) : MetV l D k b yX4_putMeans wsX4_putMeans ({ frames := 0, cells := 0, slots := 0, locals := 0 } : Room) [cell32_ qh sh, cell0_ k qh sh, cell1_ k qh sh, cell4_ k qh sh, cell3_ k qh sh, cell2_ k qh sh] sz [.ref (qh 0), .int p0, .int p1, .int p2] (fun (u : Int32 × Int32 × Int32 × Int32 × Int32) => (0 ≤ (u.2.2.2.2).toInt ∧ (u.2.2.2.2).toInt ≤ 5) ∧ (((u.1), (u.2.1), (u.2.2.1), (u.2.2.2.1), (u.2.2.2.2)) = J_X4_putMeans sh p0 p1 p2)) (fun u => [cell82_ qh sh (u.1) (u.2.1) (u.2.2.1) (u.2.2.2.1) (u.2.2.2.2), cell0_ k qh sh, cell1_ k qh sh, cell4_ k qh sh, cell3_ k qh sh, cell2_ k qh sh]) := by
  refine g_enter (cc := cX4_putMeans) (maxL := 4) (ret := none) (by decide) rfl (Nat.le_of_ble_eq_true rfl) ?_
  intro p e s m below meth c A hsz hAe cx hr hP hD hS ls hl
  rw [hAe]
  refine g_q (fun Q hQ => ?_)
  have hx := cx.1.1
  have hb := cx.1.2.1
  have bp0 := i_rng p0
  have bp1 := i_rng p1
  have bp2 := i_rng p2
  have hl : lv_has ls 4 [(0, .ref (qh 0)), (1, .int p0), (2, .int p1), (3, .int p2)] := hl
  obtain ⟨H, eH⟩ : ∃ H : Heap, H = s.heap := ⟨_, rfl⟩
  obtain ⟨locs, el⟩ : ∃ L : List Loc, L = [] := ⟨_, rfl⟩
  have hP : va_P D vwCl [cell32_ qh sh, cell0_ k qh sh, cell1_ k qh sh, cell4_ k qh sh, cell3_ k qh sh, cell2_ k qh sh] H := by rw [eH]; exact hP
  have hD : va_D A [cell32_ qh sh, cell0_ k qh sh, cell1_ k qh sh, cell4_ k qh sh, cell3_ k qh sh, cell2_ k qh sh] := hD
  have hS : va_S A s.heap H locs := by rw [eH, el]; exact hS
  suffices goal : W p l e ({ frames := 0, cells := 0, slots := 0, locals := 0 } : Room) s m ([.ref (qh 0), .int p0, .int p1, .int p2] : List Value).toArray below meth c H locs 0 0 Q (F0 m 0 ls []) by rw [eH, el] at goal; exact goal
  refine lv_iload_n hx hb dX4_putMeans_0 rfl (lv_at hl 1 rfl) ?_
  by_cases c1 : p0 = 65
  · refine lv_lookup (tgt := 60) (off := 59) hx hb dX4_putMeans_1 (by decide) (by rw [c1]; decide) (by decide) ?_
    have f1 : p0.toInt = 65 := f_eq rfl (by decide) c1
    refine lv_aload_n hx hb dX4_putMeans_60 rfl (lv_at hl 0 rfl) ?_
    refine lv_iload_n hx hb dX4_putMeans_61 rfl (lv_at hl 2 rfl) ?_
    refine g_pt cx hP hD hS iw_X4_putMeans_X4 tyX4 tyX4_ok nmX4 0 rfl rfl 10 (by decide) rfl fw_X4_putMeans_57 (ty := .int) rfl rfl rfl (Nat.le_of_ble_eq_true rfl) dX4_putMeans_62 (fun H locs hP hD hS => ?_)
    have hP : va_P D vwCl [cell156_ qh sh p1, cell0_ k qh sh, cell1_ k qh sh, cell4_ k qh sh, cell3_ k qh sh, cell2_ k qh sh] H := hP
    have hD : va_D A [cell156_ qh sh p1, cell0_ k qh sh, cell1_ k qh sh, cell4_ k qh sh, cell3_ k qh sh, cell2_ k qh sh] := hD
    refine lv_goto (tgt := 81) hx hb dX4_putMeans_65 (by decide) ?_
    rw [hQ]
    exact x_v cx hr ((sh 0 8), (sh 0 9), p1, (sh 0 11), (sh 0 12)) hP hD hS ⟨(show 0 ≤ (sh 0 12).toInt ∧ (sh 0 12).toInt ≤ 5 from by omega), (show ((sh 0 8), (sh 0 9), p1, (sh 0 11), (sh 0 12)) = J_X4_putMeans sh p0 p1 p2 from by first | (refine Eq.symm ?_; refine Eq.trans (if_pos c1) ?_; rfl) | (unfold J_X4_putMeans; try dsimp only; rw [if_pos c1]))⟩ dX4_putMeans_81
  by_cases c2 : p0 = 66
  · refine lv_lookup (tgt := 68) (off := 67) hx hb dX4_putMeans_1 (by decide) (by rw [c2]; decide) (by decide) ?_
    have f2 : p0.toInt = 66 := f_eq rfl (by decide) c2
    refine lv_aload_n hx hb dX4_putMeans_68 rfl (lv_at hl 0 rfl) ?_
    refine lv_iload_n hx hb dX4_putMeans_69 rfl (lv_at hl 2 rfl) ?_
    refine g_pt cx hP hD hS iw_X4_putMeans_X4 tyX4 tyX4_ok nmX4 0 rfl rfl 11 (by decide) rfl fw_X4_putMeans_60 (ty := .int) rfl rfl rfl (Nat.le_of_ble_eq_true rfl) dX4_putMeans_70 (fun H locs hP hD hS => ?_)
    have hP : va_P D vwCl [cell157_ qh sh p1, cell0_ k qh sh, cell1_ k qh sh, cell4_ k qh sh, cell3_ k qh sh, cell2_ k qh sh] H := hP
    have hD : va_D A [cell157_ qh sh p1, cell0_ k qh sh, cell1_ k qh sh, cell4_ k qh sh, cell3_ k qh sh, cell2_ k qh sh] := hD
    refine lv_aload_n hx hb dX4_putMeans_73 rfl (lv_at hl 0 rfl) ?_
    refine lv_iload_n hx hb dX4_putMeans_74 rfl (lv_at hl 3 rfl) ?_
    refine g_pt cx hP hD hS iw_X4_putMeans_X4 tyX4 tyX4_ok nmX4 0 rfl rfl 12 (by decide) rfl fw_X4_putMeans_63 (ty := .int) rfl rfl rfl (Nat.le_of_ble_eq_true rfl) dX4_putMeans_75 (fun H locs hP hD hS => ?_)
    have hP : va_P D vwCl [cell158_ qh sh p1 p2, cell0_ k qh sh, cell1_ k qh sh, cell4_ k qh sh, cell3_ k qh sh, cell2_ k qh sh] H := hP
    have hD : va_D A [cell158_ qh sh p1 p2, cell0_ k qh sh, cell1_ k qh sh, cell4_ k qh sh, cell3_ k qh sh, cell2_ k qh sh] := hD
    refine lv_goto (tgt := 81) hx hb dX4_putMeans_78 (by decide) ?_
    rw [hQ]
    exact x_v cx hr ((sh 0 8), (sh 0 9), (sh 0 10), p1, p2) hP hD hS ⟨(show 0 ≤ p2.toInt ∧ p2.toInt ≤ 5 from by omega), (show ((sh 0 8), (sh 0 9), (sh 0 10), p1, p2) = J_X4_putMeans sh p0 p1 p2 from by first | (refine Eq.symm ?_; refine Eq.trans (if_neg c1) ?_; refine Eq.trans (if_pos c2) ?_; rfl) | (unfold J_X4_putMeans; try dsimp only; rw [if_neg c1, if_pos c2]))⟩ dX4_putMeans_81
  by_cases c3 : p0 = 71
  · refine lv_lookup (tgt := 44) (off := 43) hx hb dX4_putMeans_1 (by decide) (by rw [c3]; decide) (by decide) ?_
    have f3 : p0.toInt = 71 := f_eq rfl (by decide) c3
    refine lv_aload_n hx hb dX4_putMeans_44 rfl (lv_at hl 0 rfl) ?_
    refine lv_iload_n hx hb dX4_putMeans_45 rfl (lv_at hl 2 rfl) ?_
    refine g_pt cx hP hD hS iw_X4_putMeans_X4 tyX4 tyX4_ok nmX4 0 rfl rfl 8 (by decide) rfl fw_X4_putMeans_51 (ty := .int) rfl rfl rfl (Nat.le_of_ble_eq_true rfl) dX4_putMeans_46 (fun H locs hP hD hS => ?_)
    have hP : va_P D vwCl [cell159_ qh sh p1, cell0_ k qh sh, cell1_ k qh sh, cell4_ k qh sh, cell3_ k qh sh, cell2_ k qh sh] H := hP
    have hD : va_D A [cell159_ qh sh p1, cell0_ k qh sh, cell1_ k qh sh, cell4_ k qh sh, cell3_ k qh sh, cell2_ k qh sh] := hD
    refine lv_goto (tgt := 81) hx hb dX4_putMeans_49 (by decide) ?_
    rw [hQ]
    exact x_v cx hr (p1, (sh 0 9), (sh 0 10), (sh 0 11), (sh 0 12)) hP hD hS ⟨(show 0 ≤ (sh 0 12).toInt ∧ (sh 0 12).toInt ≤ 5 from by omega), (show (p1, (sh 0 9), (sh 0 10), (sh 0 11), (sh 0 12)) = J_X4_putMeans sh p0 p1 p2 from by first | (refine Eq.symm ?_; refine Eq.trans (if_neg c1) ?_; refine Eq.trans (if_neg c2) ?_; refine Eq.trans (if_pos c3) ?_; rfl) | (unfold J_X4_putMeans; try dsimp only; rw [if_neg c1, if_neg c2, if_pos c3]))⟩ dX4_putMeans_81
  by_cases c4 : p0 = 84
  · refine lv_lookup (tgt := 52) (off := 51) hx hb dX4_putMeans_1 (by decide) (by rw [c4]; decide) (by decide) ?_
    have f4 : p0.toInt = 84 := f_eq rfl (by decide) c4
    refine lv_aload_n hx hb dX4_putMeans_52 rfl (lv_at hl 0 rfl) ?_
    refine lv_iload_n hx hb dX4_putMeans_53 rfl (lv_at hl 2 rfl) ?_
    refine g_pt cx hP hD hS iw_X4_putMeans_X4 tyX4 tyX4_ok nmX4 0 rfl rfl 9 (by decide) rfl fw_X4_putMeans_54 (ty := .int) rfl rfl rfl (Nat.le_of_ble_eq_true rfl) dX4_putMeans_54 (fun H locs hP hD hS => ?_)
    have hP : va_P D vwCl [cell160_ qh sh p1, cell0_ k qh sh, cell1_ k qh sh, cell4_ k qh sh, cell3_ k qh sh, cell2_ k qh sh] H := hP
    have hD : va_D A [cell160_ qh sh p1, cell0_ k qh sh, cell1_ k qh sh, cell4_ k qh sh, cell3_ k qh sh, cell2_ k qh sh] := hD
    refine lv_goto (tgt := 81) hx hb dX4_putMeans_57 (by decide) ?_
    rw [hQ]
    exact x_v cx hr ((sh 0 8), p1, (sh 0 10), (sh 0 11), (sh 0 12)) hP hD hS ⟨(show 0 ≤ (sh 0 12).toInt ∧ (sh 0 12).toInt ≤ 5 from by omega), (show ((sh 0 8), p1, (sh 0 10), (sh 0 11), (sh 0 12)) = J_X4_putMeans sh p0 p1 p2 from by first | (refine Eq.symm ?_; refine Eq.trans (if_neg c1) ?_; refine Eq.trans (if_neg c2) ?_; refine Eq.trans (if_neg c3) ?_; refine Eq.trans (if_pos c4) ?_; rfl) | (unfold J_X4_putMeans; try dsimp only; rw [if_neg c1, if_neg c2, if_neg c3, if_pos c4]))⟩ dX4_putMeans_81
  refine lv_lookup (tgt := 81) (off := 80) hx hb dX4_putMeans_1 (by decide) (by show Op.lookupswitch.offset [(65, 59), (66, 67), (71, 43), (84, 51)] 80 p0.toInt = 80; rw [lv_osw c1 (by decide)]; rw [lv_osw c2 (by decide)]; rw [lv_osw c3 (by decide)]; rw [lv_osw c4 (by decide)]; rfl) (by decide) ?_
  rw [hQ]
  exact x_v cx hr ((sh 0 8), (sh 0 9), (sh 0 10), (sh 0 11), (sh 0 12)) hP hD hS ⟨(show 0 ≤ (sh 0 12).toInt ∧ (sh 0 12).toInt ≤ 5 from by omega), (show ((sh 0 8), (sh 0 9), (sh 0 10), (sh 0 11), (sh 0 12)) = J_X4_putMeans sh p0 p1 p2 from by first | (refine Eq.symm ?_; refine Eq.trans (if_neg c1) ?_; refine Eq.trans (if_neg c2) ?_; refine Eq.trans (if_neg c3) ?_; refine Eq.trans (if_neg c4) ?_; rfl) | (unfold J_X4_putMeans; try dsimp only; rw [if_neg c1, if_neg c2, if_neg c3, if_neg c4]))⟩ dX4_putMeans_81
theorem fw_X4_put_15 : Cond.fieldLink RX4 15 "StillInAugust$House" "offers" "[I" ∈ wsX4_put := by decide +kernel
theorem fw_X4_put_18 : Cond.fieldLink RX4 18 "StillInAugust$House" "goes" "[I" ∈ wsX4_put := by decide +kernel
theorem fw_X4_put_21 : Cond.fieldLink RX4 21 "StillInAugust$House" "does" "[I" ∈ wsX4_put := by decide +kernel
theorem fw_X4_put_36 : Cond.fieldLink RX4 36 "StillInAugust$House" "hooks" "I" ∈ wsX4_put := by decide +kernel
theorem fw_X4_put_45 : Cond.fieldLink RX4 45 "StillInAugust$House" "pay" "I" ∈ wsX4_put := by decide +kernel
theorem fw_X4_put_48 : Cond.fieldLink RX4 48 "StillInAugust$House" "shortPrice" "I" ∈ wsX4_put := by decide +kernel
theorem fw_X4_put_9 : Cond.fieldLink RX4 9 "StillInAugust$House" "wants" "[I" ∈ wsX4_put := by decide +kernel
theorem nd_X4_putMeans : yX4_putMeans.cls = RX4 ∧ yX4_putMeans.cls ≠ "java/lang/invoke/MethodHandle" ∧ yX4_putMeans.cls ≠ "java/lang/invoke/VarHandle" ∧ (parseMethodDescriptor yX4_putMeans.desc).map (fun d => d.parameters.length) = some 3 := by decide +kernel
theorem iw_X4_put_X4 : ∀ w ∈ u_ws RX4 TX4 14, w ∈ wsX4_put := fun _ h => List.mem_cons_of_mem _ (List.mem_append_right _ h)
def J_X4_put (sh : Nat → Nat → Int32) (p0 : Int32) (p1 : Int32) (p2 : Int32) (p3 : Int32) : Int32 × (Nat → Int32) × (Nat → Int32) × (Nat → Int32) × (Nat → Int32) × Int32 × Int32 × Int32 × Int32 × Int32 × Int32 × Int32 := if p0 = 68 then ((sh 0 1), (sh 1), (sh 2), (sh 3), (upd (sh 4) (p1).toNatClampNeg p2), (sh 0 6), (sh 0 7), (sh 0 8), (sh 0 9), (sh 0 10), (sh 0 11), (sh 0 12)) else if p0 = 69 then let y14 := J_X4_putMeans sh p0 p2 p3; ((sh 0 1), (sh 1), (sh 2), (sh 3), (sh 4), (sh 0 6), (sh 0 7), (y14.1), (y14.2.1), (y14.2.2.1), (y14.2.2.2.1), (y14.2.2.2.2)) else if p0 = 70 then let y30 := J_X4_putMeans sh p0 p2 p3; ((sh 0 1), (sh 1), (sh 2), (sh 3), (sh 4), (sh 0 6), (sh 0 7), (y30.1), (y30.2.1), (y30.2.2.1), (y30.2.2.2.1), (y30.2.2.2.2)) else if p0 = 71 then let y46 := J_X4_putMeans sh p0 p2 p3; ((sh 0 1), (sh 1), (sh 2), (sh 3), (sh 4), (sh 0 6), (sh 0 7), (y46.1), (y46.2.1), (y46.2.2.1), (y46.2.2.2.1), (y46.2.2.2.2)) else if p0 = 72 then (p2, (sh 1), (sh 2), (sh 3), (sh 4), (sh 0 6), (sh 0 7), (sh 0 8), (sh 0 9), (sh 0 10), (sh 0 11), (sh 0 12)) else if p0 = 73 then let y63 := J_X4_putMeans sh p0 p2 p3; ((sh 0 1), (sh 1), (sh 2), (sh 3), (sh 4), (sh 0 6), (sh 0 7), (y63.1), (y63.2.1), (y63.2.2.1), (y63.2.2.2.1), (y63.2.2.2.2)) else if p0 = 74 then let y79 := J_X4_putMeans sh p0 p2 p3; ((sh 0 1), (sh 1), (sh 2), (sh 3), (sh 4), (sh 0 6), (sh 0 7), (y79.1), (y79.2.1), (y79.2.2.1), (y79.2.2.2.1), (y79.2.2.2.2)) else if p0 = 75 then let y95 := J_X4_putMeans sh p0 p2 p3; ((sh 0 1), (sh 1), (sh 2), (sh 3), (sh 4), (sh 0 6), (sh 0 7), (y95.1), (y95.2.1), (y95.2.2.1), (y95.2.2.2.1), (y95.2.2.2.2)) else if p0 = 76 then let y111 := J_X4_putMeans sh p0 p2 p3; ((sh 0 1), (sh 1), (sh 2), (sh 3), (sh 4), (sh 0 6), (sh 0 7), (y111.1), (y111.2.1), (y111.2.2.1), (y111.2.2.2.1), (y111.2.2.2.2)) else if p0 = 77 then let y127 := J_X4_putMeans sh p0 p2 p3; ((sh 0 1), (sh 1), (sh 2), (sh 3), (sh 4), (sh 0 6), (sh 0 7), (y127.1), (y127.2.1), (y127.2.2.1), (y127.2.2.2.1), (y127.2.2.2.2)) else if p0 = 78 then let y143 := J_X4_putMeans sh p0 p2 p3; ((sh 0 1), (sh 1), (sh 2), (sh 3), (sh 4), (sh 0 6), (sh 0 7), (y143.1), (y143.2.1), (y143.2.2.1), (y143.2.2.2.1), (y143.2.2.2.2)) else if p0 = 79 then ((sh 0 1), (sh 1), (upd (sh 2) (p1).toNatClampNeg p2), (sh 3), (sh 4), (sh 0 6), (sh 0 7), (sh 0 8), (sh 0 9), (sh 0 10), (sh 0 11), (sh 0 12)) else if p0 = 80 then ((sh 0 1), (sh 1), (sh 2), (sh 3), (sh 4), p2, (sh 0 7), (sh 0 8), (sh 0 9), (sh 0 10), (sh 0 11), (sh 0 12)) else if p0 = 81 then ((sh 0 1), (sh 1), (sh 2), (upd (sh 3) (p1).toNatClampNeg p2), (sh 4), (sh 0 6), (sh 0 7), (sh 0 8), (sh 0 9), (sh 0 10), (sh 0 11), (sh 0 12)) else if p0 = 82 then let y166 := J_X4_putMeans sh p0 p2 p3; ((sh 0 1), (sh 1), (sh 2), (sh 3), (sh 4), (sh 0 6), (sh 0 7), (y166.1), (y166.2.1), (y166.2.2.1), (y166.2.2.2.1), (y166.2.2.2.2)) else if p0 = 83 then ((sh 0 1), (sh 1), (sh 2), (sh 3), (sh 4), (sh 0 6), p2, (sh 0 8), (sh 0 9), (sh 0 10), (sh 0 11), (sh 0 12)) else if p0 = 84 then let y183 := J_X4_putMeans sh p0 p2 p3; ((sh 0 1), (sh 1), (sh 2), (sh 3), (sh 4), (sh 0 6), (sh 0 7), (y183.1), (y183.2.1), (y183.2.2.1), (y183.2.2.2.1), (y183.2.2.2.2)) else if p0 = 85 then let y199 := J_X4_putMeans sh p0 p2 p3; ((sh 0 1), (sh 1), (sh 2), (sh 3), (sh 4), (sh 0 6), (sh 0 7), (y199.1), (y199.2.1), (y199.2.2.1), (y199.2.2.2.1), (y199.2.2.2.2)) else if p0 = 86 then let y215 := J_X4_putMeans sh p0 p2 p3; ((sh 0 1), (sh 1), (sh 2), (sh 3), (sh 4), (sh 0 6), (sh 0 7), (y215.1), (y215.2.1), (y215.2.2.1), (y215.2.2.2.1), (y215.2.2.2.2)) else if p0 = 87 then ((sh 0 1), (upd (sh 1) (p1).toNatClampNeg (((10 : Int32) * p2) + p3)), (sh 2), (sh 3), (sh 4), (sh 0 6), (sh 0 7), (sh 0 8), (sh 0 9), (sh 0 10), (sh 0 11), (sh 0 12)) else let y236 := J_X4_putMeans sh p0 p2 p3; ((sh 0 1), (sh 1), (sh 2), (sh 3), (sh 4), (sh 0 6), (sh 0 7), (y236.1), (y236.2.1), (y236.2.2.1), (y236.2.2.2.1), (y236.2.2.2.2))
set_option maxHeartbeats 4000000 in
set_option maxRecDepth 100000 in
theorem c_X4_put (l : Launch) (D : va_G) (k : Nat → ClassId) (b : Nat → Nat) (qh : Nat → Nat) (sh : Nat → Nat → Int32) (sz : Nat) (p0 : Int32) (p1 : Int32) (p2 : Int32) (p3 : Int32) (h_wk : 0 ≤ (sh 0 0).toInt ∧ (sh 0 0).toInt ≤ 5) (h_hk : 0 ≤ (sh 0 1).toInt ∧ (sh 0 1).toInt ≤ 4) (h_fl : 0 ≤ (sh 0 12).toInt ∧ (sh 0 12).toInt ≤ 5) (h_of : ∀ j, 0 ≤ (sh 2 j).toInt ∧ (sh 2 j).toInt ≤ 4) (h_go : ∀ j, 0 ≤ (sh 3 j).toInt ∧ (sh 3 j).toInt ≤ 5) (ha : ¬ (p0.toInt = 81 ∨ p0.toInt = 68) ∨ p1.toInt ≤ 2) (hb : ¬ p0.toInt = 72 ∨ p2.toInt ≤ 4) (hc : ¬ p0.toInt = 79 ∨ p2.toInt ≤ 4) (hd : ¬ p0.toInt = 81 ∨ p2.toInt ≤ 5) (he : ¬ p0.toInt = 66 ∨ p3.toInt ≤ 5) (hp1 : 0 ≤ p1.toInt ∧ p1.toInt ≤ 4) (hp2 : 0 ≤ p2.toInt ∧ p2.toInt ≤ 9) (hp3 : 0 ≤ p3.toInt ∧ p3.toInt ≤ 9) : MetV l D k b yX4_put wsX4_put ({ frames := 1, cells := 0, slots := 0, locals := 23 } : Room) [cell32_ qh sh, cell0_ k qh sh, cell1_ k qh sh, cell4_ k qh sh, cell3_ k qh sh, cell2_ k qh sh] sz [.ref (qh 0), .int p0, .int p1, .int p2, .int p3] (fun (u : Int32 × (Nat → Int32) × (Nat → Int32) × (Nat → Int32) × (Nat → Int32) × Int32 × Int32 × Int32 × Int32 × Int32 × Int32 × Int32) => (0 ≤ (u.1).toInt ∧ (u.1).toInt ≤ 4) ∧ (0 ≤ (u.2.2.2.2.2.2.2.2.2.2.2).toInt ∧ (u.2.2.2.2.2.2.2.2.2.2.2).toInt ≤ 5) ∧ (∀ j, 0 ≤ ((u.2.2.1) j).toInt ∧ ((u.2.2.1) j).toInt ≤ 4) ∧ (∀ j, 0 ≤ ((u.2.2.2.1) j).toInt ∧ ((u.2.2.2.1) j).toInt ≤ 5) ∧ (((u.1), (u.2.1), (u.2.2.1), (u.2.2.2.1), (u.2.2.2.2.1), (u.2.2.2.2.2.1), (u.2.2.2.2.2.2.1), (u.2.2.2.2.2.2.2.1), (u.2.2.2.2.2.2.2.2.1), (u.2.2.2.2.2.2.2.2.2.1), (u.2.2.2.2.2.2.2.2.2.2.1), (u.2.2.2.2.2.2.2.2.2.2.2)) = J_X4_put sh p0 p1 p2 p3)) (fun u => [cell137_ qh sh (u.1) (u.2.2.2.2.2.1) (u.2.2.2.2.2.2.1) (u.2.2.2.2.2.2.2.1) (u.2.2.2.2.2.2.2.2.1) (u.2.2.2.2.2.2.2.2.2.1) (u.2.2.2.2.2.2.2.2.2.2.1) (u.2.2.2.2.2.2.2.2.2.2.2), cell85_ k qh (u.2.1), cell97_ k qh (u.2.2.1), cell102_ k qh (u.2.2.2.1), cell103_ k qh (u.2.2.2.2.1), cell2_ k qh sh]) := by
  refine g_enter (cc := cX4_put) (maxL := 5) (ret := none) (by decide) rfl (Nat.le_of_ble_eq_true rfl) ?_
  intro p e s m below meth c A hsz hAe cx hr hP hD hS ls hl
  rw [hAe]
  refine g_q (fun Q hQ => ?_)
  have hx := cx.1.1
  have hb := cx.1.2.1
  have bp0 := i_rng p0
  have bp1 := i_rng p1
  have bp2 := i_rng p2
  have bp3 := i_rng p3
  have hl : lv_has ls 5 [(0, .ref (qh 0)), (1, .int p0), (2, .int p1), (3, .int p2), (4, .int p3)] := hl
  obtain ⟨H, eH⟩ : ∃ H : Heap, H = s.heap := ⟨_, rfl⟩
  obtain ⟨locs, el⟩ : ∃ L : List Loc, L = [] := ⟨_, rfl⟩
  have hP : va_P D vwCl [cell32_ qh sh, cell0_ k qh sh, cell1_ k qh sh, cell4_ k qh sh, cell3_ k qh sh, cell2_ k qh sh] H := by rw [eH]; exact hP
  have hD : va_D A [cell32_ qh sh, cell0_ k qh sh, cell1_ k qh sh, cell4_ k qh sh, cell3_ k qh sh, cell2_ k qh sh] := hD
  have hS : va_S A s.heap H locs := by rw [eH, el]; exact hS
  suffices goal : W p l e ({ frames := 1, cells := 0, slots := 0, locals := 23 } : Room) s m ([.ref (qh 0), .int p0, .int p1, .int p2, .int p3] : List Value).toArray below meth c H locs 0 0 Q (F0 m 0 ls []) by rw [eH, el] at goal; exact goal
  refine lv_iload_n hx hb dX4_put_0 rfl (lv_at hl 1 rfl) ?_
  by_cases c1 : p0 = 68
  · refine lv_tableIn (tgt := 140) (off := 139) hx hb dX4_put_1 (by rw [c1]; decide) (by rw [c1]; decide) (by rw [c1]; decide) (by decide) ?_
    have f1 : p0.toInt = 68 := f_eq rfl (by decide) c1
    refine lv_aload_n hx hb dX4_put_140 rfl (lv_at hl 0 rfl) ?_
    refine g_get cx hP iw_X4_put_X4 0 rfl rfl 5 (by decide) rfl fw_X4_put_21 rfl dX4_put_141 ?_
    refine lv_iload_n hx hb dX4_put_144 rfl (lv_at hl 2 rfl) ?_
    refine lv_iload_n hx hb dX4_put_145 rfl (lv_at hl 3 rfl) ?_
    have hn2 : vp_in p1 3 := f_in (a := p1.toInt) rfl (by omega) (by omega)
    refine va_iast hx hb cx.2.1 hP hD hS 4 0 rfl rfl hn2 dX4_put_146 (fun H locs hP hD hS => ?_)
    obtain ⟨g3, eg3⟩ : ∃ g : Nat → Int32, g = upd (sh 4) (p1).toNatClampNeg p2 := ⟨_, rfl⟩
    rw [← eg3] at hP hD
    have hP : va_P D vwCl [cell32_ qh sh, cell0_ k qh sh, cell1_ k qh sh, cell4_ k qh sh, (qh 4, .inl (k 0, 3, .inl g3)), cell2_ k qh sh] H := hP
    have hD : va_D A [cell32_ qh sh, cell0_ k qh sh, cell1_ k qh sh, cell4_ k qh sh, (qh 4, .inl (k 0, 3, .inl g3)), cell2_ k qh sh] := hD
    refine lv_goto (tgt := 174) hx hb dX4_put_147 (by decide) ?_
    rw [hQ]
    exact x_v cx hr ((sh 0 1), (sh 1), (sh 2), (sh 3), g3, (sh 0 6), (sh 0 7), (sh 0 8), (sh 0 9), (sh 0 10), (sh 0 11), (sh 0 12)) hP hD hS ⟨(show 0 ≤ (sh 0 1).toInt ∧ (sh 0 1).toInt ≤ 4 from by omega), (show 0 ≤ (sh 0 12).toInt ∧ (sh 0 12).toInt ≤ 5 from by omega), h_of, h_go, (show ((sh 0 1), (sh 1), (sh 2), (sh 3), g3, (sh 0 6), (sh 0 7), (sh 0 8), (sh 0 9), (sh 0 10), (sh 0 11), (sh 0 12)) = J_X4_put sh p0 p1 p2 p3 from by subst eg3; first | (refine Eq.symm ?_; refine Eq.trans (if_pos c1) ?_; rfl) | (unfold J_X4_put; try dsimp only; rw [if_pos c1]))⟩ dX4_put_174
  by_cases c4 : p0 = 69
  · refine lv_tableIn (tgt := 166) (off := 165) hx hb dX4_put_1 (by rw [c4]; decide) (by rw [c4]; decide) (by rw [c4]; decide) (by decide) ?_
    have f4 : p0.toInt = 69 := f_eq rfl (by decide) c4
    refine lv_aload_n hx hb dX4_put_166 rfl (lv_at hl 0 rfl) ?_
    refine lv_iload_n hx hb dX4_put_167 rfl (lv_at hl 1 rfl) ?_
    refine lv_iload_n hx hb dX4_put_168 rfl (lv_at hl 3 rfl) ?_
    refine lv_iload hx hb dX4_put_169 (lv_at hl 4 rfl) ?_
    refine g_vF (w1 := fun (u : Int32 × Int32 × Int32 × Int32 × Int32) => [cell82_ qh sh (u.1) (u.2.1) (u.2.2.1) (u.2.2.2.1) (u.2.2.2.2), cell0_ k qh sh, cell1_ k qh sh, cell4_ k qh sh, cell3_ k qh sh, cell2_ k qh sh]) (g_runVF (ws := [cell32_ qh sh, cell0_ k qh sh, cell1_ k qh sh, cell4_ k qh sh, cell3_ k qh sh, cell2_ k qh sh]) (rest := []) cx hP hD hS [.int p0, .int p2, .int p3] (c_X4_putMeans l D k b qh sh H.size p0 p2 p3 (show 0 ≤ (sh 0 12).toInt ∧ (sh 0 12).toInt ≤ 5 from by first | decide | omega) (show ¬ p0.toInt = 66 ∨ (0 ≤ p3.toInt ∧ p3.toInt ≤ 5) from by first | decide | omega)) gX4_put_X4_putMeans rfl rfl rfl nd_X4_putMeans ⟨Nat.le_of_ble_eq_true rfl, Nat.le_of_ble_eq_true rfl⟩ (ci := 2) (q0 := 0) rfl rfl rfl hl.1 rfl (Nat.le_of_ble_eq_true rfl) ⟨Nat.zero_le _, Nat.zero_le _⟩ dX4_put_171) cx.2.2.1 hD hS (fun u6 H locs hw5 hP hD hS => ?_)
    obtain ⟨m7, m8, m9, m10, m11⟩ := u6
    have hP : va_P D vwCl [cell82_ qh sh m7 m8 m9 m10 m11, cell0_ k qh sh, cell1_ k qh sh, cell4_ k qh sh, cell3_ k qh sh, cell2_ k qh sh] H := hP
    have hD : va_D A [cell82_ qh sh m7 m8 m9 m10 m11, cell0_ k qh sh, cell1_ k qh sh, cell4_ k qh sh, cell3_ k qh sh, cell2_ k qh sh] := hD
    replace hw5 : (0 ≤ m11.toInt ∧ m11.toInt ≤ 5) ∧ ((m7, m8, m9, m10, m11) = J_X4_putMeans sh p0 p2 p3) := hw5
    obtain ⟨w12, w13⟩ := hw5
    have k15 : m7 = ((J_X4_putMeans sh p0 p2 p3).1) := congrArg (fun z => (z.1)) w13
    have k16 : m8 = ((J_X4_putMeans sh p0 p2 p3).2.1) := congrArg (fun z => (z.2.1)) w13
    have k17 : m9 = ((J_X4_putMeans sh p0 p2 p3).2.2.1) := congrArg (fun z => (z.2.2.1)) w13
    have k18 : m10 = ((J_X4_putMeans sh p0 p2 p3).2.2.2.1) := congrArg (fun z => (z.2.2.2.1)) w13
    have k19 : m11 = ((J_X4_putMeans sh p0 p2 p3).2.2.2.2) := congrArg (fun z => (z.2.2.2.2)) w13
    rw [hQ]
    exact x_v cx hr ((sh 0 1), (sh 1), (sh 2), (sh 3), (sh 4), (sh 0 6), (sh 0 7), m7, m8, m9, m10, m11) hP hD hS ⟨(show 0 ≤ (sh 0 1).toInt ∧ (sh 0 1).toInt ≤ 4 from by omega), (show 0 ≤ m11.toInt ∧ m11.toInt ≤ 5 from by omega), h_of, h_go, (show ((sh 0 1), (sh 1), (sh 2), (sh 3), (sh 4), (sh 0 6), (sh 0 7), m7, m8, m9, m10, m11) = J_X4_put sh p0 p1 p2 p3 from by subst k15 k16 k17 k18 k19; first | (refine Eq.symm ?_; refine Eq.trans (if_neg c1) ?_; refine Eq.trans (if_pos c4) ?_; rfl) | (unfold J_X4_put; try dsimp only; rw [if_neg c1, if_pos c4]))⟩ dX4_put_174
  by_cases c20 : p0 = 70
  · refine lv_tableIn (tgt := 166) (off := 165) hx hb dX4_put_1 (by rw [c20]; decide) (by rw [c20]; decide) (by rw [c20]; decide) (by decide) ?_
    have f20 : p0.toInt = 70 := f_eq rfl (by decide) c20
    refine lv_aload_n hx hb dX4_put_166 rfl (lv_at hl 0 rfl) ?_
    refine lv_iload_n hx hb dX4_put_167 rfl (lv_at hl 1 rfl) ?_
    refine lv_iload_n hx hb dX4_put_168 rfl (lv_at hl 3 rfl) ?_
    refine lv_iload hx hb dX4_put_169 (lv_at hl 4 rfl) ?_
    refine g_vF (w1 := fun (u : Int32 × Int32 × Int32 × Int32 × Int32) => [cell82_ qh sh (u.1) (u.2.1) (u.2.2.1) (u.2.2.2.1) (u.2.2.2.2), cell0_ k qh sh, cell1_ k qh sh, cell4_ k qh sh, cell3_ k qh sh, cell2_ k qh sh]) (g_runVF (ws := [cell32_ qh sh, cell0_ k qh sh, cell1_ k qh sh, cell4_ k qh sh, cell3_ k qh sh, cell2_ k qh sh]) (rest := []) cx hP hD hS [.int p0, .int p2, .int p3] (c_X4_putMeans l D k b qh sh H.size p0 p2 p3 (show 0 ≤ (sh 0 12).toInt ∧ (sh 0 12).toInt ≤ 5 from by first | decide | omega) (show ¬ p0.toInt = 66 ∨ (0 ≤ p3.toInt ∧ p3.toInt ≤ 5) from by first | decide | omega)) gX4_put_X4_putMeans rfl rfl rfl nd_X4_putMeans ⟨Nat.le_of_ble_eq_true rfl, Nat.le_of_ble_eq_true rfl⟩ (ci := 2) (q0 := 0) rfl rfl rfl hl.1 rfl (Nat.le_of_ble_eq_true rfl) ⟨Nat.zero_le _, Nat.zero_le _⟩ dX4_put_171) cx.2.2.1 hD hS (fun u22 H locs hw21 hP hD hS => ?_)
    obtain ⟨m23, m24, m25, m26, m27⟩ := u22
    have hP : va_P D vwCl [cell82_ qh sh m23 m24 m25 m26 m27, cell0_ k qh sh, cell1_ k qh sh, cell4_ k qh sh, cell3_ k qh sh, cell2_ k qh sh] H := hP
    have hD : va_D A [cell82_ qh sh m23 m24 m25 m26 m27, cell0_ k qh sh, cell1_ k qh sh, cell4_ k qh sh, cell3_ k qh sh, cell2_ k qh sh] := hD
    replace hw21 : (0 ≤ m27.toInt ∧ m27.toInt ≤ 5) ∧ ((m23, m24, m25, m26, m27) = J_X4_putMeans sh p0 p2 p3) := hw21
    obtain ⟨w28, w29⟩ := hw21
    have k31 : m23 = ((J_X4_putMeans sh p0 p2 p3).1) := congrArg (fun z => (z.1)) w29
    have k32 : m24 = ((J_X4_putMeans sh p0 p2 p3).2.1) := congrArg (fun z => (z.2.1)) w29
    have k33 : m25 = ((J_X4_putMeans sh p0 p2 p3).2.2.1) := congrArg (fun z => (z.2.2.1)) w29
    have k34 : m26 = ((J_X4_putMeans sh p0 p2 p3).2.2.2.1) := congrArg (fun z => (z.2.2.2.1)) w29
    have k35 : m27 = ((J_X4_putMeans sh p0 p2 p3).2.2.2.2) := congrArg (fun z => (z.2.2.2.2)) w29
    rw [hQ]
    exact x_v cx hr ((sh 0 1), (sh 1), (sh 2), (sh 3), (sh 4), (sh 0 6), (sh 0 7), m23, m24, m25, m26, m27) hP hD hS ⟨(show 0 ≤ (sh 0 1).toInt ∧ (sh 0 1).toInt ≤ 4 from by omega), (show 0 ≤ m27.toInt ∧ m27.toInt ≤ 5 from by omega), h_of, h_go, (show ((sh 0 1), (sh 1), (sh 2), (sh 3), (sh 4), (sh 0 6), (sh 0 7), m23, m24, m25, m26, m27) = J_X4_put sh p0 p1 p2 p3 from by subst k31 k32 k33 k34 k35; first | (refine Eq.symm ?_; refine Eq.trans (if_neg c1) ?_; refine Eq.trans (if_neg c4) ?_; refine Eq.trans (if_pos c20) ?_; rfl) | (unfold J_X4_put; try dsimp only; rw [if_neg c1, if_neg c4, if_pos c20]))⟩ dX4_put_174
  by_cases c36 : p0 = 71
  · refine lv_tableIn (tgt := 166) (off := 165) hx hb dX4_put_1 (by rw [c36]; decide) (by rw [c36]; decide) (by rw [c36]; decide) (by decide) ?_
    have f36 : p0.toInt = 71 := f_eq rfl (by decide) c36
    refine lv_aload_n hx hb dX4_put_166 rfl (lv_at hl 0 rfl) ?_
    refine lv_iload_n hx hb dX4_put_167 rfl (lv_at hl 1 rfl) ?_
    refine lv_iload_n hx hb dX4_put_168 rfl (lv_at hl 3 rfl) ?_
    refine lv_iload hx hb dX4_put_169 (lv_at hl 4 rfl) ?_
    refine g_vF (w1 := fun (u : Int32 × Int32 × Int32 × Int32 × Int32) => [cell82_ qh sh (u.1) (u.2.1) (u.2.2.1) (u.2.2.2.1) (u.2.2.2.2), cell0_ k qh sh, cell1_ k qh sh, cell4_ k qh sh, cell3_ k qh sh, cell2_ k qh sh]) (g_runVF (ws := [cell32_ qh sh, cell0_ k qh sh, cell1_ k qh sh, cell4_ k qh sh, cell3_ k qh sh, cell2_ k qh sh]) (rest := []) cx hP hD hS [.int p0, .int p2, .int p3] (c_X4_putMeans l D k b qh sh H.size p0 p2 p3 (show 0 ≤ (sh 0 12).toInt ∧ (sh 0 12).toInt ≤ 5 from by first | decide | omega) (show ¬ p0.toInt = 66 ∨ (0 ≤ p3.toInt ∧ p3.toInt ≤ 5) from by first | decide | omega)) gX4_put_X4_putMeans rfl rfl rfl nd_X4_putMeans ⟨Nat.le_of_ble_eq_true rfl, Nat.le_of_ble_eq_true rfl⟩ (ci := 2) (q0 := 0) rfl rfl rfl hl.1 rfl (Nat.le_of_ble_eq_true rfl) ⟨Nat.zero_le _, Nat.zero_le _⟩ dX4_put_171) cx.2.2.1 hD hS (fun u38 H locs hw37 hP hD hS => ?_)
    obtain ⟨m39, m40, m41, m42, m43⟩ := u38
    have hP : va_P D vwCl [cell82_ qh sh m39 m40 m41 m42 m43, cell0_ k qh sh, cell1_ k qh sh, cell4_ k qh sh, cell3_ k qh sh, cell2_ k qh sh] H := hP
    have hD : va_D A [cell82_ qh sh m39 m40 m41 m42 m43, cell0_ k qh sh, cell1_ k qh sh, cell4_ k qh sh, cell3_ k qh sh, cell2_ k qh sh] := hD
    replace hw37 : (0 ≤ m43.toInt ∧ m43.toInt ≤ 5) ∧ ((m39, m40, m41, m42, m43) = J_X4_putMeans sh p0 p2 p3) := hw37
    obtain ⟨w44, w45⟩ := hw37
    have k47 : m39 = ((J_X4_putMeans sh p0 p2 p3).1) := congrArg (fun z => (z.1)) w45
    have k48 : m40 = ((J_X4_putMeans sh p0 p2 p3).2.1) := congrArg (fun z => (z.2.1)) w45
    have k49 : m41 = ((J_X4_putMeans sh p0 p2 p3).2.2.1) := congrArg (fun z => (z.2.2.1)) w45
    have k50 : m42 = ((J_X4_putMeans sh p0 p2 p3).2.2.2.1) := congrArg (fun z => (z.2.2.2.1)) w45
    have k51 : m43 = ((J_X4_putMeans sh p0 p2 p3).2.2.2.2) := congrArg (fun z => (z.2.2.2.2)) w45
    rw [hQ]
    exact x_v cx hr ((sh 0 1), (sh 1), (sh 2), (sh 3), (sh 4), (sh 0 6), (sh 0 7), m39, m40, m41, m42, m43) hP hD hS ⟨(show 0 ≤ (sh 0 1).toInt ∧ (sh 0 1).toInt ≤ 4 from by omega), (show 0 ≤ m43.toInt ∧ m43.toInt ≤ 5 from by omega), h_of, h_go, (show ((sh 0 1), (sh 1), (sh 2), (sh 3), (sh 4), (sh 0 6), (sh 0 7), m39, m40, m41, m42, m43) = J_X4_put sh p0 p1 p2 p3 from by subst k47 k48 k49 k50 k51; first | (refine Eq.symm ?_; refine Eq.trans (if_neg c1) ?_; refine Eq.trans (if_neg c4) ?_; refine Eq.trans (if_neg c20) ?_; refine Eq.trans (if_pos c36) ?_; rfl) | (unfold J_X4_put; try dsimp only; rw [if_neg c1, if_neg c4, if_neg c20, if_pos c36]))⟩ dX4_put_174
  by_cases c52 : p0 = 72
  · refine lv_tableIn (tgt := 96) (off := 95) hx hb dX4_put_1 (by rw [c52]; decide) (by rw [c52]; decide) (by rw [c52]; decide) (by decide) ?_
    have f52 : p0.toInt = 72 := f_eq rfl (by decide) c52
    refine lv_aload_n hx hb dX4_put_96 rfl (lv_at hl 0 rfl) ?_
    refine lv_iload_n hx hb dX4_put_97 rfl (lv_at hl 3 rfl) ?_
    refine g_pt cx hP hD hS iw_X4_put_X4 tyX4 tyX4_ok nmX4 0 rfl rfl 1 (by decide) rfl fw_X4_put_36 (ty := .int) rfl rfl rfl (Nat.le_of_ble_eq_true rfl) dX4_put_98 (fun H locs hP hD hS => ?_)
    have hP : va_P D vwCl [(qh 0, .inr (2, [.int (sh 0 0), .int p2, .ref (qh 1), .ref (qh 2), .ref (qh 3), .ref (qh 4), .int (sh 0 6), .int (sh 0 7), .int (sh 0 8), .int (sh 0 9), .int (sh 0 10), .int (sh 0 11), .int (sh 0 12), .ref (qh 5)])), cell0_ k qh sh, cell1_ k qh sh, cell4_ k qh sh, cell3_ k qh sh, cell2_ k qh sh] H := hP
    have hD : va_D A [(qh 0, .inr (2, [.int (sh 0 0), .int p2, .ref (qh 1), .ref (qh 2), .ref (qh 3), .ref (qh 4), .int (sh 0 6), .int (sh 0 7), .int (sh 0 8), .int (sh 0 9), .int (sh 0 10), .int (sh 0 11), .int (sh 0 12), .ref (qh 5)])), cell0_ k qh sh, cell1_ k qh sh, cell4_ k qh sh, cell3_ k qh sh, cell2_ k qh sh] := hD
    refine lv_goto (tgt := 174) hx hb dX4_put_101 (by decide) ?_
    rw [hQ]
    exact x_v cx hr (p2, (sh 1), (sh 2), (sh 3), (sh 4), (sh 0 6), (sh 0 7), (sh 0 8), (sh 0 9), (sh 0 10), (sh 0 11), (sh 0 12)) hP hD hS ⟨(show 0 ≤ p2.toInt ∧ p2.toInt ≤ 4 from by omega), (show 0 ≤ (sh 0 12).toInt ∧ (sh 0 12).toInt ≤ 5 from by omega), h_of, h_go, (show (p2, (sh 1), (sh 2), (sh 3), (sh 4), (sh 0 6), (sh 0 7), (sh 0 8), (sh 0 9), (sh 0 10), (sh 0 11), (sh 0 12)) = J_X4_put sh p0 p1 p2 p3 from by first | (refine Eq.symm ?_; refine Eq.trans (if_neg c1) ?_; refine Eq.trans (if_neg c4) ?_; refine Eq.trans (if_neg c20) ?_; refine Eq.trans (if_neg c36) ?_; refine Eq.trans (if_pos c52) ?_; rfl) | (unfold J_X4_put; try dsimp only; rw [if_neg c1, if_neg c4, if_neg c20, if_neg c36, if_pos c52]))⟩ dX4_put_174
  by_cases c53 : p0 = 73
  · refine lv_tableIn (tgt := 166) (off := 165) hx hb dX4_put_1 (by rw [c53]; decide) (by rw [c53]; decide) (by rw [c53]; decide) (by decide) ?_
    have f53 : p0.toInt = 73 := f_eq rfl (by decide) c53
    refine lv_aload_n hx hb dX4_put_166 rfl (lv_at hl 0 rfl) ?_
    refine lv_iload_n hx hb dX4_put_167 rfl (lv_at hl 1 rfl) ?_
    refine lv_iload_n hx hb dX4_put_168 rfl (lv_at hl 3 rfl) ?_
    refine lv_iload hx hb dX4_put_169 (lv_at hl 4 rfl) ?_
    refine g_vF (w1 := fun (u : Int32 × Int32 × Int32 × Int32 × Int32) => [cell82_ qh sh (u.1) (u.2.1) (u.2.2.1) (u.2.2.2.1) (u.2.2.2.2), cell0_ k qh sh, cell1_ k qh sh, cell4_ k qh sh, cell3_ k qh sh, cell2_ k qh sh]) (g_runVF (ws := [cell32_ qh sh, cell0_ k qh sh, cell1_ k qh sh, cell4_ k qh sh, cell3_ k qh sh, cell2_ k qh sh]) (rest := []) cx hP hD hS [.int p0, .int p2, .int p3] (c_X4_putMeans l D k b qh sh H.size p0 p2 p3 (show 0 ≤ (sh 0 12).toInt ∧ (sh 0 12).toInt ≤ 5 from by first | decide | omega) (show ¬ p0.toInt = 66 ∨ (0 ≤ p3.toInt ∧ p3.toInt ≤ 5) from by first | decide | omega)) gX4_put_X4_putMeans rfl rfl rfl nd_X4_putMeans ⟨Nat.le_of_ble_eq_true rfl, Nat.le_of_ble_eq_true rfl⟩ (ci := 2) (q0 := 0) rfl rfl rfl hl.1 rfl (Nat.le_of_ble_eq_true rfl) ⟨Nat.zero_le _, Nat.zero_le _⟩ dX4_put_171) cx.2.2.1 hD hS (fun u55 H locs hw54 hP hD hS => ?_)
    obtain ⟨m56, m57, m58, m59, m60⟩ := u55
    have hP : va_P D vwCl [cell82_ qh sh m56 m57 m58 m59 m60, cell0_ k qh sh, cell1_ k qh sh, cell4_ k qh sh, cell3_ k qh sh, cell2_ k qh sh] H := hP
    have hD : va_D A [cell82_ qh sh m56 m57 m58 m59 m60, cell0_ k qh sh, cell1_ k qh sh, cell4_ k qh sh, cell3_ k qh sh, cell2_ k qh sh] := hD
    replace hw54 : (0 ≤ m60.toInt ∧ m60.toInt ≤ 5) ∧ ((m56, m57, m58, m59, m60) = J_X4_putMeans sh p0 p2 p3) := hw54
    obtain ⟨w61, w62⟩ := hw54
    have k64 : m56 = ((J_X4_putMeans sh p0 p2 p3).1) := congrArg (fun z => (z.1)) w62
    have k65 : m57 = ((J_X4_putMeans sh p0 p2 p3).2.1) := congrArg (fun z => (z.2.1)) w62
    have k66 : m58 = ((J_X4_putMeans sh p0 p2 p3).2.2.1) := congrArg (fun z => (z.2.2.1)) w62
    have k67 : m59 = ((J_X4_putMeans sh p0 p2 p3).2.2.2.1) := congrArg (fun z => (z.2.2.2.1)) w62
    have k68 : m60 = ((J_X4_putMeans sh p0 p2 p3).2.2.2.2) := congrArg (fun z => (z.2.2.2.2)) w62
    rw [hQ]
    exact x_v cx hr ((sh 0 1), (sh 1), (sh 2), (sh 3), (sh 4), (sh 0 6), (sh 0 7), m56, m57, m58, m59, m60) hP hD hS ⟨(show 0 ≤ (sh 0 1).toInt ∧ (sh 0 1).toInt ≤ 4 from by omega), (show 0 ≤ m60.toInt ∧ m60.toInt ≤ 5 from by omega), h_of, h_go, (show ((sh 0 1), (sh 1), (sh 2), (sh 3), (sh 4), (sh 0 6), (sh 0 7), m56, m57, m58, m59, m60) = J_X4_put sh p0 p1 p2 p3 from by subst k64 k65 k66 k67 k68; first | (refine Eq.symm ?_; refine Eq.trans (if_neg c1) ?_; refine Eq.trans (if_neg c4) ?_; refine Eq.trans (if_neg c20) ?_; refine Eq.trans (if_neg c36) ?_; refine Eq.trans (if_neg c52) ?_; refine Eq.trans (if_pos c53) ?_; rfl) | (unfold J_X4_put; try dsimp only; rw [if_neg c1, if_neg c4, if_neg c20, if_neg c36, if_neg c52, if_pos c53]))⟩ dX4_put_174
  by_cases c69 : p0 = 74
  · refine lv_tableIn (tgt := 166) (off := 165) hx hb dX4_put_1 (by rw [c69]; decide) (by rw [c69]; decide) (by rw [c69]; decide) (by decide) ?_
    have f69 : p0.toInt = 74 := f_eq rfl (by decide) c69
    refine lv_aload_n hx hb dX4_put_166 rfl (lv_at hl 0 rfl) ?_
    refine lv_iload_n hx hb dX4_put_167 rfl (lv_at hl 1 rfl) ?_
    refine lv_iload_n hx hb dX4_put_168 rfl (lv_at hl 3 rfl) ?_
    refine lv_iload hx hb dX4_put_169 (lv_at hl 4 rfl) ?_
    refine g_vF (w1 := fun (u : Int32 × Int32 × Int32 × Int32 × Int32) => [cell82_ qh sh (u.1) (u.2.1) (u.2.2.1) (u.2.2.2.1) (u.2.2.2.2), cell0_ k qh sh, cell1_ k qh sh, cell4_ k qh sh, cell3_ k qh sh, cell2_ k qh sh]) (g_runVF (ws := [cell32_ qh sh, cell0_ k qh sh, cell1_ k qh sh, cell4_ k qh sh, cell3_ k qh sh, cell2_ k qh sh]) (rest := []) cx hP hD hS [.int p0, .int p2, .int p3] (c_X4_putMeans l D k b qh sh H.size p0 p2 p3 (show 0 ≤ (sh 0 12).toInt ∧ (sh 0 12).toInt ≤ 5 from by first | decide | omega) (show ¬ p0.toInt = 66 ∨ (0 ≤ p3.toInt ∧ p3.toInt ≤ 5) from by first | decide | omega)) gX4_put_X4_putMeans rfl rfl rfl nd_X4_putMeans ⟨Nat.le_of_ble_eq_true rfl, Nat.le_of_ble_eq_true rfl⟩ (ci := 2) (q0 := 0) rfl rfl rfl hl.1 rfl (Nat.le_of_ble_eq_true rfl) ⟨Nat.zero_le _, Nat.zero_le _⟩ dX4_put_171) cx.2.2.1 hD hS (fun u71 H locs hw70 hP hD hS => ?_)
    obtain ⟨m72, m73, m74, m75, m76⟩ := u71
    have hP : va_P D vwCl [cell82_ qh sh m72 m73 m74 m75 m76, cell0_ k qh sh, cell1_ k qh sh, cell4_ k qh sh, cell3_ k qh sh, cell2_ k qh sh] H := hP
    have hD : va_D A [cell82_ qh sh m72 m73 m74 m75 m76, cell0_ k qh sh, cell1_ k qh sh, cell4_ k qh sh, cell3_ k qh sh, cell2_ k qh sh] := hD
    replace hw70 : (0 ≤ m76.toInt ∧ m76.toInt ≤ 5) ∧ ((m72, m73, m74, m75, m76) = J_X4_putMeans sh p0 p2 p3) := hw70
    obtain ⟨w77, w78⟩ := hw70
    have k80 : m72 = ((J_X4_putMeans sh p0 p2 p3).1) := congrArg (fun z => (z.1)) w78
    have k81 : m73 = ((J_X4_putMeans sh p0 p2 p3).2.1) := congrArg (fun z => (z.2.1)) w78
    have k82 : m74 = ((J_X4_putMeans sh p0 p2 p3).2.2.1) := congrArg (fun z => (z.2.2.1)) w78
    have k83 : m75 = ((J_X4_putMeans sh p0 p2 p3).2.2.2.1) := congrArg (fun z => (z.2.2.2.1)) w78
    have k84 : m76 = ((J_X4_putMeans sh p0 p2 p3).2.2.2.2) := congrArg (fun z => (z.2.2.2.2)) w78
    rw [hQ]
    exact x_v cx hr ((sh 0 1), (sh 1), (sh 2), (sh 3), (sh 4), (sh 0 6), (sh 0 7), m72, m73, m74, m75, m76) hP hD hS ⟨(show 0 ≤ (sh 0 1).toInt ∧ (sh 0 1).toInt ≤ 4 from by omega), (show 0 ≤ m76.toInt ∧ m76.toInt ≤ 5 from by omega), h_of, h_go, (show ((sh 0 1), (sh 1), (sh 2), (sh 3), (sh 4), (sh 0 6), (sh 0 7), m72, m73, m74, m75, m76) = J_X4_put sh p0 p1 p2 p3 from by subst k80 k81 k82 k83 k84; first | (refine Eq.symm ?_; refine Eq.trans (if_neg c1) ?_; refine Eq.trans (if_neg c4) ?_; refine Eq.trans (if_neg c20) ?_; refine Eq.trans (if_neg c36) ?_; refine Eq.trans (if_neg c52) ?_; refine Eq.trans (if_neg c53) ?_; refine Eq.trans (if_pos c69) ?_; rfl) | (unfold J_X4_put; try dsimp only; rw [if_neg c1, if_neg c4, if_neg c20, if_neg c36, if_neg c52, if_neg c53, if_pos c69]))⟩ dX4_put_174
  by_cases c85 : p0 = 75
  · refine lv_tableIn (tgt := 166) (off := 165) hx hb dX4_put_1 (by rw [c85]; decide) (by rw [c85]; decide) (by rw [c85]; decide) (by decide) ?_
    have f85 : p0.toInt = 75 := f_eq rfl (by decide) c85
    refine lv_aload_n hx hb dX4_put_166 rfl (lv_at hl 0 rfl) ?_
    refine lv_iload_n hx hb dX4_put_167 rfl (lv_at hl 1 rfl) ?_
    refine lv_iload_n hx hb dX4_put_168 rfl (lv_at hl 3 rfl) ?_
    refine lv_iload hx hb dX4_put_169 (lv_at hl 4 rfl) ?_
    refine g_vF (w1 := fun (u : Int32 × Int32 × Int32 × Int32 × Int32) => [cell82_ qh sh (u.1) (u.2.1) (u.2.2.1) (u.2.2.2.1) (u.2.2.2.2), cell0_ k qh sh, cell1_ k qh sh, cell4_ k qh sh, cell3_ k qh sh, cell2_ k qh sh]) (g_runVF (ws := [cell32_ qh sh, cell0_ k qh sh, cell1_ k qh sh, cell4_ k qh sh, cell3_ k qh sh, cell2_ k qh sh]) (rest := []) cx hP hD hS [.int p0, .int p2, .int p3] (c_X4_putMeans l D k b qh sh H.size p0 p2 p3 (show 0 ≤ (sh 0 12).toInt ∧ (sh 0 12).toInt ≤ 5 from by first | decide | omega) (show ¬ p0.toInt = 66 ∨ (0 ≤ p3.toInt ∧ p3.toInt ≤ 5) from by first | decide | omega)) gX4_put_X4_putMeans rfl rfl rfl nd_X4_putMeans ⟨Nat.le_of_ble_eq_true rfl, Nat.le_of_ble_eq_true rfl⟩ (ci := 2) (q0 := 0) rfl rfl rfl hl.1 rfl (Nat.le_of_ble_eq_true rfl) ⟨Nat.zero_le _, Nat.zero_le _⟩ dX4_put_171) cx.2.2.1 hD hS (fun u87 H locs hw86 hP hD hS => ?_)
    obtain ⟨m88, m89, m90, m91, m92⟩ := u87
    have hP : va_P D vwCl [cell82_ qh sh m88 m89 m90 m91 m92, cell0_ k qh sh, cell1_ k qh sh, cell4_ k qh sh, cell3_ k qh sh, cell2_ k qh sh] H := hP
    have hD : va_D A [cell82_ qh sh m88 m89 m90 m91 m92, cell0_ k qh sh, cell1_ k qh sh, cell4_ k qh sh, cell3_ k qh sh, cell2_ k qh sh] := hD
    replace hw86 : (0 ≤ m92.toInt ∧ m92.toInt ≤ 5) ∧ ((m88, m89, m90, m91, m92) = J_X4_putMeans sh p0 p2 p3) := hw86
    obtain ⟨w93, w94⟩ := hw86
    have k96 : m88 = ((J_X4_putMeans sh p0 p2 p3).1) := congrArg (fun z => (z.1)) w94
    have k97 : m89 = ((J_X4_putMeans sh p0 p2 p3).2.1) := congrArg (fun z => (z.2.1)) w94
    have k98 : m90 = ((J_X4_putMeans sh p0 p2 p3).2.2.1) := congrArg (fun z => (z.2.2.1)) w94
    have k99 : m91 = ((J_X4_putMeans sh p0 p2 p3).2.2.2.1) := congrArg (fun z => (z.2.2.2.1)) w94
    have k100 : m92 = ((J_X4_putMeans sh p0 p2 p3).2.2.2.2) := congrArg (fun z => (z.2.2.2.2)) w94
    rw [hQ]
    exact x_v cx hr ((sh 0 1), (sh 1), (sh 2), (sh 3), (sh 4), (sh 0 6), (sh 0 7), m88, m89, m90, m91, m92) hP hD hS ⟨(show 0 ≤ (sh 0 1).toInt ∧ (sh 0 1).toInt ≤ 4 from by omega), (show 0 ≤ m92.toInt ∧ m92.toInt ≤ 5 from by omega), h_of, h_go, (show ((sh 0 1), (sh 1), (sh 2), (sh 3), (sh 4), (sh 0 6), (sh 0 7), m88, m89, m90, m91, m92) = J_X4_put sh p0 p1 p2 p3 from by subst k96 k97 k98 k99 k100; first | (refine Eq.symm ?_; refine Eq.trans (if_neg c1) ?_; refine Eq.trans (if_neg c4) ?_; refine Eq.trans (if_neg c20) ?_; refine Eq.trans (if_neg c36) ?_; refine Eq.trans (if_neg c52) ?_; refine Eq.trans (if_neg c53) ?_; refine Eq.trans (if_neg c69) ?_; refine Eq.trans (if_pos c85) ?_; rfl) | (unfold J_X4_put; try dsimp only; rw [if_neg c1, if_neg c4, if_neg c20, if_neg c36, if_neg c52, if_neg c53, if_neg c69, if_pos c85]))⟩ dX4_put_174
  by_cases c101 : p0 = 76
  · refine lv_tableIn (tgt := 166) (off := 165) hx hb dX4_put_1 (by rw [c101]; decide) (by rw [c101]; decide) (by rw [c101]; decide) (by decide) ?_
    have f101 : p0.toInt = 76 := f_eq rfl (by decide) c101
    refine lv_aload_n hx hb dX4_put_166 rfl (lv_at hl 0 rfl) ?_
    refine lv_iload_n hx hb dX4_put_167 rfl (lv_at hl 1 rfl) ?_
    refine lv_iload_n hx hb dX4_put_168 rfl (lv_at hl 3 rfl) ?_
    refine lv_iload hx hb dX4_put_169 (lv_at hl 4 rfl) ?_
    refine g_vF (w1 := fun (u : Int32 × Int32 × Int32 × Int32 × Int32) => [cell82_ qh sh (u.1) (u.2.1) (u.2.2.1) (u.2.2.2.1) (u.2.2.2.2), cell0_ k qh sh, cell1_ k qh sh, cell4_ k qh sh, cell3_ k qh sh, cell2_ k qh sh]) (g_runVF (ws := [cell32_ qh sh, cell0_ k qh sh, cell1_ k qh sh, cell4_ k qh sh, cell3_ k qh sh, cell2_ k qh sh]) (rest := []) cx hP hD hS [.int p0, .int p2, .int p3] (c_X4_putMeans l D k b qh sh H.size p0 p2 p3 (show 0 ≤ (sh 0 12).toInt ∧ (sh 0 12).toInt ≤ 5 from by first | decide | omega) (show ¬ p0.toInt = 66 ∨ (0 ≤ p3.toInt ∧ p3.toInt ≤ 5) from by first | decide | omega)) gX4_put_X4_putMeans rfl rfl rfl nd_X4_putMeans ⟨Nat.le_of_ble_eq_true rfl, Nat.le_of_ble_eq_true rfl⟩ (ci := 2) (q0 := 0) rfl rfl rfl hl.1 rfl (Nat.le_of_ble_eq_true rfl) ⟨Nat.zero_le _, Nat.zero_le _⟩ dX4_put_171) cx.2.2.1 hD hS (fun u103 H locs hw102 hP hD hS => ?_)
    obtain ⟨m104, m105, m106, m107, m108⟩ := u103
    have hP : va_P D vwCl [cell82_ qh sh m104 m105 m106 m107 m108, cell0_ k qh sh, cell1_ k qh sh, cell4_ k qh sh, cell3_ k qh sh, cell2_ k qh sh] H := hP
    have hD : va_D A [cell82_ qh sh m104 m105 m106 m107 m108, cell0_ k qh sh, cell1_ k qh sh, cell4_ k qh sh, cell3_ k qh sh, cell2_ k qh sh] := hD
    replace hw102 : (0 ≤ m108.toInt ∧ m108.toInt ≤ 5) ∧ ((m104, m105, m106, m107, m108) = J_X4_putMeans sh p0 p2 p3) := hw102
    obtain ⟨w109, w110⟩ := hw102
    have k112 : m104 = ((J_X4_putMeans sh p0 p2 p3).1) := congrArg (fun z => (z.1)) w110
    have k113 : m105 = ((J_X4_putMeans sh p0 p2 p3).2.1) := congrArg (fun z => (z.2.1)) w110
    have k114 : m106 = ((J_X4_putMeans sh p0 p2 p3).2.2.1) := congrArg (fun z => (z.2.2.1)) w110
    have k115 : m107 = ((J_X4_putMeans sh p0 p2 p3).2.2.2.1) := congrArg (fun z => (z.2.2.2.1)) w110
    have k116 : m108 = ((J_X4_putMeans sh p0 p2 p3).2.2.2.2) := congrArg (fun z => (z.2.2.2.2)) w110
    rw [hQ]
    exact x_v cx hr ((sh 0 1), (sh 1), (sh 2), (sh 3), (sh 4), (sh 0 6), (sh 0 7), m104, m105, m106, m107, m108) hP hD hS ⟨(show 0 ≤ (sh 0 1).toInt ∧ (sh 0 1).toInt ≤ 4 from by omega), (show 0 ≤ m108.toInt ∧ m108.toInt ≤ 5 from by omega), h_of, h_go, (show ((sh 0 1), (sh 1), (sh 2), (sh 3), (sh 4), (sh 0 6), (sh 0 7), m104, m105, m106, m107, m108) = J_X4_put sh p0 p1 p2 p3 from by subst k112 k113 k114 k115 k116; first | (refine Eq.symm ?_; refine Eq.trans (if_neg c1) ?_; refine Eq.trans (if_neg c4) ?_; refine Eq.trans (if_neg c20) ?_; refine Eq.trans (if_neg c36) ?_; refine Eq.trans (if_neg c52) ?_; refine Eq.trans (if_neg c53) ?_; refine Eq.trans (if_neg c69) ?_; refine Eq.trans (if_neg c85) ?_; refine Eq.trans (if_pos c101) ?_; rfl) | (unfold J_X4_put; try dsimp only; rw [if_neg c1, if_neg c4, if_neg c20, if_neg c36, if_neg c52, if_neg c53, if_neg c69, if_neg c85, if_pos c101]))⟩ dX4_put_174
  by_cases c117 : p0 = 77
  · refine lv_tableIn (tgt := 166) (off := 165) hx hb dX4_put_1 (by rw [c117]; decide) (by rw [c117]; decide) (by rw [c117]; decide) (by decide) ?_
    have f117 : p0.toInt = 77 := f_eq rfl (by decide) c117
    refine lv_aload_n hx hb dX4_put_166 rfl (lv_at hl 0 rfl) ?_
    refine lv_iload_n hx hb dX4_put_167 rfl (lv_at hl 1 rfl) ?_
    refine lv_iload_n hx hb dX4_put_168 rfl (lv_at hl 3 rfl) ?_
    refine lv_iload hx hb dX4_put_169 (lv_at hl 4 rfl) ?_
    refine g_vF (w1 := fun (u : Int32 × Int32 × Int32 × Int32 × Int32) => [cell82_ qh sh (u.1) (u.2.1) (u.2.2.1) (u.2.2.2.1) (u.2.2.2.2), cell0_ k qh sh, cell1_ k qh sh, cell4_ k qh sh, cell3_ k qh sh, cell2_ k qh sh]) (g_runVF (ws := [cell32_ qh sh, cell0_ k qh sh, cell1_ k qh sh, cell4_ k qh sh, cell3_ k qh sh, cell2_ k qh sh]) (rest := []) cx hP hD hS [.int p0, .int p2, .int p3] (c_X4_putMeans l D k b qh sh H.size p0 p2 p3 (show 0 ≤ (sh 0 12).toInt ∧ (sh 0 12).toInt ≤ 5 from by first | decide | omega) (show ¬ p0.toInt = 66 ∨ (0 ≤ p3.toInt ∧ p3.toInt ≤ 5) from by first | decide | omega)) gX4_put_X4_putMeans rfl rfl rfl nd_X4_putMeans ⟨Nat.le_of_ble_eq_true rfl, Nat.le_of_ble_eq_true rfl⟩ (ci := 2) (q0 := 0) rfl rfl rfl hl.1 rfl (Nat.le_of_ble_eq_true rfl) ⟨Nat.zero_le _, Nat.zero_le _⟩ dX4_put_171) cx.2.2.1 hD hS (fun u119 H locs hw118 hP hD hS => ?_)
    obtain ⟨m120, m121, m122, m123, m124⟩ := u119
    have hP : va_P D vwCl [cell82_ qh sh m120 m121 m122 m123 m124, cell0_ k qh sh, cell1_ k qh sh, cell4_ k qh sh, cell3_ k qh sh, cell2_ k qh sh] H := hP
    have hD : va_D A [cell82_ qh sh m120 m121 m122 m123 m124, cell0_ k qh sh, cell1_ k qh sh, cell4_ k qh sh, cell3_ k qh sh, cell2_ k qh sh] := hD
    replace hw118 : (0 ≤ m124.toInt ∧ m124.toInt ≤ 5) ∧ ((m120, m121, m122, m123, m124) = J_X4_putMeans sh p0 p2 p3) := hw118
    obtain ⟨w125, w126⟩ := hw118
    have k128 : m120 = ((J_X4_putMeans sh p0 p2 p3).1) := congrArg (fun z => (z.1)) w126
    have k129 : m121 = ((J_X4_putMeans sh p0 p2 p3).2.1) := congrArg (fun z => (z.2.1)) w126
    have k130 : m122 = ((J_X4_putMeans sh p0 p2 p3).2.2.1) := congrArg (fun z => (z.2.2.1)) w126
    have k131 : m123 = ((J_X4_putMeans sh p0 p2 p3).2.2.2.1) := congrArg (fun z => (z.2.2.2.1)) w126
    have k132 : m124 = ((J_X4_putMeans sh p0 p2 p3).2.2.2.2) := congrArg (fun z => (z.2.2.2.2)) w126
    rw [hQ]
    exact x_v cx hr ((sh 0 1), (sh 1), (sh 2), (sh 3), (sh 4), (sh 0 6), (sh 0 7), m120, m121, m122, m123, m124) hP hD hS ⟨(show 0 ≤ (sh 0 1).toInt ∧ (sh 0 1).toInt ≤ 4 from by omega), (show 0 ≤ m124.toInt ∧ m124.toInt ≤ 5 from by omega), h_of, h_go, (show ((sh 0 1), (sh 1), (sh 2), (sh 3), (sh 4), (sh 0 6), (sh 0 7), m120, m121, m122, m123, m124) = J_X4_put sh p0 p1 p2 p3 from by subst k128 k129 k130 k131 k132; first | (refine Eq.symm ?_; refine Eq.trans (if_neg c1) ?_; refine Eq.trans (if_neg c4) ?_; refine Eq.trans (if_neg c20) ?_; refine Eq.trans (if_neg c36) ?_; refine Eq.trans (if_neg c52) ?_; refine Eq.trans (if_neg c53) ?_; refine Eq.trans (if_neg c69) ?_; refine Eq.trans (if_neg c85) ?_; refine Eq.trans (if_neg c101) ?_; refine Eq.trans (if_pos c117) ?_; rfl) | (unfold J_X4_put; try dsimp only; rw [if_neg c1, if_neg c4, if_neg c20, if_neg c36, if_neg c52, if_neg c53, if_neg c69, if_neg c85, if_neg c101, if_pos c117]))⟩ dX4_put_174
  by_cases c133 : p0 = 78
  · refine lv_tableIn (tgt := 166) (off := 165) hx hb dX4_put_1 (by rw [c133]; decide) (by rw [c133]; decide) (by rw [c133]; decide) (by decide) ?_
    have f133 : p0.toInt = 78 := f_eq rfl (by decide) c133
    refine lv_aload_n hx hb dX4_put_166 rfl (lv_at hl 0 rfl) ?_
    refine lv_iload_n hx hb dX4_put_167 rfl (lv_at hl 1 rfl) ?_
    refine lv_iload_n hx hb dX4_put_168 rfl (lv_at hl 3 rfl) ?_
    refine lv_iload hx hb dX4_put_169 (lv_at hl 4 rfl) ?_
    refine g_vF (w1 := fun (u : Int32 × Int32 × Int32 × Int32 × Int32) => [cell82_ qh sh (u.1) (u.2.1) (u.2.2.1) (u.2.2.2.1) (u.2.2.2.2), cell0_ k qh sh, cell1_ k qh sh, cell4_ k qh sh, cell3_ k qh sh, cell2_ k qh sh]) (g_runVF (ws := [cell32_ qh sh, cell0_ k qh sh, cell1_ k qh sh, cell4_ k qh sh, cell3_ k qh sh, cell2_ k qh sh]) (rest := []) cx hP hD hS [.int p0, .int p2, .int p3] (c_X4_putMeans l D k b qh sh H.size p0 p2 p3 (show 0 ≤ (sh 0 12).toInt ∧ (sh 0 12).toInt ≤ 5 from by first | decide | omega) (show ¬ p0.toInt = 66 ∨ (0 ≤ p3.toInt ∧ p3.toInt ≤ 5) from by first | decide | omega)) gX4_put_X4_putMeans rfl rfl rfl nd_X4_putMeans ⟨Nat.le_of_ble_eq_true rfl, Nat.le_of_ble_eq_true rfl⟩ (ci := 2) (q0 := 0) rfl rfl rfl hl.1 rfl (Nat.le_of_ble_eq_true rfl) ⟨Nat.zero_le _, Nat.zero_le _⟩ dX4_put_171) cx.2.2.1 hD hS (fun u135 H locs hw134 hP hD hS => ?_)
    obtain ⟨m136, m137, m138, m139, m140⟩ := u135
    have hP : va_P D vwCl [cell82_ qh sh m136 m137 m138 m139 m140, cell0_ k qh sh, cell1_ k qh sh, cell4_ k qh sh, cell3_ k qh sh, cell2_ k qh sh] H := hP
    have hD : va_D A [cell82_ qh sh m136 m137 m138 m139 m140, cell0_ k qh sh, cell1_ k qh sh, cell4_ k qh sh, cell3_ k qh sh, cell2_ k qh sh] := hD
    replace hw134 : (0 ≤ m140.toInt ∧ m140.toInt ≤ 5) ∧ ((m136, m137, m138, m139, m140) = J_X4_putMeans sh p0 p2 p3) := hw134
    obtain ⟨w141, w142⟩ := hw134
    have k144 : m136 = ((J_X4_putMeans sh p0 p2 p3).1) := congrArg (fun z => (z.1)) w142
    have k145 : m137 = ((J_X4_putMeans sh p0 p2 p3).2.1) := congrArg (fun z => (z.2.1)) w142
    have k146 : m138 = ((J_X4_putMeans sh p0 p2 p3).2.2.1) := congrArg (fun z => (z.2.2.1)) w142
    have k147 : m139 = ((J_X4_putMeans sh p0 p2 p3).2.2.2.1) := congrArg (fun z => (z.2.2.2.1)) w142
    have k148 : m140 = ((J_X4_putMeans sh p0 p2 p3).2.2.2.2) := congrArg (fun z => (z.2.2.2.2)) w142
    rw [hQ]
    exact x_v cx hr ((sh 0 1), (sh 1), (sh 2), (sh 3), (sh 4), (sh 0 6), (sh 0 7), m136, m137, m138, m139, m140) hP hD hS ⟨(show 0 ≤ (sh 0 1).toInt ∧ (sh 0 1).toInt ≤ 4 from by omega), (show 0 ≤ m140.toInt ∧ m140.toInt ≤ 5 from by omega), h_of, h_go, (show ((sh 0 1), (sh 1), (sh 2), (sh 3), (sh 4), (sh 0 6), (sh 0 7), m136, m137, m138, m139, m140) = J_X4_put sh p0 p1 p2 p3 from by subst k144 k145 k146 k147 k148; first | (refine Eq.symm ?_; refine Eq.trans (if_neg c1) ?_; refine Eq.trans (if_neg c4) ?_; refine Eq.trans (if_neg c20) ?_; refine Eq.trans (if_neg c36) ?_; refine Eq.trans (if_neg c52) ?_; refine Eq.trans (if_neg c53) ?_; refine Eq.trans (if_neg c69) ?_; refine Eq.trans (if_neg c85) ?_; refine Eq.trans (if_neg c101) ?_; refine Eq.trans (if_neg c117) ?_; refine Eq.trans (if_pos c133) ?_; rfl) | (unfold J_X4_put; try dsimp only; rw [if_neg c1, if_neg c4, if_neg c20, if_neg c36, if_neg c52, if_neg c53, if_neg c69, if_neg c85, if_neg c101, if_neg c117, if_pos c133]))⟩ dX4_put_174
  by_cases c149 : p0 = 79
  · refine lv_tableIn (tgt := 120) (off := 119) hx hb dX4_put_1 (by rw [c149]; decide) (by rw [c149]; decide) (by rw [c149]; decide) (by decide) ?_
    have f149 : p0.toInt = 79 := f_eq rfl (by decide) c149
    refine lv_aload_n hx hb dX4_put_120 rfl (lv_at hl 0 rfl) ?_
    refine g_get cx hP iw_X4_put_X4 0 rfl rfl 3 (by decide) rfl fw_X4_put_15 rfl dX4_put_121 ?_
    refine lv_iload_n hx hb dX4_put_124 rfl (lv_at hl 2 rfl) ?_
    refine lv_iload_n hx hb dX4_put_125 rfl (lv_at hl 3 rfl) ?_
    have hn150 : vp_in p1 5 := f_in (a := p1.toInt) rfl (by omega) (by omega)
    refine va_iast hx hb cx.2.1 hP hD hS 2 0 rfl rfl hn150 dX4_put_126 (fun H locs hP hD hS => ?_)
    obtain ⟨g151, eg151⟩ : ∃ g : Nat → Int32, g = upd (sh 2) (p1).toNatClampNeg p2 := ⟨_, rfl⟩
    rw [← eg151] at hP hD
    have hP : va_P D vwCl [cell32_ qh sh, cell0_ k qh sh, (qh 2, .inl (k 0, 5, .inl g151)), cell4_ k qh sh, cell3_ k qh sh, cell2_ k qh sh] H := hP
    have hD : va_D A [cell32_ qh sh, cell0_ k qh sh, (qh 2, .inl (k 0, 5, .inl g151)), cell4_ k qh sh, cell3_ k qh sh, cell2_ k qh sh] := hD
    have ag151 : ∀ j, 0 ≤ (g151 j).toInt ∧ (g151 j).toInt ≤ 4 := by rw [eg151]; exact upd_all h_of ⟨by omega, by omega⟩
    refine lv_goto (tgt := 174) hx hb dX4_put_127 (by decide) ?_
    rw [hQ]
    exact x_v cx hr ((sh 0 1), (sh 1), g151, (sh 3), (sh 4), (sh 0 6), (sh 0 7), (sh 0 8), (sh 0 9), (sh 0 10), (sh 0 11), (sh 0 12)) hP hD hS ⟨(show 0 ≤ (sh 0 1).toInt ∧ (sh 0 1).toInt ≤ 4 from by omega), (show 0 ≤ (sh 0 12).toInt ∧ (sh 0 12).toInt ≤ 5 from by omega), ag151, h_go, (show ((sh 0 1), (sh 1), g151, (sh 3), (sh 4), (sh 0 6), (sh 0 7), (sh 0 8), (sh 0 9), (sh 0 10), (sh 0 11), (sh 0 12)) = J_X4_put sh p0 p1 p2 p3 from by subst eg151; first | (refine Eq.symm ?_; refine Eq.trans (if_neg c1) ?_; refine Eq.trans (if_neg c4) ?_; refine Eq.trans (if_neg c20) ?_; refine Eq.trans (if_neg c36) ?_; refine Eq.trans (if_neg c52) ?_; refine Eq.trans (if_neg c53) ?_; refine Eq.trans (if_neg c69) ?_; refine Eq.trans (if_neg c85) ?_; refine Eq.trans (if_neg c101) ?_; refine Eq.trans (if_neg c117) ?_; refine Eq.trans (if_neg c133) ?_; refine Eq.trans (if_pos c149) ?_; rfl) | (unfold J_X4_put; try dsimp only; rw [if_neg c1, if_neg c4, if_neg c20, if_neg c36, if_neg c52, if_neg c53, if_neg c69, if_neg c85, if_neg c101, if_neg c117, if_neg c133, if_pos c149]))⟩ dX4_put_174
  by_cases c152 : p0 = 80
  · refine lv_tableIn (tgt := 150) (off := 149) hx hb dX4_put_1 (by rw [c152]; decide) (by rw [c152]; decide) (by rw [c152]; decide) (by decide) ?_
    have f152 : p0.toInt = 80 := f_eq rfl (by decide) c152
    refine lv_aload_n hx hb dX4_put_150 rfl (lv_at hl 0 rfl) ?_
    refine lv_iload_n hx hb dX4_put_151 rfl (lv_at hl 3 rfl) ?_
    refine g_pt cx hP hD hS iw_X4_put_X4 tyX4 tyX4_ok nmX4 0 rfl rfl 6 (by decide) rfl fw_X4_put_45 (ty := .int) rfl rfl rfl (Nat.le_of_ble_eq_true rfl) dX4_put_152 (fun H locs hP hD hS => ?_)
    have hP : va_P D vwCl [(qh 0, .inr (2, [.int (sh 0 0), .int (sh 0 1), .ref (qh 1), .ref (qh 2), .ref (qh 3), .ref (qh 4), .int p2, .int (sh 0 7), .int (sh 0 8), .int (sh 0 9), .int (sh 0 10), .int (sh 0 11), .int (sh 0 12), .ref (qh 5)])), cell0_ k qh sh, cell1_ k qh sh, cell4_ k qh sh, cell3_ k qh sh, cell2_ k qh sh] H := hP
    have hD : va_D A [(qh 0, .inr (2, [.int (sh 0 0), .int (sh 0 1), .ref (qh 1), .ref (qh 2), .ref (qh 3), .ref (qh 4), .int p2, .int (sh 0 7), .int (sh 0 8), .int (sh 0 9), .int (sh 0 10), .int (sh 0 11), .int (sh 0 12), .ref (qh 5)])), cell0_ k qh sh, cell1_ k qh sh, cell4_ k qh sh, cell3_ k qh sh, cell2_ k qh sh] := hD
    refine lv_goto (tgt := 174) hx hb dX4_put_155 (by decide) ?_
    rw [hQ]
    exact x_v cx hr ((sh 0 1), (sh 1), (sh 2), (sh 3), (sh 4), p2, (sh 0 7), (sh 0 8), (sh 0 9), (sh 0 10), (sh 0 11), (sh 0 12)) hP hD hS ⟨(show 0 ≤ (sh 0 1).toInt ∧ (sh 0 1).toInt ≤ 4 from by omega), (show 0 ≤ (sh 0 12).toInt ∧ (sh 0 12).toInt ≤ 5 from by omega), h_of, h_go, (show ((sh 0 1), (sh 1), (sh 2), (sh 3), (sh 4), p2, (sh 0 7), (sh 0 8), (sh 0 9), (sh 0 10), (sh 0 11), (sh 0 12)) = J_X4_put sh p0 p1 p2 p3 from by first | (refine Eq.symm ?_; refine Eq.trans (if_neg c1) ?_; refine Eq.trans (if_neg c4) ?_; refine Eq.trans (if_neg c20) ?_; refine Eq.trans (if_neg c36) ?_; refine Eq.trans (if_neg c52) ?_; refine Eq.trans (if_neg c53) ?_; refine Eq.trans (if_neg c69) ?_; refine Eq.trans (if_neg c85) ?_; refine Eq.trans (if_neg c101) ?_; refine Eq.trans (if_neg c117) ?_; refine Eq.trans (if_neg c133) ?_; refine Eq.trans (if_neg c149) ?_; refine Eq.trans (if_pos c152) ?_; rfl) | (unfold J_X4_put; try dsimp only; rw [if_neg c1, if_neg c4, if_neg c20, if_neg c36, if_neg c52, if_neg c53, if_neg c69, if_neg c85, if_neg c101, if_neg c117, if_neg c133, if_neg c149, if_pos c152]))⟩ dX4_put_174
  by_cases c153 : p0 = 81
  · refine lv_tableIn (tgt := 130) (off := 129) hx hb dX4_put_1 (by rw [c153]; decide) (by rw [c153]; decide) (by rw [c153]; decide) (by decide) ?_
    have f153 : p0.toInt = 81 := f_eq rfl (by decide) c153
    refine lv_aload_n hx hb dX4_put_130 rfl (lv_at hl 0 rfl) ?_
    refine g_get cx hP iw_X4_put_X4 0 rfl rfl 4 (by decide) rfl fw_X4_put_18 rfl dX4_put_131 ?_
    refine lv_iload_n hx hb dX4_put_134 rfl (lv_at hl 2 rfl) ?_
    refine lv_iload_n hx hb dX4_put_135 rfl (lv_at hl 3 rfl) ?_
    have hn154 : vp_in p1 3 := f_in (a := p1.toInt) rfl (by omega) (by omega)
    refine va_iast hx hb cx.2.1 hP hD hS 3 0 rfl rfl hn154 dX4_put_136 (fun H locs hP hD hS => ?_)
    obtain ⟨g155, eg155⟩ : ∃ g : Nat → Int32, g = upd (sh 3) (p1).toNatClampNeg p2 := ⟨_, rfl⟩
    rw [← eg155] at hP hD
    have hP : va_P D vwCl [cell32_ qh sh, cell0_ k qh sh, cell1_ k qh sh, (qh 3, .inl (k 0, 3, .inl g155)), cell3_ k qh sh, cell2_ k qh sh] H := hP
    have hD : va_D A [cell32_ qh sh, cell0_ k qh sh, cell1_ k qh sh, (qh 3, .inl (k 0, 3, .inl g155)), cell3_ k qh sh, cell2_ k qh sh] := hD
    have ag155 : ∀ j, 0 ≤ (g155 j).toInt ∧ (g155 j).toInt ≤ 5 := by rw [eg155]; exact upd_all h_go ⟨by omega, by omega⟩
    refine lv_goto (tgt := 174) hx hb dX4_put_137 (by decide) ?_
    rw [hQ]
    exact x_v cx hr ((sh 0 1), (sh 1), (sh 2), g155, (sh 4), (sh 0 6), (sh 0 7), (sh 0 8), (sh 0 9), (sh 0 10), (sh 0 11), (sh 0 12)) hP hD hS ⟨(show 0 ≤ (sh 0 1).toInt ∧ (sh 0 1).toInt ≤ 4 from by omega), (show 0 ≤ (sh 0 12).toInt ∧ (sh 0 12).toInt ≤ 5 from by omega), h_of, ag155, (show ((sh 0 1), (sh 1), (sh 2), g155, (sh 4), (sh 0 6), (sh 0 7), (sh 0 8), (sh 0 9), (sh 0 10), (sh 0 11), (sh 0 12)) = J_X4_put sh p0 p1 p2 p3 from by subst eg155; first | (refine Eq.symm ?_; refine Eq.trans (if_neg c1) ?_; refine Eq.trans (if_neg c4) ?_; refine Eq.trans (if_neg c20) ?_; refine Eq.trans (if_neg c36) ?_; refine Eq.trans (if_neg c52) ?_; refine Eq.trans (if_neg c53) ?_; refine Eq.trans (if_neg c69) ?_; refine Eq.trans (if_neg c85) ?_; refine Eq.trans (if_neg c101) ?_; refine Eq.trans (if_neg c117) ?_; refine Eq.trans (if_neg c133) ?_; refine Eq.trans (if_neg c149) ?_; refine Eq.trans (if_neg c152) ?_; refine Eq.trans (if_pos c153) ?_; rfl) | (unfold J_X4_put; try dsimp only; rw [if_neg c1, if_neg c4, if_neg c20, if_neg c36, if_neg c52, if_neg c53, if_neg c69, if_neg c85, if_neg c101, if_neg c117, if_neg c133, if_neg c149, if_neg c152, if_pos c153]))⟩ dX4_put_174
  by_cases c156 : p0 = 82
  · refine lv_tableIn (tgt := 166) (off := 165) hx hb dX4_put_1 (by rw [c156]; decide) (by rw [c156]; decide) (by rw [c156]; decide) (by decide) ?_
    have f156 : p0.toInt = 82 := f_eq rfl (by decide) c156
    refine lv_aload_n hx hb dX4_put_166 rfl (lv_at hl 0 rfl) ?_
    refine lv_iload_n hx hb dX4_put_167 rfl (lv_at hl 1 rfl) ?_
    refine lv_iload_n hx hb dX4_put_168 rfl (lv_at hl 3 rfl) ?_
    refine lv_iload hx hb dX4_put_169 (lv_at hl 4 rfl) ?_
    refine g_vF (w1 := fun (u : Int32 × Int32 × Int32 × Int32 × Int32) => [cell82_ qh sh (u.1) (u.2.1) (u.2.2.1) (u.2.2.2.1) (u.2.2.2.2), cell0_ k qh sh, cell1_ k qh sh, cell4_ k qh sh, cell3_ k qh sh, cell2_ k qh sh]) (g_runVF (ws := [cell32_ qh sh, cell0_ k qh sh, cell1_ k qh sh, cell4_ k qh sh, cell3_ k qh sh, cell2_ k qh sh]) (rest := []) cx hP hD hS [.int p0, .int p2, .int p3] (c_X4_putMeans l D k b qh sh H.size p0 p2 p3 (show 0 ≤ (sh 0 12).toInt ∧ (sh 0 12).toInt ≤ 5 from by first | decide | omega) (show ¬ p0.toInt = 66 ∨ (0 ≤ p3.toInt ∧ p3.toInt ≤ 5) from by first | decide | omega)) gX4_put_X4_putMeans rfl rfl rfl nd_X4_putMeans ⟨Nat.le_of_ble_eq_true rfl, Nat.le_of_ble_eq_true rfl⟩ (ci := 2) (q0 := 0) rfl rfl rfl hl.1 rfl (Nat.le_of_ble_eq_true rfl) ⟨Nat.zero_le _, Nat.zero_le _⟩ dX4_put_171) cx.2.2.1 hD hS (fun u158 H locs hw157 hP hD hS => ?_)
    obtain ⟨m159, m160, m161, m162, m163⟩ := u158
    have hP : va_P D vwCl [cell82_ qh sh m159 m160 m161 m162 m163, cell0_ k qh sh, cell1_ k qh sh, cell4_ k qh sh, cell3_ k qh sh, cell2_ k qh sh] H := hP
    have hD : va_D A [cell82_ qh sh m159 m160 m161 m162 m163, cell0_ k qh sh, cell1_ k qh sh, cell4_ k qh sh, cell3_ k qh sh, cell2_ k qh sh] := hD
    replace hw157 : (0 ≤ m163.toInt ∧ m163.toInt ≤ 5) ∧ ((m159, m160, m161, m162, m163) = J_X4_putMeans sh p0 p2 p3) := hw157
    obtain ⟨w164, w165⟩ := hw157
    have k167 : m159 = ((J_X4_putMeans sh p0 p2 p3).1) := congrArg (fun z => (z.1)) w165
    have k168 : m160 = ((J_X4_putMeans sh p0 p2 p3).2.1) := congrArg (fun z => (z.2.1)) w165
    have k169 : m161 = ((J_X4_putMeans sh p0 p2 p3).2.2.1) := congrArg (fun z => (z.2.2.1)) w165
    have k170 : m162 = ((J_X4_putMeans sh p0 p2 p3).2.2.2.1) := congrArg (fun z => (z.2.2.2.1)) w165
    have k171 : m163 = ((J_X4_putMeans sh p0 p2 p3).2.2.2.2) := congrArg (fun z => (z.2.2.2.2)) w165
    rw [hQ]
    exact x_v cx hr ((sh 0 1), (sh 1), (sh 2), (sh 3), (sh 4), (sh 0 6), (sh 0 7), m159, m160, m161, m162, m163) hP hD hS ⟨(show 0 ≤ (sh 0 1).toInt ∧ (sh 0 1).toInt ≤ 4 from by omega), (show 0 ≤ m163.toInt ∧ m163.toInt ≤ 5 from by omega), h_of, h_go, (show ((sh 0 1), (sh 1), (sh 2), (sh 3), (sh 4), (sh 0 6), (sh 0 7), m159, m160, m161, m162, m163) = J_X4_put sh p0 p1 p2 p3 from by subst k167 k168 k169 k170 k171; first | (refine Eq.symm ?_; refine Eq.trans (if_neg c1) ?_; refine Eq.trans (if_neg c4) ?_; refine Eq.trans (if_neg c20) ?_; refine Eq.trans (if_neg c36) ?_; refine Eq.trans (if_neg c52) ?_; refine Eq.trans (if_neg c53) ?_; refine Eq.trans (if_neg c69) ?_; refine Eq.trans (if_neg c85) ?_; refine Eq.trans (if_neg c101) ?_; refine Eq.trans (if_neg c117) ?_; refine Eq.trans (if_neg c133) ?_; refine Eq.trans (if_neg c149) ?_; refine Eq.trans (if_neg c152) ?_; refine Eq.trans (if_neg c153) ?_; refine Eq.trans (if_pos c156) ?_; rfl) | (unfold J_X4_put; try dsimp only; rw [if_neg c1, if_neg c4, if_neg c20, if_neg c36, if_neg c52, if_neg c53, if_neg c69, if_neg c85, if_neg c101, if_neg c117, if_neg c133, if_neg c149, if_neg c152, if_neg c153, if_pos c156]))⟩ dX4_put_174
  by_cases c172 : p0 = 83
  · refine lv_tableIn (tgt := 158) (off := 157) hx hb dX4_put_1 (by rw [c172]; decide) (by rw [c172]; decide) (by rw [c172]; decide) (by decide) ?_
    have f172 : p0.toInt = 83 := f_eq rfl (by decide) c172
    refine lv_aload_n hx hb dX4_put_158 rfl (lv_at hl 0 rfl) ?_
    refine lv_iload_n hx hb dX4_put_159 rfl (lv_at hl 3 rfl) ?_
    refine g_pt cx hP hD hS iw_X4_put_X4 tyX4 tyX4_ok nmX4 0 rfl rfl 7 (by decide) rfl fw_X4_put_48 (ty := .int) rfl rfl rfl (Nat.le_of_ble_eq_true rfl) dX4_put_160 (fun H locs hP hD hS => ?_)
    have hP : va_P D vwCl [(qh 0, .inr (2, [.int (sh 0 0), .int (sh 0 1), .ref (qh 1), .ref (qh 2), .ref (qh 3), .ref (qh 4), .int (sh 0 6), .int p2, .int (sh 0 8), .int (sh 0 9), .int (sh 0 10), .int (sh 0 11), .int (sh 0 12), .ref (qh 5)])), cell0_ k qh sh, cell1_ k qh sh, cell4_ k qh sh, cell3_ k qh sh, cell2_ k qh sh] H := hP
    have hD : va_D A [(qh 0, .inr (2, [.int (sh 0 0), .int (sh 0 1), .ref (qh 1), .ref (qh 2), .ref (qh 3), .ref (qh 4), .int (sh 0 6), .int p2, .int (sh 0 8), .int (sh 0 9), .int (sh 0 10), .int (sh 0 11), .int (sh 0 12), .ref (qh 5)])), cell0_ k qh sh, cell1_ k qh sh, cell4_ k qh sh, cell3_ k qh sh, cell2_ k qh sh] := hD
    refine lv_goto (tgt := 174) hx hb dX4_put_163 (by decide) ?_
    rw [hQ]
    exact x_v cx hr ((sh 0 1), (sh 1), (sh 2), (sh 3), (sh 4), (sh 0 6), p2, (sh 0 8), (sh 0 9), (sh 0 10), (sh 0 11), (sh 0 12)) hP hD hS ⟨(show 0 ≤ (sh 0 1).toInt ∧ (sh 0 1).toInt ≤ 4 from by omega), (show 0 ≤ (sh 0 12).toInt ∧ (sh 0 12).toInt ≤ 5 from by omega), h_of, h_go, (show ((sh 0 1), (sh 1), (sh 2), (sh 3), (sh 4), (sh 0 6), p2, (sh 0 8), (sh 0 9), (sh 0 10), (sh 0 11), (sh 0 12)) = J_X4_put sh p0 p1 p2 p3 from by first | (refine Eq.symm ?_; refine Eq.trans (if_neg c1) ?_; refine Eq.trans (if_neg c4) ?_; refine Eq.trans (if_neg c20) ?_; refine Eq.trans (if_neg c36) ?_; refine Eq.trans (if_neg c52) ?_; refine Eq.trans (if_neg c53) ?_; refine Eq.trans (if_neg c69) ?_; refine Eq.trans (if_neg c85) ?_; refine Eq.trans (if_neg c101) ?_; refine Eq.trans (if_neg c117) ?_; refine Eq.trans (if_neg c133) ?_; refine Eq.trans (if_neg c149) ?_; refine Eq.trans (if_neg c152) ?_; refine Eq.trans (if_neg c153) ?_; refine Eq.trans (if_neg c156) ?_; refine Eq.trans (if_pos c172) ?_; rfl) | (unfold J_X4_put; try dsimp only; rw [if_neg c1, if_neg c4, if_neg c20, if_neg c36, if_neg c52, if_neg c53, if_neg c69, if_neg c85, if_neg c101, if_neg c117, if_neg c133, if_neg c149, if_neg c152, if_neg c153, if_neg c156, if_pos c172]))⟩ dX4_put_174
  by_cases c173 : p0 = 84
  · refine lv_tableIn (tgt := 166) (off := 165) hx hb dX4_put_1 (by rw [c173]; decide) (by rw [c173]; decide) (by rw [c173]; decide) (by decide) ?_
    have f173 : p0.toInt = 84 := f_eq rfl (by decide) c173
    refine lv_aload_n hx hb dX4_put_166 rfl (lv_at hl 0 rfl) ?_
    refine lv_iload_n hx hb dX4_put_167 rfl (lv_at hl 1 rfl) ?_
    refine lv_iload_n hx hb dX4_put_168 rfl (lv_at hl 3 rfl) ?_
    refine lv_iload hx hb dX4_put_169 (lv_at hl 4 rfl) ?_
    refine g_vF (w1 := fun (u : Int32 × Int32 × Int32 × Int32 × Int32) => [cell82_ qh sh (u.1) (u.2.1) (u.2.2.1) (u.2.2.2.1) (u.2.2.2.2), cell0_ k qh sh, cell1_ k qh sh, cell4_ k qh sh, cell3_ k qh sh, cell2_ k qh sh]) (g_runVF (ws := [cell32_ qh sh, cell0_ k qh sh, cell1_ k qh sh, cell4_ k qh sh, cell3_ k qh sh, cell2_ k qh sh]) (rest := []) cx hP hD hS [.int p0, .int p2, .int p3] (c_X4_putMeans l D k b qh sh H.size p0 p2 p3 (show 0 ≤ (sh 0 12).toInt ∧ (sh 0 12).toInt ≤ 5 from by first | decide | omega) (show ¬ p0.toInt = 66 ∨ (0 ≤ p3.toInt ∧ p3.toInt ≤ 5) from by first | decide | omega)) gX4_put_X4_putMeans rfl rfl rfl nd_X4_putMeans ⟨Nat.le_of_ble_eq_true rfl, Nat.le_of_ble_eq_true rfl⟩ (ci := 2) (q0 := 0) rfl rfl rfl hl.1 rfl (Nat.le_of_ble_eq_true rfl) ⟨Nat.zero_le _, Nat.zero_le _⟩ dX4_put_171) cx.2.2.1 hD hS (fun u175 H locs hw174 hP hD hS => ?_)
    obtain ⟨m176, m177, m178, m179, m180⟩ := u175
    have hP : va_P D vwCl [cell82_ qh sh m176 m177 m178 m179 m180, cell0_ k qh sh, cell1_ k qh sh, cell4_ k qh sh, cell3_ k qh sh, cell2_ k qh sh] H := hP
    have hD : va_D A [cell82_ qh sh m176 m177 m178 m179 m180, cell0_ k qh sh, cell1_ k qh sh, cell4_ k qh sh, cell3_ k qh sh, cell2_ k qh sh] := hD
    replace hw174 : (0 ≤ m180.toInt ∧ m180.toInt ≤ 5) ∧ ((m176, m177, m178, m179, m180) = J_X4_putMeans sh p0 p2 p3) := hw174
    obtain ⟨w181, w182⟩ := hw174
    have k184 : m176 = ((J_X4_putMeans sh p0 p2 p3).1) := congrArg (fun z => (z.1)) w182
    have k185 : m177 = ((J_X4_putMeans sh p0 p2 p3).2.1) := congrArg (fun z => (z.2.1)) w182
    have k186 : m178 = ((J_X4_putMeans sh p0 p2 p3).2.2.1) := congrArg (fun z => (z.2.2.1)) w182
    have k187 : m179 = ((J_X4_putMeans sh p0 p2 p3).2.2.2.1) := congrArg (fun z => (z.2.2.2.1)) w182
    have k188 : m180 = ((J_X4_putMeans sh p0 p2 p3).2.2.2.2) := congrArg (fun z => (z.2.2.2.2)) w182
    rw [hQ]
    exact x_v cx hr ((sh 0 1), (sh 1), (sh 2), (sh 3), (sh 4), (sh 0 6), (sh 0 7), m176, m177, m178, m179, m180) hP hD hS ⟨(show 0 ≤ (sh 0 1).toInt ∧ (sh 0 1).toInt ≤ 4 from by omega), (show 0 ≤ m180.toInt ∧ m180.toInt ≤ 5 from by omega), h_of, h_go, (show ((sh 0 1), (sh 1), (sh 2), (sh 3), (sh 4), (sh 0 6), (sh 0 7), m176, m177, m178, m179, m180) = J_X4_put sh p0 p1 p2 p3 from by subst k184 k185 k186 k187 k188; first | (refine Eq.symm ?_; refine Eq.trans (if_neg c1) ?_; refine Eq.trans (if_neg c4) ?_; refine Eq.trans (if_neg c20) ?_; refine Eq.trans (if_neg c36) ?_; refine Eq.trans (if_neg c52) ?_; refine Eq.trans (if_neg c53) ?_; refine Eq.trans (if_neg c69) ?_; refine Eq.trans (if_neg c85) ?_; refine Eq.trans (if_neg c101) ?_; refine Eq.trans (if_neg c117) ?_; refine Eq.trans (if_neg c133) ?_; refine Eq.trans (if_neg c149) ?_; refine Eq.trans (if_neg c152) ?_; refine Eq.trans (if_neg c153) ?_; refine Eq.trans (if_neg c156) ?_; refine Eq.trans (if_neg c172) ?_; refine Eq.trans (if_pos c173) ?_; rfl) | (unfold J_X4_put; try dsimp only; rw [if_neg c1, if_neg c4, if_neg c20, if_neg c36, if_neg c52, if_neg c53, if_neg c69, if_neg c85, if_neg c101, if_neg c117, if_neg c133, if_neg c149, if_neg c152, if_neg c153, if_neg c156, if_neg c172, if_pos c173]))⟩ dX4_put_174
  by_cases c189 : p0 = 85
  · refine lv_tableIn (tgt := 166) (off := 165) hx hb dX4_put_1 (by rw [c189]; decide) (by rw [c189]; decide) (by rw [c189]; decide) (by decide) ?_
    have f189 : p0.toInt = 85 := f_eq rfl (by decide) c189
    refine lv_aload_n hx hb dX4_put_166 rfl (lv_at hl 0 rfl) ?_
    refine lv_iload_n hx hb dX4_put_167 rfl (lv_at hl 1 rfl) ?_
    refine lv_iload_n hx hb dX4_put_168 rfl (lv_at hl 3 rfl) ?_
    refine lv_iload hx hb dX4_put_169 (lv_at hl 4 rfl) ?_
    refine g_vF (w1 := fun (u : Int32 × Int32 × Int32 × Int32 × Int32) => [cell82_ qh sh (u.1) (u.2.1) (u.2.2.1) (u.2.2.2.1) (u.2.2.2.2), cell0_ k qh sh, cell1_ k qh sh, cell4_ k qh sh, cell3_ k qh sh, cell2_ k qh sh]) (g_runVF (ws := [cell32_ qh sh, cell0_ k qh sh, cell1_ k qh sh, cell4_ k qh sh, cell3_ k qh sh, cell2_ k qh sh]) (rest := []) cx hP hD hS [.int p0, .int p2, .int p3] (c_X4_putMeans l D k b qh sh H.size p0 p2 p3 (show 0 ≤ (sh 0 12).toInt ∧ (sh 0 12).toInt ≤ 5 from by first | decide | omega) (show ¬ p0.toInt = 66 ∨ (0 ≤ p3.toInt ∧ p3.toInt ≤ 5) from by first | decide | omega)) gX4_put_X4_putMeans rfl rfl rfl nd_X4_putMeans ⟨Nat.le_of_ble_eq_true rfl, Nat.le_of_ble_eq_true rfl⟩ (ci := 2) (q0 := 0) rfl rfl rfl hl.1 rfl (Nat.le_of_ble_eq_true rfl) ⟨Nat.zero_le _, Nat.zero_le _⟩ dX4_put_171) cx.2.2.1 hD hS (fun u191 H locs hw190 hP hD hS => ?_)
    obtain ⟨m192, m193, m194, m195, m196⟩ := u191
    have hP : va_P D vwCl [cell82_ qh sh m192 m193 m194 m195 m196, cell0_ k qh sh, cell1_ k qh sh, cell4_ k qh sh, cell3_ k qh sh, cell2_ k qh sh] H := hP
    have hD : va_D A [cell82_ qh sh m192 m193 m194 m195 m196, cell0_ k qh sh, cell1_ k qh sh, cell4_ k qh sh, cell3_ k qh sh, cell2_ k qh sh] := hD
    replace hw190 : (0 ≤ m196.toInt ∧ m196.toInt ≤ 5) ∧ ((m192, m193, m194, m195, m196) = J_X4_putMeans sh p0 p2 p3) := hw190
    obtain ⟨w197, w198⟩ := hw190
    have k200 : m192 = ((J_X4_putMeans sh p0 p2 p3).1) := congrArg (fun z => (z.1)) w198
    have k201 : m193 = ((J_X4_putMeans sh p0 p2 p3).2.1) := congrArg (fun z => (z.2.1)) w198
    have k202 : m194 = ((J_X4_putMeans sh p0 p2 p3).2.2.1) := congrArg (fun z => (z.2.2.1)) w198
    have k203 : m195 = ((J_X4_putMeans sh p0 p2 p3).2.2.2.1) := congrArg (fun z => (z.2.2.2.1)) w198
    have k204 : m196 = ((J_X4_putMeans sh p0 p2 p3).2.2.2.2) := congrArg (fun z => (z.2.2.2.2)) w198
    rw [hQ]
    exact x_v cx hr ((sh 0 1), (sh 1), (sh 2), (sh 3), (sh 4), (sh 0 6), (sh 0 7), m192, m193, m194, m195, m196) hP hD hS ⟨(show 0 ≤ (sh 0 1).toInt ∧ (sh 0 1).toInt ≤ 4 from by omega), (show 0 ≤ m196.toInt ∧ m196.toInt ≤ 5 from by omega), h_of, h_go, (show ((sh 0 1), (sh 1), (sh 2), (sh 3), (sh 4), (sh 0 6), (sh 0 7), m192, m193, m194, m195, m196) = J_X4_put sh p0 p1 p2 p3 from by subst k200 k201 k202 k203 k204; first | (refine Eq.symm ?_; refine Eq.trans (if_neg c1) ?_; refine Eq.trans (if_neg c4) ?_; refine Eq.trans (if_neg c20) ?_; refine Eq.trans (if_neg c36) ?_; refine Eq.trans (if_neg c52) ?_; refine Eq.trans (if_neg c53) ?_; refine Eq.trans (if_neg c69) ?_; refine Eq.trans (if_neg c85) ?_; refine Eq.trans (if_neg c101) ?_; refine Eq.trans (if_neg c117) ?_; refine Eq.trans (if_neg c133) ?_; refine Eq.trans (if_neg c149) ?_; refine Eq.trans (if_neg c152) ?_; refine Eq.trans (if_neg c153) ?_; refine Eq.trans (if_neg c156) ?_; refine Eq.trans (if_neg c172) ?_; refine Eq.trans (if_neg c173) ?_; refine Eq.trans (if_pos c189) ?_; rfl) | (unfold J_X4_put; try dsimp only; rw [if_neg c1, if_neg c4, if_neg c20, if_neg c36, if_neg c52, if_neg c53, if_neg c69, if_neg c85, if_neg c101, if_neg c117, if_neg c133, if_neg c149, if_neg c152, if_neg c153, if_neg c156, if_neg c172, if_neg c173, if_pos c189]))⟩ dX4_put_174
  by_cases c205 : p0 = 86
  · refine lv_tableIn (tgt := 166) (off := 165) hx hb dX4_put_1 (by rw [c205]; decide) (by rw [c205]; decide) (by rw [c205]; decide) (by decide) ?_
    have f205 : p0.toInt = 86 := f_eq rfl (by decide) c205
    refine lv_aload_n hx hb dX4_put_166 rfl (lv_at hl 0 rfl) ?_
    refine lv_iload_n hx hb dX4_put_167 rfl (lv_at hl 1 rfl) ?_
    refine lv_iload_n hx hb dX4_put_168 rfl (lv_at hl 3 rfl) ?_
    refine lv_iload hx hb dX4_put_169 (lv_at hl 4 rfl) ?_
    refine g_vF (w1 := fun (u : Int32 × Int32 × Int32 × Int32 × Int32) => [cell82_ qh sh (u.1) (u.2.1) (u.2.2.1) (u.2.2.2.1) (u.2.2.2.2), cell0_ k qh sh, cell1_ k qh sh, cell4_ k qh sh, cell3_ k qh sh, cell2_ k qh sh]) (g_runVF (ws := [cell32_ qh sh, cell0_ k qh sh, cell1_ k qh sh, cell4_ k qh sh, cell3_ k qh sh, cell2_ k qh sh]) (rest := []) cx hP hD hS [.int p0, .int p2, .int p3] (c_X4_putMeans l D k b qh sh H.size p0 p2 p3 (show 0 ≤ (sh 0 12).toInt ∧ (sh 0 12).toInt ≤ 5 from by first | decide | omega) (show ¬ p0.toInt = 66 ∨ (0 ≤ p3.toInt ∧ p3.toInt ≤ 5) from by first | decide | omega)) gX4_put_X4_putMeans rfl rfl rfl nd_X4_putMeans ⟨Nat.le_of_ble_eq_true rfl, Nat.le_of_ble_eq_true rfl⟩ (ci := 2) (q0 := 0) rfl rfl rfl hl.1 rfl (Nat.le_of_ble_eq_true rfl) ⟨Nat.zero_le _, Nat.zero_le _⟩ dX4_put_171) cx.2.2.1 hD hS (fun u207 H locs hw206 hP hD hS => ?_)
    obtain ⟨m208, m209, m210, m211, m212⟩ := u207
    have hP : va_P D vwCl [cell82_ qh sh m208 m209 m210 m211 m212, cell0_ k qh sh, cell1_ k qh sh, cell4_ k qh sh, cell3_ k qh sh, cell2_ k qh sh] H := hP
    have hD : va_D A [cell82_ qh sh m208 m209 m210 m211 m212, cell0_ k qh sh, cell1_ k qh sh, cell4_ k qh sh, cell3_ k qh sh, cell2_ k qh sh] := hD
    replace hw206 : (0 ≤ m212.toInt ∧ m212.toInt ≤ 5) ∧ ((m208, m209, m210, m211, m212) = J_X4_putMeans sh p0 p2 p3) := hw206
    obtain ⟨w213, w214⟩ := hw206
    have k216 : m208 = ((J_X4_putMeans sh p0 p2 p3).1) := congrArg (fun z => (z.1)) w214
    have k217 : m209 = ((J_X4_putMeans sh p0 p2 p3).2.1) := congrArg (fun z => (z.2.1)) w214
    have k218 : m210 = ((J_X4_putMeans sh p0 p2 p3).2.2.1) := congrArg (fun z => (z.2.2.1)) w214
    have k219 : m211 = ((J_X4_putMeans sh p0 p2 p3).2.2.2.1) := congrArg (fun z => (z.2.2.2.1)) w214
    have k220 : m212 = ((J_X4_putMeans sh p0 p2 p3).2.2.2.2) := congrArg (fun z => (z.2.2.2.2)) w214
    rw [hQ]
    exact x_v cx hr ((sh 0 1), (sh 1), (sh 2), (sh 3), (sh 4), (sh 0 6), (sh 0 7), m208, m209, m210, m211, m212) hP hD hS ⟨(show 0 ≤ (sh 0 1).toInt ∧ (sh 0 1).toInt ≤ 4 from by omega), (show 0 ≤ m212.toInt ∧ m212.toInt ≤ 5 from by omega), h_of, h_go, (show ((sh 0 1), (sh 1), (sh 2), (sh 3), (sh 4), (sh 0 6), (sh 0 7), m208, m209, m210, m211, m212) = J_X4_put sh p0 p1 p2 p3 from by subst k216 k217 k218 k219 k220; first | (refine Eq.symm ?_; refine Eq.trans (if_neg c1) ?_; refine Eq.trans (if_neg c4) ?_; refine Eq.trans (if_neg c20) ?_; refine Eq.trans (if_neg c36) ?_; refine Eq.trans (if_neg c52) ?_; refine Eq.trans (if_neg c53) ?_; refine Eq.trans (if_neg c69) ?_; refine Eq.trans (if_neg c85) ?_; refine Eq.trans (if_neg c101) ?_; refine Eq.trans (if_neg c117) ?_; refine Eq.trans (if_neg c133) ?_; refine Eq.trans (if_neg c149) ?_; refine Eq.trans (if_neg c152) ?_; refine Eq.trans (if_neg c153) ?_; refine Eq.trans (if_neg c156) ?_; refine Eq.trans (if_neg c172) ?_; refine Eq.trans (if_neg c173) ?_; refine Eq.trans (if_neg c189) ?_; refine Eq.trans (if_pos c205) ?_; rfl) | (unfold J_X4_put; try dsimp only; rw [if_neg c1, if_neg c4, if_neg c20, if_neg c36, if_neg c52, if_neg c53, if_neg c69, if_neg c85, if_neg c101, if_neg c117, if_neg c133, if_neg c149, if_neg c152, if_neg c153, if_neg c156, if_neg c172, if_neg c173, if_neg c189, if_pos c205]))⟩ dX4_put_174
  by_cases c221 : p0 = 87
  · refine lv_tableIn (tgt := 104) (off := 103) hx hb dX4_put_1 (by rw [c221]; decide) (by rw [c221]; decide) (by rw [c221]; decide) (by decide) ?_
    have f221 : p0.toInt = 87 := f_eq rfl (by decide) c221
    refine lv_aload_n hx hb dX4_put_104 rfl (lv_at hl 0 rfl) ?_
    refine g_get cx hP iw_X4_put_X4 0 rfl rfl 2 (by decide) rfl fw_X4_put_9 rfl dX4_put_105 ?_
    refine lv_iload_n hx hb dX4_put_108 rfl (lv_at hl 2 rfl) ?_
    refine lv_bipush (v := 10) hx hb dX4_put_109 (by decide) ?_
    refine lv_iload_n hx hb dX4_put_111 rfl (lv_at hl 3 rfl) ?_
    refine lv_imul hx hb dX4_put_112 (lv_topi (fun v222 e222 => ?_))
    have t222 : v222.toInt = 10 * p2.toInt := by rw [e222]; exact i_mul (by decide) rfl (by omega) (by omega)
    refine lv_iload hx hb dX4_put_113 (lv_at hl 4 rfl) ?_
    refine lv_iadd hx hb dX4_put_115 (lv_topi (fun v223 e223 => ?_))
    have t223 : v223.toInt = v222.toInt + p3.toInt := by rw [e223]; exact i_add rfl rfl (by omega) (by omega)
    have hn224 : vp_in p1 5 := f_in (a := p1.toInt) rfl (by omega) (by omega)
    refine va_iast hx hb cx.2.1 hP hD hS 1 0 rfl rfl hn224 dX4_put_116 (fun H locs hP hD hS => ?_)
    obtain ⟨g225, eg225⟩ : ∃ g : Nat → Int32, g = upd (sh 1) (p1).toNatClampNeg v223 := ⟨_, rfl⟩
    rw [← eg225] at hP hD
    have hP : va_P D vwCl [cell32_ qh sh, (qh 1, .inl (k 0, 5, .inl g225)), cell1_ k qh sh, cell4_ k qh sh, cell3_ k qh sh, cell2_ k qh sh] H := hP
    have hD : va_D A [cell32_ qh sh, (qh 1, .inl (k 0, 5, .inl g225)), cell1_ k qh sh, cell4_ k qh sh, cell3_ k qh sh, cell2_ k qh sh] := hD
    refine lv_goto (tgt := 174) hx hb dX4_put_117 (by decide) ?_
    rw [hQ]
    exact x_v cx hr ((sh 0 1), g225, (sh 2), (sh 3), (sh 4), (sh 0 6), (sh 0 7), (sh 0 8), (sh 0 9), (sh 0 10), (sh 0 11), (sh 0 12)) hP hD hS ⟨(show 0 ≤ (sh 0 1).toInt ∧ (sh 0 1).toInt ≤ 4 from by omega), (show 0 ≤ (sh 0 12).toInt ∧ (sh 0 12).toInt ≤ 5 from by omega), h_of, h_go, (show ((sh 0 1), g225, (sh 2), (sh 3), (sh 4), (sh 0 6), (sh 0 7), (sh 0 8), (sh 0 9), (sh 0 10), (sh 0 11), (sh 0 12)) = J_X4_put sh p0 p1 p2 p3 from by subst e222 e223 eg225; first | (refine Eq.symm ?_; refine Eq.trans (if_neg c1) ?_; refine Eq.trans (if_neg c4) ?_; refine Eq.trans (if_neg c20) ?_; refine Eq.trans (if_neg c36) ?_; refine Eq.trans (if_neg c52) ?_; refine Eq.trans (if_neg c53) ?_; refine Eq.trans (if_neg c69) ?_; refine Eq.trans (if_neg c85) ?_; refine Eq.trans (if_neg c101) ?_; refine Eq.trans (if_neg c117) ?_; refine Eq.trans (if_neg c133) ?_; refine Eq.trans (if_neg c149) ?_; refine Eq.trans (if_neg c152) ?_; refine Eq.trans (if_neg c153) ?_; refine Eq.trans (if_neg c156) ?_; refine Eq.trans (if_neg c172) ?_; refine Eq.trans (if_neg c173) ?_; refine Eq.trans (if_neg c189) ?_; refine Eq.trans (if_neg c205) ?_; refine Eq.trans (if_pos c221) ?_; rfl) | (unfold J_X4_put; try dsimp only; rw [if_neg c1, if_neg c4, if_neg c20, if_neg c36, if_neg c52, if_neg c53, if_neg c69, if_neg c85, if_neg c101, if_neg c117, if_neg c133, if_neg c149, if_neg c152, if_neg c153, if_neg c156, if_neg c172, if_neg c173, if_neg c189, if_neg c205, if_pos c221]))⟩ dX4_put_174
  have gc1 : ¬ p0.toInt = 68 := f_ne rfl (by decide) c1
  have gc4 : ¬ p0.toInt = 69 := f_ne rfl (by decide) c4
  have gc20 : ¬ p0.toInt = 70 := f_ne rfl (by decide) c20
  have gc36 : ¬ p0.toInt = 71 := f_ne rfl (by decide) c36
  have gc52 : ¬ p0.toInt = 72 := f_ne rfl (by decide) c52
  have gc53 : ¬ p0.toInt = 73 := f_ne rfl (by decide) c53
  have gc69 : ¬ p0.toInt = 74 := f_ne rfl (by decide) c69
  have gc85 : ¬ p0.toInt = 75 := f_ne rfl (by decide) c85
  have gc101 : ¬ p0.toInt = 76 := f_ne rfl (by decide) c101
  have gc117 : ¬ p0.toInt = 77 := f_ne rfl (by decide) c117
  have gc133 : ¬ p0.toInt = 78 := f_ne rfl (by decide) c133
  have gc149 : ¬ p0.toInt = 79 := f_ne rfl (by decide) c149
  have gc152 : ¬ p0.toInt = 80 := f_ne rfl (by decide) c152
  have gc153 : ¬ p0.toInt = 81 := f_ne rfl (by decide) c153
  have gc156 : ¬ p0.toInt = 82 := f_ne rfl (by decide) c156
  have gc172 : ¬ p0.toInt = 83 := f_ne rfl (by decide) c172
  have gc173 : ¬ p0.toInt = 84 := f_ne rfl (by decide) c173
  have gc189 : ¬ p0.toInt = 85 := f_ne rfl (by decide) c189
  have gc205 : ¬ p0.toInt = 86 := f_ne rfl (by decide) c205
  have gc221 : ¬ p0.toInt = 87 := f_ne rfl (by decide) c221
  refine lv_tableOut (tgt := 166) hx hb dX4_put_1 (by omega) (by decide) ?_
  refine lv_aload_n hx hb dX4_put_166 rfl (lv_at hl 0 rfl) ?_
  refine lv_iload_n hx hb dX4_put_167 rfl (lv_at hl 1 rfl) ?_
  refine lv_iload_n hx hb dX4_put_168 rfl (lv_at hl 3 rfl) ?_
  refine lv_iload hx hb dX4_put_169 (lv_at hl 4 rfl) ?_
  refine g_vF (w1 := fun (u : Int32 × Int32 × Int32 × Int32 × Int32) => [cell82_ qh sh (u.1) (u.2.1) (u.2.2.1) (u.2.2.2.1) (u.2.2.2.2), cell0_ k qh sh, cell1_ k qh sh, cell4_ k qh sh, cell3_ k qh sh, cell2_ k qh sh]) (g_runVF (ws := [cell32_ qh sh, cell0_ k qh sh, cell1_ k qh sh, cell4_ k qh sh, cell3_ k qh sh, cell2_ k qh sh]) (rest := []) cx hP hD hS [.int p0, .int p2, .int p3] (c_X4_putMeans l D k b qh sh H.size p0 p2 p3 (show 0 ≤ (sh 0 12).toInt ∧ (sh 0 12).toInt ≤ 5 from by first | decide | omega) (show ¬ p0.toInt = 66 ∨ (0 ≤ p3.toInt ∧ p3.toInt ≤ 5) from by first | decide | omega)) gX4_put_X4_putMeans rfl rfl rfl nd_X4_putMeans ⟨Nat.le_of_ble_eq_true rfl, Nat.le_of_ble_eq_true rfl⟩ (ci := 2) (q0 := 0) rfl rfl rfl hl.1 rfl (Nat.le_of_ble_eq_true rfl) ⟨Nat.zero_le _, Nat.zero_le _⟩ dX4_put_171) cx.2.2.1 hD hS (fun u228 H locs hw227 hP hD hS => ?_)
  obtain ⟨m229, m230, m231, m232, m233⟩ := u228
  have hP : va_P D vwCl [cell82_ qh sh m229 m230 m231 m232 m233, cell0_ k qh sh, cell1_ k qh sh, cell4_ k qh sh, cell3_ k qh sh, cell2_ k qh sh] H := hP
  have hD : va_D A [cell82_ qh sh m229 m230 m231 m232 m233, cell0_ k qh sh, cell1_ k qh sh, cell4_ k qh sh, cell3_ k qh sh, cell2_ k qh sh] := hD
  replace hw227 : (0 ≤ m233.toInt ∧ m233.toInt ≤ 5) ∧ ((m229, m230, m231, m232, m233) = J_X4_putMeans sh p0 p2 p3) := hw227
  obtain ⟨w234, w235⟩ := hw227
  have k237 : m229 = ((J_X4_putMeans sh p0 p2 p3).1) := congrArg (fun z => (z.1)) w235
  have k238 : m230 = ((J_X4_putMeans sh p0 p2 p3).2.1) := congrArg (fun z => (z.2.1)) w235
  have k239 : m231 = ((J_X4_putMeans sh p0 p2 p3).2.2.1) := congrArg (fun z => (z.2.2.1)) w235
  have k240 : m232 = ((J_X4_putMeans sh p0 p2 p3).2.2.2.1) := congrArg (fun z => (z.2.2.2.1)) w235
  have k241 : m233 = ((J_X4_putMeans sh p0 p2 p3).2.2.2.2) := congrArg (fun z => (z.2.2.2.2)) w235
  rw [hQ]
  exact x_v cx hr ((sh 0 1), (sh 1), (sh 2), (sh 3), (sh 4), (sh 0 6), (sh 0 7), m229, m230, m231, m232, m233) hP hD hS ⟨(show 0 ≤ (sh 0 1).toInt ∧ (sh 0 1).toInt ≤ 4 from by omega), (show 0 ≤ m233.toInt ∧ m233.toInt ≤ 5 from by omega), h_of, h_go, (show ((sh 0 1), (sh 1), (sh 2), (sh 3), (sh 4), (sh 0 6), (sh 0 7), m229, m230, m231, m232, m233) = J_X4_put sh p0 p1 p2 p3 from by subst k237 k238 k239 k240 k241; first | (refine Eq.symm ?_; refine Eq.trans (if_neg c1) ?_; refine Eq.trans (if_neg c4) ?_; refine Eq.trans (if_neg c20) ?_; refine Eq.trans (if_neg c36) ?_; refine Eq.trans (if_neg c52) ?_; refine Eq.trans (if_neg c53) ?_; refine Eq.trans (if_neg c69) ?_; refine Eq.trans (if_neg c85) ?_; refine Eq.trans (if_neg c101) ?_; refine Eq.trans (if_neg c117) ?_; refine Eq.trans (if_neg c133) ?_; refine Eq.trans (if_neg c149) ?_; refine Eq.trans (if_neg c152) ?_; refine Eq.trans (if_neg c153) ?_; refine Eq.trans (if_neg c156) ?_; refine Eq.trans (if_neg c172) ?_; refine Eq.trans (if_neg c173) ?_; refine Eq.trans (if_neg c189) ?_; refine Eq.trans (if_neg c205) ?_; refine Eq.trans (if_neg c221) ?_; rfl) | (unfold J_X4_put; try dsimp only; rw [if_neg c1, if_neg c4, if_neg c20, if_neg c36, if_neg c52, if_neg c53, if_neg c69, if_neg c85, if_neg c101, if_neg c117, if_neg c133, if_neg c149, if_neg c152, if_neg c153, if_neg c156, if_neg c172, if_neg c173, if_neg c189, if_neg c205, if_neg c221]))⟩ dX4_put_174
theorem mw_X4_fifths_maxL97 : Cond.methodLink RX4 97 Lib.Math.max.name ∈ wsX4_fifths := by decide +kernel
theorem mw_X4_fifths_maxS : Cond.static Lib.Math.max.name ∈ wsX4_fifths := by decide +kernel
theorem mw_X4_fifths_maxI : Cond.initialized "java/lang/Math" ∈ wsX4_fifths := by decide +kernel
theorem mw_X4_fifths_maxC : Cond.code Lib.Math.max.name Lib.Math.max.code 2 (some .int) ∈ wsX4_fifths := by decide +kernel
theorem fw_X4_fifths_18 : Cond.fieldLink RX4 18 "StillInAugust$House" "goes" "[I" ∈ wsX4_fifths := by decide +kernel
theorem fw_X4_fifths_63 : Cond.fieldLink RX4 63 "StillInAugust$House" "fifthsLess" "I" ∈ wsX4_fifths := by decide +kernel
theorem iw_X4_fifths_X4 : ∀ w ∈ u_ws RX4 TX4 14, w ∈ wsX4_fifths := fun _ h => List.mem_cons_of_mem _ (List.mem_append_right _ h)
def J_X4_fifths (sh : Nat → Nat → Int32) (p0 : Int32) : Int32 := (if 0 < (((sh 3) (p0).toNatClampNeg) - (sh 0 12)) then (((sh 3) (p0).toNatClampNeg) - (sh 0 12)) else 0)
set_option maxHeartbeats 4000000 in
set_option maxRecDepth 100000 in
theorem c_X4_fifths (l : Launch) (D : va_G) (k : Nat → ClassId) (b : Nat → Nat) (qh : Nat → Nat) (sh : Nat → Nat → Int32) (sz : Nat) (p0 : Int32) (h_fl : 0 ≤ (sh 0 12).toInt ∧ (sh 0 12).toInt ≤ 5) (h_go : ∀ j, 0 ≤ (sh 3 j).toInt ∧ (sh 3 j).toInt ≤ 5) (hp0 : 0 ≤ p0.toInt ∧ p0.toInt ≤ 2) : MetI l D k b yX4_fifths wsX4_fifths ({ frames := 1, cells := 0, slots := 0, locals := 21 } : Room) [cell32_ qh sh, cell0_ k qh sh, cell1_ k qh sh, cell4_ k qh sh, cell3_ k qh sh, cell2_ k qh sh] sz [.ref (qh 0), .int p0] (fun (r : Int32) (u : Unit) => (0 ≤ r.toInt ∧ r.toInt ≤ 5) ∧ (r = J_X4_fifths sh p0)) (fun u => [cell32_ qh sh, cell0_ k qh sh, cell1_ k qh sh, cell4_ k qh sh, cell3_ k qh sh, cell2_ k qh sh]) := by
  refine g_enter (cc := cX4_fifths) (maxL := 2) (ret := (some .int)) (by decide) rfl (Nat.le_of_ble_eq_true rfl) ?_
  intro p e s m below meth c A hsz hAe cx hr hP hD hS ls hl
  rw [hAe]
  refine g_q (fun Q hQ => ?_)
  have hx := cx.1.1
  have hb := cx.1.2.1
  have bp0 := i_rng p0
  have hl : lv_has ls 2 [(0, .ref (qh 0)), (1, .int p0)] := hl
  obtain ⟨H, eH⟩ : ∃ H : Heap, H = s.heap := ⟨_, rfl⟩
  obtain ⟨locs, el⟩ : ∃ L : List Loc, L = [] := ⟨_, rfl⟩
  have hP : va_P D vwCl [cell32_ qh sh, cell0_ k qh sh, cell1_ k qh sh, cell4_ k qh sh, cell3_ k qh sh, cell2_ k qh sh] H := by rw [eH]; exact hP
  have hD : va_D A [cell32_ qh sh, cell0_ k qh sh, cell1_ k qh sh, cell4_ k qh sh, cell3_ k qh sh, cell2_ k qh sh] := hD
  have hS : va_S A s.heap H locs := by rw [eH, el]; exact hS
  suffices goal : W p l e ({ frames := 1, cells := 0, slots := 0, locals := 21 } : Room) s m ([.ref (qh 0), .int p0] : List Value).toArray below meth c H locs 0 0 Q (F0 m 0 ls []) by rw [eH, el] at goal; exact goal
  refine lv_iconst (v := 0) hx hb dX4_fifths_0 (by decide) ?_
  refine lv_aload_n hx hb dX4_fifths_1 rfl (lv_at hl 0 rfl) ?_
  refine g_get cx hP iw_X4_fifths_X4 0 rfl rfl 4 (by decide) rfl fw_X4_fifths_18 rfl dX4_fifths_2 ?_
  refine lv_iload_n hx hb dX4_fifths_5 rfl (lv_at hl 1 rfl) ?_
  have hn1 : vp_in p0 3 := f_in (a := p0.toInt) rfl (by omega) (by omega)
  refine va_iald hx hb cx.2.1 hP 3 0 rfl rfl hn1 dX4_fifths_6 (lv_topi (fun v2 e2 => ?_))
  have t2 : 0 ≤ v2.toInt ∧ v2.toInt ≤ 5 := by rw [e2]; exact h_go _
  refine lv_aload_n hx hb dX4_fifths_7 rfl (lv_at hl 0 rfl) ?_
  refine g_get cx hP iw_X4_fifths_X4 0 rfl rfl 12 (by decide) rfl fw_X4_fifths_63 rfl dX4_fifths_8 ?_
  refine lv_isub hx hb dX4_fifths_11 (lv_topi (fun v3 e3 => ?_))
  have t3 : v3.toInt = v2.toInt - (sh 0 12).toInt := by rw [e3]; exact i_sub rfl rfl (by omega) (by omega)
  refine va_mmax hx hb (cx.1.2.2.1.trans hl.1.symm) cx.1.2.2.2.1 (cx.1.2.2.2.2 _ mw_X4_fifths_maxL97) (cx.1.2.2.2.2 _ mw_X4_fifths_maxS) (cx.1.2.2.2.2 _ mw_X4_fifths_maxI) (cx.1.2.2.2.2 _ mw_X4_fifths_maxC) (Nat.le_of_ble_eq_true rfl) (Nat.le_of_ble_eq_true rfl) (Nat.zero_le _) (Nat.zero_le _) dX4_fifths_12 (lv_topi (fun v4 e4 => ?_))
  have t4 := i_max (by decide) rfl (a := 0) (b := v3.toInt) e4
  rw [hQ]
  exact x_i cx hr () hP hD hS ⟨(show 0 ≤ v4.toInt ∧ v4.toInt ≤ 5 from by omega), (show v4 = J_X4_fifths sh p0 from by subst e2 e3 e4; rfl)⟩ dX4_fifths_15
theorem fw_X4_leaving_102 : Cond.fieldLink RX4 102 "StillInAugust$House" "POWERS" "[I" ∈ wsX4_leaving := by decide +kernel
theorem fw_X4_leaving_114 : Cond.fieldLink RX4 114 "StillInAugust$House" "WAYS" "[I" ∈ wsX4_leaving := by decide +kernel
theorem nd_X3_has : yX3_has.cls ≠ "java/lang/invoke/MethodHandle" ∧ yX3_has.cls ≠ "java/lang/invoke/VarHandle" ∧ (parseMethodDescriptor yX3_has.desc).map (fun d => d.parameters.length) = some 2 := by decide +kernel
theorem nd_X3_ofAge : yX3_ofAge.cls ≠ "java/lang/invoke/MethodHandle" ∧ yX3_ofAge.cls ≠ "java/lang/invoke/VarHandle" ∧ (parseMethodDescriptor yX3_ofAge.desc).map (fun d => d.parameters.length) = some 2 := by decide +kernel
theorem nd_X4_fifths : yX4_fifths.cls = RX4 ∧ yX4_fifths.cls ≠ "java/lang/invoke/MethodHandle" ∧ yX4_fifths.cls ≠ "java/lang/invoke/VarHandle" ∧ (parseMethodDescriptor yX4_fifths.desc).map (fun d => d.parameters.length) = some 1 := by decide +kernel
def B_X4_leaving_25 (sh : Nat → Nat → Int32) (p0 : Int32) (p1 : Int32) (z : Int32 × Int32) : Sum (Int32 × Int32) (Int32) := let v44 := (z.1); let v45 := (z.2); if 3 ≤ v44 then Sum.inr (v45) else let y58 := J_X4_fifths sh v44; Sum.inl (((v44 + 1), (v45 * (((zWAY.getD ((((5 : Int32) * (J_X3_ofAge p0 v44)) + (J_X3_ofAge p1 v44))).toNatClampNeg 0) * (zPOW.getD ((((5 : Int32) * y58) + (J_X3_ofAge p1 v44))).toNatClampNeg 0)) * (zPOW.getD (((((5 : Int32) * ((5 : Int32) - y58)) + (J_X3_ofAge p0 v44)) - (J_X3_ofAge p1 v44))).toNatClampNeg 0)))))
def J_X4_leaving (sh : Nat → Nat → Int32) (p0 : Int32) (p1 : Int32) : Int32 := if (J_X3_has p0 p1) = 0 then (0 : Int32) else LTs default (B_X4_leaving_25 sh p0 p1) 4 ((0 : Int32), (zPOW.getD (((29 : Int32) - (J_X3_total p0))).toNatClampNeg 0))
set_option maxHeartbeats 4000000 in
set_option maxRecDepth 100000 in
theorem c_X4_leaving (l : Launch) (D : va_G) (k : Nat → ClassId) (b : Nat → Nat) (qh : Nat → Nat) (sh : Nat → Nat → Int32) (sz : Nat) (p0 : Int32) (p1 : Int32) (h_fl : 0 ≤ (sh 0 12).toInt ∧ (sh 0 12).toInt ≤ 5) (h_go : ∀ j, 0 ≤ (sh 3 j).toInt ∧ (sh 3 j).toInt ≤ 5) (hv : 0 ≤ p0.toInt ∧ p0.toInt ≤ 400 ∧ tot p0 ≤ 4) (hg : 0 ≤ p1.toInt ∧ p1.toInt ≤ 444) : MetI l D k b yX4_leaving wsX4_leaving ({ frames := 2, cells := 0, slots := 0, locals := 42 } : Room) [cell32_ qh sh, cell0_ k qh sh, cell1_ k qh sh, cell4_ k qh sh, cell3_ k qh sh, cell2_ k qh sh] sz [.ref (qh 0), .int p0, .int p1] (fun (r : Int32) (u : Unit) => (r.toInt = 0 ∨ (hasI p0 p1)) ∧ (r = J_X4_leaving sh p0 p1)) (fun u => [cell32_ qh sh, cell0_ k qh sh, cell1_ k qh sh, cell4_ k qh sh, cell3_ k qh sh, cell2_ k qh sh]) := by
  refine g_enter (cc := cX4_leaving) (maxL := 8) (ret := (some .int)) (by decide) rfl (Nat.le_of_ble_eq_true rfl) ?_
  intro p e s m below meth c A hsz hAe cx hr hP hD hS ls hl
  rw [hAe]
  refine g_q (fun Q hQ => ?_)
  have hx := cx.1.1
  have hb := cx.1.2.1
  have bp0 := i_rng p0
  have bp1 := i_rng p1
  have hl : lv_has ls 8 [(0, .ref (qh 0)), (1, .int p0), (2, .int p1)] := hl
  obtain ⟨H, eH⟩ : ∃ H : Heap, H = s.heap := ⟨_, rfl⟩
  obtain ⟨locs, el⟩ : ∃ L : List Loc, L = [] := ⟨_, rfl⟩
  have hP : va_P D vwCl [cell32_ qh sh, cell0_ k qh sh, cell1_ k qh sh, cell4_ k qh sh, cell3_ k qh sh, cell2_ k qh sh] H := by rw [eH]; exact hP
  have hD : va_D A [cell32_ qh sh, cell0_ k qh sh, cell1_ k qh sh, cell4_ k qh sh, cell3_ k qh sh, cell2_ k qh sh] := hD
  have hS : va_S A s.heap H locs := by rw [eH, el]; exact hS
  suffices goal : W p l e ({ frames := 2, cells := 0, slots := 0, locals := 42 } : Room) s m ([.ref (qh 0), .int p0, .int p1] : List Value).toArray below meth c H locs 0 0 Q (F0 m 0 ls []) by rw [eH, el] at goal; exact goal
  refine lv_iload_n hx hb dX4_leaving_0 rfl (lv_at hl 1 rfl) ?_
  refine lv_iload_n hx hb dX4_leaving_1 rfl (lv_at hl 2 rfl) ?_
  refine g_ir (g_runS (wc := []) (rest := []) cx hP hD hS [] rfl (by decide) [.int p0, .int p1] (c_X3_has l D k b H.size p0 p1) gX4_leaving_X3_has rfl rfl rfl nd_X3_has ⟨Nat.le_of_ble_eq_true rfl, Nat.le_of_ble_eq_true rfl⟩ rfl hl.1 rfl (Nat.le_of_ble_eq_true rfl) ⟨Nat.zero_le _, Nat.zero_le _⟩ dX4_leaving_2) cx.2.2.1 hP hD hS [] rfl rfl (fun r2 H locs hw1 hP hS => ?_)
  have w3 : r2 = J_X3_has p0 p1 := hw1
  clear hw1
  have zr2 := has_b w3
  refine lv_if_ne (tgt := 10) hx hb dX4_leaving_5 (by decide) (fun c4 => ?_) (fun c4 => ?_)
  · have f4 : ¬ r2.toInt = 0 := f_ne rfl (by decide) c4
    have k4 : hasI p0 p1 := has_t w3 c4 (by omega) (by omega)
    refine va_gets hx hb cx.2.2.2.t3.1 hS cx.1.2.2.2.1 (cx.1.2.2.2.2 _ fw_X4_leaving_102) (fun _ h => h) dX4_leaving_10 ?_
    refine lv_bipush (v := 29) hx hb dX4_leaving_13 (by decide) ?_
    refine lv_iload_n hx hb dX4_leaving_15 rfl (lv_at hl 1 rfl) ?_
    refine g_ir (g_runS (wc := []) (rest := [.int 29, .ref (b 3)]) cx hP hD hS [] rfl (by decide) [.int p0] (c_X3_total l D k b H.size p0) gX4_leaving_X3_total rfl rfl rfl nd_X3_total ⟨Nat.le_of_ble_eq_true rfl, Nat.le_of_ble_eq_true rfl⟩ rfl hl.1 rfl (Nat.le_of_ble_eq_true rfl) ⟨Nat.zero_le _, Nat.zero_le _⟩ dX4_leaving_16) cx.2.2.1 hP hD hS [] rfl rfl (fun r6 H locs hw5 hP hS => ?_)
    have w7 : r6 = J_X3_total p0 := hw5
    clear hw5
    have zr6 : r6.toInt = tot p0 := tot3 w7 (show 0 ≤ p0.toInt from by first | decide | omega)
    have yr6 := tot_0 (x := p0) (by first | decide | omega)
    refine lv_isub hx hb dX4_leaving_19 (lv_topi (fun v8 e8 => ?_))
    have t8 : v8.toInt = 29 - r6.toInt := by rw [e8]; exact i_sub (by decide) rfl (by omega) (by omega)
    have hn9 : vp_in v8 30 := f_in (a := v8.toInt) rfl (by omega) (by omega)
    refine va_ti hx hb cx.2.2.2.t3.2 hS hn9 rfl dX4_leaving_20 (lv_topi (fun v10 e10 => ?_))
    have t10 : 0 ≤ v10.toInt ∧ v10.toInt ≤ 625 := by rw [e10]; exact zPOW_b _
    refine lv_istore_n (lv' := [(3, .int v10), (0, .ref (qh 0)), (1, .int p0), (2, .int p1)]) hx hb dX4_leaving_21 rfl hl (by decide) rfl (fun ls hl => ?_)
    refine lv_iconst (v := 0) hx hb dX4_leaving_22 (by decide) ?_
    refine lv_istore (lv' := [(4, .int 0), (3, .int v10), (0, .ref (qh 0)), (1, .int p0), (2, .int p1)]) hx hb dX4_leaving_23 hl (by decide) rfl (fun ls hl => ?_)
    obtain ⟨rr25_1, err25_1⟩ : ∃ r : Int32, LTs (default : Int32) (B_X4_leaving_25 sh p0 p1) 4 ((0 : Int32), v10) = r := ⟨_, rfl⟩
    have hrr25_1 : J_X4_leaving sh p0 p1 = rr25_1 := by subst w3 w7 e8 e10; refine Eq.trans (if_neg c4) ?_; exact err25_1
    have hL25 : ∀ (n46 : Nat) (v44 : Int32) (v45 : Int32) (H : Heap) (locs : List Loc) (ls : Array Slot), 3 - v44.toInt < (n46 : Int) → (0 ≤ v44.toInt ∧ v44.toInt ≤ 3) → (LTs (default : Int32) (B_X4_leaving_25 sh p0 p1) n46 (v44, v45) = rr25_1) → va_P D vwCl [cell32_ qh sh, cell0_ k qh sh, cell1_ k qh sh, cell4_ k qh sh, cell3_ k qh sh, cell2_ k qh sh] H → va_D A [cell32_ qh sh, cell0_ k qh sh, cell1_ k qh sh, cell4_ k qh sh, cell3_ k qh sh, cell2_ k qh sh] → va_S A s.heap H locs → lv_has ls 8 [(4, .int v44), (3, .int v45), (0, .ref (qh 0)), (1, .int p0), (2, .int p1)] → W p l e ({ frames := 2, cells := 0, slots := 0, locals := 42 } : Room) s m ([.ref (qh 0), .int p0, .int p1] : List Value).toArray below meth c H locs 0 0 Q (F0 m 25 ls []) := by
      intro n46
      induction n46 with
      | zero => intro v44 v45 H locs ls hmn46 bv44 hzrr25_1 hP hD hS hl; exact absurd hmn46 (by omega)
      | succ n46 ih25 =>
        intro v44 v45 H locs ls hmn46 bv44 hzrr25_1 hP hD hS hl
        refine lv_iload hx hb dX4_leaving_25 (lv_at hl 0 rfl) ?_
        refine lv_iconst (v := 3) hx hb dX4_leaving_27 (by decide) ?_
        refine lv_icmp_ge (tgt := 104) hx hb dX4_leaving_28 (by decide) (fun c47 => ?_) (fun c47 => ?_)
        · have f47 : 3 ≤ v44.toInt := f_le (by decide) rfl c47
          refine lv_iload_n hx hb dX4_leaving_104 rfl (lv_at hl 1 rfl) ?_
          rw [hQ]
          exact x_i cx hr () hP hD hS ⟨(show v45.toInt = 0 ∨ (hasI p0 p1) from by first | exact Or.inl (by first | decide | omega) | exact Or.inr (by assumption)), (show v45 = J_X4_leaving sh p0 p1 from ((hrr25_1.trans (LT_r hzrr25_1 (show (B_X4_leaving_25 sh p0 p1) (v44, v45) = Sum.inr (v45) from by subst w3 w7 e8 e10; refine Eq.trans (if_pos c47) ?_; rfl)))).symm)⟩ dX4_leaving_105
        · have f47 : v44.toInt < 3 := f_nle (by decide) rfl c47
          refine lv_iload_n hx hb dX4_leaving_31 rfl (lv_at hl 3 rfl) ?_
          refine lv_iload hx hb dX4_leaving_32 (lv_at hl 0 rfl) ?_
          refine g_ir (g_runS (wc := []) (rest := []) cx hP hD hS [] rfl (by decide) [.int p0, .int v44] (c_X3_ofAge l D k b H.size p0 v44) gX4_leaving_X3_ofAge rfl rfl rfl nd_X3_ofAge ⟨Nat.le_of_ble_eq_true rfl, Nat.le_of_ble_eq_true rfl⟩ rfl hl.1 rfl (Nat.le_of_ble_eq_true rfl) ⟨Nat.zero_le _, Nat.zero_le _⟩ dX4_leaving_34) cx.2.2.1 hP hD hS [] rfl rfl (fun r49 H locs hw48 hP hS => ?_)
          have w50 : r49 = J_X3_ofAge p0 v44 := hw48
          clear hw48
          have ow1 := w50
          refine lv_istore (lv' := [(5, .int r49), (4, .int v44), (3, .int v45), (0, .ref (qh 0)), (1, .int p0), (2, .int p1)]) hx hb dX4_leaving_37 hl (by decide) rfl (fun ls hl => ?_)
          refine lv_iload_n hx hb dX4_leaving_39 rfl (lv_at hl 5 rfl) ?_
          refine lv_iload hx hb dX4_leaving_40 (lv_at hl 1 rfl) ?_
          refine g_ir (g_runS (wc := []) (rest := []) cx hP hD hS [] rfl (by decide) [.int p1, .int v44] (c_X3_ofAge l D k b H.size p1 v44) gX4_leaving_X3_ofAge rfl rfl rfl nd_X3_ofAge ⟨Nat.le_of_ble_eq_true rfl, Nat.le_of_ble_eq_true rfl⟩ rfl hl.1 rfl (Nat.le_of_ble_eq_true rfl) ⟨Nat.zero_le _, Nat.zero_le _⟩ dX4_leaving_42) cx.2.2.1 hP hD hS [] rfl rfl (fun r52 H locs hw51 hP hS => ?_)
          have w53 : r52 = J_X3_ofAge p1 v44 := hw51
          clear hw51
          have ab := age_b ow1 w53 hv (by omega) (by assumption)
          refine lv_istore (lv' := [(6, .int r52), (5, .int r49), (4, .int v44), (3, .int v45), (0, .ref (qh 0)), (1, .int p0), (2, .int p1)]) hx hb dX4_leaving_45 hl (by decide) rfl (fun ls hl => ?_)
          refine lv_aload_n hx hb dX4_leaving_47 rfl (lv_at hl 4 rfl) ?_
          refine lv_iload hx hb dX4_leaving_48 (lv_at hl 2 rfl) ?_
          refine g_iF (w1 := fun (_ : Unit) => [cell32_ qh sh, cell0_ k qh sh, cell1_ k qh sh, cell4_ k qh sh, cell3_ k qh sh, cell2_ k qh sh]) (g_runVF (ws := [cell32_ qh sh, cell0_ k qh sh, cell1_ k qh sh, cell4_ k qh sh, cell3_ k qh sh, cell2_ k qh sh]) (rest := []) cx hP hD hS [.int v44] (c_X4_fifths l D k b qh sh H.size v44 (show 0 ≤ (sh 0 12).toInt ∧ (sh 0 12).toInt ≤ 5 from by first | decide | omega) h_go (show 0 ≤ v44.toInt ∧ v44.toInt ≤ 2 from by first | decide | omega)) gX4_leaving_X4_fifths rfl rfl rfl nd_X4_fifths ⟨Nat.le_of_ble_eq_true rfl, Nat.le_of_ble_eq_true rfl⟩ (ci := 2) (q0 := 0) rfl rfl rfl hl.1 rfl (Nat.le_of_ble_eq_true rfl) ⟨Nat.zero_le _, Nat.zero_le _⟩ dX4_leaving_50) cx.2.2.1 hD hS (fun r55 _ H locs hw54 hP hD hS => ?_)
          replace hw54 : (0 ≤ r55.toInt ∧ r55.toInt ≤ 5) ∧ (r55 = J_X4_fifths sh v44) := hw54
          obtain ⟨w56, w57⟩ := hw54
          have k59 : r55 = (J_X4_fifths sh v44) := congrArg (fun z => z) w57
          refine lv_istore (lv' := [(7, .int r55), (6, .int r52), (5, .int r49), (4, .int v44), (3, .int v45), (0, .ref (qh 0)), (1, .int p0), (2, .int p1)]) hx hb dX4_leaving_53 hl (by decide) rfl (fun ls hl => ?_)
          refine lv_iload_n hx hb dX4_leaving_55 rfl (lv_at hl 4 rfl) ?_
          refine va_gets hx hb cx.2.2.2.t2.1 hS cx.1.2.2.2.1 (cx.1.2.2.2.2 _ fw_X4_leaving_114) (fun _ h => h) dX4_leaving_56 ?_
          refine lv_iconst (v := 5) hx hb dX4_leaving_59 (by decide) ?_
          refine lv_iload hx hb dX4_leaving_60 (lv_at hl 2 rfl) ?_
          refine lv_imul hx hb dX4_leaving_62 (lv_topi (fun v60 e60 => ?_))
          have t60 : v60.toInt = 5 * r49.toInt := by rw [e60]; exact i_mul (by decide) rfl (by omega) (by omega)
          refine lv_iload hx hb dX4_leaving_63 (lv_at hl 1 rfl) ?_
          refine lv_iadd hx hb dX4_leaving_65 (lv_topi (fun v61 e61 => ?_))
          have t61 : v61.toInt = v60.toInt + r52.toInt := by rw [e61]; exact i_add rfl rfl (by omega) (by omega)
          have hn62 : vp_in v61 25 := f_in (a := v61.toInt) rfl (by omega) (by omega)
          refine va_ti hx hb cx.2.2.2.t2.2 hS hn62 rfl dX4_leaving_66 (lv_topi (fun v63 e63 => ?_))
          have t63 : 0 ≤ v63.toInt ∧ v63.toInt ≤ 6 := by rw [e63]; exact zWAY_b _
          refine va_gets hx hb cx.2.2.2.t3.1 hS cx.1.2.2.2.1 (cx.1.2.2.2.2 _ fw_X4_leaving_102) (fun _ h => h) dX4_leaving_67 ?_
          refine lv_iconst (v := 5) hx hb dX4_leaving_70 (by decide) ?_
          refine lv_iload hx hb dX4_leaving_71 (lv_at hl 0 rfl) ?_
          refine lv_imul hx hb dX4_leaving_73 (lv_topi (fun v64 e64 => ?_))
          have t64 : v64.toInt = 5 * r55.toInt := by rw [e64]; exact i_mul (by decide) rfl (by omega) (by omega)
          refine lv_iload hx hb dX4_leaving_74 (lv_at hl 1 rfl) ?_
          refine lv_iadd hx hb dX4_leaving_76 (lv_topi (fun v65 e65 => ?_))
          have t65 : v65.toInt = v64.toInt + r52.toInt := by rw [e65]; exact i_add rfl rfl (by omega) (by omega)
          have hn66 : vp_in v65 30 := f_in (a := v65.toInt) rfl (by omega) (by omega)
          refine va_ti hx hb cx.2.2.2.t3.2 hS hn66 rfl dX4_leaving_77 (lv_topi (fun v67 e67 => ?_))
          have t67 : 0 ≤ v67.toInt ∧ v67.toInt ≤ 625 := by rw [e67]; exact zPOW_b _
          refine lv_imul hx hb dX4_leaving_78 (lv_topi (fun v68 e68 => ?_))
          have t68b : 0 ≤ v63.toInt * v67.toInt ∧ v63.toInt * v67.toInt ≤ 3750 := ⟨Int.mul_nonneg (by omega) (by omega), Int.le_trans (Int.mul_le_mul (c := 6) (d := 625) (by omega) (by omega) (by omega) (by omega)) (by decide)⟩
          have t68c : v68.toInt = v63.toInt * v67.toInt := by rw [e68]; exact i_mul rfl rfl (by omega) (by omega)
          have t68 : 0 ≤ v68.toInt ∧ v68.toInt ≤ 3750 := by rw [t68c]; exact t68b
          refine va_gets hx hb cx.2.2.2.t3.1 hS cx.1.2.2.2.1 (cx.1.2.2.2.2 _ fw_X4_leaving_102) (fun _ h => h) dX4_leaving_79 ?_
          refine lv_iconst (v := 5) hx hb dX4_leaving_82 (by decide) ?_
          refine lv_iconst (v := 5) hx hb dX4_leaving_83 (by decide) ?_
          refine lv_iload hx hb dX4_leaving_84 (lv_at hl 0 rfl) ?_
          refine lv_isub hx hb dX4_leaving_86 (lv_topi (fun v69 e69 => ?_))
          have t69 : v69.toInt = 5 - r55.toInt := by rw [e69]; exact i_sub (by decide) rfl (by omega) (by omega)
          refine lv_imul hx hb dX4_leaving_87 (lv_topi (fun v70 e70 => ?_))
          have t70 : v70.toInt = 5 * v69.toInt := by rw [e70]; exact i_mul (by decide) rfl (by omega) (by omega)
          refine lv_iload hx hb dX4_leaving_88 (lv_at hl 2 rfl) ?_
          refine lv_iadd hx hb dX4_leaving_90 (lv_topi (fun v71 e71 => ?_))
          have t71 : v71.toInt = v70.toInt + r49.toInt := by rw [e71]; exact i_add rfl rfl (by omega) (by omega)
          refine lv_iload hx hb dX4_leaving_91 (lv_at hl 1 rfl) ?_
          refine lv_isub hx hb dX4_leaving_93 (lv_topi (fun v72 e72 => ?_))
          have t72 : v72.toInt = v71.toInt - r52.toInt := by rw [e72]; exact i_sub rfl rfl (by omega) (by omega)
          have hn73 : vp_in v72 30 := f_in (a := v72.toInt) rfl (by omega) (by omega)
          refine va_ti hx hb cx.2.2.2.t3.2 hS hn73 rfl dX4_leaving_94 (lv_topi (fun v74 e74 => ?_))
          have t74 : 0 ≤ v74.toInt ∧ v74.toInt ≤ 625 := by rw [e74]; exact zPOW_b _
          refine lv_imul hx hb dX4_leaving_95 (lv_topi (fun v75 e75 => ?_))
          have t75b : 0 ≤ v68.toInt * v74.toInt ∧ v68.toInt * v74.toInt ≤ 2343750 := ⟨Int.mul_nonneg (by omega) (by omega), Int.le_trans (Int.mul_le_mul (c := 3750) (d := 625) (by omega) (by omega) (by omega) (by omega)) (by decide)⟩
          have t75c : v75.toInt = v68.toInt * v74.toInt := by rw [e75]; exact i_mul rfl rfl (by omega) (by omega)
          have t75 : 0 ≤ v75.toInt ∧ v75.toInt ≤ 2343750 := by rw [t75c]; exact t75b
          refine lv_imul hx hb dX4_leaving_96 (lv_topi (fun v76 e76 => ?_))
          refine lv_istore_n (lv' := [(3, .int v76), (7, .int r55), (6, .int r52), (5, .int r49), (4, .int v44), (0, .ref (qh 0)), (1, .int p0), (2, .int p1)]) hx hb dX4_leaving_97 rfl hl (by decide) rfl (fun ls hl => ?_)
          obtain ⟨v77, e77⟩ : ∃ z : Int32, z = v44 + 1 := ⟨_, rfl⟩
          refine lv_iinc (v := v77) (lv' := [(4, .int v77), (3, .int v76), (7, .int r55), (6, .int r52), (5, .int r49), (0, .ref (qh 0)), (1, .int p0), (2, .int p1)]) hx hb dX4_leaving_98 hl (k := 4) rfl (by rw [e77]; rfl) (by decide) rfl (fun ls hl => ?_)
          have t77 : v77.toInt = v44.toInt + 1 := by rw [e77]; exact i_add rfl (by decide) (by omega) (by omega)
          refine lv_goto (tgt := 25) hx hb dX4_leaving_101 (by decide) ?_
          exact ih25 v77 v76 _ _ _ (by omega) (by first | decide | omega) (LT_g hzrr25_1 (show (B_X4_leaving_25 sh p0 p1) (v44, v45) = Sum.inl (v77, v76) from by subst w3 w7 e8 e10 w50 w53 k59 e60 e61 e63 e64 e65 e67 e68 e69 e70 e71 e72 e74 e75 e76 e77; refine Eq.trans (if_neg c47) ?_; rfl)) hP hD hS (lv_sub hl [0, 1, 5, 6, 7] rfl)
    have hlit78 : (0 : Int32).toInt = 0 := by decide
    exact hL25 (4) 0 v10 _ _ _ (by omega) (by first | decide | omega) err25_1 hP hD hS (lv_sub hl [0, 1, 2, 3, 4] rfl)
  · have f4 : r2.toInt = 0 := f_eq rfl (by decide) c4
    refine lv_iconst (v := 0) hx hb dX4_leaving_8 (by decide) ?_
    have hlit79 : (0 : Int32).toInt = 0 := by decide
    rw [hQ]
    exact x_i cx hr () hP hD hS ⟨(show (0 : Int32).toInt = 0 ∨ (hasI p0 p1) from by first | exact Or.inl (by first | decide | omega) | exact Or.inr (by assumption)), (show (0 : Int32) = J_X4_leaving sh p0 p1 from by subst w3; first | (refine Eq.symm ?_; refine Eq.trans (if_pos c4) ?_; rfl) | (unfold J_X4_leaving; try dsimp only; rw [if_pos c4]))⟩ dX4_leaving_9
theorem fw_X4_settle_26 : Cond.fieldLink RX4 26 "StillInAugust$House" "sundays" "[I" ∈ wsX4_settle := by decide +kernel
theorem fw_X4_settle_79 : Cond.fieldLink RX4 79 "StillInAugust$Hands" "ALL" "[I" ∈ wsX4_settle := by decide +kernel
theorem nd_X3_behindSunday : yX3_behindSunday.cls ≠ "java/lang/invoke/MethodHandle" ∧ yX3_behindSunday.cls ≠ "java/lang/invoke/VarHandle" ∧ (parseMethodDescriptor yX3_behindSunday.desc).map (fun d => d.parameters.length) = some 2 := by decide +kernel
theorem nd_X3_kind : yX3_kind.cls ≠ "java/lang/invoke/MethodHandle" ∧ yX3_kind.cls ≠ "java/lang/invoke/VarHandle" ∧ (parseMethodDescriptor yX3_kind.desc).map (fun d => d.parameters.length) = some 1 := by decide +kernel
theorem nd_X4_leaving : yX4_leaving.cls = RX4 ∧ yX4_leaving.cls ≠ "java/lang/invoke/MethodHandle" ∧ yX4_leaving.cls ≠ "java/lang/invoke/VarHandle" ∧ (parseMethodDescriptor yX4_leaving.desc).map (fun d => d.parameters.length) = some 2 := by decide +kernel
theorem iw_X4_settle_X4 : ∀ w ∈ u_ws RX4 TX4 14, w ∈ wsX4_settle := fun _ h => List.mem_cons_of_mem _ (List.mem_append_right _ h)
def B_X4_settle_33_2 (sh : Nat → Nat → Int32) (v35 : Int32) (g36 : Nat → Int32) (y7 : (Nat → Int32)) (z : Int32 × (Nat → Int32)) : Sum (Int32 × (Nat → Int32)) (Sum (Int32 × (Nat → Int32)) ((Nat → Int32))) := let v65 := (z.1); let g66 := (z.2); if 35 ≤ v65 then Sum.inr (Sum.inl (((v35 + 1), g66))) else if (J_X3_has (zALL.getD (v35).toNatClampNeg 0) (zALL.getD (v65).toNatClampNeg 0)) = 0 then Sum.inl (((v65 + 1), g66)) else LetF (J_X4_leaving (up2 sh 5 g66) (zALL.getD (v35).toNatClampNeg 0) (zALL.getD (v65).toNatClampNeg 0)) (fun y91 => Sum.inl (((v65 + 1), (upd g66 (((v35 * (15 : Int32)) + (J_X3_kind ((J_X3_behindSunday (zALL.getD (v35).toNatClampNeg 0) (zALL.getD (v65).toNatClampNeg 0)))))).toNatClampNeg (((g66 (((v35 * (15 : Int32)) + (J_X3_kind ((J_X3_behindSunday (zALL.getD (v35).toNatClampNeg 0) (zALL.getD (v65).toNatClampNeg 0)))))).toNatClampNeg) + y91))))))
def B_X4_settle_10 (sh : Nat → Nat → Int32) (y7 : (Nat → Int32)) (z : Int32 × (Nat → Int32)) : Sum (Int32 × (Nat → Int32)) ((Nat → Int32)) := let v35 := (z.1); let g36 := (z.2); if 35 ≤ v35 then Sum.inr (g36) else LTs (Sum.inl default) (B_X4_settle_33_2 sh v35 g36 y7) 36 ((0 : Int32), g36)
def J_X4_settle (sh : Nat → Nat → Int32) : (Nat → Int32) := LetF (J_J7_fill_53178_525 (fun _ => (sh 5)) 0) (fun y7 => LTs default (B_X4_settle_10 sh y7) 36 ((0 : Int32), y7))
theorem exl_X4_settle_0 {sh : Nat → Nat → Int32} {m4 : Nat → Int32} (w6 : m4 = J_J7_fill_53178_525 (fun _ => (sh 5)) (0 : Int32)) : J_X4_settle sh = LTs (default : (Nat → Int32)) (B_X4_settle_10 sh m4) 36 ((0 : Int32), m4) := by unfold J_X4_settle; refine lt_e w6 ?_; rfl
theorem exl_X4_settle_1 {sh : Nat → Nat → Int32} {m4 : Nat → Int32} {v35 : Int32} {g36 : Nat → Int32} (c38 : (35 : Int32) ≤ v35) : (B_X4_settle_10 sh m4) (v35, g36) = Sum.inr (g36) := by unfold B_X4_settle_10; refine Eq.trans (if_pos c38) ?_; rfl
theorem exl_X4_settle_2 {sh : Nat → Nat → Int32} {m4 : Nat → Int32} {v35 : Int32} {g36 : Nat → Int32} (c38 : ¬ ((35 : Int32) ≤ v35)) : (B_X4_settle_10 sh m4) (v35, g36) = LTs (Sum.inl default : Sum (Int32 × (Nat → Int32)) ((Nat → Int32))) (B_X4_settle_33_2 sh v35 g36 m4) 36 ((0 : Int32), g36) := by unfold B_X4_settle_10; refine Eq.trans (if_neg c38) ?_; rfl
theorem exl_X4_settle_3 {sh : Nat → Nat → Int32} {v35 : Int32} {g36 : Nat → Int32} {m4 : Nat → Int32} {v65 : Int32} {g66 : Nat → Int32} {v69 : Int32} (e69 : v69 = v35 + 1) (c68 : (35 : Int32) ≤ v65) : (B_X4_settle_33_2 sh v35 g36 m4) (v65, g66) = Sum.inr (Sum.inl (v69, g66)) := by subst e69; unfold B_X4_settle_33_2; refine Eq.trans (if_pos c68) ?_; rfl
theorem exl_X4_settle_4 {sh : Nat → Nat → Int32} {v35 : Int32} {g36 : Nat → Int32} {m4 : Nat → Int32} {v65 : Int32} {g66 : Nat → Int32} {v76 : Int32} {v40 : Int32} {v71 : Int32} {r73 : Int32} (e40 : v40 = (zALL.getD (v35).toNatClampNeg 0)) (e71 : v71 = (zALL.getD (v65).toNatClampNeg 0)) (w74 : r73 = J_X3_has v40 v71) (e76 : v76 = v65 + 1) (c68 : ¬ ((35 : Int32) ≤ v65)) (c75 : r73 = (0 : Int32)) : (B_X4_settle_33_2 sh v35 g36 m4) (v65, g66) = Sum.inl (v76, g66) := by subst e40 e71 w74 e76; unfold B_X4_settle_33_2; refine Eq.trans (if_neg c68) ?_; refine Eq.trans (if_pos c75) ?_; rfl
theorem exl_X4_settle_5 {sh : Nat → Nat → Int32} {v35 : Int32} {g36 : Nat → Int32} {m4 : Nat → Int32} {v65 : Int32} {g66 : Nat → Int32} {v95 : Int32} {g94 : Nat → Int32} {v40 : Int32} {v71 : Int32} {r73 : Int32} {r78 : Int32} {r81 : Int32} {v83 : Int32} {v84 : Int32} {v86 : Int32} {v92 : Int32} {r88 : Int32} (e40 : v40 = (zALL.getD (v35).toNatClampNeg 0)) (e71 : v71 = (zALL.getD (v65).toNatClampNeg 0)) (w74 : r73 = J_X3_has v40 v71) (w79 : r78 = J_X3_behindSunday v40 v71) (w82 : r81 = J_X3_kind r78) (e83 : v83 = (v35 * (15 : Int32))) (e84 : v84 = (v83 + r81)) (e86 : v86 = (g66 (v84).toNatClampNeg)) (e92 : v92 = (v86 + r88)) (eg94 : g94 = upd g66 (v84).toNatClampNeg v92) (e95 : v95 = v65 + 1) (c68 : ¬ ((35 : Int32) ≤ v65)) (c75 : ¬ (r73 = (0 : Int32))) (w90 : r88 = J_X4_leaving (up2 sh 5 g66) v40 v71) : (B_X4_settle_33_2 sh v35 g36 m4) (v65, g66) = Sum.inl (v95, g94) := by subst e40 e71 w74 w79 w82 e83 e84 e86 e92 eg94 e95; unfold B_X4_settle_33_2; refine Eq.trans (if_neg c68) ?_; refine Eq.trans (if_neg c75) ?_; refine lt_e w90 ?_; rfl
set_option maxHeartbeats 4000000 in
set_option maxRecDepth 100000 in
theorem c_X4_settle (l : Launch) (D : va_G) (k : Nat → ClassId) (b : Nat → Nat) (qh : Nat → Nat) (sh : Nat → Nat → Int32) (sz : Nat) (h_fl : 0 ≤ (sh 0 12).toInt ∧ (sh 0 12).toInt ≤ 5) (h_go : ∀ j, 0 ≤ (sh 3 j).toInt ∧ (sh 3 j).toInt ≤ 5) : MetV l D k b yX4_settle wsX4_settle ({ frames := 3, cells := 0, slots := 0, locals := 69 } : Room) [cell32_ qh sh, cell0_ k qh sh, cell1_ k qh sh, cell4_ k qh sh, cell3_ k qh sh, cell2_ k qh sh] sz [.ref (qh 0)] (fun (u : (Nat → Int32)) => (SUok u) ∧ (u = J_X4_settle sh)) (fun u => [cell32_ qh sh, cell0_ k qh sh, cell1_ k qh sh, cell4_ k qh sh, cell3_ k qh sh, (qh 5, .inl (k 0, 525, .inl u))]) := by
  refine g_enter (cc := cX4_settle) (maxL := 8) (ret := none) (by decide) rfl (Nat.le_of_ble_eq_true rfl) ?_
  intro p e s m below meth c A hsz hAe cx hr hP hD hS ls hl
  rw [hAe]
  refine g_q (fun Q hQ => ?_)
  have hx := cx.1.1
  have hb := cx.1.2.1
  have hl : lv_has ls 8 [(0, .ref (qh 0))] := hl
  obtain ⟨H, eH⟩ : ∃ H : Heap, H = s.heap := ⟨_, rfl⟩
  obtain ⟨locs, el⟩ : ∃ L : List Loc, L = [] := ⟨_, rfl⟩
  have hP : va_P D vwCl [cell32_ qh sh, cell0_ k qh sh, cell1_ k qh sh, cell4_ k qh sh, cell3_ k qh sh, cell2_ k qh sh] H := by rw [eH]; exact hP
  have hD : va_D A [cell32_ qh sh, cell0_ k qh sh, cell1_ k qh sh, cell4_ k qh sh, cell3_ k qh sh, cell2_ k qh sh] := hD
  have hS : va_S A s.heap H locs := by rw [eH, el]; exact hS
  suffices goal : W p l e ({ frames := 3, cells := 0, slots := 0, locals := 69 } : Room) s m ([.ref (qh 0)] : List Value).toArray below meth c H locs 0 0 Q (F0 m 0 ls []) by rw [eH, el] at goal; exact goal
  refine lv_aload_n hx hb dX4_settle_0 rfl (lv_at hl 0 rfl) ?_
  refine g_get cx hP iw_X4_settle_X4 0 rfl rfl 13 (by decide) rfl fw_X4_settle_26 rfl dX4_settle_1 ?_
  refine lv_iconst (v := 0) hx hb dX4_settle_4 (by decide) ?_
  have hlit1 : (0 : Int32).toInt = 0 := by decide
  refine g_v (w1 := fun (u : (Nat → Int32)) => [(qh 5, .inl (k 0, 525, .inl u))]) (g_runS (wc := [cell2_ k qh sh]) (rest := []) cx hP hD hS [5] rfl (by decide) [.ref (qh 5), .int 0] (c_J7_fill_53178_525 l D k b (fun _ => qh 5) (fun _ => (sh 5)) H.size 0) gX4_settle_J7_fill_53178 rfl rfl rfl nd_J7_fill_53178 ⟨Nat.le_of_ble_eq_true rfl, Nat.le_of_ble_eq_true rfl⟩ rfl hl.1 rfl (Nat.le_of_ble_eq_true rfl) ⟨Nat.zero_le _, Nat.zero_le _⟩ dX4_settle_5) cx.2.2.1 hP hD hS [5] rfl (fun _ => rfl) (fun u3 H locs hw2 hP hD hS => ?_)
  obtain ⟨m4, rfl⟩ : ∃ z, z = u3 := ⟨_, rfl⟩
  have hP : va_P D vwCl [cell32_ qh sh, cell0_ k qh sh, cell1_ k qh sh, cell4_ k qh sh, cell3_ k qh sh, (qh 5, .inl (k 0, 525, .inl m4))] H := hP
  have hD : va_D A [cell32_ qh sh, cell0_ k qh sh, cell1_ k qh sh, cell4_ k qh sh, cell3_ k qh sh, (qh 5, .inl (k 0, 525, .inl m4))] := hD
  replace hw2 : (m4 = fillI 525 (0 : Int32) (sh 5)) ∧ (m4 = J_J7_fill_53178_525 (fun _ => (sh 5)) (0 : Int32)) := hw2
  obtain ⟨w5, w6⟩ := hw2
  have su := SU_fill w5
  refine lv_iconst (v := 0) hx hb dX4_settle_8 (by decide) ?_
  refine lv_istore_n (lv' := [(1, .int 0), (0, .ref (qh 0))]) hx hb dX4_settle_9 rfl hl (by decide) rfl (fun ls hl => ?_)
  obtain ⟨rr10_1, err10_1⟩ : ∃ r : (Nat → Int32), LTs (default : (Nat → Int32)) (B_X4_settle_10 sh m4) 36 ((0 : Int32), m4) = r := ⟨_, rfl⟩
  have hrr10_1 : J_X4_settle sh = rr10_1 := ((exl_X4_settle_0 w6)).trans err10_1
  have hL10 : ∀ (n37 : Nat) (v35 : Int32) (g36 : Nat → Int32) (H : Heap) (locs : List Loc) (ls : Array Slot), 35 - v35.toInt < (n37 : Int) → (0 ≤ v35.toInt ∧ v35.toInt ≤ 35) → (SUok g36) → (LTs (default : (Nat → Int32)) (B_X4_settle_10 sh m4) n37 (v35, g36) = rr10_1) → va_P D vwCl [cell32_ qh sh, cell0_ k qh sh, cell1_ k qh sh, cell4_ k qh sh, cell3_ k qh sh, (qh 5, .inl (k 0, 525, .inl g36))] H → va_D A [cell32_ qh sh, cell0_ k qh sh, cell1_ k qh sh, cell4_ k qh sh, cell3_ k qh sh, (qh 5, .inl (k 0, 525, .inl g36))] → va_S A s.heap H locs → lv_has ls 8 [(1, .int v35), (0, .ref (qh 0))] → W p l e ({ frames := 3, cells := 0, slots := 0, locals := 69 } : Room) s m ([.ref (qh 0)] : List Value).toArray below meth c H locs 0 0 Q (F0 m 10 ls []) := by
    intro n37
    induction n37 with
    | zero => intro v35 g36 H locs ls hmn37 bv35 su hzrr10_1 hP hD hS hl; exact absurd hmn37 (by omega)
    | succ n37 ih10 =>
      intro v35 g36 H locs ls hmn37 bv35 su hzrr10_1 hP hD hS hl
      refine lv_iload_n hx hb dX4_settle_10 rfl (lv_at hl 0 rfl) ?_
      refine lv_bipush (v := 35) hx hb dX4_settle_11 (by decide) ?_
      refine lv_icmp_ge (tgt := 100) hx hb dX4_settle_13 (by decide) (fun c38 => ?_) (fun c38 => ?_)
      · have f38 : 35 ≤ v35.toInt := f_le (by decide) rfl c38
        rw [hQ]
        exact x_v cx hr g36 hP hD hS ⟨(show SUok g36 from su), (show g36 = J_X4_settle sh from ((hrr10_1.trans (LT_r hzrr10_1 (exl_X4_settle_1 c38)))).symm)⟩ dX4_settle_100
      · have f38 : v35.toInt < 35 := f_nle (by decide) rfl c38
        refine va_gets hx hb cx.2.2.2.t0.1 hS cx.1.2.2.2.1 (cx.1.2.2.2.2 _ fw_X4_settle_79) (fun _ h => h) dX4_settle_16 ?_
        refine lv_iload_n hx hb dX4_settle_19 rfl (lv_at hl 0 rfl) ?_
        have hn39 : vp_in v35 35 := f_in (a := v35.toInt) rfl (by omega) (by omega)
        refine va_ti hx hb cx.2.2.2.t0.2 hS hn39 rfl dX4_settle_20 (lv_topi (fun v40 e40 => ?_))
        have t40 : 0 ≤ v40.toInt ∧ v40.toInt ≤ 400 ∧ tot v40 ≤ 4 := by rw [e40]; exact zALL_v _
        have tk : totN v35.toNatClampNeg = tot v40 := totN_of e40
        refine lv_istore_n (lv' := [(2, .int v40), (1, .int v35), (0, .ref (qh 0))]) hx hb dX4_settle_21 rfl hl (by decide) rfl (fun ls hl => ?_)
        refine va_gets hx hb cx.2.2.2.t0.1 hS cx.1.2.2.2.1 (cx.1.2.2.2.2 _ fw_X4_settle_79) (fun _ h => h) dX4_settle_22 ?_
        refine lv_astore_n (lv' := [(3, .ref (b 0)), (2, .int v40), (1, .int v35), (0, .ref (qh 0))]) hx hb dX4_settle_25 rfl hl (by decide) rfl (fun ls hl => ?_)
        refine lv_aload_n hx hb dX4_settle_26 rfl (lv_at hl 0 rfl) ?_
        refine va_tlen hx hb cx.2.2.2.t0.2 hS (v := 35) (by decide) dX4_settle_27 ?_
        refine lv_istore (lv' := [(4, .int 35), (3, .ref (b 0)), (2, .int v40), (1, .int v35), (0, .ref (qh 0))]) hx hb dX4_settle_28 hl (by decide) rfl (fun ls hl => ?_)
        refine lv_iconst (v := 0) hx hb dX4_settle_30 (by decide) ?_
        refine lv_istore (lv' := [(5, .int 0), (4, .int 35), (3, .ref (b 0)), (2, .int v40), (1, .int v35), (0, .ref (qh 0))]) hx hb dX4_settle_31 hl (by decide) rfl (fun ls hl => ?_)
        obtain ⟨rr33_2, err33_2⟩ : ∃ r : Sum (Int32 × (Nat → Int32)) ((Nat → Int32)), LTs (Sum.inl default : Sum (Int32 × (Nat → Int32)) ((Nat → Int32))) (B_X4_settle_33_2 sh v35 g36 m4) 36 ((0 : Int32), g36) = r := ⟨_, rfl⟩
        have hrr33_2 : (B_X4_settle_10 sh m4) (v35, g36) = rr33_2 := ((exl_X4_settle_2 c38)).trans err33_2
        have hL33 : ∀ (n67 : Nat) (v65 : Int32) (g66 : Nat → Int32) (H : Heap) (locs : List Loc) (ls : Array Slot), 35 - v65.toInt < (n67 : Int) → (0 ≤ v65.toInt ∧ v65.toInt ≤ 35) → (SUok g66) → (LTs (Sum.inl default : Sum (Int32 × (Nat → Int32)) ((Nat → Int32))) (B_X4_settle_33_2 sh v35 g36 m4) n67 (v65, g66) = rr33_2) → va_P D vwCl [cell32_ qh sh, cell0_ k qh sh, cell1_ k qh sh, cell4_ k qh sh, cell3_ k qh sh, (qh 5, .inl (k 0, 525, .inl g66))] H → va_D A [cell32_ qh sh, cell0_ k qh sh, cell1_ k qh sh, cell4_ k qh sh, cell3_ k qh sh, (qh 5, .inl (k 0, 525, .inl g66))] → va_S A s.heap H locs → lv_has ls 8 [(5, .int v65), (4, .int 35), (3, .ref (b 0)), (2, .int v40), (1, .int v35), (0, .ref (qh 0))] → W p l e ({ frames := 3, cells := 0, slots := 0, locals := 69 } : Room) s m ([.ref (qh 0)] : List Value).toArray below meth c H locs 0 0 Q (F0 m 33 ls []) := by
          intro n67
          induction n67 with
          | zero => intro v65 g66 H locs ls hmn67 bv65 su hzrr33_2 hP hD hS hl; exact absurd hmn67 (by omega)
          | succ n67 ih33 =>
            intro v65 g66 H locs ls hmn67 bv65 su hzrr33_2 hP hD hS hl
            refine lv_iload hx hb dX4_settle_33 (lv_at hl 0 rfl) ?_
            refine lv_iload hx hb dX4_settle_35 (lv_at hl 1 rfl) ?_
            refine lv_icmp_ge (tgt := 94) hx hb dX4_settle_37 (by decide) (fun c68 => ?_) (fun c68 => ?_)
            · have f68 : 35 ≤ v65.toInt := f_le (by decide) rfl c68
              obtain ⟨v69, e69⟩ : ∃ z : Int32, z = v35 + 1 := ⟨_, rfl⟩
              refine lv_iinc (v := v69) (lv' := [(1, .int v69), (5, .int v65), (4, .int 35), (3, .ref (b 0)), (2, .int v40), (0, .ref (qh 0))]) hx hb dX4_settle_94 hl (k := 4) rfl (by rw [e69]; rfl) (by decide) rfl (fun ls hl => ?_)
              have t69 : v69.toInt = v35.toInt + 1 := by rw [e69]; exact i_add rfl (by decide) (by omega) (by omega)
              refine lv_goto (tgt := 10) hx hb dX4_settle_97 (by decide) ?_
              exact ih10 v69 g66 _ _ _ (by omega) (by first | decide | omega) (by assumption) (LT_g hzrr10_1 (hrr33_2.trans (LT_r hzrr33_2 (exl_X4_settle_3 e69 c68)))) hP hD hS (lv_sub hl [0, 5] rfl)
            · have f68 : v65.toInt < 35 := f_nle (by decide) rfl c68
              refine lv_aload_n hx hb dX4_settle_40 rfl (lv_at hl 2 rfl) ?_
              refine lv_iload hx hb dX4_settle_41 (lv_at hl 0 rfl) ?_
              have hn70 : vp_in v65 35 := f_in (a := v65.toInt) rfl (by omega) (by omega)
              refine va_ti hx hb cx.2.2.2.t0.2 hS hn70 rfl dX4_settle_43 (lv_topi (fun v71 e71 => ?_))
              have t71 : 0 ≤ v71.toInt ∧ v71.toInt ≤ 400 ∧ v71.toInt / 100 + v71.toInt / 10 % 10 + v71.toInt % 10 ≤ 4 := by rw [e71]; exact zALL_v _
              refine lv_istore (lv' := [(6, .int v71), (5, .int v65), (4, .int 35), (3, .ref (b 0)), (2, .int v40), (1, .int v35), (0, .ref (qh 0))]) hx hb dX4_settle_44 hl (by decide) rfl (fun ls hl => ?_)
              refine lv_iload_n hx hb dX4_settle_46 rfl (lv_at hl 4 rfl) ?_
              refine lv_iload hx hb dX4_settle_47 (lv_at hl 0 rfl) ?_
              refine g_ir (g_runS (wc := []) (rest := []) cx hP hD hS [] rfl (by decide) [.int v40, .int v71] (c_X3_has l D k b H.size v40 v71) gX4_settle_X3_has rfl rfl rfl nd_X3_has ⟨Nat.le_of_ble_eq_true rfl, Nat.le_of_ble_eq_true rfl⟩ rfl hl.1 rfl (Nat.le_of_ble_eq_true rfl) ⟨Nat.zero_le _, Nat.zero_le _⟩ dX4_settle_49) cx.2.2.1 hP hD hS [] rfl rfl (fun r73 H locs hw72 hP hS => ?_)
              have w74 : r73 = J_X3_has v40 v71 := hw72
              clear hw72
              have zr73 := has_b w74
              refine lv_if_eq (tgt := 88) hx hb dX4_settle_52 (by decide) (fun c75 => ?_) (fun c75 => ?_)
              · have f75 : r73.toInt = 0 := f_eq rfl (by decide) c75
                obtain ⟨v76, e76⟩ : ∃ z : Int32, z = v65 + 1 := ⟨_, rfl⟩
                refine lv_iinc (v := v76) (lv' := [(5, .int v76), (6, .int v71), (4, .int 35), (3, .ref (b 0)), (2, .int v40), (1, .int v35), (0, .ref (qh 0))]) hx hb dX4_settle_88 hl (k := 1) rfl (by rw [e76]; rfl) (by decide) rfl (fun ls hl => ?_)
                have t76 : v76.toInt = v65.toInt + 1 := by rw [e76]; exact i_add rfl (by decide) (by omega) (by omega)
                refine lv_goto (tgt := 33) hx hb dX4_settle_91 (by decide) ?_
                exact ih33 v76 g66 _ _ _ (by omega) (by first | decide | omega) (by assumption) (LT_g hzrr33_2 (exl_X4_settle_4 e40 e71 w74 e76 c68 c75)) hP hD hS (lv_sub hl [0, 2, 3, 4, 5, 6] rfl)
              · have f75 : ¬ r73.toInt = 0 := f_ne rfl (by decide) c75
                have k75 : hasI v40 v71 := has_t w74 c75 (by omega) (by omega)
                refine lv_iload_n hx hb dX4_settle_55 rfl (lv_at hl 4 rfl) ?_
                refine lv_iload hx hb dX4_settle_56 (lv_at hl 0 rfl) ?_
                refine g_ir (g_runS (wc := []) (rest := []) cx hP hD hS [] rfl (by decide) [.int v40, .int v71] (c_X3_behindSunday l D k b H.size v40 v71) gX4_settle_X3_behindSunday rfl rfl rfl nd_X3_behindSunday ⟨Nat.le_of_ble_eq_true rfl, Nat.le_of_ble_eq_true rfl⟩ rfl hl.1 rfl (Nat.le_of_ble_eq_true rfl) ⟨Nat.zero_le _, Nat.zero_le _⟩ dX4_settle_58) cx.2.2.1 hP hD hS [] rfl rfl (fun r78 H locs hw77 hP hS => ?_)
                have w79 : r78 = J_X3_behindSunday v40 v71 := hw77
                clear hw77
                have bs := bs_t w79 ⟨by omega, by omega, by omega⟩ (by omega) (by assumption)
                refine g_ir (g_runS (wc := []) (rest := []) cx hP hD hS [] rfl (by decide) [.int r78] (c_X3_kind l D k b H.size r78 ⟨by first | decide | omega, by first | decide | omega, (show tot r78 ≤ 4 from by first | decide | omega)⟩) gX4_settle_X3_kind rfl rfl rfl nd_X3_kind ⟨Nat.le_of_ble_eq_true rfl, Nat.le_of_ble_eq_true rfl⟩ rfl hl.1 rfl (Nat.le_of_ble_eq_true rfl) ⟨Nat.zero_le _, Nat.zero_le _⟩ dX4_settle_61) cx.2.2.1 hP hD hS [] rfl rfl (fun r81 H locs hw80 hP hS => ?_)
                have w82 : r81 = J_X3_kind r78 := hw80
                clear hw80
                have zr81 := kind_t w82 ⟨by first | decide | omega, by first | decide | omega, (show tot r78 ≤ 4 from by first | decide | omega)⟩
                have bk : totN r81.toNatClampNeg = tot r78 := kind_all w82 ⟨by first | decide | omega, by first | decide | omega, (show tot r78 ≤ 4 from by first | decide | omega)⟩
                have bl : r81.toInt ≤ 14 := by omega
                refine lv_istore (lv' := [(7, .int r81), (6, .int v71), (5, .int v65), (4, .int 35), (3, .ref (b 0)), (2, .int v40), (1, .int v35), (0, .ref (qh 0))]) hx hb dX4_settle_64 hl (by decide) rfl (fun ls hl => ?_)
                refine lv_aload_n hx hb dX4_settle_66 rfl (lv_at hl 7 rfl) ?_
                refine g_get cx hP iw_X4_settle_X4 0 rfl rfl 13 (by decide) rfl fw_X4_settle_26 rfl dX4_settle_67 ?_
                refine lv_iload_n hx hb dX4_settle_70 rfl (lv_at hl 6 rfl) ?_
                refine lv_bipush (v := 15) hx hb dX4_settle_71 (by decide) ?_
                refine lv_imul hx hb dX4_settle_73 (lv_topi (fun v83 e83 => ?_))
                have t83 : v83.toInt = v35.toInt * 15 := by rw [e83]; exact i_mul rfl (by decide) (by omega) (by omega)
                refine lv_iload hx hb dX4_settle_74 (lv_at hl 0 rfl) ?_
                refine lv_iadd hx hb dX4_settle_76 (lv_topi (fun v84 e84 => ?_))
                have t84 : v84.toInt = v83.toInt + r81.toInt := by rw [e84]; exact i_add rfl rfl (by omega) (by omega)
                refine lv_dup2_11 hx hb dX4_settle_77 rfl rfl ?_
                have hn85 : vp_in v84 525 := f_in (a := v84.toInt) rfl (by omega) (by omega)
                refine va_iald hx hb cx.2.1 hP 5 0 rfl rfl hn85 dX4_settle_78 (lv_topi (fun v86 e86 => ?_))
                refine lv_aload_n hx hb dX4_settle_79 rfl (lv_at hl 7 rfl) ?_
                refine lv_iload_n hx hb dX4_settle_80 rfl (lv_at hl 5 rfl) ?_
                refine lv_iload hx hb dX4_settle_81 (lv_at hl 1 rfl) ?_
                refine g_iF (w1 := fun (_ : Unit) => [cell32_ qh sh, cell0_ k qh sh, cell1_ k qh sh, cell4_ k qh sh, cell3_ k qh sh, (qh 5, .inl (k 0, 525, .inl g66))]) (g_runVF (ws := [cell32_ qh sh, cell0_ k qh sh, cell1_ k qh sh, cell4_ k qh sh, cell3_ k qh sh, (qh 5, .inl (k 0, 525, .inl g66))]) (rest := [.int v86, .int v84, .ref (qh 5)]) cx hP hD hS [.int v40, .int v71] (c_X4_leaving l D k b qh (up2 sh 5 g66) H.size v40 v71 (show 0 ≤ (sh 0 12).toInt ∧ (sh 0 12).toInt ≤ 5 from by first | decide | omega) h_go (show 0 ≤ v40.toInt ∧ v40.toInt ≤ 400 ∧ tot v40 ≤ 4 from by first | decide | omega) (show 0 ≤ v71.toInt ∧ v71.toInt ≤ 444 from by first | decide | omega)) gX4_settle_X4_leaving rfl rfl rfl nd_X4_leaving ⟨Nat.le_of_ble_eq_true rfl, Nat.le_of_ble_eq_true rfl⟩ (ci := 2) (q0 := 0) rfl rfl rfl hl.1 rfl (Nat.le_of_ble_eq_true rfl) ⟨Nat.zero_le _, Nat.zero_le _⟩ dX4_settle_83) cx.2.2.1 hD hS (fun r88 _ H locs hw87 hP hD hS => ?_)
                replace hw87 : (r88.toInt = 0 ∨ (hasI v40 v71)) ∧ (r88 = J_X4_leaving (up2 sh 5 g66) v40 v71) := hw87
                obtain ⟨w89, w90⟩ := hw87
                refine lv_iadd hx hb dX4_settle_86 (lv_topi (fun v92 e92 => ?_))
                have hn93 : vp_in v84 525 := f_in (a := v84.toInt) rfl (by omega) (by omega)
                refine va_iast hx hb cx.2.1 hP hD hS 5 0 rfl rfl hn93 dX4_settle_87 (fun H locs hP hD hS => ?_)
                obtain ⟨g94, eg94⟩ : ∃ g : Nat → Int32, g = upd g66 (v84).toNatClampNeg v92 := ⟨_, rfl⟩
                rw [← eg94] at hP hD
                have hP : va_P D vwCl [cell32_ qh sh, cell0_ k qh sh, cell1_ k qh sh, cell4_ k qh sh, cell3_ k qh sh, (qh 5, .inl (k 0, 525, .inl g94))] H := hP
                have hD : va_D A [cell32_ qh sh, cell0_ k qh sh, cell1_ k qh sh, cell4_ k qh sh, cell3_ k qh sh, (qh 5, .inl (k 0, 525, .inl g94))] := hD
                have sug94 := SU_st (k := v35) (b := r81) eg94 su (by omega) ⟨by omega, by omega⟩ ⟨by omega, by omega⟩ (by omega)
                obtain ⟨v95, e95⟩ : ∃ z : Int32, z = v65 + 1 := ⟨_, rfl⟩
                refine lv_iinc (v := v95) (lv' := [(5, .int v95), (7, .int r81), (6, .int v71), (4, .int 35), (3, .ref (b 0)), (2, .int v40), (1, .int v35), (0, .ref (qh 0))]) hx hb dX4_settle_88 hl (k := 2) rfl (by rw [e95]; rfl) (by decide) rfl (fun ls hl => ?_)
                have t95 : v95.toInt = v65.toInt + 1 := by rw [e95]; exact i_add rfl (by decide) (by omega) (by omega)
                refine lv_goto (tgt := 33) hx hb dX4_settle_91 (by decide) ?_
                exact ih33 v95 g94 _ _ _ (by omega) (by first | decide | omega) (by assumption) (LT_g hzrr33_2 (exl_X4_settle_5 e40 e71 w74 w79 w82 e83 e84 e86 e92 eg94 e95 c68 c75 w90)) hP hD hS (lv_sub hl [0, 3, 4, 5, 6, 7] rfl)
        have hlit96 : (0 : Int32).toInt = 0 := by decide
        exact hL33 (36) 0 g36 _ _ _ (by omega) (by first | decide | omega) su err33_2 hP hD hS (lv_sub hl [0, 1, 2, 3, 4, 5] rfl)
  have hlit97 : (0 : Int32).toInt = 0 := by decide
  exact hL10 (36) 0 m4 _ _ _ (by omega) (by first | decide | omega) su err10_1 hP hD hS (lv_sub hl [0, 1] rfl)
