theorem fw_X9_begin_13 : Cond.fieldLink RX9 13 "StillInAugust$Summer" "hands" "I" ∈ wsX9_begin := by decide +kernel
theorem fw_X9_begin_16 : Cond.fieldLink RX9 16 "StillInAugust$Summer" "coming" "I" ∈ wsX9_begin := by decide +kernel
theorem fw_X9_begin_19 : Cond.fieldLink RX9 19 "StillInAugust$Summer" "ordered" "I" ∈ wsX9_begin := by decide +kernel
theorem fw_X9_begin_22 : Cond.fieldLink RX9 22 "StillInAugust$Summer" "worked" "Z" ∈ wsX9_begin := by decide +kernel
theorem fw_X9_begin_26 : Cond.fieldLink RX9 26 "StillInAugust$Summer" "costs" "I" ∈ wsX9_begin := by decide +kernel
theorem fw_X9_begin_7 : Cond.fieldLink RX9 7 "StillInAugust$Summer" "week" "I" ∈ wsX9_begin := by decide +kernel
theorem iw_X9_begin_X9 : ∀ w ∈ u_ws RX9 TX9 6, w ∈ wsX9_begin := fun _ h => List.mem_cons_of_mem _ (List.mem_append_right _ h)
def J_X9_begin (sp : Nat → Nat → Int32) : Int32 × Int32 × Int32 × Int32 × Int32 × Int32 := ((0 : Int32), (0 : Int32), (0 : Int32), (0 : Int32), (0 : Int32), (0 : Int32))
set_option maxHeartbeats 4000000 in
set_option maxRecDepth 100000 in
theorem c_X9_begin (l : Launch) (D : va_G) (k : Nat → ClassId) (b : Nat → Nat) (qp : Nat → Nat) (sp : Nat → Nat → Int32) (sz : Nat) : MetV l D k b yX9_begin wsX9_begin ({ frames := 0, cells := 0, slots := 0, locals := 0 } : Room) [cell36_ qp sp] sz [.ref (qp 0)] (fun (u : Int32 × Int32 × Int32 × Int32 × Int32 × Int32) => ((u.1).toInt = 0 ∧ (u.2.1).toInt = 0 ∧ (u.2.2.1).toInt = 0 ∧ (u.2.2.2.1).toInt = 0 ∧ (u.2.2.2.2.1).toInt = 0 ∧ (u.2.2.2.2.2).toInt = 0) ∧ (tot (u.2.1) ≤ 4) ∧ (((u.1), (u.2.1), (u.2.2.1), (u.2.2.2.1), (u.2.2.2.2.1), (u.2.2.2.2.2)) = J_X9_begin sp)) (fun u => [cell68_ qp (u.1) (u.2.1) (u.2.2.1) (u.2.2.2.1) (u.2.2.2.2.1) (u.2.2.2.2.2)]) := by
  refine g_enter (cc := cX9_begin) (maxL := 1) (ret := none) (by decide) rfl (Nat.le_of_ble_eq_true rfl) ?_
  intro p e s m below meth c A hsz hAe cx hr hP hD hS ls hl
  rw [hAe]
  refine g_q (fun Q hQ => ?_)
  have hx := cx.1.1
  have hb := cx.1.2.1
  have hl : lv_has ls 1 [(0, .ref (qp 0))] := hl
  obtain ⟨H, eH⟩ : ∃ H : Heap, H = s.heap := ⟨_, rfl⟩
  obtain ⟨locs, el⟩ : ∃ L : List Loc, L = [] := ⟨_, rfl⟩
  have hP : va_P D vwCl [cell36_ qp sp] H := by rw [eH]; exact hP
  have hD : va_D A [cell36_ qp sp] := hD
  have hS : va_S A s.heap H locs := by rw [eH, el]; exact hS
  suffices goal : W p l e ({ frames := 0, cells := 0, slots := 0, locals := 0 } : Room) s m ([.ref (qp 0)] : List Value).toArray below meth c H locs 0 0 Q (F0 m 0 ls []) by rw [eH, el] at goal; exact goal
  refine lv_aload_n hx hb dX9_begin_0 rfl (lv_at hl 0 rfl) ?_
  refine lv_iconst (v := 0) hx hb dX9_begin_1 (by decide) ?_
  refine g_pt cx hP hD hS iw_X9_begin_X9 tyX9 tyX9_ok nmX9 0 rfl rfl 0 (by decide) rfl fw_X9_begin_7 (ty := .int) rfl rfl rfl (Nat.le_of_ble_eq_true rfl) dX9_begin_2 (fun H locs hP hD hS => ?_)
  have hP : va_P D vwCl [(qp 0, .inr (7, [.int 0, .int (sp 0 1), .int (sp 0 2), .int (sp 0 3), .int (sp 0 4), .int (sp 0 5)]))] H := hP
  have hD : va_D A [(qp 0, .inr (7, [.int 0, .int (sp 0 1), .int (sp 0 2), .int (sp 0 3), .int (sp 0 4), .int (sp 0 5)]))] := hD
  have hlit1 : (0 : Int32).toInt = 0 := by decide
  refine lv_aload_n hx hb dX9_begin_5 rfl (lv_at hl 0 rfl) ?_
  refine lv_iconst (v := 0) hx hb dX9_begin_6 (by decide) ?_
  refine g_pt cx hP hD hS iw_X9_begin_X9 tyX9 tyX9_ok nmX9 0 rfl rfl 1 (by decide) rfl fw_X9_begin_13 (ty := .int) rfl rfl rfl (Nat.le_of_ble_eq_true rfl) dX9_begin_7 (fun H locs hP hD hS => ?_)
  have hP : va_P D vwCl [(qp 0, .inr (7, [.int 0, .int 0, .int (sp 0 2), .int (sp 0 3), .int (sp 0 4), .int (sp 0 5)]))] H := hP
  have hD : va_D A [(qp 0, .inr (7, [.int 0, .int 0, .int (sp 0 2), .int (sp 0 3), .int (sp 0 4), .int (sp 0 5)]))] := hD
  have hlit2 : (0 : Int32).toInt = 0 := by decide
  refine lv_aload_n hx hb dX9_begin_10 rfl (lv_at hl 0 rfl) ?_
  refine lv_iconst (v := 0) hx hb dX9_begin_11 (by decide) ?_
  refine g_pt cx hP hD hS iw_X9_begin_X9 tyX9 tyX9_ok nmX9 0 rfl rfl 2 (by decide) rfl fw_X9_begin_16 (ty := .int) rfl rfl rfl (Nat.le_of_ble_eq_true rfl) dX9_begin_12 (fun H locs hP hD hS => ?_)
  have hP : va_P D vwCl [(qp 0, .inr (7, [.int 0, .int 0, .int 0, .int (sp 0 3), .int (sp 0 4), .int (sp 0 5)]))] H := hP
  have hD : va_D A [(qp 0, .inr (7, [.int 0, .int 0, .int 0, .int (sp 0 3), .int (sp 0 4), .int (sp 0 5)]))] := hD
  have hlit3 : (0 : Int32).toInt = 0 := by decide
  refine lv_aload_n hx hb dX9_begin_15 rfl (lv_at hl 0 rfl) ?_
  refine lv_iconst (v := 0) hx hb dX9_begin_16 (by decide) ?_
  refine g_pt cx hP hD hS iw_X9_begin_X9 tyX9 tyX9_ok nmX9 0 rfl rfl 3 (by decide) rfl fw_X9_begin_19 (ty := .int) rfl rfl rfl (Nat.le_of_ble_eq_true rfl) dX9_begin_17 (fun H locs hP hD hS => ?_)
  have hP : va_P D vwCl [(qp 0, .inr (7, [.int 0, .int 0, .int 0, .int 0, .int (sp 0 4), .int (sp 0 5)]))] H := hP
  have hD : va_D A [(qp 0, .inr (7, [.int 0, .int 0, .int 0, .int 0, .int (sp 0 4), .int (sp 0 5)]))] := hD
  have hlit4 : (0 : Int32).toInt = 0 := by decide
  refine lv_aload_n hx hb dX9_begin_20 rfl (lv_at hl 0 rfl) ?_
  refine lv_iconst (v := 0) hx hb dX9_begin_21 (by decide) ?_
  refine g_pt cx hP hD hS iw_X9_begin_X9 tyX9 tyX9_ok nmX9 0 rfl rfl 4 (by decide) rfl fw_X9_begin_22 (ty := .boolean) rfl rfl rfl (Nat.le_of_ble_eq_true rfl) dX9_begin_22 (fun H locs hP hD hS => ?_)
  have hP : va_P D vwCl [(qp 0, .inr (7, [.int 0, .int 0, .int 0, .int 0, .int 0, .int (sp 0 5)]))] H := hP
  have hD : va_D A [(qp 0, .inr (7, [.int 0, .int 0, .int 0, .int 0, .int 0, .int (sp 0 5)]))] := hD
  have hlit5 : (0 : Int32).toInt = 0 := by decide
  refine lv_aload_n hx hb dX9_begin_25 rfl (lv_at hl 0 rfl) ?_
  refine lv_iconst (v := 0) hx hb dX9_begin_26 (by decide) ?_
  refine g_pt cx hP hD hS iw_X9_begin_X9 tyX9 tyX9_ok nmX9 0 rfl rfl 5 (by decide) rfl fw_X9_begin_26 (ty := .int) rfl rfl rfl (Nat.le_of_ble_eq_true rfl) dX9_begin_27 (fun H locs hP hD hS => ?_)
  have hP : va_P D vwCl [cell68_ qp 0 0 0 0 0 0] H := hP
  have hD : va_D A [cell68_ qp 0 0 0 0 0 0] := hD
  have hlit6 : (0 : Int32).toInt = 0 := by decide
  have hlit7 : (0 : Int32).toInt = 0 := by decide
  have hlit8 : (0 : Int32).toInt = 0 := by decide
  have hlit9 : (0 : Int32).toInt = 0 := by decide
  have hlit10 : (0 : Int32).toInt = 0 := by decide
  have hlit11 : (0 : Int32).toInt = 0 := by decide
  have hlit12 : (0 : Int32).toInt = 0 := by decide
  rw [hQ]
  exact x_v cx hr (0, 0, 0, 0, 0, 0) hP hD hS ⟨(show (0 : Int32).toInt = 0 ∧ (0 : Int32).toInt = 0 ∧ (0 : Int32).toInt = 0 ∧ (0 : Int32).toInt = 0 ∧ (0 : Int32).toInt = 0 ∧ (0 : Int32).toInt = 0 from by omega), (show tot (0 : Int32) ≤ 4 from by decide), (show ((0 : Int32), (0 : Int32), (0 : Int32), (0 : Int32), (0 : Int32), (0 : Int32)) = J_X9_begin sp from by rfl)⟩ dX9_begin_30
theorem fw_X9_copy_13 : Cond.fieldLink RX9 13 "StillInAugust$Summer" "hands" "I" ∈ wsX9_copy := by decide +kernel
theorem fw_X9_copy_16 : Cond.fieldLink RX9 16 "StillInAugust$Summer" "coming" "I" ∈ wsX9_copy := by decide +kernel
theorem fw_X9_copy_19 : Cond.fieldLink RX9 19 "StillInAugust$Summer" "ordered" "I" ∈ wsX9_copy := by decide +kernel
theorem fw_X9_copy_22 : Cond.fieldLink RX9 22 "StillInAugust$Summer" "worked" "Z" ∈ wsX9_copy := by decide +kernel
theorem fw_X9_copy_26 : Cond.fieldLink RX9 26 "StillInAugust$Summer" "costs" "I" ∈ wsX9_copy := by decide +kernel
theorem fw_X9_copy_7 : Cond.fieldLink RX9 7 "StillInAugust$Summer" "week" "I" ∈ wsX9_copy := by decide +kernel
theorem iw_X9_copy_X9 : ∀ w ∈ u_ws RX9 TX9 6, w ∈ wsX9_copy := fun _ h => List.mem_cons_of_mem _ (List.mem_append_right _ h)
def J_X9_copy (sp : Nat → Nat → Int32) (so : Nat → Nat → Int32) : Int32 × Int32 × Int32 × Int32 × Int32 × Int32 := ((so 0 0), (so 0 1), (so 0 2), (so 0 3), (so 0 4), (so 0 5))
set_option maxHeartbeats 4000000 in
set_option maxRecDepth 100000 in
theorem c_X9_copy (l : Launch) (D : va_G) (k : Nat → ClassId) (b : Nat → Nat) (qp : Nat → Nat) (sp : Nat → Nat → Int32) (qo : Nat → Nat) (so : Nat → Nat → Int32) (sz : Nat) (o_k : 0 ≤ (so 0 4).toInt ∧ (so 0 4).toInt ≤ 1) : MetV l D k b yX9_copy wsX9_copy ({ frames := 0, cells := 0, slots := 0, locals := 0 } : Room) [cell36_ qp sp, cell36_ qo so] sz [.ref (qp 0), .ref (qo 0)] (fun (u : Int32 × Int32 × Int32 × Int32 × Int32 × Int32) => ((u.1) = (so 0 0) ∧ (u.2.1) = (so 0 1) ∧ (u.2.2.1) = (so 0 2) ∧ (u.2.2.2.1) = (so 0 3) ∧ (u.2.2.2.2.1) = (so 0 4) ∧ (u.2.2.2.2.2) = (so 0 5)) ∧ (((u.1), (u.2.1), (u.2.2.1), (u.2.2.2.1), (u.2.2.2.2.1), (u.2.2.2.2.2)) = J_X9_copy sp so)) (fun u => [cell68_ qp (u.1) (u.2.1) (u.2.2.1) (u.2.2.2.1) (u.2.2.2.2.1) (u.2.2.2.2.2), cell36_ qo so]) := by
  refine g_enter (cc := cX9_copy) (maxL := 2) (ret := none) (by decide) rfl (Nat.le_of_ble_eq_true rfl) ?_
  intro p e s m below meth c A hsz hAe cx hr hP hD hS ls hl
  rw [hAe]
  refine g_q (fun Q hQ => ?_)
  have hx := cx.1.1
  have hb := cx.1.2.1
  have hl : lv_has ls 2 [(0, .ref (qp 0)), (1, .ref (qo 0))] := hl
  obtain ⟨H, eH⟩ : ∃ H : Heap, H = s.heap := ⟨_, rfl⟩
  obtain ⟨locs, el⟩ : ∃ L : List Loc, L = [] := ⟨_, rfl⟩
  have hP : va_P D vwCl [cell36_ qp sp, cell36_ qo so] H := by rw [eH]; exact hP
  have hD : va_D A [cell36_ qp sp, cell36_ qo so] := hD
  have hS : va_S A s.heap H locs := by rw [eH, el]; exact hS
  suffices goal : W p l e ({ frames := 0, cells := 0, slots := 0, locals := 0 } : Room) s m ([.ref (qp 0), .ref (qo 0)] : List Value).toArray below meth c H locs 0 0 Q (F0 m 0 ls []) by rw [eH, el] at goal; exact goal
  refine lv_aload_n hx hb dX9_copy_0 rfl (lv_at hl 0 rfl) ?_
  refine lv_aload_n hx hb dX9_copy_1 rfl (lv_at hl 1 rfl) ?_
  refine g_get cx hP iw_X9_copy_X9 1 rfl rfl 0 (by decide) rfl fw_X9_copy_7 rfl dX9_copy_2 ?_
  refine g_pt cx hP hD hS iw_X9_copy_X9 tyX9 tyX9_ok nmX9 0 rfl rfl 0 (by decide) rfl fw_X9_copy_7 (ty := .int) rfl rfl rfl (Nat.le_of_ble_eq_true rfl) dX9_copy_5 (fun H locs hP hD hS => ?_)
  have hP : va_P D vwCl [(qp 0, .inr (7, [.int (so 0 0), .int (sp 0 1), .int (sp 0 2), .int (sp 0 3), .int (sp 0 4), .int (sp 0 5)])), cell36_ qo so] H := hP
  have hD : va_D A [(qp 0, .inr (7, [.int (so 0 0), .int (sp 0 1), .int (sp 0 2), .int (sp 0 3), .int (sp 0 4), .int (sp 0 5)])), cell36_ qo so] := hD
  refine lv_aload_n hx hb dX9_copy_8 rfl (lv_at hl 0 rfl) ?_
  refine lv_aload_n hx hb dX9_copy_9 rfl (lv_at hl 1 rfl) ?_
  refine g_get cx hP iw_X9_copy_X9 1 rfl rfl 1 (by decide) rfl fw_X9_copy_13 rfl dX9_copy_10 ?_
  refine g_pt cx hP hD hS iw_X9_copy_X9 tyX9 tyX9_ok nmX9 0 rfl rfl 1 (by decide) rfl fw_X9_copy_13 (ty := .int) rfl rfl rfl (Nat.le_of_ble_eq_true rfl) dX9_copy_13 (fun H locs hP hD hS => ?_)
  have hP : va_P D vwCl [(qp 0, .inr (7, [.int (so 0 0), .int (so 0 1), .int (sp 0 2), .int (sp 0 3), .int (sp 0 4), .int (sp 0 5)])), cell36_ qo so] H := hP
  have hD : va_D A [(qp 0, .inr (7, [.int (so 0 0), .int (so 0 1), .int (sp 0 2), .int (sp 0 3), .int (sp 0 4), .int (sp 0 5)])), cell36_ qo so] := hD
  refine lv_aload_n hx hb dX9_copy_16 rfl (lv_at hl 0 rfl) ?_
  refine lv_aload_n hx hb dX9_copy_17 rfl (lv_at hl 1 rfl) ?_
  refine g_get cx hP iw_X9_copy_X9 1 rfl rfl 2 (by decide) rfl fw_X9_copy_16 rfl dX9_copy_18 ?_
  refine g_pt cx hP hD hS iw_X9_copy_X9 tyX9 tyX9_ok nmX9 0 rfl rfl 2 (by decide) rfl fw_X9_copy_16 (ty := .int) rfl rfl rfl (Nat.le_of_ble_eq_true rfl) dX9_copy_21 (fun H locs hP hD hS => ?_)
  have hP : va_P D vwCl [(qp 0, .inr (7, [.int (so 0 0), .int (so 0 1), .int (so 0 2), .int (sp 0 3), .int (sp 0 4), .int (sp 0 5)])), cell36_ qo so] H := hP
  have hD : va_D A [(qp 0, .inr (7, [.int (so 0 0), .int (so 0 1), .int (so 0 2), .int (sp 0 3), .int (sp 0 4), .int (sp 0 5)])), cell36_ qo so] := hD
  refine lv_aload_n hx hb dX9_copy_24 rfl (lv_at hl 0 rfl) ?_
  refine lv_aload_n hx hb dX9_copy_25 rfl (lv_at hl 1 rfl) ?_
  refine g_get cx hP iw_X9_copy_X9 1 rfl rfl 3 (by decide) rfl fw_X9_copy_19 rfl dX9_copy_26 ?_
  refine g_pt cx hP hD hS iw_X9_copy_X9 tyX9 tyX9_ok nmX9 0 rfl rfl 3 (by decide) rfl fw_X9_copy_19 (ty := .int) rfl rfl rfl (Nat.le_of_ble_eq_true rfl) dX9_copy_29 (fun H locs hP hD hS => ?_)
  have hP : va_P D vwCl [(qp 0, .inr (7, [.int (so 0 0), .int (so 0 1), .int (so 0 2), .int (so 0 3), .int (sp 0 4), .int (sp 0 5)])), cell36_ qo so] H := hP
  have hD : va_D A [(qp 0, .inr (7, [.int (so 0 0), .int (so 0 1), .int (so 0 2), .int (so 0 3), .int (sp 0 4), .int (sp 0 5)])), cell36_ qo so] := hD
  refine lv_aload_n hx hb dX9_copy_32 rfl (lv_at hl 0 rfl) ?_
  refine lv_aload_n hx hb dX9_copy_33 rfl (lv_at hl 1 rfl) ?_
  refine g_get cx hP iw_X9_copy_X9 1 rfl rfl 4 (by decide) rfl fw_X9_copy_22 rfl dX9_copy_34 ?_
  refine g_pt cx hP hD hS iw_X9_copy_X9 tyX9 tyX9_ok nmX9 0 rfl rfl 4 (by decide) rfl fw_X9_copy_22 (ty := .boolean) rfl (nar_z (by omega)) (fit_z (by omega)) (Nat.le_of_ble_eq_true rfl) dX9_copy_37 (fun H locs hP hD hS => ?_)
  have hP : va_P D vwCl [(qp 0, .inr (7, [.int (so 0 0), .int (so 0 1), .int (so 0 2), .int (so 0 3), .int (so 0 4), .int (sp 0 5)])), cell36_ qo so] H := hP
  have hD : va_D A [(qp 0, .inr (7, [.int (so 0 0), .int (so 0 1), .int (so 0 2), .int (so 0 3), .int (so 0 4), .int (sp 0 5)])), cell36_ qo so] := hD
  refine lv_aload_n hx hb dX9_copy_40 rfl (lv_at hl 0 rfl) ?_
  refine lv_aload_n hx hb dX9_copy_41 rfl (lv_at hl 1 rfl) ?_
  refine g_get cx hP iw_X9_copy_X9 1 rfl rfl 5 (by decide) rfl fw_X9_copy_26 rfl dX9_copy_42 ?_
  refine g_pt cx hP hD hS iw_X9_copy_X9 tyX9 tyX9_ok nmX9 0 rfl rfl 5 (by decide) rfl fw_X9_copy_26 (ty := .int) rfl rfl rfl (Nat.le_of_ble_eq_true rfl) dX9_copy_45 (fun H locs hP hD hS => ?_)
  have hP : va_P D vwCl [cell36_ qp so, cell36_ qo so] H := hP
  have hD : va_D A [cell36_ qp so, cell36_ qo so] := hD
  rw [hQ]
  exact x_v cx hr ((so 0 0), (so 0 1), (so 0 2), (so 0 3), (so 0 4), (so 0 5)) hP hD hS ⟨(show (so 0 0) = (so 0 0) ∧ (so 0 1) = (so 0 1) ∧ (so 0 2) = (so 0 2) ∧ (so 0 3) = (so 0 3) ∧ (so 0 4) = (so 0 4) ∧ (so 0 5) = (so 0 5) from ⟨rfl, rfl, rfl, rfl, rfl, rfl⟩), (show ((so 0 0), (so 0 1), (so 0 2), (so 0 3), (so 0 4), (so 0 5)) = J_X9_copy sp so from by rfl)⟩ dX9_copy_48
theorem fw_X9_mayAct_13 : Cond.fieldLink RX9 13 "StillInAugust$Summer" "hands" "I" ∈ wsX9_mayAct := by decide +kernel
theorem fw_X9_mayAct_22 : Cond.fieldLink RX9 22 "StillInAugust$Summer" "worked" "Z" ∈ wsX9_mayAct := by decide +kernel
theorem fw_X9_mayAct_29 : Cond.fieldLink RX9 29 "StillInAugust$House" "weeks" "I" ∈ wsX9_mayAct := by decide +kernel
theorem fw_X9_mayAct_7 : Cond.fieldLink RX9 7 "StillInAugust$Summer" "week" "I" ∈ wsX9_mayAct := by decide +kernel
theorem nd_X4_allows : yX4_allows.cls = RX4 ∧ yX4_allows.cls ≠ "java/lang/invoke/MethodHandle" ∧ yX4_allows.cls ≠ "java/lang/invoke/VarHandle" ∧ (parseMethodDescriptor yX4_allows.desc).map (fun d => d.parameters.length) = some 3 := by decide +kernel
theorem iw_X9_mayAct_X4 : ∀ w ∈ u_ws RX4 TX4 14, w ∈ wsX9_mayAct := fun _ h => List.mem_cons_of_mem _ (List.mem_append_right _ h)
theorem iw_X9_mayAct_X9 : ∀ w ∈ u_ws RX9 TX9 6, w ∈ wsX9_mayAct := fun _ h => List.mem_cons_of_mem _ (List.mem_append_left _ (List.mem_append_right _ h))
def J_X9_mayAct (sp : Nat → Nat → Int32) (sh : Nat → Nat → Int32) (p0 : Int32) : Int32 := if (sp 0 4) = 0 then if (sh 0 0) ≤ (sp 0 0) then (0 : Int32) else let y10 := J_X4_allows sh (sp 0 0) (sp 0 1) p0; if y10 = 0 then (0 : Int32) else (1 : Int32) else (0 : Int32)
set_option maxHeartbeats 4000000 in
set_option maxRecDepth 100000 in
theorem c_X9_mayAct (l : Launch) (D : va_G) (k : Nat → ClassId) (b : Nat → Nat) (qp : Nat → Nat) (sp : Nat → Nat → Int32) (qh : Nat → Nat) (sh : Nat → Nat → Int32) (sz : Nat) (p0 : Int32) (s_h : 0 ≤ (sp 0 1).toInt ∧ (sp 0 1).toInt ≤ 400 ∧ tot (sp 0 1) ≤ 4) (s_w : 0 ≤ (sp 0 0).toInt ∧ (sp 0 0).toInt ≤ 5) (s_k : 0 ≤ (sp 0 4).toInt ∧ (sp 0 4).toInt ≤ 1) (s_x : (sp 0 4).toInt = 0 ∨ (sp 0 0).toInt ≤ 4) (h_wk : 0 ≤ (sh 0 0).toInt ∧ (sh 0 0).toInt ≤ 5) (h_hk : 0 ≤ (sh 0 1).toInt ∧ (sh 0 1).toInt ≤ 4) (h_fl : 0 ≤ (sh 0 12).toInt ∧ (sh 0 12).toInt ≤ 5) (h_of : ∀ j, 0 ≤ (sh 2 j).toInt ∧ (sh 2 j).toInt ≤ 4) (h_go : ∀ j, 0 ≤ (sh 3 j).toInt ∧ (sh 3 j).toInt ≤ 5) (ha : 0 ≤ p0.toInt) : MetI l D k b yX9_mayAct wsX9_mayAct ({ frames := 3, cells := 0, slots := 0, locals := 68 } : Room) [cell36_ qp sp, cell32_ qh sh, cell0_ k qh sh, cell1_ k qh sh, cell4_ k qh sh, cell3_ k qh sh, cell2_ k qh sh] sz [.ref (qp 0), .ref (qh 0), .int p0] (fun (r : Int32) (u : Unit) => (0 ≤ r.toInt ∧ r.toInt ≤ 1) ∧ (Imp (r.toInt = 1) ((sp 0 4).toInt = 0 ∧ (sp 0 0).toInt ≤ 4 ∧ 0 ≤ (J_X0_done (sp 0 1) p0).toInt ∧ (J_X0_done (sp 0 1) p0).toInt ≤ 400 ∧ tot (J_X0_done (sp 0 1) p0) ≤ 4)) ∧ (r = J_X9_mayAct sp sh p0)) (fun u => [cell36_ qp sp, cell32_ qh sh, cell0_ k qh sh, cell1_ k qh sh, cell4_ k qh sh, cell3_ k qh sh, cell2_ k qh sh]) := by
  refine g_enter (cc := cX9_mayAct) (maxL := 3) (ret := (some .boolean)) (by decide) rfl (Nat.le_of_ble_eq_true rfl) ?_
  intro p e s m below meth c A hsz hAe cx hr hP hD hS ls hl
  rw [hAe]
  refine g_q (fun Q hQ => ?_)
  have hx := cx.1.1
  have hb := cx.1.2.1
  have bp0 := i_rng p0
  have hl : lv_has ls 3 [(0, .ref (qp 0)), (1, .ref (qh 0)), (2, .int p0)] := hl
  obtain ⟨H, eH⟩ : ∃ H : Heap, H = s.heap := ⟨_, rfl⟩
  obtain ⟨locs, el⟩ : ∃ L : List Loc, L = [] := ⟨_, rfl⟩
  have hP : va_P D vwCl [cell36_ qp sp, cell32_ qh sh, cell0_ k qh sh, cell1_ k qh sh, cell4_ k qh sh, cell3_ k qh sh, cell2_ k qh sh] H := by rw [eH]; exact hP
  have hD : va_D A [cell36_ qp sp, cell32_ qh sh, cell0_ k qh sh, cell1_ k qh sh, cell4_ k qh sh, cell3_ k qh sh, cell2_ k qh sh] := hD
  have hS : va_S A s.heap H locs := by rw [eH, el]; exact hS
  suffices goal : W p l e ({ frames := 3, cells := 0, slots := 0, locals := 68 } : Room) s m ([.ref (qp 0), .ref (qh 0), .int p0] : List Value).toArray below meth c H locs 0 0 Q (F0 m 0 ls []) by rw [eH, el] at goal; exact goal
  refine lv_aload_n hx hb dX9_mayAct_0 rfl (lv_at hl 0 rfl) ?_
  refine g_get cx hP iw_X9_mayAct_X9 0 rfl rfl 4 (by decide) rfl fw_X9_mayAct_22 rfl dX9_mayAct_1 ?_
  refine lv_if_ne (tgt := 38) hx hb dX9_mayAct_4 (by decide) (fun c1 => ?_) (fun c1 => ?_)
  · have f1 : ¬ (sp 0 4).toInt = 0 := f_ne rfl (by decide) c1
    refine lv_iconst (v := 0) hx hb dX9_mayAct_38 (by decide) ?_
    have hlit2 : (0 : Int32).toInt = 0 := by decide
    rw [hQ]
    exact x_z cx hr (by decide) () hP hD hS ⟨(show 0 ≤ (0 : Int32).toInt ∧ (0 : Int32).toInt ≤ 1 from by omega), (show Imp ((0 : Int32).toInt = 1) ((sp 0 4).toInt = 0 ∧ (sp 0 0).toInt ≤ 4 ∧ 0 ≤ (J_X0_done (sp 0 1) p0).toInt ∧ (J_X0_done (sp 0 1) p0).toInt ≤ 400 ∧ tot (J_X0_done (sp 0 1) p0) ≤ 4) from fun h => by first | exact absurd h (by decide) | omega), (show (0 : Int32) = J_X9_mayAct sp sh p0 from by first | (refine Eq.symm ?_; refine Eq.trans (if_neg c1) ?_; rfl) | (unfold J_X9_mayAct; try dsimp only; rw [if_neg c1]))⟩ dX9_mayAct_39
  · have f1 : (sp 0 4).toInt = 0 := f_eq rfl (by decide) c1
    refine lv_aload_n hx hb dX9_mayAct_7 rfl (lv_at hl 0 rfl) ?_
    refine g_get cx hP iw_X9_mayAct_X9 0 rfl rfl 0 (by decide) rfl fw_X9_mayAct_7 rfl dX9_mayAct_8 ?_
    refine lv_aload_n hx hb dX9_mayAct_11 rfl (lv_at hl 1 rfl) ?_
    refine g_get cx hP iw_X9_mayAct_X4 1 rfl rfl 0 (by decide) rfl fw_X9_mayAct_29 rfl dX9_mayAct_12 ?_
    refine lv_icmp_ge (tgt := 38) hx hb dX9_mayAct_15 (by decide) (fun c3 => ?_) (fun c3 => ?_)
    · have f3 : (sh 0 0).toInt ≤ (sp 0 0).toInt := f_le rfl rfl c3
      refine lv_iconst (v := 0) hx hb dX9_mayAct_38 (by decide) ?_
      have hlit4 : (0 : Int32).toInt = 0 := by decide
      rw [hQ]
      exact x_z cx hr (by decide) () hP hD hS ⟨(show 0 ≤ (0 : Int32).toInt ∧ (0 : Int32).toInt ≤ 1 from by omega), (show Imp ((0 : Int32).toInt = 1) ((sp 0 4).toInt = 0 ∧ (sp 0 0).toInt ≤ 4 ∧ 0 ≤ (J_X0_done (sp 0 1) p0).toInt ∧ (J_X0_done (sp 0 1) p0).toInt ≤ 400 ∧ tot (J_X0_done (sp 0 1) p0) ≤ 4) from fun h => by first | exact absurd h (by decide) | omega), (show (0 : Int32) = J_X9_mayAct sp sh p0 from by first | (refine Eq.symm ?_; refine Eq.trans (if_pos c1) ?_; refine Eq.trans (if_pos c3) ?_; rfl) | (unfold J_X9_mayAct; try dsimp only; rw [if_pos c1, if_pos c3]))⟩ dX9_mayAct_39
    · have f3 : (sp 0 0).toInt < (sh 0 0).toInt := f_nle rfl rfl c3
      refine lv_aload_n hx hb dX9_mayAct_18 rfl (lv_at hl 1 rfl) ?_
      refine lv_aload_n hx hb dX9_mayAct_19 rfl (lv_at hl 0 rfl) ?_
      refine g_get cx hP iw_X9_mayAct_X9 0 rfl rfl 0 (by decide) rfl fw_X9_mayAct_7 rfl dX9_mayAct_20 ?_
      refine lv_aload_n hx hb dX9_mayAct_23 rfl (lv_at hl 0 rfl) ?_
      refine g_get cx hP iw_X9_mayAct_X9 0 rfl rfl 1 (by decide) rfl fw_X9_mayAct_13 rfl dX9_mayAct_24 ?_
      refine lv_iload_n hx hb dX9_mayAct_27 rfl (lv_at hl 2 rfl) ?_
      refine g_ir (g_runV (wc := [cell32_ qh sh, cell0_ k qh sh, cell1_ k qh sh, cell4_ k qh sh, cell3_ k qh sh, cell2_ k qh sh]) (rest := []) cx hP hD hS [1, 2, 3, 4, 5, 6] rfl (by decide) [.int (sp 0 0), .int (sp 0 1), .int p0] (c_X4_allows l D k b qh sh H.size (sp 0 0) (sp 0 1) p0 (show 0 ≤ (sh 0 0).toInt ∧ (sh 0 0).toInt ≤ 5 from by first | decide | omega) (show 0 ≤ (sh 0 1).toInt ∧ (sh 0 1).toInt ≤ 4 from by first | decide | omega) (show 0 ≤ (sh 0 12).toInt ∧ (sh 0 12).toInt ≤ 5 from by first | decide | omega) h_of h_go (show 0 ≤ (sp 0 1).toInt ∧ (sp 0 1).toInt ≤ 400 ∧ tot (sp 0 1) ≤ 4 from by first | decide | omega) (show 0 ≤ p0.toInt from by first | decide | omega) (show 0 ≤ (sp 0 0).toInt ∧ (sp 0 0).toInt ≤ 4 from by first | decide | omega)) gX9_mayAct_X4_allows rfl rfl rfl nd_X4_allows ⟨Nat.le_of_ble_eq_true rfl, Nat.le_of_ble_eq_true rfl⟩ (ci := 2) (q0 := 0) rfl rfl rfl hl.1 rfl (Nat.le_of_ble_eq_true rfl) ⟨Nat.zero_le _, Nat.zero_le _⟩ dX9_mayAct_28) cx.2.2.1 hP hD hS [1, 2, 3, 4, 5, 6] rfl rfl (fun r6 H locs hw5 hP hS => ?_)
      replace hw5 : (0 ≤ r6.toInt ∧ r6.toInt ≤ 1) ∧ (Imp (r6.toInt = 1) (0 ≤ (J_X0_done (sp 0 1) p0).toInt ∧ (J_X0_done (sp 0 1) p0).toInt ≤ 400 ∧ tot (J_X0_done (sp 0 1) p0) ≤ 4)) ∧ (r6 = J_X4_allows sh (sp 0 0) (sp 0 1) p0) := hw5
      obtain ⟨w7, w8, w9⟩ := hw5
      have k11 : r6 = (J_X4_allows sh (sp 0 0) (sp 0 1) p0) := congrArg (fun z => z) w9
      have zr6 : 0 ≤ r6.toInt ∧ r6.toInt ≤ 1 := w7
      refine lv_if_eq (tgt := 38) hx hb dX9_mayAct_31 (by decide) (fun c12 => ?_) (fun c12 => ?_)
      · have f12 : r6.toInt = 0 := f_eq rfl (by decide) c12
        refine lv_iconst (v := 0) hx hb dX9_mayAct_38 (by decide) ?_
        have hlit13 : (0 : Int32).toInt = 0 := by decide
        rw [hQ]
        exact x_z cx hr (by decide) () hP hD hS ⟨(show 0 ≤ (0 : Int32).toInt ∧ (0 : Int32).toInt ≤ 1 from by omega), (show Imp ((0 : Int32).toInt = 1) ((sp 0 4).toInt = 0 ∧ (sp 0 0).toInt ≤ 4 ∧ 0 ≤ (J_X0_done (sp 0 1) p0).toInt ∧ (J_X0_done (sp 0 1) p0).toInt ≤ 400 ∧ tot (J_X0_done (sp 0 1) p0) ≤ 4) from fun h => by first | exact absurd h (by decide) | omega), (show (0 : Int32) = J_X9_mayAct sp sh p0 from by subst k11; first | (refine Eq.symm ?_; refine Eq.trans (if_pos c1) ?_; refine Eq.trans (if_neg c3) ?_; refine Eq.trans (if_pos c12) ?_; rfl) | (unfold J_X9_mayAct; try dsimp only; rw [if_pos c1, if_neg c3, if_pos c12]))⟩ dX9_mayAct_39
      · have f12 : ¬ r6.toInt = 0 := f_ne rfl (by decide) c12
        have k12 : (0 ≤ (J_X0_done (sp 0 1) p0).toInt ∧ (J_X0_done (sp 0 1) p0).toInt ≤ 400 ∧ tot (J_X0_done (sp 0 1) p0) ≤ 4) := w8 (by omega)
        refine lv_iconst (v := 1) hx hb dX9_mayAct_34 (by decide) ?_
        refine lv_goto (tgt := 39) hx hb dX9_mayAct_35 (by decide) ?_
        have hlit14 : (1 : Int32).toInt = 1 := by decide
        rw [hQ]
        exact x_z cx hr (by decide) () hP hD hS ⟨(show 0 ≤ (1 : Int32).toInt ∧ (1 : Int32).toInt ≤ 1 from by omega), (show Imp ((1 : Int32).toInt = 1) ((sp 0 4).toInt = 0 ∧ (sp 0 0).toInt ≤ 4 ∧ 0 ≤ (J_X0_done (sp 0 1) p0).toInt ∧ (J_X0_done (sp 0 1) p0).toInt ≤ 400 ∧ tot (J_X0_done (sp 0 1) p0) ≤ 4) from fun h => by first | exact absurd h (by decide) | omega), (show (1 : Int32) = J_X9_mayAct sp sh p0 from by subst k11; first | (refine Eq.symm ?_; refine Eq.trans (if_pos c1) ?_; refine Eq.trans (if_neg c3) ?_; refine Eq.trans (if_neg c12) ?_; rfl) | (unfold J_X9_mayAct; try dsimp only; rw [if_pos c1, if_neg c3, if_neg c12]))⟩ dX9_mayAct_39
theorem fw_X9_passWeek_13 : Cond.fieldLink RX9 13 "StillInAugust$Summer" "hands" "I" ∈ wsX9_passWeek := by decide +kernel
theorem fw_X9_passWeek_16 : Cond.fieldLink RX9 16 "StillInAugust$Summer" "coming" "I" ∈ wsX9_passWeek := by decide +kernel
theorem fw_X9_passWeek_19 : Cond.fieldLink RX9 19 "StillInAugust$Summer" "ordered" "I" ∈ wsX9_passWeek := by decide +kernel
theorem fw_X9_passWeek_22 : Cond.fieldLink RX9 22 "StillInAugust$Summer" "worked" "Z" ∈ wsX9_passWeek := by decide +kernel
theorem fw_X9_passWeek_26 : Cond.fieldLink RX9 26 "StillInAugust$Summer" "costs" "I" ∈ wsX9_passWeek := by decide +kernel
theorem fw_X9_passWeek_7 : Cond.fieldLink RX9 7 "StillInAugust$Summer" "week" "I" ∈ wsX9_passWeek := by decide +kernel
theorem iw_X9_passWeek_X9 : ∀ w ∈ u_ws RX9 TX9 6, w ∈ wsX9_passWeek := fun _ h => List.mem_cons_of_mem _ (List.mem_append_left _ (List.mem_append_right _ h))
def J_X9_passWeek (sp : Nat → Nat → Int32) (sh : Nat → Nat → Int32) (p0 : Int32) : Int32 × Int32 × Int32 × Int32 × Int32 := let y11 := J_X4_weekCost sh (sp 0 0) (J_X0_done (sp 0 1) p0) (sp 0 2) p0; (y11, (J_X0_done (sp 0 1) p0), (J_X0_ordered p0), (1 : Int32), ((sp 0 5) + y11))
set_option maxHeartbeats 4000000 in
set_option maxRecDepth 100000 in
theorem c_X9_passWeek (l : Launch) (D : va_G) (k : Nat → ClassId) (b : Nat → Nat) (qp : Nat → Nat) (sp : Nat → Nat → Int32) (qh : Nat → Nat) (sh : Nat → Nat → Int32) (sz : Nat) (p0 : Int32) (s_w4 : 0 ≤ (sp 0 0).toInt ∧ (sp 0 0).toInt ≤ 4) (hd : 0 ≤ (J_X0_done (sp 0 1) p0).toInt ∧ (J_X0_done (sp 0 1) p0).toInt ≤ 400 ∧ tot (J_X0_done (sp 0 1) p0) ≤ 4) (ha : 0 ≤ p0.toInt) : MetI l D k b yX9_passWeek wsX9_passWeek ({ frames := 3, cells := 0, slots := 0, locals := 65 } : Room) [cell36_ qp sp, cell32_ qh sh, cell0_ k qh sh, cell1_ k qh sh, cell4_ k qh sh, cell3_ k qh sh, cell2_ k qh sh] sz [.ref (qp 0), .ref (qh 0), .int p0] (fun (r : Int32) (u : Int32 × Int32 × Int32 × Int32) => (0 ≤ (u.1).toInt ∧ (u.1).toInt ≤ 400 ∧ tot (u.1) ≤ 4) ∧ ((u.2.2.1).toInt = 1) ∧ ((r, (u.1), (u.2.1), (u.2.2.1), (u.2.2.2)) = J_X9_passWeek sp sh p0)) (fun u => [cell124_ qp sp (u.1) (u.2.1) (u.2.2.1) (u.2.2.2), cell32_ qh sh, cell0_ k qh sh, cell1_ k qh sh, cell4_ k qh sh, cell3_ k qh sh, cell2_ k qh sh]) := by
  refine g_enter (cc := cX9_passWeek) (maxL := 4) (ret := (some .int)) (by decide) rfl (Nat.le_of_ble_eq_true rfl) ?_
  intro p e s m below meth c A hsz hAe cx hr hP hD hS ls hl
  rw [hAe]
  refine g_q (fun Q hQ => ?_)
  have hx := cx.1.1
  have hb := cx.1.2.1
  have bp0 := i_rng p0
  have hl : lv_has ls 4 [(0, .ref (qp 0)), (1, .ref (qh 0)), (2, .int p0)] := hl
  obtain ⟨H, eH⟩ : ∃ H : Heap, H = s.heap := ⟨_, rfl⟩
  obtain ⟨locs, el⟩ : ∃ L : List Loc, L = [] := ⟨_, rfl⟩
  have hP : va_P D vwCl [cell36_ qp sp, cell32_ qh sh, cell0_ k qh sh, cell1_ k qh sh, cell4_ k qh sh, cell3_ k qh sh, cell2_ k qh sh] H := by rw [eH]; exact hP
  have hD : va_D A [cell36_ qp sp, cell32_ qh sh, cell0_ k qh sh, cell1_ k qh sh, cell4_ k qh sh, cell3_ k qh sh, cell2_ k qh sh] := hD
  have hS : va_S A s.heap H locs := by rw [eH, el]; exact hS
  suffices goal : W p l e ({ frames := 3, cells := 0, slots := 0, locals := 65 } : Room) s m ([.ref (qp 0), .ref (qh 0), .int p0] : List Value).toArray below meth c H locs 0 0 Q (F0 m 0 ls []) by rw [eH, el] at goal; exact goal
  refine lv_aload_n hx hb dX9_passWeek_0 rfl (lv_at hl 0 rfl) ?_
  refine lv_aload_n hx hb dX9_passWeek_1 rfl (lv_at hl 0 rfl) ?_
  refine g_get cx hP iw_X9_passWeek_X9 0 rfl rfl 1 (by decide) rfl fw_X9_passWeek_13 rfl dX9_passWeek_2 ?_
  refine lv_iload_n hx hb dX9_passWeek_5 rfl (lv_at hl 2 rfl) ?_
  refine g_ir (g_runS (wc := []) (rest := [.ref (qp 0)]) cx hP hD hS [] rfl (by decide) [.int (sp 0 1), .int p0] (c_X0_done l D k b H.size (sp 0 1) p0) gX9_passWeek_X0_done rfl rfl rfl nd_X0_done ⟨Nat.le_of_ble_eq_true rfl, Nat.le_of_ble_eq_true rfl⟩ rfl hl.1 rfl (Nat.le_of_ble_eq_true rfl) ⟨Nat.zero_le _, Nat.zero_le _⟩ dX9_passWeek_6) cx.2.2.1 hP hD hS [] rfl rfl (fun r2 H locs hw1 hP hS => ?_)
  have w3 : r2 = J_X0_done (sp 0 1) p0 := hw1
  clear hw1
  have hd2 := hd
  rw [← w3] at hd2
  refine g_pt cx hP hD hS iw_X9_passWeek_X9 tyX9 tyX9_ok nmX9 0 rfl rfl 1 (by decide) rfl fw_X9_passWeek_13 (ty := .int) rfl rfl rfl (Nat.le_of_ble_eq_true rfl) dX9_passWeek_9 (fun H locs hP hD hS => ?_)
  have hP : va_P D vwCl [cell205_ qp sp r2, cell32_ qh sh, cell0_ k qh sh, cell1_ k qh sh, cell4_ k qh sh, cell3_ k qh sh, cell2_ k qh sh] H := hP
  have hD : va_D A [cell205_ qp sp r2, cell32_ qh sh, cell0_ k qh sh, cell1_ k qh sh, cell4_ k qh sh, cell3_ k qh sh, cell2_ k qh sh] := hD
  refine lv_aload_n hx hb dX9_passWeek_12 rfl (lv_at hl 0 rfl) ?_
  refine lv_iload_n hx hb dX9_passWeek_13 rfl (lv_at hl 2 rfl) ?_
  refine g_ir (g_runS (wc := []) (rest := [.ref (qp 0)]) cx hP hD hS [] rfl (by decide) [.int p0] (c_X0_ordered l D k b H.size p0) gX9_passWeek_X0_ordered rfl rfl rfl nd_X0_ordered ⟨Nat.le_of_ble_eq_true rfl, Nat.le_of_ble_eq_true rfl⟩ rfl hl.1 rfl (Nat.le_of_ble_eq_true rfl) ⟨Nat.zero_le _, Nat.zero_le _⟩ dX9_passWeek_14) cx.2.2.1 hP hD hS [] rfl rfl (fun r5 H locs hw4 hP hS => ?_)
  have w6 : r5 = J_X0_ordered p0 := hw4
  clear hw4
  have zr5 := or_b w6 (show 0 ≤ p0.toInt from by omega)
  refine g_pt cx hP hD hS iw_X9_passWeek_X9 tyX9 tyX9_ok nmX9 0 rfl rfl 3 (by decide) rfl fw_X9_passWeek_19 (ty := .int) rfl rfl rfl (Nat.le_of_ble_eq_true rfl) dX9_passWeek_17 (fun H locs hP hD hS => ?_)
  have hP : va_P D vwCl [(qp 0, .inr (7, [.int (sp 0 0), .int r2, .int (sp 0 2), .int r5, .int (sp 0 4), .int (sp 0 5)])), cell32_ qh sh, cell0_ k qh sh, cell1_ k qh sh, cell4_ k qh sh, cell3_ k qh sh, cell2_ k qh sh] H := hP
  have hD : va_D A [(qp 0, .inr (7, [.int (sp 0 0), .int r2, .int (sp 0 2), .int r5, .int (sp 0 4), .int (sp 0 5)])), cell32_ qh sh, cell0_ k qh sh, cell1_ k qh sh, cell4_ k qh sh, cell3_ k qh sh, cell2_ k qh sh] := hD
  refine lv_aload_n hx hb dX9_passWeek_20 rfl (lv_at hl 0 rfl) ?_
  refine lv_iconst (v := 1) hx hb dX9_passWeek_21 (by decide) ?_
  refine g_pt cx hP hD hS iw_X9_passWeek_X9 tyX9 tyX9_ok nmX9 0 rfl rfl 4 (by decide) rfl fw_X9_passWeek_22 (ty := .boolean) rfl rfl rfl (Nat.le_of_ble_eq_true rfl) dX9_passWeek_22 (fun H locs hP hD hS => ?_)
  have hP : va_P D vwCl [(qp 0, .inr (7, [.int (sp 0 0), .int r2, .int (sp 0 2), .int r5, .int 1, .int (sp 0 5)])), cell32_ qh sh, cell0_ k qh sh, cell1_ k qh sh, cell4_ k qh sh, cell3_ k qh sh, cell2_ k qh sh] H := hP
  have hD : va_D A [(qp 0, .inr (7, [.int (sp 0 0), .int r2, .int (sp 0 2), .int r5, .int 1, .int (sp 0 5)])), cell32_ qh sh, cell0_ k qh sh, cell1_ k qh sh, cell4_ k qh sh, cell3_ k qh sh, cell2_ k qh sh] := hD
  have hlit7 : (1 : Int32).toInt = 1 := by decide
  refine lv_aload_n hx hb dX9_passWeek_25 rfl (lv_at hl 1 rfl) ?_
  refine lv_aload_n hx hb dX9_passWeek_26 rfl (lv_at hl 0 rfl) ?_
  refine g_get cx hP iw_X9_passWeek_X9 0 rfl rfl 0 (by decide) rfl fw_X9_passWeek_7 rfl dX9_passWeek_27 ?_
  refine lv_aload_n hx hb dX9_passWeek_30 rfl (lv_at hl 0 rfl) ?_
  refine g_get cx hP iw_X9_passWeek_X9 0 rfl rfl 1 (by decide) rfl fw_X9_passWeek_13 rfl dX9_passWeek_31 ?_
  refine lv_aload_n hx hb dX9_passWeek_34 rfl (lv_at hl 0 rfl) ?_
  refine g_get cx hP iw_X9_passWeek_X9 0 rfl rfl 2 (by decide) rfl fw_X9_passWeek_16 rfl dX9_passWeek_35 ?_
  refine lv_iload_n hx hb dX9_passWeek_38 rfl (lv_at hl 2 rfl) ?_
  refine g_ir (g_runV (wc := [cell32_ qh sh, cell0_ k qh sh, cell1_ k qh sh, cell4_ k qh sh, cell3_ k qh sh, cell2_ k qh sh]) (rest := []) cx hP hD hS [1, 2, 3, 4, 5, 6] rfl (by decide) [.int (sp 0 0), .int r2, .int (sp 0 2), .int p0] (c_X4_weekCost l D k b qh sh H.size (sp 0 0) r2 (sp 0 2) p0 (show 0 ≤ (sp 0 0).toInt ∧ (sp 0 0).toInt ≤ 4 from by first | decide | omega)) gX9_passWeek_X4_weekCost rfl rfl rfl nd_X4_weekCost ⟨Nat.le_of_ble_eq_true rfl, Nat.le_of_ble_eq_true rfl⟩ (ci := 2) (q0 := 0) rfl rfl rfl hl.1 rfl (Nat.le_of_ble_eq_true rfl) ⟨Nat.zero_le _, Nat.zero_le _⟩ dX9_passWeek_39) cx.2.2.1 hP hD hS [1, 2, 3, 4, 5, 6] rfl rfl (fun r9 H locs hw8 hP hS => ?_)
  have w10 : r9 = J_X4_weekCost sh (sp 0 0) r2 (sp 0 2) p0 := hw8
  clear hw8
  have k12 : r9 = (J_X4_weekCost sh (sp 0 0) r2 (sp 0 2) p0) := congrArg (fun z => z) w10
  refine lv_istore_n (lv' := [(3, .int r9), (0, .ref (qp 0)), (1, .ref (qh 0)), (2, .int p0)]) hx hb dX9_passWeek_42 rfl hl (by decide) rfl (fun ls hl => ?_)
  refine lv_aload_n hx hb dX9_passWeek_43 rfl (lv_at hl 1 rfl) ?_
  refine lv_dup hx hb dX9_passWeek_44 rfl ?_
  refine g_get cx hP iw_X9_passWeek_X9 0 rfl rfl 5 (by decide) rfl fw_X9_passWeek_26 rfl dX9_passWeek_45 ?_
  refine lv_iload_n hx hb dX9_passWeek_48 rfl (lv_at hl 0 rfl) ?_
  refine lv_iadd hx hb dX9_passWeek_49 (lv_topi (fun v13 e13 => ?_))
  refine g_pt cx hP hD hS iw_X9_passWeek_X9 tyX9 tyX9_ok nmX9 0 rfl rfl 5 (by decide) rfl fw_X9_passWeek_26 (ty := .int) rfl rfl rfl (Nat.le_of_ble_eq_true rfl) dX9_passWeek_50 (fun H locs hP hD hS => ?_)
  have hP : va_P D vwCl [cell124_ qp sp r2 r5 1 v13, cell32_ qh sh, cell0_ k qh sh, cell1_ k qh sh, cell4_ k qh sh, cell3_ k qh sh, cell2_ k qh sh] H := hP
  have hD : va_D A [cell124_ qp sp r2 r5 1 v13, cell32_ qh sh, cell0_ k qh sh, cell1_ k qh sh, cell4_ k qh sh, cell3_ k qh sh, cell2_ k qh sh] := hD
  refine lv_iload_n hx hb dX9_passWeek_53 rfl (lv_at hl 0 rfl) ?_
  have hlit14 : (1 : Int32).toInt = 1 := by decide
  rw [hQ]
  exact x_i cx hr (r2, r5, 1, v13) hP hD hS ⟨(show 0 ≤ r2.toInt ∧ r2.toInt ≤ 400 ∧ tot r2 ≤ 4 from by omega), (show (1 : Int32).toInt = 1 from by omega), (show (r9, r2, r5, (1 : Int32), v13) = J_X9_passWeek sp sh p0 from by subst w3 w6 k12 e13; rfl)⟩ dX9_passWeek_54
theorem fw_X9_mayLeave_13 : Cond.fieldLink RX9 13 "StillInAugust$Summer" "hands" "I" ∈ wsX9_mayLeave := by decide +kernel
theorem fw_X9_mayLeave_22 : Cond.fieldLink RX9 22 "StillInAugust$Summer" "worked" "Z" ∈ wsX9_mayLeave := by decide +kernel
theorem iw_X9_mayLeave_X9 : ∀ w ∈ u_ws RX9 TX9 6, w ∈ wsX9_mayLeave := fun _ h => List.mem_cons_of_mem _ (List.mem_append_right _ h)
def J_X9_mayLeave (sp : Nat → Nat → Int32) (p0 : Int32) : Int32 := if (sp 0 4) = 0 then (0 : Int32) else if (J_X3_has (sp 0 1) p0) = 0 then (0 : Int32) else (1 : Int32)
set_option maxHeartbeats 4000000 in
set_option maxRecDepth 100000 in
theorem c_X9_mayLeave (l : Launch) (D : va_G) (k : Nat → ClassId) (b : Nat → Nat) (qp : Nat → Nat) (sp : Nat → Nat → Int32) (sz : Nat) (p0 : Int32) (s_h : 0 ≤ (sp 0 1).toInt ∧ (sp 0 1).toInt ≤ 400 ∧ tot (sp 0 1) ≤ 4) (s_k : 0 ≤ (sp 0 4).toInt ∧ (sp 0 4).toInt ≤ 1) (hg : 0 ≤ p0.toInt ∧ p0.toInt ≤ 444) : MetI l D k b yX9_mayLeave wsX9_mayLeave ({ frames := 1, cells := 0, slots := 0, locals := 21 } : Room) [cell36_ qp sp] sz [.ref (qp 0), .int p0] (fun (r : Int32) (u : Unit) => (0 ≤ r.toInt ∧ r.toInt ≤ 1) ∧ (Imp (r.toInt = 1) (hasI (sp 0 1) p0)) ∧ (r.toInt = 0 ∨ ¬ (sp 0 4).toInt = 0) ∧ (r = J_X9_mayLeave sp p0)) (fun u => [cell36_ qp sp]) := by
  refine g_enter (cc := cX9_mayLeave) (maxL := 2) (ret := (some .boolean)) (by decide) rfl (Nat.le_of_ble_eq_true rfl) ?_
  intro p e s m below meth c A hsz hAe cx hr hP hD hS ls hl
  rw [hAe]
  refine g_q (fun Q hQ => ?_)
  have hx := cx.1.1
  have hb := cx.1.2.1
  have bp0 := i_rng p0
  have hl : lv_has ls 2 [(0, .ref (qp 0)), (1, .int p0)] := hl
  obtain ⟨H, eH⟩ : ∃ H : Heap, H = s.heap := ⟨_, rfl⟩
  obtain ⟨locs, el⟩ : ∃ L : List Loc, L = [] := ⟨_, rfl⟩
  have hP : va_P D vwCl [cell36_ qp sp] H := by rw [eH]; exact hP
  have hD : va_D A [cell36_ qp sp] := hD
  have hS : va_S A s.heap H locs := by rw [eH, el]; exact hS
  suffices goal : W p l e ({ frames := 1, cells := 0, slots := 0, locals := 21 } : Room) s m ([.ref (qp 0), .int p0] : List Value).toArray below meth c H locs 0 0 Q (F0 m 0 ls []) by rw [eH, el] at goal; exact goal
  refine lv_aload_n hx hb dX9_mayLeave_0 rfl (lv_at hl 0 rfl) ?_
  refine g_get cx hP iw_X9_mayLeave_X9 0 rfl rfl 4 (by decide) rfl fw_X9_mayLeave_22 rfl dX9_mayLeave_1 ?_
  refine lv_if_eq (tgt := 22) hx hb dX9_mayLeave_4 (by decide) (fun c1 => ?_) (fun c1 => ?_)
  · have f1 : (sp 0 4).toInt = 0 := f_eq rfl (by decide) c1
    refine lv_iconst (v := 0) hx hb dX9_mayLeave_22 (by decide) ?_
    have hlit2 : (0 : Int32).toInt = 0 := by decide
    rw [hQ]
    exact x_z cx hr (by decide) () hP hD hS ⟨(show 0 ≤ (0 : Int32).toInt ∧ (0 : Int32).toInt ≤ 1 from by omega), (show Imp ((0 : Int32).toInt = 1) (hasI (sp 0 1) p0) from fun h => by first | exact absurd h (by decide) | assumption), (show (0 : Int32).toInt = 0 ∨ ¬ (sp 0 4).toInt = 0 from by omega), (show (0 : Int32) = J_X9_mayLeave sp p0 from by first | (refine Eq.symm ?_; refine Eq.trans (if_pos c1) ?_; rfl) | (unfold J_X9_mayLeave; try dsimp only; rw [if_pos c1]))⟩ dX9_mayLeave_23
  · have f1 : ¬ (sp 0 4).toInt = 0 := f_ne rfl (by decide) c1
    refine lv_aload_n hx hb dX9_mayLeave_7 rfl (lv_at hl 0 rfl) ?_
    refine g_get cx hP iw_X9_mayLeave_X9 0 rfl rfl 1 (by decide) rfl fw_X9_mayLeave_13 rfl dX9_mayLeave_8 ?_
    refine lv_iload_n hx hb dX9_mayLeave_11 rfl (lv_at hl 1 rfl) ?_
    refine g_ir (g_runS (wc := []) (rest := []) cx hP hD hS [] rfl (by decide) [.int (sp 0 1), .int p0] (c_X3_has l D k b H.size (sp 0 1) p0) gX9_mayLeave_X3_has rfl rfl rfl nd_X3_has ⟨Nat.le_of_ble_eq_true rfl, Nat.le_of_ble_eq_true rfl⟩ rfl hl.1 rfl (Nat.le_of_ble_eq_true rfl) ⟨Nat.zero_le _, Nat.zero_le _⟩ dX9_mayLeave_12) cx.2.2.1 hP hD hS [] rfl rfl (fun r4 H locs hw3 hP hS => ?_)
    have w5 : r4 = J_X3_has (sp 0 1) p0 := hw3
    clear hw3
    have zr4 := has_b w5
    refine lv_if_eq (tgt := 22) hx hb dX9_mayLeave_15 (by decide) (fun c6 => ?_) (fun c6 => ?_)
    · have f6 : r4.toInt = 0 := f_eq rfl (by decide) c6
      refine lv_iconst (v := 0) hx hb dX9_mayLeave_22 (by decide) ?_
      have hlit7 : (0 : Int32).toInt = 0 := by decide
      rw [hQ]
      exact x_z cx hr (by decide) () hP hD hS ⟨(show 0 ≤ (0 : Int32).toInt ∧ (0 : Int32).toInt ≤ 1 from by omega), (show Imp ((0 : Int32).toInt = 1) (hasI (sp 0 1) p0) from fun h => by first | exact absurd h (by decide) | assumption), (show (0 : Int32).toInt = 0 ∨ ¬ (sp 0 4).toInt = 0 from by omega), (show (0 : Int32) = J_X9_mayLeave sp p0 from by subst w5; first | (refine Eq.symm ?_; refine Eq.trans (if_neg c1) ?_; refine Eq.trans (if_pos c6) ?_; rfl) | (unfold J_X9_mayLeave; try dsimp only; rw [if_neg c1, if_pos c6]))⟩ dX9_mayLeave_23
    · have f6 : ¬ r4.toInt = 0 := f_ne rfl (by decide) c6
      have k6 : hasI (sp 0 1) p0 := has_t w5 c6 (by omega) (by omega)
      refine lv_iconst (v := 1) hx hb dX9_mayLeave_18 (by decide) ?_
      refine lv_goto (tgt := 23) hx hb dX9_mayLeave_19 (by decide) ?_
      have hlit8 : (1 : Int32).toInt = 1 := by decide
      rw [hQ]
      exact x_z cx hr (by decide) () hP hD hS ⟨(show 0 ≤ (1 : Int32).toInt ∧ (1 : Int32).toInt ≤ 1 from by omega), (show Imp ((1 : Int32).toInt = 1) (hasI (sp 0 1) p0) from fun h => by first | exact absurd h (by decide) | assumption), (show (1 : Int32).toInt = 0 ∨ ¬ (sp 0 4).toInt = 0 from by omega), (show (1 : Int32) = J_X9_mayLeave sp p0 from by subst w5; first | (refine Eq.symm ?_; refine Eq.trans (if_neg c1) ?_; refine Eq.trans (if_neg c6) ?_; rfl) | (unfold J_X9_mayLeave; try dsimp only; rw [if_neg c1, if_neg c6]))⟩ dX9_mayLeave_23
theorem fw_X9_passSunday_13 : Cond.fieldLink RX9 13 "StillInAugust$Summer" "hands" "I" ∈ wsX9_passSunday := by decide +kernel
theorem fw_X9_passSunday_16 : Cond.fieldLink RX9 16 "StillInAugust$Summer" "coming" "I" ∈ wsX9_passSunday := by decide +kernel
theorem fw_X9_passSunday_19 : Cond.fieldLink RX9 19 "StillInAugust$Summer" "ordered" "I" ∈ wsX9_passSunday := by decide +kernel
theorem fw_X9_passSunday_22 : Cond.fieldLink RX9 22 "StillInAugust$Summer" "worked" "Z" ∈ wsX9_passSunday := by decide +kernel
theorem fw_X9_passSunday_26 : Cond.fieldLink RX9 26 "StillInAugust$Summer" "costs" "I" ∈ wsX9_passSunday := by decide +kernel
theorem fw_X9_passSunday_29 : Cond.fieldLink RX9 29 "StillInAugust$House" "weeks" "I" ∈ wsX9_passSunday := by decide +kernel
theorem fw_X9_passSunday_7 : Cond.fieldLink RX9 7 "StillInAugust$Summer" "week" "I" ∈ wsX9_passSunday := by decide +kernel
theorem iw_X9_passSunday_X4 : ∀ w ∈ u_ws RX4 TX4 14, w ∈ wsX9_passSunday := fun _ h => List.mem_cons_of_mem _ (List.mem_append_right _ h)
theorem iw_X9_passSunday_X9 : ∀ w ∈ u_ws RX9 TX9 6, w ∈ wsX9_passSunday := fun _ h => List.mem_cons_of_mem _ (List.mem_append_left _ (List.mem_append_right _ h))
def J_X9_passSunday (sp : Nat → Nat → Int32) (sh : Nat → Nat → Int32) (p0 : Int32) : Int32 × Int32 × Int32 × Int32 × Int32 := if ((sp 0 0) + (1 : Int32)) = (sh 0 0) then let y11 := J_X4_bonusFor sh (J_X3_behindSunday (sp 0 1) p0); (((sp 0 0) + (1 : Int32)), (J_X3_behindSunday (sp 0 1) p0), (sp 0 3), (0 : Int32), ((sp 0 5) + y11)) else (((sp 0 0) + (1 : Int32)), (J_X3_behindSunday (sp 0 1) p0), (sp 0 3), (0 : Int32), (sp 0 5))
set_option maxHeartbeats 4000000 in
set_option maxRecDepth 100000 in
theorem c_X9_passSunday (l : Launch) (D : va_G) (k : Nat → ClassId) (b : Nat → Nat) (qp : Nat → Nat) (sp : Nat → Nat → Int32) (qh : Nat → Nat) (sh : Nat → Nat → Int32) (sz : Nat) (p0 : Int32) (s_h : 0 ≤ (sp 0 1).toInt ∧ (sp 0 1).toInt ≤ 400 ∧ tot (sp 0 1) ≤ 4) (s_w4 : 0 ≤ (sp 0 0).toInt ∧ (sp 0 0).toInt ≤ 4) (hs : hasI (sp 0 1) p0) (hg : 0 ≤ p0.toInt ∧ p0.toInt ≤ 444) (h_wk : 0 ≤ (sh 0 0).toInt ∧ (sh 0 0).toInt ≤ 5) : MetV l D k b yX9_passSunday wsX9_passSunday ({ frames := 2, cells := 0, slots := 0, locals := 41 } : Room) [cell36_ qp sp, cell32_ qh sh, cell0_ k qh sh, cell1_ k qh sh, cell4_ k qh sh, cell3_ k qh sh, cell2_ k qh sh] sz [.ref (qp 0), .ref (qh 0), .int p0] (fun (u : Int32 × Int32 × Int32 × Int32 × Int32) => (0 ≤ (u.2.1).toInt ∧ (u.2.1).toInt ≤ 400 ∧ tot (u.2.1) ≤ 4) ∧ (0 ≤ (u.1).toInt ∧ (u.1).toInt ≤ 5) ∧ ((u.2.2.2.1).toInt = 0) ∧ (((u.1), (u.2.1), (u.2.2.1), (u.2.2.2.1), (u.2.2.2.2)) = J_X9_passSunday sp sh p0)) (fun u => [(qp 0, .inr (7, [.int (u.1), .int (u.2.1), .int (u.2.2.1), .int (sp 0 3), .int (u.2.2.2.1), .int (u.2.2.2.2)])), cell32_ qh sh, cell0_ k qh sh, cell1_ k qh sh, cell4_ k qh sh, cell3_ k qh sh, cell2_ k qh sh]) := by
  refine g_enter (cc := cX9_passSunday) (maxL := 3) (ret := none) (by decide) rfl (Nat.le_of_ble_eq_true rfl) ?_
  intro p e s m below meth c A hsz hAe cx hr hP hD hS ls hl
  rw [hAe]
  refine g_q (fun Q hQ => ?_)
  have hx := cx.1.1
  have hb := cx.1.2.1
  have bp0 := i_rng p0
  have hl : lv_has ls 3 [(0, .ref (qp 0)), (1, .ref (qh 0)), (2, .int p0)] := hl
  obtain ⟨H, eH⟩ : ∃ H : Heap, H = s.heap := ⟨_, rfl⟩
  obtain ⟨locs, el⟩ : ∃ L : List Loc, L = [] := ⟨_, rfl⟩
  have hP : va_P D vwCl [cell36_ qp sp, cell32_ qh sh, cell0_ k qh sh, cell1_ k qh sh, cell4_ k qh sh, cell3_ k qh sh, cell2_ k qh sh] H := by rw [eH]; exact hP
  have hD : va_D A [cell36_ qp sp, cell32_ qh sh, cell0_ k qh sh, cell1_ k qh sh, cell4_ k qh sh, cell3_ k qh sh, cell2_ k qh sh] := hD
  have hS : va_S A s.heap H locs := by rw [eH, el]; exact hS
  suffices goal : W p l e ({ frames := 2, cells := 0, slots := 0, locals := 41 } : Room) s m ([.ref (qp 0), .ref (qh 0), .int p0] : List Value).toArray below meth c H locs 0 0 Q (F0 m 0 ls []) by rw [eH, el] at goal; exact goal
  refine lv_aload_n hx hb dX9_passSunday_0 rfl (lv_at hl 0 rfl) ?_
  refine lv_aload_n hx hb dX9_passSunday_1 rfl (lv_at hl 0 rfl) ?_
  refine g_get cx hP iw_X9_passSunday_X9 0 rfl rfl 1 (by decide) rfl fw_X9_passSunday_13 rfl dX9_passSunday_2 ?_
  refine lv_iload_n hx hb dX9_passSunday_5 rfl (lv_at hl 2 rfl) ?_
  refine g_ir (g_runS (wc := []) (rest := [.ref (qp 0)]) cx hP hD hS [] rfl (by decide) [.int (sp 0 1), .int p0] (c_X3_behindSunday l D k b H.size (sp 0 1) p0) gX9_passSunday_X3_behindSunday rfl rfl rfl nd_X3_behindSunday ⟨Nat.le_of_ble_eq_true rfl, Nat.le_of_ble_eq_true rfl⟩ rfl hl.1 rfl (Nat.le_of_ble_eq_true rfl) ⟨Nat.zero_le _, Nat.zero_le _⟩ dX9_passSunday_6) cx.2.2.1 hP hD hS [] rfl rfl (fun r2 H locs hw1 hP hS => ?_)
  have w3 : r2 = J_X3_behindSunday (sp 0 1) p0 := hw1
  clear hw1
  have bs := bs_t w3 s_h (by omega) hs
  refine g_pt cx hP hD hS iw_X9_passSunday_X9 tyX9 tyX9_ok nmX9 0 rfl rfl 1 (by decide) rfl fw_X9_passSunday_13 (ty := .int) rfl rfl rfl (Nat.le_of_ble_eq_true rfl) dX9_passSunday_9 (fun H locs hP hD hS => ?_)
  have hP : va_P D vwCl [cell205_ qp sp r2, cell32_ qh sh, cell0_ k qh sh, cell1_ k qh sh, cell4_ k qh sh, cell3_ k qh sh, cell2_ k qh sh] H := hP
  have hD : va_D A [cell205_ qp sp r2, cell32_ qh sh, cell0_ k qh sh, cell1_ k qh sh, cell4_ k qh sh, cell3_ k qh sh, cell2_ k qh sh] := hD
  refine lv_aload_n hx hb dX9_passSunday_12 rfl (lv_at hl 0 rfl) ?_
  refine lv_aload_n hx hb dX9_passSunday_13 rfl (lv_at hl 0 rfl) ?_
  refine g_get cx hP iw_X9_passSunday_X9 0 rfl rfl 3 (by decide) rfl fw_X9_passSunday_19 rfl dX9_passSunday_14 ?_
  refine g_pt cx hP hD hS iw_X9_passSunday_X9 tyX9 tyX9_ok nmX9 0 rfl rfl 2 (by decide) rfl fw_X9_passSunday_16 (ty := .int) rfl rfl rfl (Nat.le_of_ble_eq_true rfl) dX9_passSunday_17 (fun H locs hP hD hS => ?_)
  have hP : va_P D vwCl [(qp 0, .inr (7, [.int (sp 0 0), .int r2, .int (sp 0 3), .int (sp 0 3), .int (sp 0 4), .int (sp 0 5)])), cell32_ qh sh, cell0_ k qh sh, cell1_ k qh sh, cell4_ k qh sh, cell3_ k qh sh, cell2_ k qh sh] H := hP
  have hD : va_D A [(qp 0, .inr (7, [.int (sp 0 0), .int r2, .int (sp 0 3), .int (sp 0 3), .int (sp 0 4), .int (sp 0 5)])), cell32_ qh sh, cell0_ k qh sh, cell1_ k qh sh, cell4_ k qh sh, cell3_ k qh sh, cell2_ k qh sh] := hD
  refine lv_aload_n hx hb dX9_passSunday_20 rfl (lv_at hl 0 rfl) ?_
  refine lv_iconst (v := 0) hx hb dX9_passSunday_21 (by decide) ?_
  refine g_pt cx hP hD hS iw_X9_passSunday_X9 tyX9 tyX9_ok nmX9 0 rfl rfl 4 (by decide) rfl fw_X9_passSunday_22 (ty := .boolean) rfl rfl rfl (Nat.le_of_ble_eq_true rfl) dX9_passSunday_22 (fun H locs hP hD hS => ?_)
  have hP : va_P D vwCl [(qp 0, .inr (7, [.int (sp 0 0), .int r2, .int (sp 0 3), .int (sp 0 3), .int 0, .int (sp 0 5)])), cell32_ qh sh, cell0_ k qh sh, cell1_ k qh sh, cell4_ k qh sh, cell3_ k qh sh, cell2_ k qh sh] H := hP
  have hD : va_D A [(qp 0, .inr (7, [.int (sp 0 0), .int r2, .int (sp 0 3), .int (sp 0 3), .int 0, .int (sp 0 5)])), cell32_ qh sh, cell0_ k qh sh, cell1_ k qh sh, cell4_ k qh sh, cell3_ k qh sh, cell2_ k qh sh] := hD
  have hlit4 : (0 : Int32).toInt = 0 := by decide
  refine lv_aload_n hx hb dX9_passSunday_25 rfl (lv_at hl 0 rfl) ?_
  refine lv_dup hx hb dX9_passSunday_26 rfl ?_
  refine g_get cx hP iw_X9_passSunday_X9 0 rfl rfl 0 (by decide) rfl fw_X9_passSunday_7 rfl dX9_passSunday_27 ?_
  refine lv_iconst (v := 1) hx hb dX9_passSunday_30 (by decide) ?_
  refine lv_iadd hx hb dX9_passSunday_31 (lv_topi (fun v5 e5 => ?_))
  have t5 : v5.toInt = (sp 0 0).toInt + 1 := by rw [e5]; exact i_add rfl (by decide) (by omega) (by omega)
  refine g_pt cx hP hD hS iw_X9_passSunday_X9 tyX9 tyX9_ok nmX9 0 rfl rfl 0 (by decide) rfl fw_X9_passSunday_7 (ty := .int) rfl rfl rfl (Nat.le_of_ble_eq_true rfl) dX9_passSunday_32 (fun H locs hP hD hS => ?_)
  have hP : va_P D vwCl [(qp 0, .inr (7, [.int v5, .int r2, .int (sp 0 3), .int (sp 0 3), .int 0, .int (sp 0 5)])), cell32_ qh sh, cell0_ k qh sh, cell1_ k qh sh, cell4_ k qh sh, cell3_ k qh sh, cell2_ k qh sh] H := hP
  have hD : va_D A [(qp 0, .inr (7, [.int v5, .int r2, .int (sp 0 3), .int (sp 0 3), .int 0, .int (sp 0 5)])), cell32_ qh sh, cell0_ k qh sh, cell1_ k qh sh, cell4_ k qh sh, cell3_ k qh sh, cell2_ k qh sh] := hD
  refine lv_aload_n hx hb dX9_passSunday_35 rfl (lv_at hl 0 rfl) ?_
  refine g_get cx hP iw_X9_passSunday_X9 0 rfl rfl 0 (by decide) rfl fw_X9_passSunday_7 rfl dX9_passSunday_36 ?_
  refine lv_aload_n hx hb dX9_passSunday_39 rfl (lv_at hl 1 rfl) ?_
  refine g_get cx hP iw_X9_passSunday_X4 1 rfl rfl 0 (by decide) rfl fw_X9_passSunday_29 rfl dX9_passSunday_40 ?_
  refine lv_icmp_ne (tgt := 63) hx hb dX9_passSunday_43 (by decide) (fun c6 => ?_) (fun c6 => ?_)
  · have f6 : ¬ v5.toInt = (sh 0 0).toInt := f_ne rfl rfl c6
    have hlit7 : (0 : Int32).toInt = 0 := by decide
    rw [hQ]
    exact x_v cx hr (v5, r2, (sp 0 3), 0, (sp 0 5)) hP hD hS ⟨(show 0 ≤ r2.toInt ∧ r2.toInt ≤ 400 ∧ tot r2 ≤ 4 from by omega), (show 0 ≤ v5.toInt ∧ v5.toInt ≤ 5 from by omega), (show (0 : Int32).toInt = 0 from by omega), (show (v5, r2, (sp 0 3), (0 : Int32), (sp 0 5)) = J_X9_passSunday sp sh p0 from by subst w3 e5; first | (refine Eq.symm ?_; refine Eq.trans (if_neg c6) ?_; rfl) | (unfold J_X9_passSunday; try dsimp only; rw [if_neg c6]))⟩ dX9_passSunday_63
  · have f6 : v5.toInt = (sh 0 0).toInt := f_eq rfl rfl c6
    refine lv_aload_n hx hb dX9_passSunday_46 rfl (lv_at hl 0 rfl) ?_
    refine lv_dup hx hb dX9_passSunday_47 rfl ?_
    refine g_get cx hP iw_X9_passSunday_X9 0 rfl rfl 5 (by decide) rfl fw_X9_passSunday_26 rfl dX9_passSunday_48 ?_
    refine lv_aload_n hx hb dX9_passSunday_51 rfl (lv_at hl 1 rfl) ?_
    refine lv_aload_n hx hb dX9_passSunday_52 rfl (lv_at hl 0 rfl) ?_
    refine g_get cx hP iw_X9_passSunday_X9 0 rfl rfl 1 (by decide) rfl fw_X9_passSunday_13 rfl dX9_passSunday_53 ?_
    refine g_ir (g_runV (wc := [cell32_ qh sh, cell0_ k qh sh, cell1_ k qh sh, cell4_ k qh sh, cell3_ k qh sh, cell2_ k qh sh]) (rest := [.int (sp 0 5), .ref (qp 0)]) cx hP hD hS [1, 2, 3, 4, 5, 6] rfl (by decide) [.int r2] (c_X4_bonusFor l D k b qh sh H.size r2) gX9_passSunday_X4_bonusFor rfl rfl rfl nd_X4_bonusFor ⟨Nat.le_of_ble_eq_true rfl, Nat.le_of_ble_eq_true rfl⟩ (ci := 2) (q0 := 0) rfl rfl rfl hl.1 rfl (Nat.le_of_ble_eq_true rfl) ⟨Nat.zero_le _, Nat.zero_le _⟩ dX9_passSunday_56) cx.2.2.1 hP hD hS [1, 2, 3, 4, 5, 6] rfl rfl (fun r9 H locs hw8 hP hS => ?_)
    have w10 : r9 = J_X4_bonusFor sh r2 := hw8
    clear hw8
    have k12 : r9 = (J_X4_bonusFor sh r2) := congrArg (fun z => z) w10
    refine lv_iadd hx hb dX9_passSunday_59 (lv_topi (fun v13 e13 => ?_))
    refine g_pt cx hP hD hS iw_X9_passSunday_X9 tyX9 tyX9_ok nmX9 0 rfl rfl 5 (by decide) rfl fw_X9_passSunday_26 (ty := .int) rfl rfl rfl (Nat.le_of_ble_eq_true rfl) dX9_passSunday_60 (fun H locs hP hD hS => ?_)
    have hP : va_P D vwCl [(qp 0, .inr (7, [.int v5, .int r2, .int (sp 0 3), .int (sp 0 3), .int 0, .int v13])), cell32_ qh sh, cell0_ k qh sh, cell1_ k qh sh, cell4_ k qh sh, cell3_ k qh sh, cell2_ k qh sh] H := hP
    have hD : va_D A [(qp 0, .inr (7, [.int v5, .int r2, .int (sp 0 3), .int (sp 0 3), .int 0, .int v13])), cell32_ qh sh, cell0_ k qh sh, cell1_ k qh sh, cell4_ k qh sh, cell3_ k qh sh, cell2_ k qh sh] := hD
    have hlit14 : (0 : Int32).toInt = 0 := by decide
    rw [hQ]
    exact x_v cx hr (v5, r2, (sp 0 3), 0, v13) hP hD hS ⟨(show 0 ≤ r2.toInt ∧ r2.toInt ≤ 400 ∧ tot r2 ≤ 4 from by omega), (show 0 ≤ v5.toInt ∧ v5.toInt ≤ 5 from by omega), (show (0 : Int32).toInt = 0 from by omega), (show (v5, r2, (sp 0 3), (0 : Int32), v13) = J_X9_passSunday sp sh p0 from by subst w3 e5 k12 e13; first | (refine Eq.symm ?_; refine Eq.trans (if_pos c6) ?_; rfl) | (unfold J_X9_passSunday; try dsimp only; rw [if_pos c6]))⟩ dX9_passSunday_63
theorem fw_X7_append_15 : Cond.fieldLink RX7 15 "StillInAugust$Row" "leavers" "[I" ∈ wsX7_append := by decide +kernel
theorem fw_X7_append_25 : Cond.fieldLink RX7 25 "StillInAugust$Row" "length" "I" ∈ wsX7_append := by decide +kernel
theorem fw_X7_append_9 : Cond.fieldLink RX7 9 "StillInAugust$Row" "acts" "[I" ∈ wsX7_append := by decide +kernel
theorem iw_X7_append_X7 : ∀ w ∈ u_ws RX7 TX7 9, w ∈ wsX7_append := fun _ h => List.mem_cons_of_mem _ (List.mem_append_right _ h)
def J_X7_append (sr : Nat → Nat → Int32) (tr : Nat → Nat → Int64) (sp : Nat → Nat → Int32) (p0 : Int32) (p1 : Int32) : (Nat → Int32) × (Nat → Int32) × Int32 := ((upd (sr 1) ((sr 0 2)).toNatClampNeg p0), (upd (sr 2) ((sr 0 2)).toNatClampNeg p1), ((sr 0 2) + (1 : Int32)))
set_option maxHeartbeats 4000000 in
set_option maxRecDepth 100000 in
theorem c_X7_append (l : Launch) (D : va_G) (k : Nat → ClassId) (b : Nat → Nat) (qr : Nat → Nat) (sr : Nat → Nat → Int32) (tr : Nat → Nat → Int64) (qp : Nat → Nat) (sp : Nat → Nat → Int32) (sz : Nat) (p0 : Int32) (p1 : Int32) (r_l : 0 ≤ (sr 0 2).toInt ∧ (sr 0 2).toInt ≤ 4) (r_a : ∀ j, 0 ≤ (sr 1 j).toInt ∧ (sr 1 j).toInt ≤ 9999) (r_g : ∀ j, 0 ≤ (sr 2 j).toInt ∧ (sr 2 j).toInt ≤ 444) (hp0 : 0 ≤ p0.toInt ∧ p0.toInt ≤ 9999) (hp1 : 0 ≤ p1.toInt ∧ p1.toInt ≤ 444) : MetV l D k b yX7_append wsX7_append ({ frames := 0, cells := 0, slots := 0, locals := 0 } : Room) [cell117_ qr sr qp tr, cell0_ k qr sr, cell1_ k qr sr, cell36_ qp sp] sz [.ref (qr 0), .int p0, .int p1] (fun (u : (Nat → Int32) × (Nat → Int32) × Int32) => (∀ j, 0 ≤ ((u.1) j).toInt ∧ ((u.1) j).toInt ≤ 9999) ∧ (∀ j, 0 ≤ ((u.2.1) j).toInt ∧ ((u.2.1) j).toInt ≤ 444) ∧ ((u.2.2).toInt = (sr 0 2).toInt + 1) ∧ (((u.1), (u.2.1), (u.2.2)) = J_X7_append sr tr sp p0 p1)) (fun u => [cell213_ qr qp sr tr (u.2.2), cell85_ k qr (u.1), cell97_ k qr (u.2.1), cell36_ qp sp]) := by
  refine g_enter (cc := cX7_append) (maxL := 3) (ret := none) (by decide) rfl (Nat.le_of_ble_eq_true rfl) ?_
  intro p e s m below meth c A hsz hAe cx hr hP hD hS ls hl
  rw [hAe]
  refine g_q (fun Q hQ => ?_)
  have hx := cx.1.1
  have hb := cx.1.2.1
  have bp0 := i_rng p0
  have bp1 := i_rng p1
  have hl : lv_has ls 3 [(0, .ref (qr 0)), (1, .int p0), (2, .int p1)] := hl
  obtain ⟨H, eH⟩ : ∃ H : Heap, H = s.heap := ⟨_, rfl⟩
  obtain ⟨locs, el⟩ : ∃ L : List Loc, L = [] := ⟨_, rfl⟩
  have hP : va_P D vwCl [cell117_ qr sr qp tr, cell0_ k qr sr, cell1_ k qr sr, cell36_ qp sp] H := by rw [eH]; exact hP
  have hD : va_D A [cell117_ qr sr qp tr, cell0_ k qr sr, cell1_ k qr sr, cell36_ qp sp] := hD
  have hS : va_S A s.heap H locs := by rw [eH, el]; exact hS
  suffices goal : W p l e ({ frames := 0, cells := 0, slots := 0, locals := 0 } : Room) s m ([.ref (qr 0), .int p0, .int p1] : List Value).toArray below meth c H locs 0 0 Q (F0 m 0 ls []) by rw [eH, el] at goal; exact goal
  refine lv_aload_n hx hb dX7_append_0 rfl (lv_at hl 0 rfl) ?_
  refine g_get cx hP iw_X7_append_X7 0 rfl rfl 0 (by decide) rfl fw_X7_append_9 rfl dX7_append_1 ?_
  refine lv_aload_n hx hb dX7_append_4 rfl (lv_at hl 0 rfl) ?_
  refine g_get cx hP iw_X7_append_X7 0 rfl rfl 2 (by decide) rfl fw_X7_append_25 rfl dX7_append_5 ?_
  refine lv_iload_n hx hb dX7_append_8 rfl (lv_at hl 1 rfl) ?_
  have hn1 : vp_in (sr 0 2) 5 := f_in (a := (sr 0 2).toInt) rfl (by omega) (by omega)
  refine va_iast hx hb cx.2.1 hP hD hS 1 0 rfl rfl hn1 dX7_append_9 (fun H locs hP hD hS => ?_)
  obtain ⟨g2, eg2⟩ : ∃ g : Nat → Int32, g = upd (sr 1) ((sr 0 2)).toNatClampNeg p0 := ⟨_, rfl⟩
  rw [← eg2] at hP hD
  have hP : va_P D vwCl [cell117_ qr sr qp tr, (qr 1, .inl (k 0, 5, .inl g2)), cell1_ k qr sr, cell36_ qp sp] H := hP
  have hD : va_D A [cell117_ qr sr qp tr, (qr 1, .inl (k 0, 5, .inl g2)), cell1_ k qr sr, cell36_ qp sp] := hD
  have ag2 : ∀ j, 0 ≤ (g2 j).toInt ∧ (g2 j).toInt ≤ 9999 := by rw [eg2]; exact upd_all r_a ⟨by first | decide | omega, by first | decide | omega⟩
  refine lv_aload_n hx hb dX7_append_10 rfl (lv_at hl 0 rfl) ?_
  refine g_get cx hP iw_X7_append_X7 0 rfl rfl 1 (by decide) rfl fw_X7_append_15 rfl dX7_append_11 ?_
  refine lv_aload_n hx hb dX7_append_14 rfl (lv_at hl 0 rfl) ?_
  refine g_get cx hP iw_X7_append_X7 0 rfl rfl 2 (by decide) rfl fw_X7_append_25 rfl dX7_append_15 ?_
  refine lv_iload_n hx hb dX7_append_18 rfl (lv_at hl 2 rfl) ?_
  have hn3 : vp_in (sr 0 2) 5 := f_in (a := (sr 0 2).toInt) rfl (by omega) (by omega)
  refine va_iast hx hb cx.2.1 hP hD hS 2 0 rfl rfl hn3 dX7_append_19 (fun H locs hP hD hS => ?_)
  obtain ⟨g4, eg4⟩ : ∃ g : Nat → Int32, g = upd (sr 2) ((sr 0 2)).toNatClampNeg p1 := ⟨_, rfl⟩
  rw [← eg4] at hP hD
  have hP : va_P D vwCl [cell117_ qr sr qp tr, (qr 1, .inl (k 0, 5, .inl g2)), (qr 2, .inl (k 0, 5, .inl g4)), cell36_ qp sp] H := hP
  have hD : va_D A [cell117_ qr sr qp tr, (qr 1, .inl (k 0, 5, .inl g2)), (qr 2, .inl (k 0, 5, .inl g4)), cell36_ qp sp] := hD
  have ag4 : ∀ j, 0 ≤ (g4 j).toInt ∧ (g4 j).toInt ≤ 444 := by rw [eg4]; exact upd_all r_g ⟨by first | decide | omega, by first | decide | omega⟩
  refine lv_aload_n hx hb dX7_append_20 rfl (lv_at hl 0 rfl) ?_
  refine lv_dup hx hb dX7_append_21 rfl ?_
  refine g_get cx hP iw_X7_append_X7 0 rfl rfl 2 (by decide) rfl fw_X7_append_25 rfl dX7_append_22 ?_
  refine lv_iconst (v := 1) hx hb dX7_append_25 (by decide) ?_
  refine lv_iadd hx hb dX7_append_26 (lv_topi (fun v5 e5 => ?_))
  have t5 : v5.toInt = (sr 0 2).toInt + 1 := by rw [e5]; exact i_add rfl (by decide) (by omega) (by omega)
  refine g_pt cx hP hD hS iw_X7_append_X7 tyX7 tyX7_ok nmX7 0 rfl rfl 2 (by decide) rfl fw_X7_append_25 (ty := .int) rfl rfl rfl (Nat.le_of_ble_eq_true rfl) dX7_append_27 (fun H locs hP hD hS => ?_)
  have hP : va_P D vwCl [cell213_ qr qp sr tr v5, (qr 1, .inl (k 0, 5, .inl g2)), (qr 2, .inl (k 0, 5, .inl g4)), cell36_ qp sp] H := hP
  have hD : va_D A [cell213_ qr qp sr tr v5, (qr 1, .inl (k 0, 5, .inl g2)), (qr 2, .inl (k 0, 5, .inl g4)), cell36_ qp sp] := hD
  rw [hQ]
  exact x_v cx hr (g2, g4, v5) hP hD hS ⟨ag2, ag4, (show v5.toInt = (sr 0 2).toInt + 1 from by omega), (show (g2, g4, v5) = J_X7_append sr tr sp p0 p1 from by subst eg2 eg4 e5; rfl)⟩ dX7_append_30
theorem fw_X7_noteLoss_35 : Cond.fieldLink RX7 35 "StillInAugust$Row" "worstWeek" "I" ∈ wsX7_noteLoss := by decide +kernel
theorem fw_X7_noteLoss_38 : Cond.fieldLink RX7 38 "StillInAugust$Row" "mostLost" "I" ∈ wsX7_noteLoss := by decide +kernel
theorem iw_X7_noteLoss_X7 : ∀ w ∈ u_ws RX7 TX7 9, w ∈ wsX7_noteLoss := fun _ h => List.mem_cons_of_mem _ (List.mem_append_right _ h)
def J_X7_noteLoss (sr : Nat → Nat → Int32) (tr : Nat → Nat → Int64) (sp : Nat → Nat → Int32) (p0 : Int32) (p1 : Int32) : Int32 × Int32 := if p1 ≤ (sr 0 6) then ((sr 0 5), (sr 0 6)) else (p0, p1)
set_option maxHeartbeats 4000000 in
set_option maxRecDepth 100000 in
theorem c_X7_noteLoss (l : Launch) (D : va_G) (k : Nat → ClassId) (b : Nat → Nat) (qr : Nat → Nat) (sr : Nat → Nat → Int32) (tr : Nat → Nat → Int64) (qp : Nat → Nat) (sp : Nat → Nat → Int32) (sz : Nat) (p0 : Int32) (p1 : Int32) : MetV l D k b yX7_noteLoss wsX7_noteLoss ({ frames := 0, cells := 0, slots := 0, locals := 0 } : Room) [cell117_ qr sr qp tr, cell0_ k qr sr, cell1_ k qr sr, cell36_ qp sp] sz [.ref (qr 0), .int p0, .int p1] (fun (u : Int32 × Int32) => ((u.1), (u.2)) = J_X7_noteLoss sr tr sp p0 p1) (fun u => [cell214_ qr sr qp tr (u.1) (u.2), cell0_ k qr sr, cell1_ k qr sr, cell36_ qp sp]) := by
  refine g_enter (cc := cX7_noteLoss) (maxL := 3) (ret := none) (by decide) rfl (Nat.le_of_ble_eq_true rfl) ?_
  intro p e s m below meth c A hsz hAe cx hr hP hD hS ls hl
  rw [hAe]
  refine g_q (fun Q hQ => ?_)
  have hx := cx.1.1
  have hb := cx.1.2.1
  have bp0 := i_rng p0
  have bp1 := i_rng p1
  have hl : lv_has ls 3 [(0, .ref (qr 0)), (1, .int p0), (2, .int p1)] := hl
  obtain ⟨H, eH⟩ : ∃ H : Heap, H = s.heap := ⟨_, rfl⟩
  obtain ⟨locs, el⟩ : ∃ L : List Loc, L = [] := ⟨_, rfl⟩
  have hP : va_P D vwCl [cell117_ qr sr qp tr, cell0_ k qr sr, cell1_ k qr sr, cell36_ qp sp] H := by rw [eH]; exact hP
  have hD : va_D A [cell117_ qr sr qp tr, cell0_ k qr sr, cell1_ k qr sr, cell36_ qp sp] := hD
  have hS : va_S A s.heap H locs := by rw [eH, el]; exact hS
  suffices goal : W p l e ({ frames := 0, cells := 0, slots := 0, locals := 0 } : Room) s m ([.ref (qr 0), .int p0, .int p1] : List Value).toArray below meth c H locs 0 0 Q (F0 m 0 ls []) by rw [eH, el] at goal; exact goal
  refine lv_iload_n hx hb dX7_noteLoss_0 rfl (lv_at hl 2 rfl) ?_
  refine lv_aload_n hx hb dX7_noteLoss_1 rfl (lv_at hl 0 rfl) ?_
  refine g_get cx hP iw_X7_noteLoss_X7 0 rfl rfl 6 (by decide) rfl fw_X7_noteLoss_38 rfl dX7_noteLoss_2 ?_
  refine lv_icmp_le (tgt := 18) hx hb dX7_noteLoss_5 (by decide) (fun c1 => ?_) (fun c1 => ?_)
  · have f1 : p1.toInt ≤ (sr 0 6).toInt := f_le rfl rfl c1
    rw [hQ]
    exact x_v cx hr ((sr 0 5), (sr 0 6)) hP hD hS (show ((sr 0 5), (sr 0 6)) = J_X7_noteLoss sr tr sp p0 p1 from by first | (refine Eq.symm ?_; refine Eq.trans (if_pos c1) ?_; rfl) | (unfold J_X7_noteLoss; try dsimp only; rw [if_pos c1])) dX7_noteLoss_18
  · have f1 : (sr 0 6).toInt < p1.toInt := f_nle rfl rfl c1
    refine lv_aload_n hx hb dX7_noteLoss_8 rfl (lv_at hl 0 rfl) ?_
    refine lv_iload_n hx hb dX7_noteLoss_9 rfl (lv_at hl 2 rfl) ?_
    refine g_pt cx hP hD hS iw_X7_noteLoss_X7 tyX7 tyX7_ok nmX7 0 rfl rfl 6 (by decide) rfl fw_X7_noteLoss_38 (ty := .int) rfl rfl rfl (Nat.le_of_ble_eq_true rfl) dX7_noteLoss_10 (fun H locs hP hD hS => ?_)
    have hP : va_P D vwCl [(qr 0, .inr (5, [.ref (qr 1), .ref (qr 2), .int (sr 0 2), .ref (qp 0), .int (sr 0 4), .int (sr 0 5), .int p1, .long (tr 0 7), .long (tr 0 8)])), cell0_ k qr sr, cell1_ k qr sr, cell36_ qp sp] H := hP
    have hD : va_D A [(qr 0, .inr (5, [.ref (qr 1), .ref (qr 2), .int (sr 0 2), .ref (qp 0), .int (sr 0 4), .int (sr 0 5), .int p1, .long (tr 0 7), .long (tr 0 8)])), cell0_ k qr sr, cell1_ k qr sr, cell36_ qp sp] := hD
    refine lv_aload_n hx hb dX7_noteLoss_13 rfl (lv_at hl 0 rfl) ?_
    refine lv_iload_n hx hb dX7_noteLoss_14 rfl (lv_at hl 1 rfl) ?_
    refine g_pt cx hP hD hS iw_X7_noteLoss_X7 tyX7 tyX7_ok nmX7 0 rfl rfl 5 (by decide) rfl fw_X7_noteLoss_35 (ty := .int) rfl rfl rfl (Nat.le_of_ble_eq_true rfl) dX7_noteLoss_15 (fun H locs hP hD hS => ?_)
    have hP : va_P D vwCl [cell214_ qr sr qp tr p0 p1, cell0_ k qr sr, cell1_ k qr sr, cell36_ qp sp] H := hP
    have hD : va_D A [cell214_ qr sr qp tr p0 p1, cell0_ k qr sr, cell1_ k qr sr, cell36_ qp sp] := hD
    rw [hQ]
    exact x_v cx hr (p0, p1) hP hD hS (show (p0, p1) = J_X7_noteLoss sr tr sp p0 p1 from by first | (refine Eq.symm ?_; refine Eq.trans (if_neg c1) ?_; rfl) | (unfold J_X7_noteLoss; try dsimp only; rw [if_neg c1])) dX7_noteLoss_18
theorem fw_X7_judgeWeek_21 : Cond.fieldLink RX7 21 "StillInAugust$Row" "past" "LStillInAugust$Summer;" ∈ wsX7_judgeWeek := by decide +kernel
theorem fw_X7_judgeWeek_32 : Cond.fieldLink RX7 32 "StillInAugust$Row" "wrongWeek" "I" ∈ wsX7_judgeWeek := by decide +kernel
theorem fw_X7_judgeWeek_41 : Cond.fieldLink RX7 41 "StillInAugust$Row" "chance" "J" ∈ wsX7_judgeWeek := by decide +kernel
theorem fw_X7_judgeWeek_45 : Cond.fieldLink RX7 45 "StillInAugust$Row" "scale" "J" ∈ wsX7_judgeWeek := by decide +kernel
theorem fw_X7_judgeWeek_56 : Cond.fieldLink RX7 56 "StillInAugust$Summer" "week" "I" ∈ wsX7_judgeWeek := by decide +kernel
theorem fw_X7_judgeWeek_63 : Cond.fieldLink RX7 63 "StillInAugust$Summer" "hands" "I" ∈ wsX7_judgeWeek := by decide +kernel
theorem fw_X7_judgeWeek_74 : Cond.fieldLink RX7 74 "StillInAugust$Summer" "coming" "I" ∈ wsX7_judgeWeek := by decide +kernel
theorem fw_X7_judgeWeek_87 : Cond.fieldLink RX7 87 "StillInAugust$House" "shortPrice" "I" ∈ wsX7_judgeWeek := by decide +kernel
theorem kJ_X7_judgeWeek_72 : Cond.constantLong RX7 72 (625) ∈ wsX7_judgeWeek := by decide +kernel
theorem nd_X7_noteLoss : yX7_noteLoss.cls = RX7 ∧ yX7_noteLoss.cls ≠ "java/lang/invoke/MethodHandle" ∧ yX7_noteLoss.cls ≠ "java/lang/invoke/VarHandle" ∧ (parseMethodDescriptor yX7_noteLoss.desc).map (fun d => d.parameters.length) = some 2 := by decide +kernel
theorem nd_X9_mayAct : yX9_mayAct.cls = RX9 ∧ yX9_mayAct.cls ≠ "java/lang/invoke/MethodHandle" ∧ yX9_mayAct.cls ≠ "java/lang/invoke/VarHandle" ∧ (parseMethodDescriptor yX9_mayAct.desc).map (fun d => d.parameters.length) = some 2 := by decide +kernel
theorem nd_X9_passSunday : yX9_passSunday.cls = RX9 ∧ yX9_passSunday.cls ≠ "java/lang/invoke/MethodHandle" ∧ yX9_passSunday.cls ≠ "java/lang/invoke/VarHandle" ∧ (parseMethodDescriptor yX9_passSunday.desc).map (fun d => d.parameters.length) = some 2 := by decide +kernel
theorem nd_X9_passWeek : yX9_passWeek.cls = RX9 ∧ yX9_passWeek.cls ≠ "java/lang/invoke/MethodHandle" ∧ yX9_passWeek.cls ≠ "java/lang/invoke/VarHandle" ∧ (parseMethodDescriptor yX9_passWeek.desc).map (fun d => d.parameters.length) = some 2 := by decide +kernel
theorem iw_X7_judgeWeek_X4 : ∀ w ∈ u_ws RX4 TX4 14, w ∈ wsX7_judgeWeek := fun _ h => List.mem_cons_of_mem _ (List.mem_append_right _ h)
theorem iw_X7_judgeWeek_X7 : ∀ w ∈ u_ws RX7 TX7 9, w ∈ wsX7_judgeWeek := fun _ h => List.mem_cons_of_mem _ (List.mem_append_left _ (List.mem_append_left _ (List.mem_append_right _ h)))
theorem iw_X7_judgeWeek_X9 : ∀ w ∈ u_ws RX9 TX9 6, w ∈ wsX7_judgeWeek := fun _ h => List.mem_cons_of_mem _ (List.mem_append_left _ (List.mem_append_right _ h))
def J_X7_judgeWeek (sr : Nat → Nat → Int32) (tr : Nat → Nat → Int64) (sp : Nat → Nat → Int32) (sh : Nat → Nat → Int32) (p0 : Int32) (p1 : Int32) : Int32 × Int32 × Int32 × Int32 × Int32 × Int32 × Int32 × Int32 × Int32 × Int64 × Int64 := LetF (J_X9_mayAct sp sh p0) (fun y6 => if y6 = 0 then ((sp 0 0), (sp 0 1), (sp 0 2), (sp 0 3), (sp 0 4), (sp 0 5), (sp 0 0), (sr 0 5), (sr 0 6), (tr 0 7), (tr 0 8)) else LetF (J_X9_passWeek sp sh p0) (fun y18 => LetF (J_X4_leaving sh (y18.2.1) p1) (fun y23 => if y23 = 0 then ((sp 0 0), (y18.2.1), (sp 0 2), (y18.2.2.1), (y18.2.2.2.1), (y18.2.2.2.2), (sp 0 0), (sr 0 5), (sr 0 6), (tr 0 7), (tr 0 8)) else LetF (J_X4_lack sh (sp 0 0) (y18.2.1) (sp 0 2) (J_X0_taught p0)) (fun y34 => LetF (J_X7_noteLoss sr (up2L tr 0 (vp_updL (vp_updL (tr 0) 7 (((tr 0 7) * (y23.toInt64)))) 8 (((tr 0 8) * (625 : Int64))))) (up2 sp 0 (upd (upd (upd (upd (sp 0) 1 (y18.2.1)) 3 (y18.2.2.1)) 4 (y18.2.2.2.1)) 5 (y18.2.2.2.2))) (sp 0 0) ((sh 0 7) * y34)) (fun y41 => LetF (J_X9_passSunday (up2 sp 0 (upd (upd (upd (upd (sp 0) 1 (y18.2.1)) 3 (y18.2.2.1)) 4 (y18.2.2.2.1)) 5 (y18.2.2.2.2))) sh p1) (fun y53 => ((y53.1), (y53.2.1), (y53.2.2.1), (y18.2.2.1), (y53.2.2.2.1), (y53.2.2.2.2), (sr 0 4), (y41.1), (y41.2), ((tr 0 7) * (y23.toInt64)), ((tr 0 8) * (625 : Int64)))))))))
theorem exl_X7_judgeWeek_0 {sr : Nat → Nat → Int32} {tr : Nat → Nat → Int64} {sp : Nat → Nat → Int32} {sh : Nat → Nat → Int32} {p0 : Int32} {p1 : Int32} {m44 : Int32} {m45 : Int32} {m46 : Int32} {m12 : Int32} {m47 : Int32} {m48 : Int32} {m38 : Int32} {m39 : Int32} {v26 : Int64} {v27 : Int64} {v25 : Int64} {r20 : Int32} {r29 : Int32} {v35 : Int32} {r32 : Int32} {r2 : Int32} {r10 : Int32} {m11 : Int32} {m13 : Int32} {m14 : Int32} (e25 : v25 = (r20 : Int32).toInt64) (e26 : v26 = ((tr 0 7) * v25)) (e27 : v27 = ((tr 0 8) * (625 : Int64))) (w30 : r29 = J_X0_taught p0) (e35 : v35 = ((sh 0 7) * r32)) (w5 : r2 = J_X9_mayAct sp sh p0) (c7 : ¬ (r2 = (0 : Int32))) (w17 : (r10, m11, m12, m13, m14) = J_X9_passWeek sp sh p0) (w22 : r20 = J_X4_leaving sh m11 p1) (c24 : ¬ (r20 = (0 : Int32))) (w33 : r32 = J_X4_lack sh (sp 0 0) m11 (sp 0 2) r29) (w40 : (m38, m39) = J_X7_noteLoss sr (up2L tr 0 (vp_updL (vp_updL (tr 0) 7 v26) 8 v27)) (up2 sp 0 (upd (upd (upd (upd (sp 0) 1 m11) 3 m12) 4 m13) 5 m14)) (sp 0 0) v35) (w52 : (m44, m45, m46, m47, m48) = J_X9_passSunday (up2 sp 0 (upd (upd (upd (upd (sp 0) 1 m11) 3 m12) 4 m13) 5 m14)) sh p1) : (m44, m45, m46, m12, m47, m48, (sr 0 4), m38, m39, v26, v27) = J_X7_judgeWeek sr tr sp sh p0 p1 := by subst e25 e26 e27 w30 e35; refine Eq.symm ?_; unfold J_X7_judgeWeek; refine lt_e w5 ?_; refine Eq.trans (if_neg c7) ?_; refine lt_e w17 ?_; refine lt_e w22 ?_; refine Eq.trans (if_neg c24) ?_; refine lt_e w33 ?_; refine lt_e w40 ?_; refine lt_e w52 ?_; rfl
theorem exl_X7_judgeWeek_1 {sr : Nat → Nat → Int32} {tr : Nat → Nat → Int64} {sp : Nat → Nat → Int32} {sh : Nat → Nat → Int32} {p0 : Int32} {p1 : Int32} {m11 : Int32} {m12 : Int32} {m13 : Int32} {m14 : Int32} {r2 : Int32} {r10 : Int32} {r20 : Int32} (w5 : r2 = J_X9_mayAct sp sh p0) (c7 : ¬ (r2 = (0 : Int32))) (w17 : (r10, m11, m12, m13, m14) = J_X9_passWeek sp sh p0) (w22 : r20 = J_X4_leaving sh m11 p1) (c24 : r20 = (0 : Int32)) : ((sp 0 0), m11, (sp 0 2), m12, m13, m14, (sp 0 0), (sr 0 5), (sr 0 6), (tr 0 7), (tr 0 8)) = J_X7_judgeWeek sr tr sp sh p0 p1 := by refine Eq.symm ?_; unfold J_X7_judgeWeek; refine lt_e w5 ?_; refine Eq.trans (if_neg c7) ?_; refine lt_e w17 ?_; refine lt_e w22 ?_; refine Eq.trans (if_pos c24) ?_; rfl
theorem exl_X7_judgeWeek_2 {sr : Nat → Nat → Int32} {tr : Nat → Nat → Int64} {sp : Nat → Nat → Int32} {sh : Nat → Nat → Int32} {p0 : Int32} {p1 : Int32} {r2 : Int32} (w5 : r2 = J_X9_mayAct sp sh p0) (c7 : r2 = (0 : Int32)) : ((sp 0 0), (sp 0 1), (sp 0 2), (sp 0 3), (sp 0 4), (sp 0 5), (sp 0 0), (sr 0 5), (sr 0 6), (tr 0 7), (tr 0 8)) = J_X7_judgeWeek sr tr sp sh p0 p1 := by refine Eq.symm ?_; unfold J_X7_judgeWeek; refine lt_e w5 ?_; refine Eq.trans (if_pos c7) ?_; rfl
set_option maxHeartbeats 4000000 in
set_option maxRecDepth 100000 in
theorem c_X7_judgeWeek (l : Launch) (D : va_G) (k : Nat → ClassId) (b : Nat → Nat) (qr : Nat → Nat) (sr : Nat → Nat → Int32) (tr : Nat → Nat → Int64) (qp : Nat → Nat) (sp : Nat → Nat → Int32) (qh : Nat → Nat) (sh : Nat → Nat → Int32) (sz : Nat) (p0 : Int32) (p1 : Int32) (s_h : 0 ≤ (sp 0 1).toInt ∧ (sp 0 1).toInt ≤ 400 ∧ tot (sp 0 1) ≤ 4) (s_w : 0 ≤ (sp 0 0).toInt ∧ (sp 0 0).toInt ≤ 5) (s_k : 0 ≤ (sp 0 4).toInt ∧ (sp 0 4).toInt ≤ 1) (s_x : (sp 0 4).toInt = 0 ∨ (sp 0 0).toInt ≤ 4) (h_wk : 0 ≤ (sh 0 0).toInt ∧ (sh 0 0).toInt ≤ 5) (h_hk : 0 ≤ (sh 0 1).toInt ∧ (sh 0 1).toInt ≤ 4) (h_fl : 0 ≤ (sh 0 12).toInt ∧ (sh 0 12).toInt ≤ 5) (h_of : ∀ j, 0 ≤ (sh 2 j).toInt ∧ (sh 2 j).toInt ≤ 4) (h_go : ∀ j, 0 ≤ (sh 3 j).toInt ∧ (sh 3 j).toInt ≤ 5) (hp0 : 0 ≤ p0.toInt ∧ p0.toInt ≤ 9999) (hp1 : 0 ≤ p1.toInt ∧ p1.toInt ≤ 444) : MetV l D k b yX7_judgeWeek wsX7_judgeWeek ({ frames := 4, cells := 0, slots := 0, locals := 90 } : Room) [cell117_ qr sr qp tr, cell0_ k qr sr, cell1_ k qr sr, cell36_ qp sp, cell32_ qh sh, cell0_ k qh sh, cell1_ k qh sh, cell4_ k qh sh, cell3_ k qh sh, cell2_ k qh sh] sz [.ref (qr 0), .ref (qh 0), .int p0, .int p1] (fun (u : Int32 × Int32 × Int32 × Int32 × Int32 × Int32 × Int32 × Int32 × Int32 × Int64 × Int64) => (0 ≤ (u.2.1).toInt ∧ (u.2.1).toInt ≤ 400 ∧ tot (u.2.1) ≤ 4) ∧ (0 ≤ (u.1).toInt ∧ (u.1).toInt ≤ 5) ∧ (0 ≤ (u.2.2.2.2.1).toInt ∧ (u.2.2.2.2.1).toInt ≤ 1) ∧ ((u.2.2.2.2.1).toInt = 0 ∨ (u.1).toInt ≤ 4) ∧ (((u.1), (u.2.1), (u.2.2.1), (u.2.2.2.1), (u.2.2.2.2.1), (u.2.2.2.2.2.1), (u.2.2.2.2.2.2.1), (u.2.2.2.2.2.2.2.1), (u.2.2.2.2.2.2.2.2.1), (u.2.2.2.2.2.2.2.2.2.1), (u.2.2.2.2.2.2.2.2.2.2)) = J_X7_judgeWeek sr tr sp sh p0 p1)) (fun u => [cell151_ qr sr qp (u.2.2.2.2.2.2.1) (u.2.2.2.2.2.2.2.1) (u.2.2.2.2.2.2.2.2.1) (u.2.2.2.2.2.2.2.2.2.1) (u.2.2.2.2.2.2.2.2.2.2), cell0_ k qr sr, cell1_ k qr sr, cell68_ qp (u.1) (u.2.1) (u.2.2.1) (u.2.2.2.1) (u.2.2.2.2.1) (u.2.2.2.2.2.1), cell32_ qh sh, cell0_ k qh sh, cell1_ k qh sh, cell4_ k qh sh, cell3_ k qh sh, cell2_ k qh sh]) := by
  refine g_enter (cc := cX7_judgeWeek) (maxL := 6) (ret := none) (by decide) rfl (Nat.le_of_ble_eq_true rfl) ?_
  intro p e s m below meth c A hsz hAe cx hr hP hD hS ls hl
  rw [hAe]
  refine g_q (fun Q hQ => ?_)
  have hx := cx.1.1
  have hb := cx.1.2.1
  have bp0 := i_rng p0
  have bp1 := i_rng p1
  have hl : lv_has ls 6 [(0, .ref (qr 0)), (1, .ref (qh 0)), (2, .int p0), (3, .int p1)] := hl
  obtain ⟨H, eH⟩ : ∃ H : Heap, H = s.heap := ⟨_, rfl⟩
  obtain ⟨locs, el⟩ : ∃ L : List Loc, L = [] := ⟨_, rfl⟩
  have hP : va_P D vwCl [cell117_ qr sr qp tr, cell0_ k qr sr, cell1_ k qr sr, cell36_ qp sp, cell32_ qh sh, cell0_ k qh sh, cell1_ k qh sh, cell4_ k qh sh, cell3_ k qh sh, cell2_ k qh sh] H := by rw [eH]; exact hP
  have hD : va_D A [cell117_ qr sr qp tr, cell0_ k qr sr, cell1_ k qr sr, cell36_ qp sp, cell32_ qh sh, cell0_ k qh sh, cell1_ k qh sh, cell4_ k qh sh, cell3_ k qh sh, cell2_ k qh sh] := hD
  have hS : va_S A s.heap H locs := by rw [eH, el]; exact hS
  suffices goal : W p l e ({ frames := 4, cells := 0, slots := 0, locals := 90 } : Room) s m ([.ref (qr 0), .ref (qh 0), .int p0, .int p1] : List Value).toArray below meth c H locs 0 0 Q (F0 m 0 ls []) by rw [eH, el] at goal; exact goal
  refine lv_aload_n hx hb dX7_judgeWeek_0 rfl (lv_at hl 0 rfl) ?_
  refine g_get cx hP iw_X7_judgeWeek_X7 0 rfl rfl 3 (by decide) rfl fw_X7_judgeWeek_21 rfl dX7_judgeWeek_1 ?_
  refine lv_aload_n hx hb dX7_judgeWeek_4 rfl (lv_at hl 1 rfl) ?_
  refine lv_iload_n hx hb dX7_judgeWeek_5 rfl (lv_at hl 2 rfl) ?_
  refine g_ir (g_runV (wc := [cell36_ qp sp, cell32_ qh sh, cell0_ k qh sh, cell1_ k qh sh, cell4_ k qh sh, cell3_ k qh sh, cell2_ k qh sh]) (rest := []) cx hP hD hS [3, 4, 5, 6, 7, 8, 9] rfl (by decide) [.ref (qh 0), .int p0] (c_X9_mayAct l D k b qp sp qh sh H.size p0 (show 0 ≤ (sp 0 1).toInt ∧ (sp 0 1).toInt ≤ 400 ∧ tot (sp 0 1) ≤ 4 from by first | decide | omega) (show 0 ≤ (sp 0 0).toInt ∧ (sp 0 0).toInt ≤ 5 from by first | decide | omega) (show 0 ≤ (sp 0 4).toInt ∧ (sp 0 4).toInt ≤ 1 from by first | decide | omega) (show (sp 0 4).toInt = 0 ∨ (sp 0 0).toInt ≤ 4 from by first | decide | omega) (show 0 ≤ (sh 0 0).toInt ∧ (sh 0 0).toInt ≤ 5 from by first | decide | omega) (show 0 ≤ (sh 0 1).toInt ∧ (sh 0 1).toInt ≤ 4 from by first | decide | omega) (show 0 ≤ (sh 0 12).toInt ∧ (sh 0 12).toInt ≤ 5 from by first | decide | omega) h_of h_go (show 0 ≤ p0.toInt from by first | decide | omega)) gX7_judgeWeek_X9_mayAct rfl rfl rfl nd_X9_mayAct ⟨Nat.le_of_ble_eq_true rfl, Nat.le_of_ble_eq_true rfl⟩ (ci := 7) (q0 := 0) rfl rfl rfl hl.1 rfl (Nat.le_of_ble_eq_true rfl) ⟨Nat.zero_le _, Nat.zero_le _⟩ dX7_judgeWeek_6) cx.2.2.1 hP hD hS [3, 4, 5, 6, 7, 8, 9] rfl rfl (fun r2 H locs hw1 hP hS => ?_)
  replace hw1 : (0 ≤ r2.toInt ∧ r2.toInt ≤ 1) ∧ (Imp (r2.toInt = 1) ((sp 0 4).toInt = 0 ∧ (sp 0 0).toInt ≤ 4 ∧ 0 ≤ (J_X0_done (sp 0 1) p0).toInt ∧ (J_X0_done (sp 0 1) p0).toInt ≤ 400 ∧ tot (J_X0_done (sp 0 1) p0) ≤ 4)) ∧ (r2 = J_X9_mayAct sp sh p0) := hw1
  obtain ⟨w3, w4, w5⟩ := hw1
  have zr2 : 0 ≤ r2.toInt ∧ r2.toInt ≤ 1 := w3
  refine lv_if_ne (tgt := 24) hx hb dX7_judgeWeek_9 (by decide) (fun c7 => ?_) (fun c7 => ?_)
  · have f7 : ¬ r2.toInt = 0 := f_ne rfl (by decide) c7
    have k7 : ((sp 0 4).toInt = 0 ∧ (sp 0 0).toInt ≤ 4 ∧ 0 ≤ (J_X0_done (sp 0 1) p0).toInt ∧ (J_X0_done (sp 0 1) p0).toInt ≤ 400 ∧ tot (J_X0_done (sp 0 1) p0) ≤ 4) := w4 (by omega)
    refine lv_aload_n hx hb dX7_judgeWeek_24 rfl (lv_at hl 0 rfl) ?_
    refine g_get cx hP iw_X7_judgeWeek_X7 0 rfl rfl 3 (by decide) rfl fw_X7_judgeWeek_21 rfl dX7_judgeWeek_25 ?_
    refine lv_aload_n hx hb dX7_judgeWeek_28 rfl (lv_at hl 1 rfl) ?_
    refine lv_iload_n hx hb dX7_judgeWeek_29 rfl (lv_at hl 2 rfl) ?_
    refine g_i (w1 := fun (u : Int32 × Int32 × Int32 × Int32) => [cell124_ qp sp (u.1) (u.2.1) (u.2.2.1) (u.2.2.2), cell32_ qh sh, cell0_ k qh sh, cell1_ k qh sh, cell4_ k qh sh, cell3_ k qh sh, cell2_ k qh sh]) (g_runV (wc := [cell36_ qp sp, cell32_ qh sh, cell0_ k qh sh, cell1_ k qh sh, cell4_ k qh sh, cell3_ k qh sh, cell2_ k qh sh]) (rest := []) cx hP hD hS [3, 4, 5, 6, 7, 8, 9] rfl (by decide) [.ref (qh 0), .int p0] (c_X9_passWeek l D k b qp sp qh sh H.size p0 (show 0 ≤ (sp 0 0).toInt ∧ (sp 0 0).toInt ≤ 4 from by first | decide | omega) (show 0 ≤ (J_X0_done (sp 0 1) p0).toInt ∧ (J_X0_done (sp 0 1) p0).toInt ≤ 400 ∧ tot (J_X0_done (sp 0 1) p0) ≤ 4 from by first | decide | omega) (show 0 ≤ p0.toInt from by first | decide | omega)) gX7_judgeWeek_X9_passWeek rfl rfl rfl nd_X9_passWeek ⟨Nat.le_of_ble_eq_true rfl, Nat.le_of_ble_eq_true rfl⟩ (ci := 7) (q0 := 0) rfl rfl rfl hl.1 rfl (Nat.le_of_ble_eq_true rfl) ⟨Nat.zero_le _, Nat.zero_le _⟩ dX7_judgeWeek_30) cx.2.2.1 hP hD hS [3, 4, 5, 6, 7, 8, 9] rfl (fun _ => rfl) (fun r10 u9 H locs hw8 hP hD hS => ?_)
    obtain ⟨m11, m12, m13, m14⟩ := u9
    have hP : va_P D vwCl [cell117_ qr sr qp tr, cell0_ k qr sr, cell1_ k qr sr, cell124_ qp sp m11 m12 m13 m14, cell32_ qh sh, cell0_ k qh sh, cell1_ k qh sh, cell4_ k qh sh, cell3_ k qh sh, cell2_ k qh sh] H := hP
    have hD : va_D A [cell117_ qr sr qp tr, cell0_ k qr sr, cell1_ k qr sr, cell124_ qp sp m11 m12 m13 m14, cell32_ qh sh, cell0_ k qh sh, cell1_ k qh sh, cell4_ k qh sh, cell3_ k qh sh, cell2_ k qh sh] := hD
    replace hw8 : (0 ≤ m11.toInt ∧ m11.toInt ≤ 400 ∧ tot m11 ≤ 4) ∧ (m13.toInt = 1) ∧ ((r10, m11, m12, m13, m14) = J_X9_passWeek sp sh p0) := hw8
    obtain ⟨w15, w16, w17⟩ := hw8
    refine lv_pop hx hb dX7_judgeWeek_33 rfl ?_
    refine lv_aload_n hx hb dX7_judgeWeek_34 rfl (lv_at hl 1 rfl) ?_
    refine lv_aload_n hx hb dX7_judgeWeek_35 rfl (lv_at hl 0 rfl) ?_
    refine g_get cx hP iw_X7_judgeWeek_X7 0 rfl rfl 3 (by decide) rfl fw_X7_judgeWeek_21 rfl dX7_judgeWeek_36 ?_
    refine g_get cx hP iw_X7_judgeWeek_X9 3 rfl rfl 1 (by decide) rfl fw_X7_judgeWeek_63 rfl dX7_judgeWeek_39 ?_
    refine lv_iload_n hx hb dX7_judgeWeek_42 rfl (lv_at hl 3 rfl) ?_
    refine g_ir (g_runV (wc := [cell32_ qh sh, cell0_ k qh sh, cell1_ k qh sh, cell4_ k qh sh, cell3_ k qh sh, cell2_ k qh sh]) (rest := []) cx hP hD hS [4, 5, 6, 7, 8, 9] rfl (by decide) [.int m11, .int p1] (c_X4_leaving l D k b qh sh H.size m11 p1 (show 0 ≤ (sh 0 12).toInt ∧ (sh 0 12).toInt ≤ 5 from by first | decide | omega) h_go (show 0 ≤ m11.toInt ∧ m11.toInt ≤ 400 ∧ tot m11 ≤ 4 from by first | decide | omega) (show 0 ≤ p1.toInt ∧ p1.toInt ≤ 444 from by first | decide | omega)) gX7_judgeWeek_X4_leaving rfl rfl rfl nd_X4_leaving ⟨Nat.le_of_ble_eq_true rfl, Nat.le_of_ble_eq_true rfl⟩ (ci := 2) (q0 := 0) rfl rfl rfl hl.1 rfl (Nat.le_of_ble_eq_true rfl) ⟨Nat.zero_le _, Nat.zero_le _⟩ dX7_judgeWeek_43) cx.2.2.1 hP hD hS [4, 5, 6, 7, 8, 9] rfl rfl (fun r20 H locs hw19 hP hS => ?_)
    replace hw19 : (r20.toInt = 0 ∨ (hasI m11 p1)) ∧ (r20 = J_X4_leaving sh m11 p1) := hw19
    obtain ⟨w21, w22⟩ := hw19
    have lv := w21
    refine lv_istore (lv' := [(4, .int r20), (0, .ref (qr 0)), (1, .ref (qh 0)), (2, .int p0), (3, .int p1)]) hx hb dX7_judgeWeek_46 hl (by decide) rfl (fun ls hl => ?_)
    refine lv_iload hx hb dX7_judgeWeek_48 (lv_at hl 0 rfl) ?_
    refine lv_if_ne (tgt := 65) hx hb dX7_judgeWeek_50 (by decide) (fun c24 => ?_) (fun c24 => ?_)
    · have f24 : ¬ r20.toInt = 0 := f_ne rfl (by decide) c24
      refine lv_aload_n hx hb dX7_judgeWeek_65 rfl (lv_at hl 1 rfl) ?_
      refine lv_dup hx hb dX7_judgeWeek_66 rfl ?_
      refine g_get cx hP iw_X7_judgeWeek_X7 0 rfl rfl 7 (by decide) rfl fw_X7_judgeWeek_41 rfl dX7_judgeWeek_67 ?_
      refine lv_iload hx hb dX7_judgeWeek_70 (lv_at hl 0 rfl) ?_
      obtain ⟨v25, e25⟩ : ∃ z : Int64, z = (r20 : Int32).toInt64 := ⟨_, rfl⟩
      refine lv_i2l (v := v25) hx hb dX7_judgeWeek_72 e25.symm ?_
      refine lv_lmul hx hb dX7_judgeWeek_73 (lv_topl (fun v26 e26 => ?_))
      refine g_pt cx hP hD hS iw_X7_judgeWeek_X7 tyX7 tyX7_ok nmX7 0 rfl rfl 7 (by decide) rfl fw_X7_judgeWeek_41 (ty := .long) rfl rfl rfl (Nat.le_of_ble_eq_true rfl) dX7_judgeWeek_74 (fun H locs hP hD hS => ?_)
      have hP : va_P D vwCl [(qr 0, .inr (5, [.ref (qr 1), .ref (qr 2), .int (sr 0 2), .ref (qp 0), .int (sr 0 4), .int (sr 0 5), .int (sr 0 6), .long v26, .long (tr 0 8)])), cell0_ k qr sr, cell1_ k qr sr, cell124_ qp sp m11 m12 m13 m14, cell32_ qh sh, cell0_ k qh sh, cell1_ k qh sh, cell4_ k qh sh, cell3_ k qh sh, cell2_ k qh sh] H := hP
      have hD : va_D A [(qr 0, .inr (5, [.ref (qr 1), .ref (qr 2), .int (sr 0 2), .ref (qp 0), .int (sr 0 4), .int (sr 0 5), .int (sr 0 6), .long v26, .long (tr 0 8)])), cell0_ k qr sr, cell1_ k qr sr, cell124_ qp sp m11 m12 m13 m14, cell32_ qh sh, cell0_ k qh sh, cell1_ k qh sh, cell4_ k qh sh, cell3_ k qh sh, cell2_ k qh sh] := hD
      refine lv_aload_n hx hb dX7_judgeWeek_77 rfl (lv_at hl 1 rfl) ?_
      refine lv_dup hx hb dX7_judgeWeek_78 rfl ?_
      refine g_get cx hP iw_X7_judgeWeek_X7 0 rfl rfl 8 (by decide) rfl fw_X7_judgeWeek_45 rfl dX7_judgeWeek_79 ?_
      refine lv_ldc2 (v := 625) hx hb cx.1.2.2.2.1 (cx.1.2.2.2.2 _ kJ_X7_judgeWeek_72) dX7_judgeWeek_82 ?_
      refine lv_lmul hx hb dX7_judgeWeek_85 (lv_topl (fun v27 e27 => ?_))
      refine g_pt cx hP hD hS iw_X7_judgeWeek_X7 tyX7 tyX7_ok nmX7 0 rfl rfl 8 (by decide) rfl fw_X7_judgeWeek_45 (ty := .long) rfl rfl rfl (Nat.le_of_ble_eq_true rfl) dX7_judgeWeek_86 (fun H locs hP hD hS => ?_)
      have hP : va_P D vwCl [cell215_ qr sr qp v26 v27, cell0_ k qr sr, cell1_ k qr sr, cell124_ qp sp m11 m12 m13 m14, cell32_ qh sh, cell0_ k qh sh, cell1_ k qh sh, cell4_ k qh sh, cell3_ k qh sh, cell2_ k qh sh] H := hP
      have hD : va_D A [cell215_ qr sr qp v26 v27, cell0_ k qr sr, cell1_ k qr sr, cell124_ qp sp m11 m12 m13 m14, cell32_ qh sh, cell0_ k qh sh, cell1_ k qh sh, cell4_ k qh sh, cell3_ k qh sh, cell2_ k qh sh] := hD
      refine lv_aload_n hx hb dX7_judgeWeek_89 rfl (lv_at hl 2 rfl) ?_
      refine lv_aload_n hx hb dX7_judgeWeek_90 rfl (lv_at hl 1 rfl) ?_
      refine g_get cx hP iw_X7_judgeWeek_X7 0 rfl rfl 3 (by decide) rfl fw_X7_judgeWeek_21 rfl dX7_judgeWeek_91 ?_
      refine g_get cx hP iw_X7_judgeWeek_X9 3 rfl rfl 0 (by decide) rfl fw_X7_judgeWeek_56 rfl dX7_judgeWeek_94 ?_
      refine lv_aload_n hx hb dX7_judgeWeek_97 rfl (lv_at hl 1 rfl) ?_
      refine g_get cx hP iw_X7_judgeWeek_X7 0 rfl rfl 3 (by decide) rfl fw_X7_judgeWeek_21 rfl dX7_judgeWeek_98 ?_
      refine g_get cx hP iw_X7_judgeWeek_X9 3 rfl rfl 1 (by decide) rfl fw_X7_judgeWeek_63 rfl dX7_judgeWeek_101 ?_
      refine lv_aload_n hx hb dX7_judgeWeek_104 rfl (lv_at hl 1 rfl) ?_
      refine g_get cx hP iw_X7_judgeWeek_X7 0 rfl rfl 3 (by decide) rfl fw_X7_judgeWeek_21 rfl dX7_judgeWeek_105 ?_
      refine g_get cx hP iw_X7_judgeWeek_X9 3 rfl rfl 2 (by decide) rfl fw_X7_judgeWeek_74 rfl dX7_judgeWeek_108 ?_
      refine lv_iload_n hx hb dX7_judgeWeek_111 rfl (lv_at hl 3 rfl) ?_
      refine g_ir (g_runS (wc := []) (rest := [.int (sp 0 2), .int m11, .int (sp 0 0), .ref (qh 0)]) cx hP hD hS [] rfl (by decide) [.int p0] (c_X0_taught l D k b H.size p0) gX7_judgeWeek_X0_taught rfl rfl rfl nd_X0_taught ⟨Nat.le_of_ble_eq_true rfl, Nat.le_of_ble_eq_true rfl⟩ rfl hl.1 rfl (Nat.le_of_ble_eq_true rfl) ⟨Nat.zero_le _, Nat.zero_le _⟩ dX7_judgeWeek_112) cx.2.2.1 hP hD hS [] rfl rfl (fun r29 H locs hw28 hP hS => ?_)
      have w30 : r29 = J_X0_taught p0 := hw28
      clear hw28
      have zr29 := tg_b w30 (show 0 ≤ p0.toInt from by omega)
      refine g_ir (g_runV (wc := [cell32_ qh sh, cell0_ k qh sh, cell1_ k qh sh, cell4_ k qh sh, cell3_ k qh sh, cell2_ k qh sh]) (rest := []) cx hP hD hS [4, 5, 6, 7, 8, 9] rfl (by decide) [.int (sp 0 0), .int m11, .int (sp 0 2), .int r29] (c_X4_lack l D k b qh sh H.size (sp 0 0) m11 (sp 0 2) r29 (show 0 ≤ (sp 0 0).toInt ∧ (sp 0 0).toInt ≤ 4 from by first | decide | omega)) gX7_judgeWeek_X4_lack rfl rfl rfl nd_X4_lack ⟨Nat.le_of_ble_eq_true rfl, Nat.le_of_ble_eq_true rfl⟩ (ci := 2) (q0 := 0) rfl rfl rfl hl.1 rfl (Nat.le_of_ble_eq_true rfl) ⟨Nat.zero_le _, Nat.zero_le _⟩ dX7_judgeWeek_115) cx.2.2.1 hP hD hS [4, 5, 6, 7, 8, 9] rfl rfl (fun r32 H locs hw31 hP hS => ?_)
      have w33 : r32 = J_X4_lack sh (sp 0 0) m11 (sp 0 2) r29 := hw31
      clear hw31
      have rzr32 := i_rng r32
      refine lv_istore (lv' := [(5, .int r32), (4, .int r20), (0, .ref (qr 0)), (1, .ref (qh 0)), (2, .int p0), (3, .int p1)]) hx hb dX7_judgeWeek_118 hl (by decide) rfl (fun ls hl => ?_)
      refine lv_aload_n hx hb dX7_judgeWeek_120 rfl (lv_at hl 2 rfl) ?_
      refine lv_aload_n hx hb dX7_judgeWeek_121 rfl (lv_at hl 2 rfl) ?_
      refine g_get cx hP iw_X7_judgeWeek_X7 0 rfl rfl 3 (by decide) rfl fw_X7_judgeWeek_21 rfl dX7_judgeWeek_122 ?_
      refine g_get cx hP iw_X7_judgeWeek_X9 3 rfl rfl 0 (by decide) rfl fw_X7_judgeWeek_56 rfl dX7_judgeWeek_125 ?_
      refine lv_aload_n hx hb dX7_judgeWeek_128 rfl (lv_at hl 3 rfl) ?_
      refine g_get cx hP iw_X7_judgeWeek_X4 4 rfl rfl 7 (by decide) rfl fw_X7_judgeWeek_87 rfl dX7_judgeWeek_129 ?_
      refine lv_iload hx hb dX7_judgeWeek_132 (lv_at hl 0 rfl) ?_
      refine lv_imul hx hb dX7_judgeWeek_134 (lv_topi (fun v35 e35 => ?_))
      refine g_v (w1 := fun (u : Int32 × Int32) => [cell196_ qr sr qp (u.1) (u.2) v26 v27, cell0_ k qr sr, cell1_ k qr sr, cell124_ qp sp m11 m12 m13 m14]) (g_runV (wc := [cell215_ qr sr qp v26 v27, cell0_ k qr sr, cell1_ k qr sr, cell124_ qp sp m11 m12 m13 m14]) (rest := []) cx hP hD hS [0, 1, 2, 3] rfl (by decide) [.int (sp 0 0), .int v35] (c_X7_noteLoss l D k b qr sr (up2L tr 0 (vp_updL (vp_updL (tr 0) 7 v26) 8 v27)) qp (up2 sp 0 (upd (upd (upd (upd (sp 0) 1 m11) 3 m12) 4 m13) 5 m14)) H.size (sp 0 0) v35) gX7_judgeWeek_X7_noteLoss rfl rfl rfl nd_X7_noteLoss ⟨Nat.le_of_ble_eq_true rfl, Nat.le_of_ble_eq_true rfl⟩ (ci := 5) (q0 := 0) rfl rfl rfl hl.1 rfl (Nat.le_of_ble_eq_true rfl) ⟨Nat.zero_le _, Nat.zero_le _⟩ dX7_judgeWeek_135) cx.2.2.1 hP hD hS [0, 1, 2, 3] rfl (fun _ => rfl) (fun u37 H locs hw36 hP hD hS => ?_)
      obtain ⟨m38, m39⟩ := u37
      have hP : va_P D vwCl [cell196_ qr sr qp m38 m39 v26 v27, cell0_ k qr sr, cell1_ k qr sr, cell124_ qp sp m11 m12 m13 m14, cell32_ qh sh, cell0_ k qh sh, cell1_ k qh sh, cell4_ k qh sh, cell3_ k qh sh, cell2_ k qh sh] H := hP
      have hD : va_D A [cell196_ qr sr qp m38 m39 v26 v27, cell0_ k qr sr, cell1_ k qr sr, cell124_ qp sp m11 m12 m13 m14, cell32_ qh sh, cell0_ k qh sh, cell1_ k qh sh, cell4_ k qh sh, cell3_ k qh sh, cell2_ k qh sh] := hD
      have w40 : (m38, m39) = J_X7_noteLoss sr (up2L tr 0 (vp_updL (vp_updL (tr 0) 7 v26) 8 v27)) (up2 sp 0 (upd (upd (upd (upd (sp 0) 1 m11) 3 m12) 4 m13) 5 m14)) (sp 0 0) v35 := hw36
      clear hw36
      refine lv_aload_n hx hb dX7_judgeWeek_138 rfl (lv_at hl 2 rfl) ?_
      refine g_get cx hP iw_X7_judgeWeek_X7 0 rfl rfl 3 (by decide) rfl fw_X7_judgeWeek_21 rfl dX7_judgeWeek_139 ?_
      refine lv_aload_n hx hb dX7_judgeWeek_142 rfl (lv_at hl 3 rfl) ?_
      refine lv_iload_n hx hb dX7_judgeWeek_143 rfl (lv_at hl 5 rfl) ?_
      refine g_v (w1 := fun (u : Int32 × Int32 × Int32 × Int32 × Int32) => [cell68_ qp (u.1) (u.2.1) (u.2.2.1) m12 (u.2.2.2.1) (u.2.2.2.2), cell32_ qh sh, cell0_ k qh sh, cell1_ k qh sh, cell4_ k qh sh, cell3_ k qh sh, cell2_ k qh sh]) (g_runV (wc := [cell124_ qp sp m11 m12 m13 m14, cell32_ qh sh, cell0_ k qh sh, cell1_ k qh sh, cell4_ k qh sh, cell3_ k qh sh, cell2_ k qh sh]) (rest := []) cx hP hD hS [3, 4, 5, 6, 7, 8, 9] rfl (by decide) [.ref (qh 0), .int p1] (c_X9_passSunday l D k b qp (up2 sp 0 (upd (upd (upd (upd (sp 0) 1 m11) 3 m12) 4 m13) 5 m14)) qh sh H.size p1 (show 0 ≤ m11.toInt ∧ m11.toInt ≤ 400 ∧ tot m11 ≤ 4 from by first | decide | omega) (show 0 ≤ (sp 0 0).toInt ∧ (sp 0 0).toInt ≤ 4 from by first | decide | omega) (lv.resolve_left (by omega)) (show 0 ≤ p1.toInt ∧ p1.toInt ≤ 444 from by first | decide | omega) (show 0 ≤ (sh 0 0).toInt ∧ (sh 0 0).toInt ≤ 5 from by first | decide | omega)) gX7_judgeWeek_X9_passSunday rfl rfl rfl nd_X9_passSunday ⟨Nat.le_of_ble_eq_true rfl, Nat.le_of_ble_eq_true rfl⟩ (ci := 7) (q0 := 0) rfl rfl rfl hl.1 rfl (Nat.le_of_ble_eq_true rfl) ⟨Nat.zero_le _, Nat.zero_le _⟩ dX7_judgeWeek_144) cx.2.2.1 hP hD hS [3, 4, 5, 6, 7, 8, 9] rfl (fun _ => rfl) (fun u43 H locs hw42 hP hD hS => ?_)
      obtain ⟨m44, m45, m46, m47, m48⟩ := u43
      have hP : va_P D vwCl [cell196_ qr sr qp m38 m39 v26 v27, cell0_ k qr sr, cell1_ k qr sr, cell68_ qp m44 m45 m46 m12 m47 m48, cell32_ qh sh, cell0_ k qh sh, cell1_ k qh sh, cell4_ k qh sh, cell3_ k qh sh, cell2_ k qh sh] H := hP
      have hD : va_D A [cell196_ qr sr qp m38 m39 v26 v27, cell0_ k qr sr, cell1_ k qr sr, cell68_ qp m44 m45 m46 m12 m47 m48, cell32_ qh sh, cell0_ k qh sh, cell1_ k qh sh, cell4_ k qh sh, cell3_ k qh sh, cell2_ k qh sh] := hD
      replace hw42 : (0 ≤ m45.toInt ∧ m45.toInt ≤ 400 ∧ tot m45 ≤ 4) ∧ (0 ≤ m44.toInt ∧ m44.toInt ≤ 5) ∧ (m47.toInt = 0) ∧ ((m44, m45, m46, m47, m48) = J_X9_passSunday (up2 sp 0 (upd (upd (upd (upd (sp 0) 1 m11) 3 m12) 4 m13) 5 m14)) sh p1) := hw42
      obtain ⟨w49, w50, w51, w52⟩ := hw42
      rw [hQ]
      exact x_v cx hr (m44, m45, m46, m12, m47, m48, (sr 0 4), m38, m39, v26, v27) hP hD hS ⟨(show 0 ≤ m45.toInt ∧ m45.toInt ≤ 400 ∧ tot m45 ≤ 4 from by omega), (show 0 ≤ m44.toInt ∧ m44.toInt ≤ 5 from by omega), (show 0 ≤ m47.toInt ∧ m47.toInt ≤ 1 from by omega), (show m47.toInt = 0 ∨ m44.toInt ≤ 4 from by omega), (show (m44, m45, m46, m12, m47, m48, (sr 0 4), m38, m39, v26, v27) = J_X7_judgeWeek sr tr sp sh p0 p1 from (exl_X7_judgeWeek_0 e25 e26 e27 w30 e35 w5 c7 w17 w22 c24 w33 w40 w52))⟩ dX7_judgeWeek_147
    · have f24 : r20.toInt = 0 := f_eq rfl (by decide) c24
      refine lv_aload_n hx hb dX7_judgeWeek_53 rfl (lv_at hl 1 rfl) ?_
      refine lv_aload_n hx hb dX7_judgeWeek_54 rfl (lv_at hl 1 rfl) ?_
      refine g_get cx hP iw_X7_judgeWeek_X7 0 rfl rfl 3 (by decide) rfl fw_X7_judgeWeek_21 rfl dX7_judgeWeek_55 ?_
      refine g_get cx hP iw_X7_judgeWeek_X9 3 rfl rfl 0 (by decide) rfl fw_X7_judgeWeek_56 rfl dX7_judgeWeek_58 ?_
      refine g_pt cx hP hD hS iw_X7_judgeWeek_X7 tyX7 tyX7_ok nmX7 0 rfl rfl 4 (by decide) rfl fw_X7_judgeWeek_32 (ty := .int) rfl rfl rfl (Nat.le_of_ble_eq_true rfl) dX7_judgeWeek_61 (fun H locs hP hD hS => ?_)
      have hP : va_P D vwCl [cell206_ qr sr qp sp tr, cell0_ k qr sr, cell1_ k qr sr, cell124_ qp sp m11 m12 m13 m14, cell32_ qh sh, cell0_ k qh sh, cell1_ k qh sh, cell4_ k qh sh, cell3_ k qh sh, cell2_ k qh sh] H := hP
      have hD : va_D A [cell206_ qr sr qp sp tr, cell0_ k qr sr, cell1_ k qr sr, cell124_ qp sp m11 m12 m13 m14, cell32_ qh sh, cell0_ k qh sh, cell1_ k qh sh, cell4_ k qh sh, cell3_ k qh sh, cell2_ k qh sh] := hD
      rw [hQ]
      exact x_v cx hr ((sp 0 0), m11, (sp 0 2), m12, m13, m14, (sp 0 0), (sr 0 5), (sr 0 6), (tr 0 7), (tr 0 8)) hP hD hS ⟨(show 0 ≤ m11.toInt ∧ m11.toInt ≤ 400 ∧ tot m11 ≤ 4 from by omega), (show 0 ≤ (sp 0 0).toInt ∧ (sp 0 0).toInt ≤ 5 from by omega), (show 0 ≤ m13.toInt ∧ m13.toInt ≤ 1 from by omega), (show m13.toInt = 0 ∨ (sp 0 0).toInt ≤ 4 from by omega), (show ((sp 0 0), m11, (sp 0 2), m12, m13, m14, (sp 0 0), (sr 0 5), (sr 0 6), (tr 0 7), (tr 0 8)) = J_X7_judgeWeek sr tr sp sh p0 p1 from (exl_X7_judgeWeek_1 w5 c7 w17 w22 c24))⟩ dX7_judgeWeek_64
  · have f7 : r2.toInt = 0 := f_eq rfl (by decide) c7
    refine lv_aload_n hx hb dX7_judgeWeek_12 rfl (lv_at hl 0 rfl) ?_
    refine lv_aload_n hx hb dX7_judgeWeek_13 rfl (lv_at hl 0 rfl) ?_
    refine g_get cx hP iw_X7_judgeWeek_X7 0 rfl rfl 3 (by decide) rfl fw_X7_judgeWeek_21 rfl dX7_judgeWeek_14 ?_
    refine g_get cx hP iw_X7_judgeWeek_X9 3 rfl rfl 0 (by decide) rfl fw_X7_judgeWeek_56 rfl dX7_judgeWeek_17 ?_
    refine g_pt cx hP hD hS iw_X7_judgeWeek_X7 tyX7 tyX7_ok nmX7 0 rfl rfl 4 (by decide) rfl fw_X7_judgeWeek_32 (ty := .int) rfl rfl rfl (Nat.le_of_ble_eq_true rfl) dX7_judgeWeek_20 (fun H locs hP hD hS => ?_)
    have hP : va_P D vwCl [cell206_ qr sr qp sp tr, cell0_ k qr sr, cell1_ k qr sr, cell36_ qp sp, cell32_ qh sh, cell0_ k qh sh, cell1_ k qh sh, cell4_ k qh sh, cell3_ k qh sh, cell2_ k qh sh] H := hP
    have hD : va_D A [cell206_ qr sr qp sp tr, cell0_ k qr sr, cell1_ k qr sr, cell36_ qp sp, cell32_ qh sh, cell0_ k qh sh, cell1_ k qh sh, cell4_ k qh sh, cell3_ k qh sh, cell2_ k qh sh] := hD
    rw [hQ]
    exact x_v cx hr ((sp 0 0), (sp 0 1), (sp 0 2), (sp 0 3), (sp 0 4), (sp 0 5), (sp 0 0), (sr 0 5), (sr 0 6), (tr 0 7), (tr 0 8)) hP hD hS ⟨(show 0 ≤ (sp 0 1).toInt ∧ (sp 0 1).toInt ≤ 400 ∧ tot (sp 0 1) ≤ 4 from by omega), (show 0 ≤ (sp 0 0).toInt ∧ (sp 0 0).toInt ≤ 5 from by omega), (show 0 ≤ (sp 0 4).toInt ∧ (sp 0 4).toInt ≤ 1 from by omega), (show (sp 0 4).toInt = 0 ∨ (sp 0 0).toInt ≤ 4 from by omega), (show ((sp 0 0), (sp 0 1), (sp 0 2), (sp 0 3), (sp 0 4), (sp 0 5), (sp 0 0), (sr 0 5), (sr 0 6), (tr 0 7), (tr 0 8)) = J_X7_judgeWeek sr tr sp sh p0 p1 from (exl_X7_judgeWeek_2 w5 c7))⟩ dX7_judgeWeek_23
theorem fw_X7_judgeBy_15 : Cond.fieldLink RX7 15 "StillInAugust$Row" "leavers" "[I" ∈ wsX7_judgeBy := by decide +kernel
theorem fw_X7_judgeBy_21 : Cond.fieldLink RX7 21 "StillInAugust$Row" "past" "LStillInAugust$Summer;" ∈ wsX7_judgeBy := by decide +kernel
theorem fw_X7_judgeBy_25 : Cond.fieldLink RX7 25 "StillInAugust$Row" "length" "I" ∈ wsX7_judgeBy := by decide +kernel
theorem fw_X7_judgeBy_32 : Cond.fieldLink RX7 32 "StillInAugust$Row" "wrongWeek" "I" ∈ wsX7_judgeBy := by decide +kernel
theorem fw_X7_judgeBy_35 : Cond.fieldLink RX7 35 "StillInAugust$Row" "worstWeek" "I" ∈ wsX7_judgeBy := by decide +kernel
theorem fw_X7_judgeBy_38 : Cond.fieldLink RX7 38 "StillInAugust$Row" "mostLost" "I" ∈ wsX7_judgeBy := by decide +kernel
theorem fw_X7_judgeBy_41 : Cond.fieldLink RX7 41 "StillInAugust$Row" "chance" "J" ∈ wsX7_judgeBy := by decide +kernel
theorem fw_X7_judgeBy_45 : Cond.fieldLink RX7 45 "StillInAugust$Row" "scale" "J" ∈ wsX7_judgeBy := by decide +kernel
theorem fw_X7_judgeBy_9 : Cond.fieldLink RX7 9 "StillInAugust$Row" "acts" "[I" ∈ wsX7_judgeBy := by decide +kernel
theorem nd_X7_judgeWeek : yX7_judgeWeek.cls = RX7 ∧ yX7_judgeWeek.cls ≠ "java/lang/invoke/MethodHandle" ∧ yX7_judgeWeek.cls ≠ "java/lang/invoke/VarHandle" ∧ (parseMethodDescriptor yX7_judgeWeek.desc).map (fun d => d.parameters.length) = some 3 := by decide +kernel
theorem nd_X9_begin : yX9_begin.cls = RX9 ∧ yX9_begin.cls ≠ "java/lang/invoke/MethodHandle" ∧ yX9_begin.cls ≠ "java/lang/invoke/VarHandle" ∧ (parseMethodDescriptor yX9_begin.desc).map (fun d => d.parameters.length) = some 0 := by decide +kernel
theorem iw_X7_judgeBy_X7 : ∀ w ∈ u_ws RX7 TX7 9, w ∈ wsX7_judgeBy := fun _ h => List.mem_cons_of_mem _ (List.mem_append_left _ (List.mem_append_left _ (List.mem_append_right _ h)))
def B_X7_judgeBy_36 (sr : Nat → Nat → Int32) (tr : Nat → Nat → Int64) (sp : Nat → Nat → Int32) (sh : Nat → Nat → Int32) (y12 : Int32 × Int32 × Int32 × Int32 × Int32 × Int32) (z : Int32 × Int32 × Int32 × Int32 × Int64 × Int64 × Int32 × Int32 × Int32 × Int32 × Int32 × Int32) : Sum (Int32 × Int32 × Int32 × Int32 × Int64 × Int64 × Int32 × Int32 × Int32 × Int32 × Int32 × Int32) (Int32 × Int32 × Int32 × Int32 × Int32 × Int32 × Int32 × Int32 × Int32 × Int64 × Int64) := let v40 := (z.1); let x41 := (z.2.1); let x42 := (z.2.2.1); let x43 := (z.2.2.2.1); let x44 := (z.2.2.2.2.1); let x45 := (z.2.2.2.2.2.1); let x46 := (z.2.2.2.2.2.2.1); let x47 := (z.2.2.2.2.2.2.2.1); let x48 := (z.2.2.2.2.2.2.2.2.1); let x49 := (z.2.2.2.2.2.2.2.2.2.1); let x50 := (z.2.2.2.2.2.2.2.2.2.2.1); let x51 := (z.2.2.2.2.2.2.2.2.2.2.2); if (sr 0 2) ≤ v40 then Sum.inr ((x46, x47, x48, x49, x50, x51, x41, x42, x43, x44, x45)) else if x41 = (-9) then LetF (J_X7_judgeWeek (up2 sr 0 (upd (upd (upd (sr 0) 4 x41) 5 x42) 6 x43)) (up2L tr 0 (vp_updL (vp_updL (tr 0) 7 x44) 8 x45)) (up2 sp 0 (upd (upd (upd (upd (upd (upd (sp 0) 0 x46) 1 x47) 2 x48) 3 x49) 4 x50) 5 x51)) sh (((sr 1) (v40).toNatClampNeg)) (((sr 2) (v40).toNatClampNeg))) (fun y77 => Sum.inl (((v40 + 1), (y77.2.2.2.2.2.2.1), (y77.2.2.2.2.2.2.2.1), (y77.2.2.2.2.2.2.2.2.1), (y77.2.2.2.2.2.2.2.2.2.1), (y77.2.2.2.2.2.2.2.2.2.2), (y77.1), (y77.2.1), (y77.2.2.1), (y77.2.2.2.1), (y77.2.2.2.2.1), (y77.2.2.2.2.2.1)))) else Sum.inr ((x46, x47, x48, x49, x50, x51, x41, x42, x43, x44, x45))
def J_X7_judgeBy (sr : Nat → Nat → Int32) (tr : Nat → Nat → Int64) (sp : Nat → Nat → Int32) (sh : Nat → Nat → Int32) : Int32 × Int32 × Int32 × Int32 × Int32 × Int32 × Int32 × Int32 × Int32 × Int64 × Int64 := LetF (J_X9_begin sp) (fun y12 => LTs default (B_X7_judgeBy_36 sr tr sp sh y12) 6 ((0 : Int32), ((-9) : Int32), ((-9) : Int32), (0 : Int32), (1 : Int64), (1 : Int64), (y12.1), (y12.2.1), (y12.2.2.1), (y12.2.2.2.1), (y12.2.2.2.2.1), (y12.2.2.2.2.2)))
theorem exl_X7_judgeBy_0 {sr : Nat → Nat → Int32} {tr : Nat → Nat → Int64} {sp : Nat → Nat → Int32} {sh : Nat → Nat → Int32} {m3 : Int32} {m4 : Int32} {m5 : Int32} {m6 : Int32} {m7 : Int32} {m8 : Int32} (w11 : (m3, m4, m5, m6, m7, m8) = J_X9_begin sp) : J_X7_judgeBy sr tr sp sh = LTs (default : Int32 × Int32 × Int32 × Int32 × Int32 × Int32 × Int32 × Int32 × Int32 × Int64 × Int64) (B_X7_judgeBy_36 sr tr sp sh (m3, m4, m5, m6, m7, m8)) 6 ((0 : Int32), ((-9) : Int32), ((-9) : Int32), (0 : Int32), (1 : Int64), (1 : Int64), m3, m4, m5, m6, m7, m8) := by unfold J_X7_judgeBy; refine lt_e w11 ?_; rfl
theorem exl_X7_judgeBy_1 {sr : Nat → Nat → Int32} {tr : Nat → Nat → Int64} {sp : Nat → Nat → Int32} {sh : Nat → Nat → Int32} {m3 : Int32} {m4 : Int32} {m5 : Int32} {m6 : Int32} {m7 : Int32} {m8 : Int32} {v40 : Int32} {x41 : Int32} {x42 : Int32} {x43 : Int32} {x44 : Int64} {x45 : Int64} {x46 : Int32} {x47 : Int32} {x48 : Int32} {x49 : Int32} {x50 : Int32} {x51 : Int32} (c53 : (sr 0 2) ≤ v40) : (B_X7_judgeBy_36 sr tr sp sh (m3, m4, m5, m6, m7, m8)) (v40, x41, x42, x43, x44, x45, x46, x47, x48, x49, x50, x51) = Sum.inr ((x46, x47, x48, x49, x50, x51, x41, x42, x43, x44, x45)) := by unfold B_X7_judgeBy_36; refine Eq.trans (if_pos c53) ?_; rfl
theorem exl_X7_judgeBy_2 {sr : Nat → Nat → Int32} {tr : Nat → Nat → Int64} {sp : Nat → Nat → Int32} {sh : Nat → Nat → Int32} {m3 : Int32} {m4 : Int32} {m5 : Int32} {m6 : Int32} {m7 : Int32} {m8 : Int32} {v40 : Int32} {x41 : Int32} {x42 : Int32} {x43 : Int32} {x44 : Int64} {x45 : Int64} {x46 : Int32} {x47 : Int32} {x48 : Int32} {x49 : Int32} {x50 : Int32} {x51 : Int32} (c53 : ¬ ((sr 0 2) ≤ v40)) (c54 : ¬ (x41 = ((-9) : Int32))) : (B_X7_judgeBy_36 sr tr sp sh (m3, m4, m5, m6, m7, m8)) (v40, x41, x42, x43, x44, x45, x46, x47, x48, x49, x50, x51) = Sum.inr ((x46, x47, x48, x49, x50, x51, x41, x42, x43, x44, x45)) := by unfold B_X7_judgeBy_36; refine Eq.trans (if_neg c53) ?_; refine Eq.trans (if_neg c54) ?_; rfl
theorem exl_X7_judgeBy_3 {sr : Nat → Nat → Int32} {tr : Nat → Nat → Int64} {sp : Nat → Nat → Int32} {sh : Nat → Nat → Int32} {m3 : Int32} {m4 : Int32} {m5 : Int32} {m6 : Int32} {m7 : Int32} {m8 : Int32} {v40 : Int32} {x41 : Int32} {x42 : Int32} {x43 : Int32} {x44 : Int64} {x45 : Int64} {x46 : Int32} {x47 : Int32} {x48 : Int32} {x49 : Int32} {x50 : Int32} {x51 : Int32} {v78 : Int32} {m67 : Int32} {m68 : Int32} {m69 : Int32} {m70 : Int64} {m71 : Int64} {m61 : Int32} {m62 : Int32} {m63 : Int32} {m64 : Int32} {m65 : Int32} {m66 : Int32} {v56 : Int32} {v58 : Int32} (e56 : v56 = ((sr 1) (v40).toNatClampNeg)) (e58 : v58 = ((sr 2) (v40).toNatClampNeg)) (e78 : v78 = v40 + 1) (c53 : ¬ ((sr 0 2) ≤ v40)) (c54 : x41 = ((-9) : Int32)) (w76 : (m61, m62, m63, m64, m65, m66, m67, m68, m69, m70, m71) = J_X7_judgeWeek (up2 sr 0 (upd (upd (upd (sr 0) 4 x41) 5 x42) 6 x43)) (up2L tr 0 (vp_updL (vp_updL (tr 0) 7 x44) 8 x45)) (up2 sp 0 (upd (upd (upd (upd (upd (upd (sp 0) 0 x46) 1 x47) 2 x48) 3 x49) 4 x50) 5 x51)) sh v56 v58) : (B_X7_judgeBy_36 sr tr sp sh (m3, m4, m5, m6, m7, m8)) (v40, x41, x42, x43, x44, x45, x46, x47, x48, x49, x50, x51) = Sum.inl (v78, m67, m68, m69, m70, m71, m61, m62, m63, m64, m65, m66) := by subst e56 e58 e78; unfold B_X7_judgeBy_36; refine Eq.trans (if_neg c53) ?_; refine Eq.trans (if_pos c54) ?_; refine lt_e w76 ?_; rfl
set_option maxHeartbeats 4000000 in
set_option maxRecDepth 100000 in
theorem c_X7_judgeBy (l : Launch) (D : va_G) (k : Nat → ClassId) (b : Nat → Nat) (qr : Nat → Nat) (sr : Nat → Nat → Int32) (tr : Nat → Nat → Int64) (qp : Nat → Nat) (sp : Nat → Nat → Int32) (qh : Nat → Nat) (sh : Nat → Nat → Int32) (sz : Nat) (h_wk : 0 ≤ (sh 0 0).toInt ∧ (sh 0 0).toInt ≤ 5) (h_hk : 0 ≤ (sh 0 1).toInt ∧ (sh 0 1).toInt ≤ 4) (h_fl : 0 ≤ (sh 0 12).toInt ∧ (sh 0 12).toInt ≤ 5) (h_of : ∀ j, 0 ≤ (sh 2 j).toInt ∧ (sh 2 j).toInt ≤ 4) (h_go : ∀ j, 0 ≤ (sh 3 j).toInt ∧ (sh 3 j).toInt ≤ 5) (r_l : 0 ≤ (sr 0 2).toInt ∧ (sr 0 2).toInt ≤ 5) (r_a : ∀ j, 0 ≤ (sr 1 j).toInt ∧ (sr 1 j).toInt ≤ 9999) (r_g : ∀ j, 0 ≤ (sr 2 j).toInt ∧ (sr 2 j).toInt ≤ 444) : MetV l D k b yX7_judgeBy wsX7_judgeBy ({ frames := 5, cells := 0, slots := 0, locals := 115 } : Room) [cell117_ qr sr qp tr, cell0_ k qr sr, cell1_ k qr sr, cell36_ qp sp, cell32_ qh sh, cell0_ k qh sh, cell1_ k qh sh, cell4_ k qh sh, cell3_ k qh sh, cell2_ k qh sh] sz [.ref (qr 0), .ref (qh 0)] (fun (u : Int32 × Int32 × Int32 × Int32 × Int32 × Int32 × Int32 × Int32 × Int32 × Int64 × Int64) => (0 ≤ (u.2.1).toInt ∧ (u.2.1).toInt ≤ 400 ∧ tot (u.2.1) ≤ 4) ∧ (0 ≤ (u.1).toInt ∧ (u.1).toInt ≤ 5) ∧ (0 ≤ (u.2.2.2.2.1).toInt ∧ (u.2.2.2.2.1).toInt ≤ 1) ∧ ((u.2.2.2.2.1).toInt = 0 ∨ (u.1).toInt ≤ 4) ∧ (((u.1), (u.2.1), (u.2.2.1), (u.2.2.2.1), (u.2.2.2.2.1), (u.2.2.2.2.2.1), (u.2.2.2.2.2.2.1), (u.2.2.2.2.2.2.2.1), (u.2.2.2.2.2.2.2.2.1), (u.2.2.2.2.2.2.2.2.2.1), (u.2.2.2.2.2.2.2.2.2.2)) = J_X7_judgeBy sr tr sp sh)) (fun u => [cell151_ qr sr qp (u.2.2.2.2.2.2.1) (u.2.2.2.2.2.2.2.1) (u.2.2.2.2.2.2.2.2.1) (u.2.2.2.2.2.2.2.2.2.1) (u.2.2.2.2.2.2.2.2.2.2), cell0_ k qr sr, cell1_ k qr sr, cell68_ qp (u.1) (u.2.1) (u.2.2.1) (u.2.2.2.1) (u.2.2.2.2.1) (u.2.2.2.2.2.1), cell32_ qh sh, cell0_ k qh sh, cell1_ k qh sh, cell4_ k qh sh, cell3_ k qh sh, cell2_ k qh sh]) := by
  refine g_enter (cc := cX7_judgeBy) (maxL := 3) (ret := none) (by decide) rfl (Nat.le_of_ble_eq_true rfl) ?_
  intro p e s m below meth c A hsz hAe cx hr hP hD hS ls hl
  rw [hAe]
  refine g_q (fun Q hQ => ?_)
  have hx := cx.1.1
  have hb := cx.1.2.1
  have hl : lv_has ls 3 [(0, .ref (qr 0)), (1, .ref (qh 0))] := hl
  obtain ⟨H, eH⟩ : ∃ H : Heap, H = s.heap := ⟨_, rfl⟩
  obtain ⟨locs, el⟩ : ∃ L : List Loc, L = [] := ⟨_, rfl⟩
  have hP : va_P D vwCl [cell117_ qr sr qp tr, cell0_ k qr sr, cell1_ k qr sr, cell36_ qp sp, cell32_ qh sh, cell0_ k qh sh, cell1_ k qh sh, cell4_ k qh sh, cell3_ k qh sh, cell2_ k qh sh] H := by rw [eH]; exact hP
  have hD : va_D A [cell117_ qr sr qp tr, cell0_ k qr sr, cell1_ k qr sr, cell36_ qp sp, cell32_ qh sh, cell0_ k qh sh, cell1_ k qh sh, cell4_ k qh sh, cell3_ k qh sh, cell2_ k qh sh] := hD
  have hS : va_S A s.heap H locs := by rw [eH, el]; exact hS
  suffices goal : W p l e ({ frames := 5, cells := 0, slots := 0, locals := 115 } : Room) s m ([.ref (qr 0), .ref (qh 0)] : List Value).toArray below meth c H locs 0 0 Q (F0 m 0 ls []) by rw [eH, el] at goal; exact goal
  refine lv_aload_n hx hb dX7_judgeBy_0 rfl (lv_at hl 0 rfl) ?_
  refine g_get cx hP iw_X7_judgeBy_X7 0 rfl rfl 3 (by decide) rfl fw_X7_judgeBy_21 rfl dX7_judgeBy_1 ?_
  refine g_v (w1 := fun (u : Int32 × Int32 × Int32 × Int32 × Int32 × Int32) => [cell68_ qp (u.1) (u.2.1) (u.2.2.1) (u.2.2.2.1) (u.2.2.2.2.1) (u.2.2.2.2.2)]) (g_runV (wc := [cell36_ qp sp]) (rest := []) cx hP hD hS [3] rfl (by decide) [] (c_X9_begin l D k b qp sp H.size) gX7_judgeBy_X9_begin rfl rfl rfl nd_X9_begin ⟨Nat.le_of_ble_eq_true rfl, Nat.le_of_ble_eq_true rfl⟩ (ci := 7) (q0 := 0) rfl rfl rfl hl.1 rfl (Nat.le_of_ble_eq_true rfl) ⟨Nat.zero_le _, Nat.zero_le _⟩ dX7_judgeBy_4) cx.2.2.1 hP hD hS [3] rfl (fun _ => rfl) (fun u2 H locs hw1 hP hD hS => ?_)
  obtain ⟨m3, m4, m5, m6, m7, m8⟩ := u2
  have hP : va_P D vwCl [cell117_ qr sr qp tr, cell0_ k qr sr, cell1_ k qr sr, cell68_ qp m3 m4 m5 m6 m7 m8, cell32_ qh sh, cell0_ k qh sh, cell1_ k qh sh, cell4_ k qh sh, cell3_ k qh sh, cell2_ k qh sh] H := hP
  have hD : va_D A [cell117_ qr sr qp tr, cell0_ k qr sr, cell1_ k qr sr, cell68_ qp m3 m4 m5 m6 m7 m8, cell32_ qh sh, cell0_ k qh sh, cell1_ k qh sh, cell4_ k qh sh, cell3_ k qh sh, cell2_ k qh sh] := hD
  replace hw1 : (m3.toInt = 0 ∧ m4.toInt = 0 ∧ m5.toInt = 0 ∧ m6.toInt = 0 ∧ m7.toInt = 0 ∧ m8.toInt = 0) ∧ (tot m4 ≤ 4) ∧ ((m3, m4, m5, m6, m7, m8) = J_X9_begin sp) := hw1
  obtain ⟨w9, w10, w11⟩ := hw1
  refine lv_aload_n hx hb dX7_judgeBy_7 rfl (lv_at hl 0 rfl) ?_
  refine lv_bipush (v := (-9)) hx hb dX7_judgeBy_8 (by decide) ?_
  refine g_pt cx hP hD hS iw_X7_judgeBy_X7 tyX7 tyX7_ok nmX7 0 rfl rfl 4 (by decide) rfl fw_X7_judgeBy_32 (ty := .int) rfl rfl rfl (Nat.le_of_ble_eq_true rfl) dX7_judgeBy_10 (fun H locs hP hD hS => ?_)
  have hP : va_P D vwCl [(qr 0, .inr (5, [.ref (qr 1), .ref (qr 2), .int (sr 0 2), .ref (qp 0), .int (-9), .int (sr 0 5), .int (sr 0 6), .long (tr 0 7), .long (tr 0 8)])), cell0_ k qr sr, cell1_ k qr sr, cell68_ qp m3 m4 m5 m6 m7 m8, cell32_ qh sh, cell0_ k qh sh, cell1_ k qh sh, cell4_ k qh sh, cell3_ k qh sh, cell2_ k qh sh] H := hP
  have hD : va_D A [(qr 0, .inr (5, [.ref (qr 1), .ref (qr 2), .int (sr 0 2), .ref (qp 0), .int (-9), .int (sr 0 5), .int (sr 0 6), .long (tr 0 7), .long (tr 0 8)])), cell0_ k qr sr, cell1_ k qr sr, cell68_ qp m3 m4 m5 m6 m7 m8, cell32_ qh sh, cell0_ k qh sh, cell1_ k qh sh, cell4_ k qh sh, cell3_ k qh sh, cell2_ k qh sh] := hD
  have hlit13 : ((-9) : Int32).toInt = -9 := by decide
  refine lv_aload_n hx hb dX7_judgeBy_13 rfl (lv_at hl 0 rfl) ?_
  refine lv_bipush (v := (-9)) hx hb dX7_judgeBy_14 (by decide) ?_
  refine g_pt cx hP hD hS iw_X7_judgeBy_X7 tyX7 tyX7_ok nmX7 0 rfl rfl 5 (by decide) rfl fw_X7_judgeBy_35 (ty := .int) rfl rfl rfl (Nat.le_of_ble_eq_true rfl) dX7_judgeBy_16 (fun H locs hP hD hS => ?_)
  have hP : va_P D vwCl [(qr 0, .inr (5, [.ref (qr 1), .ref (qr 2), .int (sr 0 2), .ref (qp 0), .int (-9), .int (-9), .int (sr 0 6), .long (tr 0 7), .long (tr 0 8)])), cell0_ k qr sr, cell1_ k qr sr, cell68_ qp m3 m4 m5 m6 m7 m8, cell32_ qh sh, cell0_ k qh sh, cell1_ k qh sh, cell4_ k qh sh, cell3_ k qh sh, cell2_ k qh sh] H := hP
  have hD : va_D A [(qr 0, .inr (5, [.ref (qr 1), .ref (qr 2), .int (sr 0 2), .ref (qp 0), .int (-9), .int (-9), .int (sr 0 6), .long (tr 0 7), .long (tr 0 8)])), cell0_ k qr sr, cell1_ k qr sr, cell68_ qp m3 m4 m5 m6 m7 m8, cell32_ qh sh, cell0_ k qh sh, cell1_ k qh sh, cell4_ k qh sh, cell3_ k qh sh, cell2_ k qh sh] := hD
  have hlit14 : ((-9) : Int32).toInt = -9 := by decide
  refine lv_aload_n hx hb dX7_judgeBy_19 rfl (lv_at hl 0 rfl) ?_
  refine lv_iconst (v := 0) hx hb dX7_judgeBy_20 (by decide) ?_
  refine g_pt cx hP hD hS iw_X7_judgeBy_X7 tyX7 tyX7_ok nmX7 0 rfl rfl 6 (by decide) rfl fw_X7_judgeBy_38 (ty := .int) rfl rfl rfl (Nat.le_of_ble_eq_true rfl) dX7_judgeBy_21 (fun H locs hP hD hS => ?_)
  have hP : va_P D vwCl [(qr 0, .inr (5, [.ref (qr 1), .ref (qr 2), .int (sr 0 2), .ref (qp 0), .int (-9), .int (-9), .int 0, .long (tr 0 7), .long (tr 0 8)])), cell0_ k qr sr, cell1_ k qr sr, cell68_ qp m3 m4 m5 m6 m7 m8, cell32_ qh sh, cell0_ k qh sh, cell1_ k qh sh, cell4_ k qh sh, cell3_ k qh sh, cell2_ k qh sh] H := hP
  have hD : va_D A [(qr 0, .inr (5, [.ref (qr 1), .ref (qr 2), .int (sr 0 2), .ref (qp 0), .int (-9), .int (-9), .int 0, .long (tr 0 7), .long (tr 0 8)])), cell0_ k qr sr, cell1_ k qr sr, cell68_ qp m3 m4 m5 m6 m7 m8, cell32_ qh sh, cell0_ k qh sh, cell1_ k qh sh, cell4_ k qh sh, cell3_ k qh sh, cell2_ k qh sh] := hD
  have hlit15 : (0 : Int32).toInt = 0 := by decide
  refine lv_aload_n hx hb dX7_judgeBy_24 rfl (lv_at hl 0 rfl) ?_
  refine lv_lconst (v := 1) hx hb dX7_judgeBy_25 (by decide) ?_
  refine g_pt cx hP hD hS iw_X7_judgeBy_X7 tyX7 tyX7_ok nmX7 0 rfl rfl 7 (by decide) rfl fw_X7_judgeBy_41 (ty := .long) rfl rfl rfl (Nat.le_of_ble_eq_true rfl) dX7_judgeBy_26 (fun H locs hP hD hS => ?_)
  have hP : va_P D vwCl [(qr 0, .inr (5, [.ref (qr 1), .ref (qr 2), .int (sr 0 2), .ref (qp 0), .int (-9), .int (-9), .int 0, .long 1, .long (tr 0 8)])), cell0_ k qr sr, cell1_ k qr sr, cell68_ qp m3 m4 m5 m6 m7 m8, cell32_ qh sh, cell0_ k qh sh, cell1_ k qh sh, cell4_ k qh sh, cell3_ k qh sh, cell2_ k qh sh] H := hP
  have hD : va_D A [(qr 0, .inr (5, [.ref (qr 1), .ref (qr 2), .int (sr 0 2), .ref (qp 0), .int (-9), .int (-9), .int 0, .long 1, .long (tr 0 8)])), cell0_ k qr sr, cell1_ k qr sr, cell68_ qp m3 m4 m5 m6 m7 m8, cell32_ qh sh, cell0_ k qh sh, cell1_ k qh sh, cell4_ k qh sh, cell3_ k qh sh, cell2_ k qh sh] := hD
  refine lv_aload_n hx hb dX7_judgeBy_29 rfl (lv_at hl 0 rfl) ?_
  refine lv_lconst (v := 1) hx hb dX7_judgeBy_30 (by decide) ?_
  refine g_pt cx hP hD hS iw_X7_judgeBy_X7 tyX7 tyX7_ok nmX7 0 rfl rfl 8 (by decide) rfl fw_X7_judgeBy_45 (ty := .long) rfl rfl rfl (Nat.le_of_ble_eq_true rfl) dX7_judgeBy_31 (fun H locs hP hD hS => ?_)
  have hP : va_P D vwCl [cell151_ qr sr qp (-9) (-9) 0 1 1, cell0_ k qr sr, cell1_ k qr sr, cell68_ qp m3 m4 m5 m6 m7 m8, cell32_ qh sh, cell0_ k qh sh, cell1_ k qh sh, cell4_ k qh sh, cell3_ k qh sh, cell2_ k qh sh] H := hP
  have hD : va_D A [cell151_ qr sr qp (-9) (-9) 0 1 1, cell0_ k qr sr, cell1_ k qr sr, cell68_ qp m3 m4 m5 m6 m7 m8, cell32_ qh sh, cell0_ k qh sh, cell1_ k qh sh, cell4_ k qh sh, cell3_ k qh sh, cell2_ k qh sh] := hD
  refine lv_iconst (v := 0) hx hb dX7_judgeBy_34 (by decide) ?_
  refine lv_istore_n (lv' := [(2, .int 0), (0, .ref (qr 0)), (1, .ref (qh 0))]) hx hb dX7_judgeBy_35 rfl hl (by decide) rfl (fun ls hl => ?_)
  obtain ⟨rr36_1, err36_1⟩ : ∃ r : Int32 × Int32 × Int32 × Int32 × Int32 × Int32 × Int32 × Int32 × Int32 × Int64 × Int64, LTs (default : Int32 × Int32 × Int32 × Int32 × Int32 × Int32 × Int32 × Int32 × Int32 × Int64 × Int64) (B_X7_judgeBy_36 sr tr sp sh (m3, m4, m5, m6, m7, m8)) 6 ((0 : Int32), ((-9) : Int32), ((-9) : Int32), (0 : Int32), (1 : Int64), (1 : Int64), m3, m4, m5, m6, m7, m8) = r := ⟨_, rfl⟩
  have hrr36_1 : J_X7_judgeBy sr tr sp sh = rr36_1 := ((exl_X7_judgeBy_0 w11)).trans err36_1
  have hL36 : ∀ (n52 : Nat) (v40 : Int32) (x41 : Int32) (x42 : Int32) (x43 : Int32) (x44 : Int64) (x45 : Int64) (x46 : Int32) (x47 : Int32) (x48 : Int32) (x49 : Int32) (x50 : Int32) (x51 : Int32) (H : Heap) (locs : List Loc) (ls : Array Slot), 5 - v40.toInt < (n52 : Int) → (0 ≤ v40.toInt ∧ v40.toInt ≤ 5) → (0 ≤ x46.toInt ∧ x46.toInt ≤ 5) → (0 ≤ x47.toInt ∧ x47.toInt ≤ 400) → (0 ≤ x50.toInt ∧ x50.toInt ≤ 1) → (0 ≤ x47.toInt ∧ x47.toInt ≤ 400 ∧ tot x47 ≤ 4) → (x50.toInt = 0 ∨ x46.toInt ≤ 4) → (LTs (default : Int32 × Int32 × Int32 × Int32 × Int32 × Int32 × Int32 × Int32 × Int32 × Int64 × Int64) (B_X7_judgeBy_36 sr tr sp sh (m3, m4, m5, m6, m7, m8)) n52 (v40, x41, x42, x43, x44, x45, x46, x47, x48, x49, x50, x51) = rr36_1) → va_P D vwCl [cell151_ qr sr qp x41 x42 x43 x44 x45, cell0_ k qr sr, cell1_ k qr sr, cell68_ qp x46 x47 x48 x49 x50 x51, cell32_ qh sh, cell0_ k qh sh, cell1_ k qh sh, cell4_ k qh sh, cell3_ k qh sh, cell2_ k qh sh] H → va_D A [cell151_ qr sr qp x41 x42 x43 x44 x45, cell0_ k qr sr, cell1_ k qr sr, cell68_ qp x46 x47 x48 x49 x50 x51, cell32_ qh sh, cell0_ k qh sh, cell1_ k qh sh, cell4_ k qh sh, cell3_ k qh sh, cell2_ k qh sh] → va_S A s.heap H locs → lv_has ls 3 [(2, .int v40), (0, .ref (qr 0)), (1, .ref (qh 0))] → W p l e ({ frames := 5, cells := 0, slots := 0, locals := 115 } : Room) s m ([.ref (qr 0), .ref (qh 0)] : List Value).toArray below meth c H locs 0 0 Q (F0 m 36 ls []) := by
    intro n52
    induction n52 with
    | zero => intro v40 x41 x42 x43 x44 x45 x46 x47 x48 x49 x50 x51 H locs ls hmn52 bv40 bx46 bx47 bx50 vh px hzrr36_1 hP hD hS hl; exact absurd hmn52 (by omega)
    | succ n52 ih36 =>
      intro v40 x41 x42 x43 x44 x45 x46 x47 x48 x49 x50 x51 H locs ls hmn52 bv40 bx46 bx47 bx50 vh px hzrr36_1 hP hD hS hl
      refine lv_iload_n hx hb dX7_judgeBy_36 rfl (lv_at hl 0 rfl) ?_
      refine lv_aload_n hx hb dX7_judgeBy_37 rfl (lv_at hl 1 rfl) ?_
      refine g_get cx hP iw_X7_judgeBy_X7 0 rfl rfl 2 (by decide) rfl fw_X7_judgeBy_25 rfl dX7_judgeBy_38 ?_
      refine lv_icmp_ge (tgt := 76) hx hb dX7_judgeBy_41 (by decide) (fun c53 => ?_) (fun c53 => ?_)
      · have f53 : (sr 0 2).toInt ≤ v40.toInt := f_le rfl rfl c53
        rw [hQ]
        exact x_v cx hr (x46, x47, x48, x49, x50, x51, x41, x42, x43, x44, x45) hP hD hS ⟨(show 0 ≤ x47.toInt ∧ x47.toInt ≤ 400 ∧ tot x47 ≤ 4 from by omega), (show 0 ≤ x46.toInt ∧ x46.toInt ≤ 5 from by omega), (show 0 ≤ x50.toInt ∧ x50.toInt ≤ 1 from by omega), (show x50.toInt = 0 ∨ x46.toInt ≤ 4 from by omega), (show (x46, x47, x48, x49, x50, x51, x41, x42, x43, x44, x45) = J_X7_judgeBy sr tr sp sh from ((hrr36_1.trans (LT_r hzrr36_1 (exl_X7_judgeBy_1 c53)))).symm)⟩ dX7_judgeBy_76
      · have f53 : v40.toInt < (sr 0 2).toInt := f_nle rfl rfl c53
        refine lv_aload_n hx hb dX7_judgeBy_44 rfl (lv_at hl 1 rfl) ?_
        refine g_get cx hP iw_X7_judgeBy_X7 0 rfl rfl 4 (by decide) rfl fw_X7_judgeBy_32 rfl dX7_judgeBy_45 ?_
        refine lv_bipush (v := (-9)) hx hb dX7_judgeBy_48 (by decide) ?_
        refine lv_icmp_ne (tgt := 76) hx hb dX7_judgeBy_50 (by decide) (fun c54 => ?_) (fun c54 => ?_)
        · have f54 : ¬ x41.toInt = (-9) := f_ne rfl (by decide) c54
          rw [hQ]
          exact x_v cx hr (x46, x47, x48, x49, x50, x51, x41, x42, x43, x44, x45) hP hD hS ⟨(show 0 ≤ x47.toInt ∧ x47.toInt ≤ 400 ∧ tot x47 ≤ 4 from by omega), (show 0 ≤ x46.toInt ∧ x46.toInt ≤ 5 from by omega), (show 0 ≤ x50.toInt ∧ x50.toInt ≤ 1 from by omega), (show x50.toInt = 0 ∨ x46.toInt ≤ 4 from by omega), (show (x46, x47, x48, x49, x50, x51, x41, x42, x43, x44, x45) = J_X7_judgeBy sr tr sp sh from ((hrr36_1.trans (LT_r hzrr36_1 (exl_X7_judgeBy_2 c53 c54)))).symm)⟩ dX7_judgeBy_76
        · have f54 : x41.toInt = (-9) := f_eq rfl (by decide) c54
          refine lv_aload_n hx hb dX7_judgeBy_53 rfl (lv_at hl 1 rfl) ?_
          refine lv_aload_n hx hb dX7_judgeBy_54 rfl (lv_at hl 2 rfl) ?_
          refine lv_aload_n hx hb dX7_judgeBy_55 rfl (lv_at hl 1 rfl) ?_
          refine g_get cx hP iw_X7_judgeBy_X7 0 rfl rfl 0 (by decide) rfl fw_X7_judgeBy_9 rfl dX7_judgeBy_56 ?_
          refine lv_iload_n hx hb dX7_judgeBy_59 rfl (lv_at hl 0 rfl) ?_
          have hn55 : vp_in v40 5 := f_in (a := v40.toInt) rfl (by omega) (by omega)
          refine va_iald hx hb cx.2.1 hP 1 0 rfl rfl hn55 dX7_judgeBy_60 (lv_topi (fun v56 e56 => ?_))
          have t56 : 0 ≤ v56.toInt ∧ v56.toInt ≤ 9999 := by rw [e56]; exact r_a _
          refine lv_aload_n hx hb dX7_judgeBy_61 rfl (lv_at hl 1 rfl) ?_
          refine g_get cx hP iw_X7_judgeBy_X7 0 rfl rfl 1 (by decide) rfl fw_X7_judgeBy_15 rfl dX7_judgeBy_62 ?_
          refine lv_iload_n hx hb dX7_judgeBy_65 rfl (lv_at hl 0 rfl) ?_
          have hn57 : vp_in v40 5 := f_in (a := v40.toInt) rfl (by omega) (by omega)
          refine va_iald hx hb cx.2.1 hP 2 0 rfl rfl hn57 dX7_judgeBy_66 (lv_topi (fun v58 e58 => ?_))
          have t58 : 0 ≤ v58.toInt ∧ v58.toInt ≤ 444 := by rw [e58]; exact r_g _
          refine g_vF (w1 := fun (u : Int32 × Int32 × Int32 × Int32 × Int32 × Int32 × Int32 × Int32 × Int32 × Int64 × Int64) => [cell151_ qr sr qp (u.2.2.2.2.2.2.1) (u.2.2.2.2.2.2.2.1) (u.2.2.2.2.2.2.2.2.1) (u.2.2.2.2.2.2.2.2.2.1) (u.2.2.2.2.2.2.2.2.2.2), cell0_ k qr sr, cell1_ k qr sr, cell68_ qp (u.1) (u.2.1) (u.2.2.1) (u.2.2.2.1) (u.2.2.2.2.1) (u.2.2.2.2.2.1), cell32_ qh sh, cell0_ k qh sh, cell1_ k qh sh, cell4_ k qh sh, cell3_ k qh sh, cell2_ k qh sh]) (g_runVF (ws := [cell151_ qr sr qp x41 x42 x43 x44 x45, cell0_ k qr sr, cell1_ k qr sr, cell68_ qp x46 x47 x48 x49 x50 x51, cell32_ qh sh, cell0_ k qh sh, cell1_ k qh sh, cell4_ k qh sh, cell3_ k qh sh, cell2_ k qh sh]) (rest := []) cx hP hD hS [.ref (qh 0), .int v56, .int v58] (c_X7_judgeWeek l D k b qr (up2 sr 0 (upd (upd (upd (sr 0) 4 x41) 5 x42) 6 x43)) (up2L tr 0 (vp_updL (vp_updL (tr 0) 7 x44) 8 x45)) qp (up2 sp 0 (upd (upd (upd (upd (upd (upd (sp 0) 0 x46) 1 x47) 2 x48) 3 x49) 4 x50) 5 x51)) qh sh H.size v56 v58 (show 0 ≤ x47.toInt ∧ x47.toInt ≤ 400 ∧ tot x47 ≤ 4 from by first | decide | omega) (show 0 ≤ x46.toInt ∧ x46.toInt ≤ 5 from by first | decide | omega) (show 0 ≤ x50.toInt ∧ x50.toInt ≤ 1 from by first | decide | omega) (show x50.toInt = 0 ∨ x46.toInt ≤ 4 from by first | decide | omega) (show 0 ≤ (sh 0 0).toInt ∧ (sh 0 0).toInt ≤ 5 from by first | decide | omega) (show 0 ≤ (sh 0 1).toInt ∧ (sh 0 1).toInt ≤ 4 from by first | decide | omega) (show 0 ≤ (sh 0 12).toInt ∧ (sh 0 12).toInt ≤ 5 from by first | decide | omega) h_of h_go (show 0 ≤ v56.toInt ∧ v56.toInt ≤ 9999 from by first | decide | omega) (show 0 ≤ v58.toInt ∧ v58.toInt ≤ 444 from by first | decide | omega)) gX7_judgeBy_X7_judgeWeek rfl rfl rfl nd_X7_judgeWeek ⟨Nat.le_of_ble_eq_true rfl, Nat.le_of_ble_eq_true rfl⟩ (ci := 5) (q0 := 0) rfl rfl rfl hl.1 rfl (Nat.le_of_ble_eq_true rfl) ⟨Nat.zero_le _, Nat.zero_le _⟩ dX7_judgeBy_67) cx.2.2.1 hD hS (fun u60 H locs hw59 hP hD hS => ?_)
          obtain ⟨m61, m62, m63, m64, m65, m66, m67, m68, m69, m70, m71⟩ := u60
          have hP : va_P D vwCl [cell151_ qr sr qp m67 m68 m69 m70 m71, cell0_ k qr sr, cell1_ k qr sr, cell68_ qp m61 m62 m63 m64 m65 m66, cell32_ qh sh, cell0_ k qh sh, cell1_ k qh sh, cell4_ k qh sh, cell3_ k qh sh, cell2_ k qh sh] H := hP
          have hD : va_D A [cell151_ qr sr qp m67 m68 m69 m70 m71, cell0_ k qr sr, cell1_ k qr sr, cell68_ qp m61 m62 m63 m64 m65 m66, cell32_ qh sh, cell0_ k qh sh, cell1_ k qh sh, cell4_ k qh sh, cell3_ k qh sh, cell2_ k qh sh] := hD
          replace hw59 : (0 ≤ m62.toInt ∧ m62.toInt ≤ 400 ∧ tot m62 ≤ 4) ∧ (0 ≤ m61.toInt ∧ m61.toInt ≤ 5) ∧ (0 ≤ m65.toInt ∧ m65.toInt ≤ 1) ∧ (m65.toInt = 0 ∨ m61.toInt ≤ 4) ∧ ((m61, m62, m63, m64, m65, m66, m67, m68, m69, m70, m71) = J_X7_judgeWeek (up2 sr 0 (upd (upd (upd (sr 0) 4 x41) 5 x42) 6 x43)) (up2L tr 0 (vp_updL (vp_updL (tr 0) 7 x44) 8 x45)) (up2 sp 0 (upd (upd (upd (upd (upd (upd (sp 0) 0 x46) 1 x47) 2 x48) 3 x49) 4 x50) 5 x51)) sh v56 v58) := hw59
          obtain ⟨w72, w73, w74, w75, w76⟩ := hw59
          obtain ⟨v78, e78⟩ : ∃ z : Int32, z = v40 + 1 := ⟨_, rfl⟩
          refine lv_iinc (v := v78) (lv' := [(2, .int v78), (0, .ref (qr 0)), (1, .ref (qh 0))]) hx hb dX7_judgeBy_70 hl (k := 0) rfl (by rw [e78]; rfl) (by decide) rfl (fun ls hl => ?_)
          have t78 : v78.toInt = v40.toInt + 1 := by rw [e78]; exact i_add rfl (by decide) (by omega) (by omega)
          refine lv_goto (tgt := 36) hx hb dX7_judgeBy_73 (by decide) ?_
          exact ih36 v78 m67 m68 m69 m70 m71 m61 m62 m63 m64 m65 m66 _ _ _ (by omega) (by first | decide | omega) (by first | decide | omega) (by first | decide | omega) (by first | decide | omega) (by first | decide | omega) (by first | decide | omega) (LT_g hzrr36_1 (exl_X7_judgeBy_3 e56 e58 e78 c53 c54 w76)) hP hD hS (lv_sub hl [0, 1, 2] rfl)
  have hlit79 : (0 : Int32).toInt = 0 := by decide
  have hlit80 : (-9 : Int32).toInt = -9 := by decide
  have hlit81 : (-9 : Int32).toInt = -9 := by decide
  have hlit82 : (0 : Int32).toInt = 0 := by decide
  have hlit83 : (1 : Int32).toInt = 1 := by decide
  have hlit84 : (1 : Int32).toInt = 1 := by decide
  exact hL36 (6) 0 (-9) (-9) 0 1 1 m3 m4 m5 m6 m7 m8 _ _ _ (by omega) (by first | decide | omega) (by first | decide | omega) (by first | decide | omega) (by first | decide | omega) (by first | decide | omega) (by first | decide | omega) err36_1 hP hD hS (lv_sub hl [0, 1, 2] rfl)
