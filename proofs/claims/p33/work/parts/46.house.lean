theorem fw_X4_clear_15 : Cond.fieldLink RX4 15 "StillInAugust$House" "offers" "[I" ∈ wsX4_clear := by decide +kernel
theorem fw_X4_clear_18 : Cond.fieldLink RX4 18 "StillInAugust$House" "goes" "[I" ∈ wsX4_clear := by decide +kernel
theorem fw_X4_clear_21 : Cond.fieldLink RX4 21 "StillInAugust$House" "does" "[I" ∈ wsX4_clear := by decide +kernel
theorem fw_X4_clear_32 : Cond.fieldLink RX4 32 "StillInAugust$House" "weeks" "I" ∈ wsX4_clear := by decide +kernel
theorem fw_X4_clear_36 : Cond.fieldLink RX4 36 "StillInAugust$House" "hooks" "I" ∈ wsX4_clear := by decide +kernel
theorem fw_X4_clear_45 : Cond.fieldLink RX4 45 "StillInAugust$House" "pay" "I" ∈ wsX4_clear := by decide +kernel
theorem fw_X4_clear_48 : Cond.fieldLink RX4 48 "StillInAugust$House" "shortPrice" "I" ∈ wsX4_clear := by decide +kernel
theorem fw_X4_clear_51 : Cond.fieldLink RX4 51 "StillInAugust$House" "letGoPrice" "I" ∈ wsX4_clear := by decide +kernel
theorem fw_X4_clear_54 : Cond.fieldLink RX4 54 "StillInAugust$House" "teachPrice" "I" ∈ wsX4_clear := by decide +kernel
theorem fw_X4_clear_57 : Cond.fieldLink RX4 57 "StillInAugust$House" "agencyPrice" "I" ∈ wsX4_clear := by decide +kernel
theorem fw_X4_clear_60 : Cond.fieldLink RX4 60 "StillInAugust$House" "bonus" "I" ∈ wsX4_clear := by decide +kernel
theorem fw_X4_clear_63 : Cond.fieldLink RX4 63 "StillInAugust$House" "fifthsLess" "I" ∈ wsX4_clear := by decide +kernel
theorem fw_X4_clear_9 : Cond.fieldLink RX4 9 "StillInAugust$House" "wants" "[I" ∈ wsX4_clear := by decide +kernel
theorem nd_J7_fill_53178 : yJ7_fill_53178.cls ≠ "java/lang/invoke/MethodHandle" ∧ yJ7_fill_53178.cls ≠ "java/lang/invoke/VarHandle" ∧ (parseMethodDescriptor yJ7_fill_53178.desc).map (fun d => d.parameters.length) = some 2 := by decide +kernel
theorem iw_X4_clear_X4 : ∀ w ∈ u_ws RX4 TX4 14, w ∈ wsX4_clear := fun _ h => List.mem_cons_of_mem _ (List.mem_append_right _ h)
set_option maxHeartbeats 4000000 in
set_option maxRecDepth 100000 in
theorem c_X4_clear (l : Launch) (D : va_G) (k : Nat → ClassId) (b : Nat → Nat) (qh : Nat → Nat) (sh : Nat → Nat → Int32) (sz : Nat) (h_of : ∀ j, 0 ≤ (sh 2 j).toInt ∧ (sh 2 j).toInt ≤ 4) (h_go : ∀ j, 0 ≤ (sh 3 j).toInt ∧ (sh 3 j).toInt ≤ 5) : MetV l D k b yX4_clear wsX4_clear ({ frames := 1, cells := 0, slots := 0, locals := 23 } : Room) [(qh 0, .inr (2, [.int (sh 0 0), .int (sh 0 1), .ref (qh 1), .ref (qh 2), .ref (qh 3), .ref (qh 4), .int (sh 0 6), .int (sh 0 7), .int (sh 0 8), .int (sh 0 9), .int (sh 0 10), .int (sh 0 11), .int (sh 0 12), .ref (qh 5)])), (qh 1, .inl (k 0, 5, .inl (sh 1))), (qh 2, .inl (k 0, 5, .inl (sh 2))), (qh 3, .inl (k 0, 3, .inl (sh 3))), (qh 4, .inl (k 0, 3, .inl (sh 4))), (qh 5, .inl (k 0, 525, .inl (sh 5)))] sz [.ref (qh 0)] (fun (u : Int32 × Int32 × (Nat → Int32) × (Nat → Int32) × (Nat → Int32) × (Nat → Int32) × Int32 × Int32 × Int32 × Int32 × Int32 × Int32 × Int32) => (0 ≤ (u.1).toInt ∧ (u.1).toInt ≤ 5) ∧ (0 ≤ (u.2.1).toInt ∧ (u.2.1).toInt ≤ 4) ∧ (0 ≤ (u.2.2.2.2.2.2.2.2.2.2.2.2).toInt ∧ (u.2.2.2.2.2.2.2.2.2.2.2.2).toInt ≤ 5) ∧ (∀ j, 0 ≤ ((u.2.2.2.1) j).toInt ∧ ((u.2.2.2.1) j).toInt ≤ 4) ∧ (∀ j, 0 ≤ ((u.2.2.2.2.1) j).toInt ∧ ((u.2.2.2.2.1) j).toInt ≤ 5)) (fun u => [(qh 0, .inr (2, [.int (u.1), .int (u.2.1), .ref (qh 1), .ref (qh 2), .ref (qh 3), .ref (qh 4), .int (u.2.2.2.2.2.2.1), .int (u.2.2.2.2.2.2.2.1), .int (u.2.2.2.2.2.2.2.2.1), .int (u.2.2.2.2.2.2.2.2.2.1), .int (u.2.2.2.2.2.2.2.2.2.2.1), .int (u.2.2.2.2.2.2.2.2.2.2.2.1), .int (u.2.2.2.2.2.2.2.2.2.2.2.2), .ref (qh 5)])), (qh 1, .inl (k 0, 5, .inl (u.2.2.1))), (qh 2, .inl (k 0, 5, .inl (u.2.2.2.1))), (qh 3, .inl (k 0, 3, .inl (u.2.2.2.2.1))), (qh 4, .inl (k 0, 3, .inl (u.2.2.2.2.2.1))), (qh 5, .inl (k 0, 525, .inl (sh 5)))]) := by
  refine g_enter (cc := cX4_clear) (maxL := 1) (ret := none) (by decide) rfl (Nat.le_of_ble_eq_true rfl) ?_
  intro p e s m below meth c A hsz hAe cx hr hP hD hS ls hl
  rw [hAe]
  refine g_q (fun Q hQ => ?_)
  have hx := cx.1.1
  have hb := cx.1.2.1
  have hl : lv_has ls 1 [(0, .ref (qh 0))] := hl
  obtain ⟨H, eH⟩ : ∃ H : Heap, H = s.heap := ⟨_, rfl⟩
  obtain ⟨locs, el⟩ : ∃ L : List Loc, L = [] := ⟨_, rfl⟩
  have hP : va_P D vwCl [(qh 0, .inr (2, [.int (sh 0 0), .int (sh 0 1), .ref (qh 1), .ref (qh 2), .ref (qh 3), .ref (qh 4), .int (sh 0 6), .int (sh 0 7), .int (sh 0 8), .int (sh 0 9), .int (sh 0 10), .int (sh 0 11), .int (sh 0 12), .ref (qh 5)])), (qh 1, .inl (k 0, 5, .inl (sh 1))), (qh 2, .inl (k 0, 5, .inl (sh 2))), (qh 3, .inl (k 0, 3, .inl (sh 3))), (qh 4, .inl (k 0, 3, .inl (sh 4))), (qh 5, .inl (k 0, 525, .inl (sh 5)))] H := by rw [eH]; exact hP
  have hD : va_D A [(qh 0, .inr (2, [.int (sh 0 0), .int (sh 0 1), .ref (qh 1), .ref (qh 2), .ref (qh 3), .ref (qh 4), .int (sh 0 6), .int (sh 0 7), .int (sh 0 8), .int (sh 0 9), .int (sh 0 10), .int (sh 0 11), .int (sh 0 12), .ref (qh 5)])), (qh 1, .inl (k 0, 5, .inl (sh 1))), (qh 2, .inl (k 0, 5, .inl (sh 2))), (qh 3, .inl (k 0, 3, .inl (sh 3))), (qh 4, .inl (k 0, 3, .inl (sh 4))), (qh 5, .inl (k 0, 525, .inl (sh 5)))] := hD
  have hS : va_S A s.heap H locs := by rw [eH, el]; exact hS
  suffices goal : W p l e ({ frames := 1, cells := 0, slots := 0, locals := 23 } : Room) s m ([.ref (qh 0)] : List Value).toArray below meth c H locs 0 0 Q (F0 m 0 ls []) by rw [eH, el] at goal; exact goal
  refine lv_aload_n hx hb dX4_clear_0 rfl (lv_at hl 0 rfl) ?_
  refine lv_iconst (v := 1) hx hb dX4_clear_1 (by decide) ?_
  refine g_pt cx hP hD hS iw_X4_clear_X4 tyX4 tyX4_ok nmX4 0 rfl rfl 0 (by decide) rfl fw_X4_clear_32 (ty := .int) rfl rfl rfl (Nat.le_of_ble_eq_true rfl) dX4_clear_2 (fun H locs hP hD hS => ?_)
  have hP : va_P D vwCl [(qh 0, .inr (2, [.int 1, .int (sh 0 1), .ref (qh 1), .ref (qh 2), .ref (qh 3), .ref (qh 4), .int (sh 0 6), .int (sh 0 7), .int (sh 0 8), .int (sh 0 9), .int (sh 0 10), .int (sh 0 11), .int (sh 0 12), .ref (qh 5)])), (qh 1, .inl (k 0, 5, .inl (sh 1))), (qh 2, .inl (k 0, 5, .inl (sh 2))), (qh 3, .inl (k 0, 3, .inl (sh 3))), (qh 4, .inl (k 0, 3, .inl (sh 4))), (qh 5, .inl (k 0, 525, .inl (sh 5)))] H := hP
  have hD : va_D A [(qh 0, .inr (2, [.int 1, .int (sh 0 1), .ref (qh 1), .ref (qh 2), .ref (qh 3), .ref (qh 4), .int (sh 0 6), .int (sh 0 7), .int (sh 0 8), .int (sh 0 9), .int (sh 0 10), .int (sh 0 11), .int (sh 0 12), .ref (qh 5)])), (qh 1, .inl (k 0, 5, .inl (sh 1))), (qh 2, .inl (k 0, 5, .inl (sh 2))), (qh 3, .inl (k 0, 3, .inl (sh 3))), (qh 4, .inl (k 0, 3, .inl (sh 4))), (qh 5, .inl (k 0, 525, .inl (sh 5)))] := hD
  have hlit1 : (1 : Int32).toInt = 1 := by decide
  refine lv_aload_n hx hb dX4_clear_5 rfl (lv_at hl 0 rfl) ?_
  refine lv_iconst (v := 2) hx hb dX4_clear_6 (by decide) ?_
  refine g_pt cx hP hD hS iw_X4_clear_X4 tyX4 tyX4_ok nmX4 0 rfl rfl 1 (by decide) rfl fw_X4_clear_36 (ty := .int) rfl rfl rfl (Nat.le_of_ble_eq_true rfl) dX4_clear_7 (fun H locs hP hD hS => ?_)
  have hP : va_P D vwCl [(qh 0, .inr (2, [.int 1, .int 2, .ref (qh 1), .ref (qh 2), .ref (qh 3), .ref (qh 4), .int (sh 0 6), .int (sh 0 7), .int (sh 0 8), .int (sh 0 9), .int (sh 0 10), .int (sh 0 11), .int (sh 0 12), .ref (qh 5)])), (qh 1, .inl (k 0, 5, .inl (sh 1))), (qh 2, .inl (k 0, 5, .inl (sh 2))), (qh 3, .inl (k 0, 3, .inl (sh 3))), (qh 4, .inl (k 0, 3, .inl (sh 4))), (qh 5, .inl (k 0, 525, .inl (sh 5)))] H := hP
  have hD : va_D A [(qh 0, .inr (2, [.int 1, .int 2, .ref (qh 1), .ref (qh 2), .ref (qh 3), .ref (qh 4), .int (sh 0 6), .int (sh 0 7), .int (sh 0 8), .int (sh 0 9), .int (sh 0 10), .int (sh 0 11), .int (sh 0 12), .ref (qh 5)])), (qh 1, .inl (k 0, 5, .inl (sh 1))), (qh 2, .inl (k 0, 5, .inl (sh 2))), (qh 3, .inl (k 0, 3, .inl (sh 3))), (qh 4, .inl (k 0, 3, .inl (sh 4))), (qh 5, .inl (k 0, 525, .inl (sh 5)))] := hD
  have hlit2 : (2 : Int32).toInt = 2 := by decide
  refine lv_aload_n hx hb dX4_clear_10 rfl (lv_at hl 0 rfl) ?_
  refine g_get cx hP iw_X4_clear_X4 0 rfl rfl 2 (by decide) rfl fw_X4_clear_9 rfl dX4_clear_11 ?_
  refine lv_iconst (v := 0) hx hb dX4_clear_14 (by decide) ?_
  have hlit3 : (0 : Int32).toInt = 0 := by decide
  refine g_v (w1 := fun (u : (Nat → Int32)) => [(qh 1, .inl (k 0, 5, .inl u))]) (g_runS (wc := [(qh 1, .inl (k 0, 5, .inl (sh 1)))]) (rest := []) cx hP hD hS [1] rfl (by decide) [.ref (qh 1), .int 0] (c_J7_fill_53178_5 l D k b (fun _ => qh 1) (fun _ => (sh 1)) H.size 0) gX4_clear_J7_fill_53178 rfl rfl rfl nd_J7_fill_53178 ⟨Nat.le_of_ble_eq_true rfl, Nat.le_of_ble_eq_true rfl⟩ rfl hl.1 rfl (Nat.le_of_ble_eq_true rfl) ⟨Nat.zero_le _, Nat.zero_le _⟩ dX4_clear_15) cx.2.2.1 hP hD hS [1] rfl (fun _ => rfl) (fun u5 H locs hw4 hP hD hS => ?_)
  obtain ⟨m6, rfl⟩ : ∃ z, z = u5 := ⟨_, rfl⟩
  have hP : va_P D vwCl [(qh 0, .inr (2, [.int 1, .int 2, .ref (qh 1), .ref (qh 2), .ref (qh 3), .ref (qh 4), .int (sh 0 6), .int (sh 0 7), .int (sh 0 8), .int (sh 0 9), .int (sh 0 10), .int (sh 0 11), .int (sh 0 12), .ref (qh 5)])), (qh 1, .inl (k 0, 5, .inl m6)), (qh 2, .inl (k 0, 5, .inl (sh 2))), (qh 3, .inl (k 0, 3, .inl (sh 3))), (qh 4, .inl (k 0, 3, .inl (sh 4))), (qh 5, .inl (k 0, 525, .inl (sh 5)))] H := hP
  have hD : va_D A [(qh 0, .inr (2, [.int 1, .int 2, .ref (qh 1), .ref (qh 2), .ref (qh 3), .ref (qh 4), .int (sh 0 6), .int (sh 0 7), .int (sh 0 8), .int (sh 0 9), .int (sh 0 10), .int (sh 0 11), .int (sh 0 12), .ref (qh 5)])), (qh 1, .inl (k 0, 5, .inl m6)), (qh 2, .inl (k 0, 5, .inl (sh 2))), (qh 3, .inl (k 0, 3, .inl (sh 3))), (qh 4, .inl (k 0, 3, .inl (sh 4))), (qh 5, .inl (k 0, 525, .inl (sh 5)))] := hD
  have w7 : m6 = fillI 5 (0 : Int32) (sh 1) := hw4
  clear hw4
  refine lv_aload_n hx hb dX4_clear_18 rfl (lv_at hl 0 rfl) ?_
  refine g_get cx hP iw_X4_clear_X4 0 rfl rfl 3 (by decide) rfl fw_X4_clear_15 rfl dX4_clear_19 ?_
  refine lv_iconst (v := 1) hx hb dX4_clear_22 (by decide) ?_
  have hlit8 : (1 : Int32).toInt = 1 := by decide
  refine g_v (w1 := fun (u : (Nat → Int32)) => [(qh 2, .inl (k 0, 5, .inl u))]) (g_runS (wc := [(qh 2, .inl (k 0, 5, .inl (sh 2)))]) (rest := []) cx hP hD hS [2] rfl (by decide) [.ref (qh 2), .int 1] (c_J7_fill_53178_5 l D k b (fun _ => qh 2) (fun _ => (sh 2)) H.size 1) gX4_clear_J7_fill_53178 rfl rfl rfl nd_J7_fill_53178 ⟨Nat.le_of_ble_eq_true rfl, Nat.le_of_ble_eq_true rfl⟩ rfl hl.1 rfl (Nat.le_of_ble_eq_true rfl) ⟨Nat.zero_le _, Nat.zero_le _⟩ dX4_clear_23) cx.2.2.1 hP hD hS [2] rfl (fun _ => rfl) (fun u10 H locs hw9 hP hD hS => ?_)
  obtain ⟨m11, rfl⟩ : ∃ z, z = u10 := ⟨_, rfl⟩
  have hP : va_P D vwCl [(qh 0, .inr (2, [.int 1, .int 2, .ref (qh 1), .ref (qh 2), .ref (qh 3), .ref (qh 4), .int (sh 0 6), .int (sh 0 7), .int (sh 0 8), .int (sh 0 9), .int (sh 0 10), .int (sh 0 11), .int (sh 0 12), .ref (qh 5)])), (qh 1, .inl (k 0, 5, .inl m6)), (qh 2, .inl (k 0, 5, .inl m11)), (qh 3, .inl (k 0, 3, .inl (sh 3))), (qh 4, .inl (k 0, 3, .inl (sh 4))), (qh 5, .inl (k 0, 525, .inl (sh 5)))] H := hP
  have hD : va_D A [(qh 0, .inr (2, [.int 1, .int 2, .ref (qh 1), .ref (qh 2), .ref (qh 3), .ref (qh 4), .int (sh 0 6), .int (sh 0 7), .int (sh 0 8), .int (sh 0 9), .int (sh 0 10), .int (sh 0 11), .int (sh 0 12), .ref (qh 5)])), (qh 1, .inl (k 0, 5, .inl m6)), (qh 2, .inl (k 0, 5, .inl m11)), (qh 3, .inl (k 0, 3, .inl (sh 3))), (qh 4, .inl (k 0, 3, .inl (sh 4))), (qh 5, .inl (k 0, 525, .inl (sh 5)))] := hD
  have w12 : m11 = fillI 5 (1 : Int32) (sh 2) := hw9
  clear hw9
  have afw12 := fillI_all w12 h_of ⟨by decide, by decide⟩
  refine lv_aload_n hx hb dX4_clear_26 rfl (lv_at hl 0 rfl) ?_
  refine g_get cx hP iw_X4_clear_X4 0 rfl rfl 4 (by decide) rfl fw_X4_clear_18 rfl dX4_clear_27 ?_
  refine lv_iconst (v := 1) hx hb dX4_clear_30 (by decide) ?_
  have hlit13 : (1 : Int32).toInt = 1 := by decide
  refine g_v (w1 := fun (u : (Nat → Int32)) => [(qh 3, .inl (k 0, 3, .inl u))]) (g_runS (wc := [(qh 3, .inl (k 0, 3, .inl (sh 3)))]) (rest := []) cx hP hD hS [3] rfl (by decide) [.ref (qh 3), .int 1] (c_J7_fill_53178_3 l D k b (fun _ => qh 3) (fun _ => (sh 3)) H.size 1) gX4_clear_J7_fill_53178 rfl rfl rfl nd_J7_fill_53178 ⟨Nat.le_of_ble_eq_true rfl, Nat.le_of_ble_eq_true rfl⟩ rfl hl.1 rfl (Nat.le_of_ble_eq_true rfl) ⟨Nat.zero_le _, Nat.zero_le _⟩ dX4_clear_31) cx.2.2.1 hP hD hS [3] rfl (fun _ => rfl) (fun u15 H locs hw14 hP hD hS => ?_)
  obtain ⟨m16, rfl⟩ : ∃ z, z = u15 := ⟨_, rfl⟩
  have hP : va_P D vwCl [(qh 0, .inr (2, [.int 1, .int 2, .ref (qh 1), .ref (qh 2), .ref (qh 3), .ref (qh 4), .int (sh 0 6), .int (sh 0 7), .int (sh 0 8), .int (sh 0 9), .int (sh 0 10), .int (sh 0 11), .int (sh 0 12), .ref (qh 5)])), (qh 1, .inl (k 0, 5, .inl m6)), (qh 2, .inl (k 0, 5, .inl m11)), (qh 3, .inl (k 0, 3, .inl m16)), (qh 4, .inl (k 0, 3, .inl (sh 4))), (qh 5, .inl (k 0, 525, .inl (sh 5)))] H := hP
  have hD : va_D A [(qh 0, .inr (2, [.int 1, .int 2, .ref (qh 1), .ref (qh 2), .ref (qh 3), .ref (qh 4), .int (sh 0 6), .int (sh 0 7), .int (sh 0 8), .int (sh 0 9), .int (sh 0 10), .int (sh 0 11), .int (sh 0 12), .ref (qh 5)])), (qh 1, .inl (k 0, 5, .inl m6)), (qh 2, .inl (k 0, 5, .inl m11)), (qh 3, .inl (k 0, 3, .inl m16)), (qh 4, .inl (k 0, 3, .inl (sh 4))), (qh 5, .inl (k 0, 525, .inl (sh 5)))] := hD
  have w17 : m16 = fillI 3 (1 : Int32) (sh 3) := hw14
  clear hw14
  have afw17 := fillI_all w17 h_go ⟨by decide, by decide⟩
  refine lv_aload_n hx hb dX4_clear_34 rfl (lv_at hl 0 rfl) ?_
  refine g_get cx hP iw_X4_clear_X4 0 rfl rfl 5 (by decide) rfl fw_X4_clear_21 rfl dX4_clear_35 ?_
  refine lv_iconst (v := 4) hx hb dX4_clear_38 (by decide) ?_
  have hlit18 : (4 : Int32).toInt = 4 := by decide
  refine g_v (w1 := fun (u : (Nat → Int32)) => [(qh 4, .inl (k 0, 3, .inl u))]) (g_runS (wc := [(qh 4, .inl (k 0, 3, .inl (sh 4)))]) (rest := []) cx hP hD hS [4] rfl (by decide) [.ref (qh 4), .int 4] (c_J7_fill_53178_3 l D k b (fun _ => qh 4) (fun _ => (sh 4)) H.size 4) gX4_clear_J7_fill_53178 rfl rfl rfl nd_J7_fill_53178 ⟨Nat.le_of_ble_eq_true rfl, Nat.le_of_ble_eq_true rfl⟩ rfl hl.1 rfl (Nat.le_of_ble_eq_true rfl) ⟨Nat.zero_le _, Nat.zero_le _⟩ dX4_clear_39) cx.2.2.1 hP hD hS [4] rfl (fun _ => rfl) (fun u20 H locs hw19 hP hD hS => ?_)
  obtain ⟨m21, rfl⟩ : ∃ z, z = u20 := ⟨_, rfl⟩
  have hP : va_P D vwCl [(qh 0, .inr (2, [.int 1, .int 2, .ref (qh 1), .ref (qh 2), .ref (qh 3), .ref (qh 4), .int (sh 0 6), .int (sh 0 7), .int (sh 0 8), .int (sh 0 9), .int (sh 0 10), .int (sh 0 11), .int (sh 0 12), .ref (qh 5)])), (qh 1, .inl (k 0, 5, .inl m6)), (qh 2, .inl (k 0, 5, .inl m11)), (qh 3, .inl (k 0, 3, .inl m16)), (qh 4, .inl (k 0, 3, .inl m21)), (qh 5, .inl (k 0, 525, .inl (sh 5)))] H := hP
  have hD : va_D A [(qh 0, .inr (2, [.int 1, .int 2, .ref (qh 1), .ref (qh 2), .ref (qh 3), .ref (qh 4), .int (sh 0 6), .int (sh 0 7), .int (sh 0 8), .int (sh 0 9), .int (sh 0 10), .int (sh 0 11), .int (sh 0 12), .ref (qh 5)])), (qh 1, .inl (k 0, 5, .inl m6)), (qh 2, .inl (k 0, 5, .inl m11)), (qh 3, .inl (k 0, 3, .inl m16)), (qh 4, .inl (k 0, 3, .inl m21)), (qh 5, .inl (k 0, 525, .inl (sh 5)))] := hD
  have w22 : m21 = fillI 3 (4 : Int32) (sh 4) := hw19
  clear hw19
  refine lv_aload_n hx hb dX4_clear_42 rfl (lv_at hl 0 rfl) ?_
  refine lv_iconst (v := 1) hx hb dX4_clear_43 (by decide) ?_
  refine g_pt cx hP hD hS iw_X4_clear_X4 tyX4 tyX4_ok nmX4 0 rfl rfl 6 (by decide) rfl fw_X4_clear_45 (ty := .int) rfl rfl rfl (Nat.le_of_ble_eq_true rfl) dX4_clear_44 (fun H locs hP hD hS => ?_)
  have hP : va_P D vwCl [(qh 0, .inr (2, [.int 1, .int 2, .ref (qh 1), .ref (qh 2), .ref (qh 3), .ref (qh 4), .int 1, .int (sh 0 7), .int (sh 0 8), .int (sh 0 9), .int (sh 0 10), .int (sh 0 11), .int (sh 0 12), .ref (qh 5)])), (qh 1, .inl (k 0, 5, .inl m6)), (qh 2, .inl (k 0, 5, .inl m11)), (qh 3, .inl (k 0, 3, .inl m16)), (qh 4, .inl (k 0, 3, .inl m21)), (qh 5, .inl (k 0, 525, .inl (sh 5)))] H := hP
  have hD : va_D A [(qh 0, .inr (2, [.int 1, .int 2, .ref (qh 1), .ref (qh 2), .ref (qh 3), .ref (qh 4), .int 1, .int (sh 0 7), .int (sh 0 8), .int (sh 0 9), .int (sh 0 10), .int (sh 0 11), .int (sh 0 12), .ref (qh 5)])), (qh 1, .inl (k 0, 5, .inl m6)), (qh 2, .inl (k 0, 5, .inl m11)), (qh 3, .inl (k 0, 3, .inl m16)), (qh 4, .inl (k 0, 3, .inl m21)), (qh 5, .inl (k 0, 525, .inl (sh 5)))] := hD
  have hlit23 : (1 : Int32).toInt = 1 := by decide
  refine lv_aload_n hx hb dX4_clear_47 rfl (lv_at hl 0 rfl) ?_
  refine lv_iconst (v := 1) hx hb dX4_clear_48 (by decide) ?_
  refine g_pt cx hP hD hS iw_X4_clear_X4 tyX4 tyX4_ok nmX4 0 rfl rfl 7 (by decide) rfl fw_X4_clear_48 (ty := .int) rfl rfl rfl (Nat.le_of_ble_eq_true rfl) dX4_clear_49 (fun H locs hP hD hS => ?_)
  have hP : va_P D vwCl [(qh 0, .inr (2, [.int 1, .int 2, .ref (qh 1), .ref (qh 2), .ref (qh 3), .ref (qh 4), .int 1, .int 1, .int (sh 0 8), .int (sh 0 9), .int (sh 0 10), .int (sh 0 11), .int (sh 0 12), .ref (qh 5)])), (qh 1, .inl (k 0, 5, .inl m6)), (qh 2, .inl (k 0, 5, .inl m11)), (qh 3, .inl (k 0, 3, .inl m16)), (qh 4, .inl (k 0, 3, .inl m21)), (qh 5, .inl (k 0, 525, .inl (sh 5)))] H := hP
  have hD : va_D A [(qh 0, .inr (2, [.int 1, .int 2, .ref (qh 1), .ref (qh 2), .ref (qh 3), .ref (qh 4), .int 1, .int 1, .int (sh 0 8), .int (sh 0 9), .int (sh 0 10), .int (sh 0 11), .int (sh 0 12), .ref (qh 5)])), (qh 1, .inl (k 0, 5, .inl m6)), (qh 2, .inl (k 0, 5, .inl m11)), (qh 3, .inl (k 0, 3, .inl m16)), (qh 4, .inl (k 0, 3, .inl m21)), (qh 5, .inl (k 0, 525, .inl (sh 5)))] := hD
  have hlit24 : (1 : Int32).toInt = 1 := by decide
  refine lv_aload_n hx hb dX4_clear_52 rfl (lv_at hl 0 rfl) ?_
  refine lv_bipush (v := (-9)) hx hb dX4_clear_53 (by decide) ?_
  refine g_pt cx hP hD hS iw_X4_clear_X4 tyX4 tyX4_ok nmX4 0 rfl rfl 8 (by decide) rfl fw_X4_clear_51 (ty := .int) rfl rfl rfl (Nat.le_of_ble_eq_true rfl) dX4_clear_55 (fun H locs hP hD hS => ?_)
  have hP : va_P D vwCl [(qh 0, .inr (2, [.int 1, .int 2, .ref (qh 1), .ref (qh 2), .ref (qh 3), .ref (qh 4), .int 1, .int 1, .int (-9), .int (sh 0 9), .int (sh 0 10), .int (sh 0 11), .int (sh 0 12), .ref (qh 5)])), (qh 1, .inl (k 0, 5, .inl m6)), (qh 2, .inl (k 0, 5, .inl m11)), (qh 3, .inl (k 0, 3, .inl m16)), (qh 4, .inl (k 0, 3, .inl m21)), (qh 5, .inl (k 0, 525, .inl (sh 5)))] H := hP
  have hD : va_D A [(qh 0, .inr (2, [.int 1, .int 2, .ref (qh 1), .ref (qh 2), .ref (qh 3), .ref (qh 4), .int 1, .int 1, .int (-9), .int (sh 0 9), .int (sh 0 10), .int (sh 0 11), .int (sh 0 12), .ref (qh 5)])), (qh 1, .inl (k 0, 5, .inl m6)), (qh 2, .inl (k 0, 5, .inl m11)), (qh 3, .inl (k 0, 3, .inl m16)), (qh 4, .inl (k 0, 3, .inl m21)), (qh 5, .inl (k 0, 525, .inl (sh 5)))] := hD
  have hlit25 : ((-9) : Int32).toInt = -9 := by decide
  refine lv_aload_n hx hb dX4_clear_58 rfl (lv_at hl 0 rfl) ?_
  refine lv_bipush (v := (-9)) hx hb dX4_clear_59 (by decide) ?_
  refine g_pt cx hP hD hS iw_X4_clear_X4 tyX4 tyX4_ok nmX4 0 rfl rfl 9 (by decide) rfl fw_X4_clear_54 (ty := .int) rfl rfl rfl (Nat.le_of_ble_eq_true rfl) dX4_clear_61 (fun H locs hP hD hS => ?_)
  have hP : va_P D vwCl [(qh 0, .inr (2, [.int 1, .int 2, .ref (qh 1), .ref (qh 2), .ref (qh 3), .ref (qh 4), .int 1, .int 1, .int (-9), .int (-9), .int (sh 0 10), .int (sh 0 11), .int (sh 0 12), .ref (qh 5)])), (qh 1, .inl (k 0, 5, .inl m6)), (qh 2, .inl (k 0, 5, .inl m11)), (qh 3, .inl (k 0, 3, .inl m16)), (qh 4, .inl (k 0, 3, .inl m21)), (qh 5, .inl (k 0, 525, .inl (sh 5)))] H := hP
  have hD : va_D A [(qh 0, .inr (2, [.int 1, .int 2, .ref (qh 1), .ref (qh 2), .ref (qh 3), .ref (qh 4), .int 1, .int 1, .int (-9), .int (-9), .int (sh 0 10), .int (sh 0 11), .int (sh 0 12), .ref (qh 5)])), (qh 1, .inl (k 0, 5, .inl m6)), (qh 2, .inl (k 0, 5, .inl m11)), (qh 3, .inl (k 0, 3, .inl m16)), (qh 4, .inl (k 0, 3, .inl m21)), (qh 5, .inl (k 0, 525, .inl (sh 5)))] := hD
  have hlit26 : ((-9) : Int32).toInt = -9 := by decide
  refine lv_aload_n hx hb dX4_clear_64 rfl (lv_at hl 0 rfl) ?_
  refine lv_bipush (v := (-9)) hx hb dX4_clear_65 (by decide) ?_
  refine g_pt cx hP hD hS iw_X4_clear_X4 tyX4 tyX4_ok nmX4 0 rfl rfl 10 (by decide) rfl fw_X4_clear_57 (ty := .int) rfl rfl rfl (Nat.le_of_ble_eq_true rfl) dX4_clear_67 (fun H locs hP hD hS => ?_)
  have hP : va_P D vwCl [(qh 0, .inr (2, [.int 1, .int 2, .ref (qh 1), .ref (qh 2), .ref (qh 3), .ref (qh 4), .int 1, .int 1, .int (-9), .int (-9), .int (-9), .int (sh 0 11), .int (sh 0 12), .ref (qh 5)])), (qh 1, .inl (k 0, 5, .inl m6)), (qh 2, .inl (k 0, 5, .inl m11)), (qh 3, .inl (k 0, 3, .inl m16)), (qh 4, .inl (k 0, 3, .inl m21)), (qh 5, .inl (k 0, 525, .inl (sh 5)))] H := hP
  have hD : va_D A [(qh 0, .inr (2, [.int 1, .int 2, .ref (qh 1), .ref (qh 2), .ref (qh 3), .ref (qh 4), .int 1, .int 1, .int (-9), .int (-9), .int (-9), .int (sh 0 11), .int (sh 0 12), .ref (qh 5)])), (qh 1, .inl (k 0, 5, .inl m6)), (qh 2, .inl (k 0, 5, .inl m11)), (qh 3, .inl (k 0, 3, .inl m16)), (qh 4, .inl (k 0, 3, .inl m21)), (qh 5, .inl (k 0, 525, .inl (sh 5)))] := hD
  have hlit27 : ((-9) : Int32).toInt = -9 := by decide
  refine lv_aload_n hx hb dX4_clear_70 rfl (lv_at hl 0 rfl) ?_
  refine lv_bipush (v := (-9)) hx hb dX4_clear_71 (by decide) ?_
  refine g_pt cx hP hD hS iw_X4_clear_X4 tyX4 tyX4_ok nmX4 0 rfl rfl 11 (by decide) rfl fw_X4_clear_60 (ty := .int) rfl rfl rfl (Nat.le_of_ble_eq_true rfl) dX4_clear_73 (fun H locs hP hD hS => ?_)
  have hP : va_P D vwCl [(qh 0, .inr (2, [.int 1, .int 2, .ref (qh 1), .ref (qh 2), .ref (qh 3), .ref (qh 4), .int 1, .int 1, .int (-9), .int (-9), .int (-9), .int (-9), .int (sh 0 12), .ref (qh 5)])), (qh 1, .inl (k 0, 5, .inl m6)), (qh 2, .inl (k 0, 5, .inl m11)), (qh 3, .inl (k 0, 3, .inl m16)), (qh 4, .inl (k 0, 3, .inl m21)), (qh 5, .inl (k 0, 525, .inl (sh 5)))] H := hP
  have hD : va_D A [(qh 0, .inr (2, [.int 1, .int 2, .ref (qh 1), .ref (qh 2), .ref (qh 3), .ref (qh 4), .int 1, .int 1, .int (-9), .int (-9), .int (-9), .int (-9), .int (sh 0 12), .ref (qh 5)])), (qh 1, .inl (k 0, 5, .inl m6)), (qh 2, .inl (k 0, 5, .inl m11)), (qh 3, .inl (k 0, 3, .inl m16)), (qh 4, .inl (k 0, 3, .inl m21)), (qh 5, .inl (k 0, 525, .inl (sh 5)))] := hD
  have hlit28 : ((-9) : Int32).toInt = -9 := by decide
  refine lv_aload_n hx hb dX4_clear_76 rfl (lv_at hl 0 rfl) ?_
  refine lv_iconst (v := 0) hx hb dX4_clear_77 (by decide) ?_
  refine g_pt cx hP hD hS iw_X4_clear_X4 tyX4 tyX4_ok nmX4 0 rfl rfl 12 (by decide) rfl fw_X4_clear_63 (ty := .int) rfl rfl rfl (Nat.le_of_ble_eq_true rfl) dX4_clear_78 (fun H locs hP hD hS => ?_)
  have hP : va_P D vwCl [(qh 0, .inr (2, [.int 1, .int 2, .ref (qh 1), .ref (qh 2), .ref (qh 3), .ref (qh 4), .int 1, .int 1, .int (-9), .int (-9), .int (-9), .int (-9), .int 0, .ref (qh 5)])), (qh 1, .inl (k 0, 5, .inl m6)), (qh 2, .inl (k 0, 5, .inl m11)), (qh 3, .inl (k 0, 3, .inl m16)), (qh 4, .inl (k 0, 3, .inl m21)), (qh 5, .inl (k 0, 525, .inl (sh 5)))] H := hP
  have hD : va_D A [(qh 0, .inr (2, [.int 1, .int 2, .ref (qh 1), .ref (qh 2), .ref (qh 3), .ref (qh 4), .int 1, .int 1, .int (-9), .int (-9), .int (-9), .int (-9), .int 0, .ref (qh 5)])), (qh 1, .inl (k 0, 5, .inl m6)), (qh 2, .inl (k 0, 5, .inl m11)), (qh 3, .inl (k 0, 3, .inl m16)), (qh 4, .inl (k 0, 3, .inl m21)), (qh 5, .inl (k 0, 525, .inl (sh 5)))] := hD
  have hlit29 : (0 : Int32).toInt = 0 := by decide
  have hlit30 : (1 : Int32).toInt = 1 := by decide
  have hlit31 : (2 : Int32).toInt = 2 := by decide
  have hlit32 : (1 : Int32).toInt = 1 := by decide
  have hlit33 : (1 : Int32).toInt = 1 := by decide
  have hlit34 : ((-9) : Int32).toInt = -9 := by decide
  have hlit35 : ((-9) : Int32).toInt = -9 := by decide
  have hlit36 : ((-9) : Int32).toInt = -9 := by decide
  have hlit37 : ((-9) : Int32).toInt = -9 := by decide
  have hlit38 : (0 : Int32).toInt = 0 := by decide
  rw [hQ]
  exact x_v cx hr (1, 2, m6, m11, m16, m21, 1, 1, (-9), (-9), (-9), (-9), 0) hP hD hS ⟨(show 0 ≤ (1 : Int32).toInt ∧ (1 : Int32).toInt ≤ 5 from by omega), (show 0 ≤ (2 : Int32).toInt ∧ (2 : Int32).toInt ≤ 4 from by omega), (show 0 ≤ (0 : Int32).toInt ∧ (0 : Int32).toInt ≤ 5 from by omega), afw12, afw17⟩ dX4_clear_81
theorem fw_X4_putMeans_51 : Cond.fieldLink RX4 51 "StillInAugust$House" "letGoPrice" "I" ∈ wsX4_putMeans := by decide +kernel
theorem fw_X4_putMeans_54 : Cond.fieldLink RX4 54 "StillInAugust$House" "teachPrice" "I" ∈ wsX4_putMeans := by decide +kernel
theorem fw_X4_putMeans_57 : Cond.fieldLink RX4 57 "StillInAugust$House" "agencyPrice" "I" ∈ wsX4_putMeans := by decide +kernel
theorem fw_X4_putMeans_60 : Cond.fieldLink RX4 60 "StillInAugust$House" "bonus" "I" ∈ wsX4_putMeans := by decide +kernel
theorem fw_X4_putMeans_63 : Cond.fieldLink RX4 63 "StillInAugust$House" "fifthsLess" "I" ∈ wsX4_putMeans := by decide +kernel
theorem iw_X4_putMeans_X4 : ∀ w ∈ u_ws RX4 TX4 14, w ∈ wsX4_putMeans := fun _ h => List.mem_cons_of_mem _ (List.mem_append_right _ h)
set_option maxHeartbeats 4000000 in
set_option maxRecDepth 100000 in
theorem c_X4_putMeans (l : Launch) (D : va_G) (k : Nat → ClassId) (b : Nat → Nat) (qh : Nat → Nat) (sh : Nat → Nat → Int32) (sz : Nat) (p0 : Int32) (p1 : Int32) (p2 : Int32) (h_fl : 0 ≤ (sh 0 12).toInt ∧ (sh 0 12).toInt ≤ 5) (hs : ¬ p0.toInt = 66 ∨ (0 ≤ p2.toInt ∧ p2.toInt ≤ 5)) : MetV l D k b yX4_putMeans wsX4_putMeans ({ frames := 0, cells := 0, slots := 0, locals := 0 } : Room) [(qh 0, .inr (2, [.int (sh 0 0), .int (sh 0 1), .ref (qh 1), .ref (qh 2), .ref (qh 3), .ref (qh 4), .int (sh 0 6), .int (sh 0 7), .int (sh 0 8), .int (sh 0 9), .int (sh 0 10), .int (sh 0 11), .int (sh 0 12), .ref (qh 5)])), (qh 1, .inl (k 0, 5, .inl (sh 1))), (qh 2, .inl (k 0, 5, .inl (sh 2))), (qh 3, .inl (k 0, 3, .inl (sh 3))), (qh 4, .inl (k 0, 3, .inl (sh 4))), (qh 5, .inl (k 0, 525, .inl (sh 5)))] sz [.ref (qh 0), .int p0, .int p1, .int p2] (fun (u : Int32 × Int32 × Int32 × Int32 × Int32) => 0 ≤ (u.2.2.2.2).toInt ∧ (u.2.2.2.2).toInt ≤ 5) (fun u => [(qh 0, .inr (2, [.int (sh 0 0), .int (sh 0 1), .ref (qh 1), .ref (qh 2), .ref (qh 3), .ref (qh 4), .int (sh 0 6), .int (sh 0 7), .int (u.1), .int (u.2.1), .int (u.2.2.1), .int (u.2.2.2.1), .int (u.2.2.2.2), .ref (qh 5)])), (qh 1, .inl (k 0, 5, .inl (sh 1))), (qh 2, .inl (k 0, 5, .inl (sh 2))), (qh 3, .inl (k 0, 3, .inl (sh 3))), (qh 4, .inl (k 0, 3, .inl (sh 4))), (qh 5, .inl (k 0, 525, .inl (sh 5)))]) := by
  refine g_enter (cc := cX4_putMeans) (maxL := 4) (ret := none) (by decide) rfl (Nat.le_of_ble_eq_true rfl) ?_
  intro p e s m below meth c A hsz hAe cx hr hP hD hS ls hl
  rw [hAe]
  refine g_q (fun Q hQ => ?_)
  have hx := cx.1.1
  have hb := cx.1.2.1
  have bp0 := i_rng p0
  have bp1 := i_rng p1
  have bp2 := i_rng p2
  have hl : lv_has ls 4 [(0, .ref (qh 0)), (1, .int p0), (2, .int p1), (3, .int p2)] := hl
  obtain ⟨H, eH⟩ : ∃ H : Heap, H = s.heap := ⟨_, rfl⟩
  obtain ⟨locs, el⟩ : ∃ L : List Loc, L = [] := ⟨_, rfl⟩
  have hP : va_P D vwCl [(qh 0, .inr (2, [.int (sh 0 0), .int (sh 0 1), .ref (qh 1), .ref (qh 2), .ref (qh 3), .ref (qh 4), .int (sh 0 6), .int (sh 0 7), .int (sh 0 8), .int (sh 0 9), .int (sh 0 10), .int (sh 0 11), .int (sh 0 12), .ref (qh 5)])), (qh 1, .inl (k 0, 5, .inl (sh 1))), (qh 2, .inl (k 0, 5, .inl (sh 2))), (qh 3, .inl (k 0, 3, .inl (sh 3))), (qh 4, .inl (k 0, 3, .inl (sh 4))), (qh 5, .inl (k 0, 525, .inl (sh 5)))] H := by rw [eH]; exact hP
  have hD : va_D A [(qh 0, .inr (2, [.int (sh 0 0), .int (sh 0 1), .ref (qh 1), .ref (qh 2), .ref (qh 3), .ref (qh 4), .int (sh 0 6), .int (sh 0 7), .int (sh 0 8), .int (sh 0 9), .int (sh 0 10), .int (sh 0 11), .int (sh 0 12), .ref (qh 5)])), (qh 1, .inl (k 0, 5, .inl (sh 1))), (qh 2, .inl (k 0, 5, .inl (sh 2))), (qh 3, .inl (k 0, 3, .inl (sh 3))), (qh 4, .inl (k 0, 3, .inl (sh 4))), (qh 5, .inl (k 0, 525, .inl (sh 5)))] := hD
  have hS : va_S A s.heap H locs := by rw [eH, el]; exact hS
  suffices goal : W p l e ({ frames := 0, cells := 0, slots := 0, locals := 0 } : Room) s m ([.ref (qh 0), .int p0, .int p1, .int p2] : List Value).toArray below meth c H locs 0 0 Q (F0 m 0 ls []) by rw [eH, el] at goal; exact goal
  refine lv_iload_n hx hb dX4_putMeans_0 rfl (lv_at hl 1 rfl) ?_
  by_cases c1 : p0 = 65
  · refine lv_lookup (tgt := 60) (off := 59) hx hb dX4_putMeans_1 (by decide) (by rw [c1]; decide) (by decide) ?_
    have f1 : p0.toInt = 65 := f_eq rfl (by decide) c1
    refine lv_aload_n hx hb dX4_putMeans_60 rfl (lv_at hl 0 rfl) ?_
    refine lv_iload_n hx hb dX4_putMeans_61 rfl (lv_at hl 2 rfl) ?_
    refine g_pt cx hP hD hS iw_X4_putMeans_X4 tyX4 tyX4_ok nmX4 0 rfl rfl 10 (by decide) rfl fw_X4_putMeans_57 (ty := .int) rfl rfl rfl (Nat.le_of_ble_eq_true rfl) dX4_putMeans_62 (fun H locs hP hD hS => ?_)
    have hP : va_P D vwCl [(qh 0, .inr (2, [.int (sh 0 0), .int (sh 0 1), .ref (qh 1), .ref (qh 2), .ref (qh 3), .ref (qh 4), .int (sh 0 6), .int (sh 0 7), .int (sh 0 8), .int (sh 0 9), .int p1, .int (sh 0 11), .int (sh 0 12), .ref (qh 5)])), (qh 1, .inl (k 0, 5, .inl (sh 1))), (qh 2, .inl (k 0, 5, .inl (sh 2))), (qh 3, .inl (k 0, 3, .inl (sh 3))), (qh 4, .inl (k 0, 3, .inl (sh 4))), (qh 5, .inl (k 0, 525, .inl (sh 5)))] H := hP
    have hD : va_D A [(qh 0, .inr (2, [.int (sh 0 0), .int (sh 0 1), .ref (qh 1), .ref (qh 2), .ref (qh 3), .ref (qh 4), .int (sh 0 6), .int (sh 0 7), .int (sh 0 8), .int (sh 0 9), .int p1, .int (sh 0 11), .int (sh 0 12), .ref (qh 5)])), (qh 1, .inl (k 0, 5, .inl (sh 1))), (qh 2, .inl (k 0, 5, .inl (sh 2))), (qh 3, .inl (k 0, 3, .inl (sh 3))), (qh 4, .inl (k 0, 3, .inl (sh 4))), (qh 5, .inl (k 0, 525, .inl (sh 5)))] := hD
    refine lv_goto (tgt := 81) hx hb dX4_putMeans_65 (by decide) ?_
    rw [hQ]
    exact x_v cx hr ((sh 0 8), (sh 0 9), p1, (sh 0 11), (sh 0 12)) hP hD hS (show 0 ≤ (sh 0 12).toInt ∧ (sh 0 12).toInt ≤ 5 from by omega) dX4_putMeans_81
  by_cases c2 : p0 = 66
  · refine lv_lookup (tgt := 68) (off := 67) hx hb dX4_putMeans_1 (by decide) (by rw [c2]; decide) (by decide) ?_
    have f2 : p0.toInt = 66 := f_eq rfl (by decide) c2
    refine lv_aload_n hx hb dX4_putMeans_68 rfl (lv_at hl 0 rfl) ?_
    refine lv_iload_n hx hb dX4_putMeans_69 rfl (lv_at hl 2 rfl) ?_
    refine g_pt cx hP hD hS iw_X4_putMeans_X4 tyX4 tyX4_ok nmX4 0 rfl rfl 11 (by decide) rfl fw_X4_putMeans_60 (ty := .int) rfl rfl rfl (Nat.le_of_ble_eq_true rfl) dX4_putMeans_70 (fun H locs hP hD hS => ?_)
    have hP : va_P D vwCl [(qh 0, .inr (2, [.int (sh 0 0), .int (sh 0 1), .ref (qh 1), .ref (qh 2), .ref (qh 3), .ref (qh 4), .int (sh 0 6), .int (sh 0 7), .int (sh 0 8), .int (sh 0 9), .int (sh 0 10), .int p1, .int (sh 0 12), .ref (qh 5)])), (qh 1, .inl (k 0, 5, .inl (sh 1))), (qh 2, .inl (k 0, 5, .inl (sh 2))), (qh 3, .inl (k 0, 3, .inl (sh 3))), (qh 4, .inl (k 0, 3, .inl (sh 4))), (qh 5, .inl (k 0, 525, .inl (sh 5)))] H := hP
    have hD : va_D A [(qh 0, .inr (2, [.int (sh 0 0), .int (sh 0 1), .ref (qh 1), .ref (qh 2), .ref (qh 3), .ref (qh 4), .int (sh 0 6), .int (sh 0 7), .int (sh 0 8), .int (sh 0 9), .int (sh 0 10), .int p1, .int (sh 0 12), .ref (qh 5)])), (qh 1, .inl (k 0, 5, .inl (sh 1))), (qh 2, .inl (k 0, 5, .inl (sh 2))), (qh 3, .inl (k 0, 3, .inl (sh 3))), (qh 4, .inl (k 0, 3, .inl (sh 4))), (qh 5, .inl (k 0, 525, .inl (sh 5)))] := hD
    refine lv_aload_n hx hb dX4_putMeans_73 rfl (lv_at hl 0 rfl) ?_
    refine lv_iload_n hx hb dX4_putMeans_74 rfl (lv_at hl 3 rfl) ?_
    refine g_pt cx hP hD hS iw_X4_putMeans_X4 tyX4 tyX4_ok nmX4 0 rfl rfl 12 (by decide) rfl fw_X4_putMeans_63 (ty := .int) rfl rfl rfl (Nat.le_of_ble_eq_true rfl) dX4_putMeans_75 (fun H locs hP hD hS => ?_)
    have hP : va_P D vwCl [(qh 0, .inr (2, [.int (sh 0 0), .int (sh 0 1), .ref (qh 1), .ref (qh 2), .ref (qh 3), .ref (qh 4), .int (sh 0 6), .int (sh 0 7), .int (sh 0 8), .int (sh 0 9), .int (sh 0 10), .int p1, .int p2, .ref (qh 5)])), (qh 1, .inl (k 0, 5, .inl (sh 1))), (qh 2, .inl (k 0, 5, .inl (sh 2))), (qh 3, .inl (k 0, 3, .inl (sh 3))), (qh 4, .inl (k 0, 3, .inl (sh 4))), (qh 5, .inl (k 0, 525, .inl (sh 5)))] H := hP
    have hD : va_D A [(qh 0, .inr (2, [.int (sh 0 0), .int (sh 0 1), .ref (qh 1), .ref (qh 2), .ref (qh 3), .ref (qh 4), .int (sh 0 6), .int (sh 0 7), .int (sh 0 8), .int (sh 0 9), .int (sh 0 10), .int p1, .int p2, .ref (qh 5)])), (qh 1, .inl (k 0, 5, .inl (sh 1))), (qh 2, .inl (k 0, 5, .inl (sh 2))), (qh 3, .inl (k 0, 3, .inl (sh 3))), (qh 4, .inl (k 0, 3, .inl (sh 4))), (qh 5, .inl (k 0, 525, .inl (sh 5)))] := hD
    refine lv_goto (tgt := 81) hx hb dX4_putMeans_78 (by decide) ?_
    rw [hQ]
    exact x_v cx hr ((sh 0 8), (sh 0 9), (sh 0 10), p1, p2) hP hD hS (show 0 ≤ p2.toInt ∧ p2.toInt ≤ 5 from by omega) dX4_putMeans_81
  by_cases c3 : p0 = 71
  · refine lv_lookup (tgt := 44) (off := 43) hx hb dX4_putMeans_1 (by decide) (by rw [c3]; decide) (by decide) ?_
    have f3 : p0.toInt = 71 := f_eq rfl (by decide) c3
    refine lv_aload_n hx hb dX4_putMeans_44 rfl (lv_at hl 0 rfl) ?_
    refine lv_iload_n hx hb dX4_putMeans_45 rfl (lv_at hl 2 rfl) ?_
    refine g_pt cx hP hD hS iw_X4_putMeans_X4 tyX4 tyX4_ok nmX4 0 rfl rfl 8 (by decide) rfl fw_X4_putMeans_51 (ty := .int) rfl rfl rfl (Nat.le_of_ble_eq_true rfl) dX4_putMeans_46 (fun H locs hP hD hS => ?_)
    have hP : va_P D vwCl [(qh 0, .inr (2, [.int (sh 0 0), .int (sh 0 1), .ref (qh 1), .ref (qh 2), .ref (qh 3), .ref (qh 4), .int (sh 0 6), .int (sh 0 7), .int p1, .int (sh 0 9), .int (sh 0 10), .int (sh 0 11), .int (sh 0 12), .ref (qh 5)])), (qh 1, .inl (k 0, 5, .inl (sh 1))), (qh 2, .inl (k 0, 5, .inl (sh 2))), (qh 3, .inl (k 0, 3, .inl (sh 3))), (qh 4, .inl (k 0, 3, .inl (sh 4))), (qh 5, .inl (k 0, 525, .inl (sh 5)))] H := hP
    have hD : va_D A [(qh 0, .inr (2, [.int (sh 0 0), .int (sh 0 1), .ref (qh 1), .ref (qh 2), .ref (qh 3), .ref (qh 4), .int (sh 0 6), .int (sh 0 7), .int p1, .int (sh 0 9), .int (sh 0 10), .int (sh 0 11), .int (sh 0 12), .ref (qh 5)])), (qh 1, .inl (k 0, 5, .inl (sh 1))), (qh 2, .inl (k 0, 5, .inl (sh 2))), (qh 3, .inl (k 0, 3, .inl (sh 3))), (qh 4, .inl (k 0, 3, .inl (sh 4))), (qh 5, .inl (k 0, 525, .inl (sh 5)))] := hD
    refine lv_goto (tgt := 81) hx hb dX4_putMeans_49 (by decide) ?_
    rw [hQ]
    exact x_v cx hr (p1, (sh 0 9), (sh 0 10), (sh 0 11), (sh 0 12)) hP hD hS (show 0 ≤ (sh 0 12).toInt ∧ (sh 0 12).toInt ≤ 5 from by omega) dX4_putMeans_81
  by_cases c4 : p0 = 84
  · refine lv_lookup (tgt := 52) (off := 51) hx hb dX4_putMeans_1 (by decide) (by rw [c4]; decide) (by decide) ?_
    have f4 : p0.toInt = 84 := f_eq rfl (by decide) c4
    refine lv_aload_n hx hb dX4_putMeans_52 rfl (lv_at hl 0 rfl) ?_
    refine lv_iload_n hx hb dX4_putMeans_53 rfl (lv_at hl 2 rfl) ?_
    refine g_pt cx hP hD hS iw_X4_putMeans_X4 tyX4 tyX4_ok nmX4 0 rfl rfl 9 (by decide) rfl fw_X4_putMeans_54 (ty := .int) rfl rfl rfl (Nat.le_of_ble_eq_true rfl) dX4_putMeans_54 (fun H locs hP hD hS => ?_)
    have hP : va_P D vwCl [(qh 0, .inr (2, [.int (sh 0 0), .int (sh 0 1), .ref (qh 1), .ref (qh 2), .ref (qh 3), .ref (qh 4), .int (sh 0 6), .int (sh 0 7), .int (sh 0 8), .int p1, .int (sh 0 10), .int (sh 0 11), .int (sh 0 12), .ref (qh 5)])), (qh 1, .inl (k 0, 5, .inl (sh 1))), (qh 2, .inl (k 0, 5, .inl (sh 2))), (qh 3, .inl (k 0, 3, .inl (sh 3))), (qh 4, .inl (k 0, 3, .inl (sh 4))), (qh 5, .inl (k 0, 525, .inl (sh 5)))] H := hP
    have hD : va_D A [(qh 0, .inr (2, [.int (sh 0 0), .int (sh 0 1), .ref (qh 1), .ref (qh 2), .ref (qh 3), .ref (qh 4), .int (sh 0 6), .int (sh 0 7), .int (sh 0 8), .int p1, .int (sh 0 10), .int (sh 0 11), .int (sh 0 12), .ref (qh 5)])), (qh 1, .inl (k 0, 5, .inl (sh 1))), (qh 2, .inl (k 0, 5, .inl (sh 2))), (qh 3, .inl (k 0, 3, .inl (sh 3))), (qh 4, .inl (k 0, 3, .inl (sh 4))), (qh 5, .inl (k 0, 525, .inl (sh 5)))] := hD
    refine lv_goto (tgt := 81) hx hb dX4_putMeans_57 (by decide) ?_
    rw [hQ]
    exact x_v cx hr ((sh 0 8), p1, (sh 0 10), (sh 0 11), (sh 0 12)) hP hD hS (show 0 ≤ (sh 0 12).toInt ∧ (sh 0 12).toInt ≤ 5 from by omega) dX4_putMeans_81
  refine lv_lookup (tgt := 81) (off := 80) hx hb dX4_putMeans_1 (by decide) (by show Op.lookupswitch.offset [(65, 59), (66, 67), (71, 43), (84, 51)] 80 p0.toInt = 80; rw [lv_osw c1 (by decide)]; rw [lv_osw c2 (by decide)]; rw [lv_osw c3 (by decide)]; rw [lv_osw c4 (by decide)]; rfl) (by decide) ?_
  rw [hQ]
  exact x_v cx hr ((sh 0 8), (sh 0 9), (sh 0 10), (sh 0 11), (sh 0 12)) hP hD hS (show 0 ≤ (sh 0 12).toInt ∧ (sh 0 12).toInt ≤ 5 from by omega) dX4_putMeans_81
theorem fw_X4_put_15 : Cond.fieldLink RX4 15 "StillInAugust$House" "offers" "[I" ∈ wsX4_put := by decide +kernel
theorem fw_X4_put_18 : Cond.fieldLink RX4 18 "StillInAugust$House" "goes" "[I" ∈ wsX4_put := by decide +kernel
theorem fw_X4_put_21 : Cond.fieldLink RX4 21 "StillInAugust$House" "does" "[I" ∈ wsX4_put := by decide +kernel
theorem fw_X4_put_36 : Cond.fieldLink RX4 36 "StillInAugust$House" "hooks" "I" ∈ wsX4_put := by decide +kernel
theorem fw_X4_put_45 : Cond.fieldLink RX4 45 "StillInAugust$House" "pay" "I" ∈ wsX4_put := by decide +kernel
theorem fw_X4_put_48 : Cond.fieldLink RX4 48 "StillInAugust$House" "shortPrice" "I" ∈ wsX4_put := by decide +kernel
theorem fw_X4_put_9 : Cond.fieldLink RX4 9 "StillInAugust$House" "wants" "[I" ∈ wsX4_put := by decide +kernel
theorem nd_X4_putMeans : yX4_putMeans.cls = RX4 ∧ yX4_putMeans.cls ≠ "java/lang/invoke/MethodHandle" ∧ yX4_putMeans.cls ≠ "java/lang/invoke/VarHandle" ∧ (parseMethodDescriptor yX4_putMeans.desc).map (fun d => d.parameters.length) = some 3 := by decide +kernel
theorem iw_X4_put_X4 : ∀ w ∈ u_ws RX4 TX4 14, w ∈ wsX4_put := fun _ h => List.mem_cons_of_mem _ (List.mem_append_right _ h)
set_option maxHeartbeats 4000000 in
set_option maxRecDepth 100000 in
theorem c_X4_put (l : Launch) (D : va_G) (k : Nat → ClassId) (b : Nat → Nat) (qh : Nat → Nat) (sh : Nat → Nat → Int32) (sz : Nat) (p0 : Int32) (p1 : Int32) (p2 : Int32) (p3 : Int32) (h_wk : 0 ≤ (sh 0 0).toInt ∧ (sh 0 0).toInt ≤ 5) (h_hk : 0 ≤ (sh 0 1).toInt ∧ (sh 0 1).toInt ≤ 4) (h_fl : 0 ≤ (sh 0 12).toInt ∧ (sh 0 12).toInt ≤ 5) (h_of : ∀ j, 0 ≤ (sh 2 j).toInt ∧ (sh 2 j).toInt ≤ 4) (h_go : ∀ j, 0 ≤ (sh 3 j).toInt ∧ (sh 3 j).toInt ≤ 5) (ha : ¬ (p0.toInt = 81 ∨ p0.toInt = 68) ∨ p1.toInt ≤ 2) (hb : ¬ p0.toInt = 72 ∨ p2.toInt ≤ 4) (hc : ¬ p0.toInt = 79 ∨ p2.toInt ≤ 4) (hd : ¬ p0.toInt = 81 ∨ p2.toInt ≤ 5) (he : ¬ p0.toInt = 66 ∨ p3.toInt ≤ 5) (hp1 : 0 ≤ p1.toInt ∧ p1.toInt ≤ 4) (hp2 : 0 ≤ p2.toInt ∧ p2.toInt ≤ 9) (hp3 : 0 ≤ p3.toInt ∧ p3.toInt ≤ 9) : MetV l D k b yX4_put wsX4_put ({ frames := 1, cells := 0, slots := 0, locals := 23 } : Room) [(qh 0, .inr (2, [.int (sh 0 0), .int (sh 0 1), .ref (qh 1), .ref (qh 2), .ref (qh 3), .ref (qh 4), .int (sh 0 6), .int (sh 0 7), .int (sh 0 8), .int (sh 0 9), .int (sh 0 10), .int (sh 0 11), .int (sh 0 12), .ref (qh 5)])), (qh 1, .inl (k 0, 5, .inl (sh 1))), (qh 2, .inl (k 0, 5, .inl (sh 2))), (qh 3, .inl (k 0, 3, .inl (sh 3))), (qh 4, .inl (k 0, 3, .inl (sh 4))), (qh 5, .inl (k 0, 525, .inl (sh 5)))] sz [.ref (qh 0), .int p0, .int p1, .int p2, .int p3] (fun (u : Int32 × (Nat → Int32) × (Nat → Int32) × (Nat → Int32) × (Nat → Int32) × Int32 × Int32 × Int32 × Int32 × Int32 × Int32 × Int32) => (0 ≤ (u.1).toInt ∧ (u.1).toInt ≤ 4) ∧ (0 ≤ (u.2.2.2.2.2.2.2.2.2.2.2).toInt ∧ (u.2.2.2.2.2.2.2.2.2.2.2).toInt ≤ 5) ∧ (∀ j, 0 ≤ ((u.2.2.1) j).toInt ∧ ((u.2.2.1) j).toInt ≤ 4) ∧ (∀ j, 0 ≤ ((u.2.2.2.1) j).toInt ∧ ((u.2.2.2.1) j).toInt ≤ 5)) (fun u => [(qh 0, .inr (2, [.int (sh 0 0), .int (u.1), .ref (qh 1), .ref (qh 2), .ref (qh 3), .ref (qh 4), .int (u.2.2.2.2.2.1), .int (u.2.2.2.2.2.2.1), .int (u.2.2.2.2.2.2.2.1), .int (u.2.2.2.2.2.2.2.2.1), .int (u.2.2.2.2.2.2.2.2.2.1), .int (u.2.2.2.2.2.2.2.2.2.2.1), .int (u.2.2.2.2.2.2.2.2.2.2.2), .ref (qh 5)])), (qh 1, .inl (k 0, 5, .inl (u.2.1))), (qh 2, .inl (k 0, 5, .inl (u.2.2.1))), (qh 3, .inl (k 0, 3, .inl (u.2.2.2.1))), (qh 4, .inl (k 0, 3, .inl (u.2.2.2.2.1))), (qh 5, .inl (k 0, 525, .inl (sh 5)))]) := by
  refine g_enter (cc := cX4_put) (maxL := 5) (ret := none) (by decide) rfl (Nat.le_of_ble_eq_true rfl) ?_
  intro p e s m below meth c A hsz hAe cx hr hP hD hS ls hl
  rw [hAe]
  refine g_q (fun Q hQ => ?_)
  have hx := cx.1.1
  have hb := cx.1.2.1
  have bp0 := i_rng p0
  have bp1 := i_rng p1
  have bp2 := i_rng p2
  have bp3 := i_rng p3
  have hl : lv_has ls 5 [(0, .ref (qh 0)), (1, .int p0), (2, .int p1), (3, .int p2), (4, .int p3)] := hl
  obtain ⟨H, eH⟩ : ∃ H : Heap, H = s.heap := ⟨_, rfl⟩
  obtain ⟨locs, el⟩ : ∃ L : List Loc, L = [] := ⟨_, rfl⟩
  have hP : va_P D vwCl [(qh 0, .inr (2, [.int (sh 0 0), .int (sh 0 1), .ref (qh 1), .ref (qh 2), .ref (qh 3), .ref (qh 4), .int (sh 0 6), .int (sh 0 7), .int (sh 0 8), .int (sh 0 9), .int (sh 0 10), .int (sh 0 11), .int (sh 0 12), .ref (qh 5)])), (qh 1, .inl (k 0, 5, .inl (sh 1))), (qh 2, .inl (k 0, 5, .inl (sh 2))), (qh 3, .inl (k 0, 3, .inl (sh 3))), (qh 4, .inl (k 0, 3, .inl (sh 4))), (qh 5, .inl (k 0, 525, .inl (sh 5)))] H := by rw [eH]; exact hP
  have hD : va_D A [(qh 0, .inr (2, [.int (sh 0 0), .int (sh 0 1), .ref (qh 1), .ref (qh 2), .ref (qh 3), .ref (qh 4), .int (sh 0 6), .int (sh 0 7), .int (sh 0 8), .int (sh 0 9), .int (sh 0 10), .int (sh 0 11), .int (sh 0 12), .ref (qh 5)])), (qh 1, .inl (k 0, 5, .inl (sh 1))), (qh 2, .inl (k 0, 5, .inl (sh 2))), (qh 3, .inl (k 0, 3, .inl (sh 3))), (qh 4, .inl (k 0, 3, .inl (sh 4))), (qh 5, .inl (k 0, 525, .inl (sh 5)))] := hD
  have hS : va_S A s.heap H locs := by rw [eH, el]; exact hS
  suffices goal : W p l e ({ frames := 1, cells := 0, slots := 0, locals := 23 } : Room) s m ([.ref (qh 0), .int p0, .int p1, .int p2, .int p3] : List Value).toArray below meth c H locs 0 0 Q (F0 m 0 ls []) by rw [eH, el] at goal; exact goal
  refine lv_iload_n hx hb dX4_put_0 rfl (lv_at hl 1 rfl) ?_
  have hJ166 : ∀  (H : Heap) (locs : List Loc) (ls : Array Slot), va_P D vwCl [(qh 0, .inr (2, [.int (sh 0 0), .int (sh 0 1), .ref (qh 1), .ref (qh 2), .ref (qh 3), .ref (qh 4), .int (sh 0 6), .int (sh 0 7), .int (sh 0 8), .int (sh 0 9), .int (sh 0 10), .int (sh 0 11), .int (sh 0 12), .ref (qh 5)])), (qh 1, .inl (k 0, 5, .inl (sh 1))), (qh 2, .inl (k 0, 5, .inl (sh 2))), (qh 3, .inl (k 0, 3, .inl (sh 3))), (qh 4, .inl (k 0, 3, .inl (sh 4))), (qh 5, .inl (k 0, 525, .inl (sh 5)))] H → va_D A [(qh 0, .inr (2, [.int (sh 0 0), .int (sh 0 1), .ref (qh 1), .ref (qh 2), .ref (qh 3), .ref (qh 4), .int (sh 0 6), .int (sh 0 7), .int (sh 0 8), .int (sh 0 9), .int (sh 0 10), .int (sh 0 11), .int (sh 0 12), .ref (qh 5)])), (qh 1, .inl (k 0, 5, .inl (sh 1))), (qh 2, .inl (k 0, 5, .inl (sh 2))), (qh 3, .inl (k 0, 3, .inl (sh 3))), (qh 4, .inl (k 0, 3, .inl (sh 4))), (qh 5, .inl (k 0, 525, .inl (sh 5)))] → va_S A s.heap H locs → lv_has ls 5 [(0, .ref (qh 0)), (1, .int p0), (3, .int p2), (4, .int p3)] → W p l e ({ frames := 1, cells := 0, slots := 0, locals := 23 } : Room) s m ([.ref (qh 0), .int p0, .int p1, .int p2, .int p3] : List Value).toArray below meth c H locs 0 0 Q (F0 m 166 ls []) := by
    intro  H locs ls  hP hD hS hl
    refine lv_aload_n hx hb dX4_put_166 rfl (lv_at hl 0 rfl) ?_
    refine lv_iload_n hx hb dX4_put_167 rfl (lv_at hl 1 rfl) ?_
    refine lv_iload_n hx hb dX4_put_168 rfl (lv_at hl 2 rfl) ?_
    refine lv_iload hx hb dX4_put_169 (lv_at hl 3 rfl) ?_
    refine g_vF (w1 := fun (u : Int32 × Int32 × Int32 × Int32 × Int32) => [(qh 0, .inr (2, [.int (sh 0 0), .int (sh 0 1), .ref (qh 1), .ref (qh 2), .ref (qh 3), .ref (qh 4), .int (sh 0 6), .int (sh 0 7), .int (u.1), .int (u.2.1), .int (u.2.2.1), .int (u.2.2.2.1), .int (u.2.2.2.2), .ref (qh 5)])), (qh 1, .inl (k 0, 5, .inl (sh 1))), (qh 2, .inl (k 0, 5, .inl (sh 2))), (qh 3, .inl (k 0, 3, .inl (sh 3))), (qh 4, .inl (k 0, 3, .inl (sh 4))), (qh 5, .inl (k 0, 525, .inl (sh 5)))]) (g_runVF (ws := [(qh 0, .inr (2, [.int (sh 0 0), .int (sh 0 1), .ref (qh 1), .ref (qh 2), .ref (qh 3), .ref (qh 4), .int (sh 0 6), .int (sh 0 7), .int (sh 0 8), .int (sh 0 9), .int (sh 0 10), .int (sh 0 11), .int (sh 0 12), .ref (qh 5)])), (qh 1, .inl (k 0, 5, .inl (sh 1))), (qh 2, .inl (k 0, 5, .inl (sh 2))), (qh 3, .inl (k 0, 3, .inl (sh 3))), (qh 4, .inl (k 0, 3, .inl (sh 4))), (qh 5, .inl (k 0, 525, .inl (sh 5)))]) (rest := []) cx hP hD hS [.int p0, .int p2, .int p3] (c_X4_putMeans l D k b qh sh H.size p0 p2 p3 (show 0 ≤ (sh 0 12).toInt ∧ (sh 0 12).toInt ≤ 5 from by first | decide | omega) (show ¬ p0.toInt = 66 ∨ (0 ≤ p3.toInt ∧ p3.toInt ≤ 5) from by first | decide | omega)) gX4_put_X4_putMeans rfl rfl rfl nd_X4_putMeans ⟨Nat.le_of_ble_eq_true rfl, Nat.le_of_ble_eq_true rfl⟩ (ci := 2) (q0 := 0) rfl rfl rfl hl.1 rfl (Nat.le_of_ble_eq_true rfl) ⟨Nat.zero_le _, Nat.zero_le _⟩ dX4_put_171) cx.2.2.1 hD hS (fun u12 H locs hw11 hP hD hS => ?_)
    obtain ⟨m13, m14, m15, m16, m17⟩ := u12
    have hP : va_P D vwCl [(qh 0, .inr (2, [.int (sh 0 0), .int (sh 0 1), .ref (qh 1), .ref (qh 2), .ref (qh 3), .ref (qh 4), .int (sh 0 6), .int (sh 0 7), .int m13, .int m14, .int m15, .int m16, .int m17, .ref (qh 5)])), (qh 1, .inl (k 0, 5, .inl (sh 1))), (qh 2, .inl (k 0, 5, .inl (sh 2))), (qh 3, .inl (k 0, 3, .inl (sh 3))), (qh 4, .inl (k 0, 3, .inl (sh 4))), (qh 5, .inl (k 0, 525, .inl (sh 5)))] H := hP
    have hD : va_D A [(qh 0, .inr (2, [.int (sh 0 0), .int (sh 0 1), .ref (qh 1), .ref (qh 2), .ref (qh 3), .ref (qh 4), .int (sh 0 6), .int (sh 0 7), .int m13, .int m14, .int m15, .int m16, .int m17, .ref (qh 5)])), (qh 1, .inl (k 0, 5, .inl (sh 1))), (qh 2, .inl (k 0, 5, .inl (sh 2))), (qh 3, .inl (k 0, 3, .inl (sh 3))), (qh 4, .inl (k 0, 3, .inl (sh 4))), (qh 5, .inl (k 0, 525, .inl (sh 5)))] := hD
    have w18 : 0 ≤ m17.toInt ∧ m17.toInt ≤ 5 := hw11
    clear hw11
    rw [hQ]
    exact x_v cx hr ((sh 0 1), (sh 1), (sh 2), (sh 3), (sh 4), (sh 0 6), (sh 0 7), m13, m14, m15, m16, m17) hP hD hS ⟨(show 0 ≤ (sh 0 1).toInt ∧ (sh 0 1).toInt ≤ 4 from by omega), (show 0 ≤ m17.toInt ∧ m17.toInt ≤ 5 from by omega), h_of, h_go⟩ dX4_put_174
  by_cases c19 : p0 = 68
  · refine lv_tableIn (tgt := 140) (off := 139) hx hb dX4_put_1 (by rw [c19]; decide) (by rw [c19]; decide) (by rw [c19]; decide) (by decide) ?_
    have f19 : p0.toInt = 68 := f_eq rfl (by decide) c19
    refine lv_aload_n hx hb dX4_put_140 rfl (lv_at hl 0 rfl) ?_
    refine g_get cx hP iw_X4_put_X4 0 rfl rfl 5 (by decide) rfl fw_X4_put_21 rfl dX4_put_141 ?_
    refine lv_iload_n hx hb dX4_put_144 rfl (lv_at hl 2 rfl) ?_
    refine lv_iload_n hx hb dX4_put_145 rfl (lv_at hl 3 rfl) ?_
    have hn20 : vp_in p1 3 := f_in (a := p1.toInt) rfl (by omega) (by omega)
    refine va_iast hx hb cx.2.1 hP hD hS 4 0 rfl rfl hn20 dX4_put_146 (fun H locs hP hD hS => ?_)
    obtain ⟨g21, eg21⟩ : ∃ g : Nat → Int32, g = upd (sh 4) (p1).toNatClampNeg p2 := ⟨_, rfl⟩
    rw [← eg21] at hP hD
    have hP : va_P D vwCl [(qh 0, .inr (2, [.int (sh 0 0), .int (sh 0 1), .ref (qh 1), .ref (qh 2), .ref (qh 3), .ref (qh 4), .int (sh 0 6), .int (sh 0 7), .int (sh 0 8), .int (sh 0 9), .int (sh 0 10), .int (sh 0 11), .int (sh 0 12), .ref (qh 5)])), (qh 1, .inl (k 0, 5, .inl (sh 1))), (qh 2, .inl (k 0, 5, .inl (sh 2))), (qh 3, .inl (k 0, 3, .inl (sh 3))), (qh 4, .inl (k 0, 3, .inl g21)), (qh 5, .inl (k 0, 525, .inl (sh 5)))] H := hP
    have hD : va_D A [(qh 0, .inr (2, [.int (sh 0 0), .int (sh 0 1), .ref (qh 1), .ref (qh 2), .ref (qh 3), .ref (qh 4), .int (sh 0 6), .int (sh 0 7), .int (sh 0 8), .int (sh 0 9), .int (sh 0 10), .int (sh 0 11), .int (sh 0 12), .ref (qh 5)])), (qh 1, .inl (k 0, 5, .inl (sh 1))), (qh 2, .inl (k 0, 5, .inl (sh 2))), (qh 3, .inl (k 0, 3, .inl (sh 3))), (qh 4, .inl (k 0, 3, .inl g21)), (qh 5, .inl (k 0, 525, .inl (sh 5)))] := hD
    refine lv_goto (tgt := 174) hx hb dX4_put_147 (by decide) ?_
    rw [hQ]
    exact x_v cx hr ((sh 0 1), (sh 1), (sh 2), (sh 3), g21, (sh 0 6), (sh 0 7), (sh 0 8), (sh 0 9), (sh 0 10), (sh 0 11), (sh 0 12)) hP hD hS ⟨(show 0 ≤ (sh 0 1).toInt ∧ (sh 0 1).toInt ≤ 4 from by omega), (show 0 ≤ (sh 0 12).toInt ∧ (sh 0 12).toInt ≤ 5 from by omega), h_of, h_go⟩ dX4_put_174
  by_cases c22 : p0 = 69
  · refine lv_tableIn (tgt := 166) (off := 165) hx hb dX4_put_1 (by rw [c22]; decide) (by rw [c22]; decide) (by rw [c22]; decide) (by decide) ?_
    have f22 : p0.toInt = 69 := f_eq rfl (by decide) c22
    exact hJ166  _ _ _  hP hD hS (lv_sub hl [0, 1, 3, 4] rfl)
  by_cases c23 : p0 = 70
  · refine lv_tableIn (tgt := 166) (off := 165) hx hb dX4_put_1 (by rw [c23]; decide) (by rw [c23]; decide) (by rw [c23]; decide) (by decide) ?_
    have f23 : p0.toInt = 70 := f_eq rfl (by decide) c23
    exact hJ166  _ _ _  hP hD hS (lv_sub hl [0, 1, 3, 4] rfl)
  by_cases c24 : p0 = 71
  · refine lv_tableIn (tgt := 166) (off := 165) hx hb dX4_put_1 (by rw [c24]; decide) (by rw [c24]; decide) (by rw [c24]; decide) (by decide) ?_
    have f24 : p0.toInt = 71 := f_eq rfl (by decide) c24
    exact hJ166  _ _ _  hP hD hS (lv_sub hl [0, 1, 3, 4] rfl)
  by_cases c25 : p0 = 72
  · refine lv_tableIn (tgt := 96) (off := 95) hx hb dX4_put_1 (by rw [c25]; decide) (by rw [c25]; decide) (by rw [c25]; decide) (by decide) ?_
    have f25 : p0.toInt = 72 := f_eq rfl (by decide) c25
    refine lv_aload_n hx hb dX4_put_96 rfl (lv_at hl 0 rfl) ?_
    refine lv_iload_n hx hb dX4_put_97 rfl (lv_at hl 3 rfl) ?_
    refine g_pt cx hP hD hS iw_X4_put_X4 tyX4 tyX4_ok nmX4 0 rfl rfl 1 (by decide) rfl fw_X4_put_36 (ty := .int) rfl rfl rfl (Nat.le_of_ble_eq_true rfl) dX4_put_98 (fun H locs hP hD hS => ?_)
    have hP : va_P D vwCl [(qh 0, .inr (2, [.int (sh 0 0), .int p2, .ref (qh 1), .ref (qh 2), .ref (qh 3), .ref (qh 4), .int (sh 0 6), .int (sh 0 7), .int (sh 0 8), .int (sh 0 9), .int (sh 0 10), .int (sh 0 11), .int (sh 0 12), .ref (qh 5)])), (qh 1, .inl (k 0, 5, .inl (sh 1))), (qh 2, .inl (k 0, 5, .inl (sh 2))), (qh 3, .inl (k 0, 3, .inl (sh 3))), (qh 4, .inl (k 0, 3, .inl (sh 4))), (qh 5, .inl (k 0, 525, .inl (sh 5)))] H := hP
    have hD : va_D A [(qh 0, .inr (2, [.int (sh 0 0), .int p2, .ref (qh 1), .ref (qh 2), .ref (qh 3), .ref (qh 4), .int (sh 0 6), .int (sh 0 7), .int (sh 0 8), .int (sh 0 9), .int (sh 0 10), .int (sh 0 11), .int (sh 0 12), .ref (qh 5)])), (qh 1, .inl (k 0, 5, .inl (sh 1))), (qh 2, .inl (k 0, 5, .inl (sh 2))), (qh 3, .inl (k 0, 3, .inl (sh 3))), (qh 4, .inl (k 0, 3, .inl (sh 4))), (qh 5, .inl (k 0, 525, .inl (sh 5)))] := hD
    refine lv_goto (tgt := 174) hx hb dX4_put_101 (by decide) ?_
    rw [hQ]
    exact x_v cx hr (p2, (sh 1), (sh 2), (sh 3), (sh 4), (sh 0 6), (sh 0 7), (sh 0 8), (sh 0 9), (sh 0 10), (sh 0 11), (sh 0 12)) hP hD hS ⟨(show 0 ≤ p2.toInt ∧ p2.toInt ≤ 4 from by omega), (show 0 ≤ (sh 0 12).toInt ∧ (sh 0 12).toInt ≤ 5 from by omega), h_of, h_go⟩ dX4_put_174
  by_cases c26 : p0 = 73
  · refine lv_tableIn (tgt := 166) (off := 165) hx hb dX4_put_1 (by rw [c26]; decide) (by rw [c26]; decide) (by rw [c26]; decide) (by decide) ?_
    have f26 : p0.toInt = 73 := f_eq rfl (by decide) c26
    exact hJ166  _ _ _  hP hD hS (lv_sub hl [0, 1, 3, 4] rfl)
  by_cases c27 : p0 = 74
  · refine lv_tableIn (tgt := 166) (off := 165) hx hb dX4_put_1 (by rw [c27]; decide) (by rw [c27]; decide) (by rw [c27]; decide) (by decide) ?_
    have f27 : p0.toInt = 74 := f_eq rfl (by decide) c27
    exact hJ166  _ _ _  hP hD hS (lv_sub hl [0, 1, 3, 4] rfl)
  by_cases c28 : p0 = 75
  · refine lv_tableIn (tgt := 166) (off := 165) hx hb dX4_put_1 (by rw [c28]; decide) (by rw [c28]; decide) (by rw [c28]; decide) (by decide) ?_
    have f28 : p0.toInt = 75 := f_eq rfl (by decide) c28
    exact hJ166  _ _ _  hP hD hS (lv_sub hl [0, 1, 3, 4] rfl)
  by_cases c29 : p0 = 76
  · refine lv_tableIn (tgt := 166) (off := 165) hx hb dX4_put_1 (by rw [c29]; decide) (by rw [c29]; decide) (by rw [c29]; decide) (by decide) ?_
    have f29 : p0.toInt = 76 := f_eq rfl (by decide) c29
    exact hJ166  _ _ _  hP hD hS (lv_sub hl [0, 1, 3, 4] rfl)
  by_cases c30 : p0 = 77
  · refine lv_tableIn (tgt := 166) (off := 165) hx hb dX4_put_1 (by rw [c30]; decide) (by rw [c30]; decide) (by rw [c30]; decide) (by decide) ?_
    have f30 : p0.toInt = 77 := f_eq rfl (by decide) c30
    exact hJ166  _ _ _  hP hD hS (lv_sub hl [0, 1, 3, 4] rfl)
  by_cases c31 : p0 = 78
  · refine lv_tableIn (tgt := 166) (off := 165) hx hb dX4_put_1 (by rw [c31]; decide) (by rw [c31]; decide) (by rw [c31]; decide) (by decide) ?_
    have f31 : p0.toInt = 78 := f_eq rfl (by decide) c31
    exact hJ166  _ _ _  hP hD hS (lv_sub hl [0, 1, 3, 4] rfl)
  by_cases c32 : p0 = 79
  · refine lv_tableIn (tgt := 120) (off := 119) hx hb dX4_put_1 (by rw [c32]; decide) (by rw [c32]; decide) (by rw [c32]; decide) (by decide) ?_
    have f32 : p0.toInt = 79 := f_eq rfl (by decide) c32
    refine lv_aload_n hx hb dX4_put_120 rfl (lv_at hl 0 rfl) ?_
    refine g_get cx hP iw_X4_put_X4 0 rfl rfl 3 (by decide) rfl fw_X4_put_15 rfl dX4_put_121 ?_
    refine lv_iload_n hx hb dX4_put_124 rfl (lv_at hl 2 rfl) ?_
    refine lv_iload_n hx hb dX4_put_125 rfl (lv_at hl 3 rfl) ?_
    have hn33 : vp_in p1 5 := f_in (a := p1.toInt) rfl (by omega) (by omega)
    refine va_iast hx hb cx.2.1 hP hD hS 2 0 rfl rfl hn33 dX4_put_126 (fun H locs hP hD hS => ?_)
    obtain ⟨g34, eg34⟩ : ∃ g : Nat → Int32, g = upd (sh 2) (p1).toNatClampNeg p2 := ⟨_, rfl⟩
    rw [← eg34] at hP hD
    have hP : va_P D vwCl [(qh 0, .inr (2, [.int (sh 0 0), .int (sh 0 1), .ref (qh 1), .ref (qh 2), .ref (qh 3), .ref (qh 4), .int (sh 0 6), .int (sh 0 7), .int (sh 0 8), .int (sh 0 9), .int (sh 0 10), .int (sh 0 11), .int (sh 0 12), .ref (qh 5)])), (qh 1, .inl (k 0, 5, .inl (sh 1))), (qh 2, .inl (k 0, 5, .inl g34)), (qh 3, .inl (k 0, 3, .inl (sh 3))), (qh 4, .inl (k 0, 3, .inl (sh 4))), (qh 5, .inl (k 0, 525, .inl (sh 5)))] H := hP
    have hD : va_D A [(qh 0, .inr (2, [.int (sh 0 0), .int (sh 0 1), .ref (qh 1), .ref (qh 2), .ref (qh 3), .ref (qh 4), .int (sh 0 6), .int (sh 0 7), .int (sh 0 8), .int (sh 0 9), .int (sh 0 10), .int (sh 0 11), .int (sh 0 12), .ref (qh 5)])), (qh 1, .inl (k 0, 5, .inl (sh 1))), (qh 2, .inl (k 0, 5, .inl g34)), (qh 3, .inl (k 0, 3, .inl (sh 3))), (qh 4, .inl (k 0, 3, .inl (sh 4))), (qh 5, .inl (k 0, 525, .inl (sh 5)))] := hD
    have ag34 : ∀ j, 0 ≤ (g34 j).toInt ∧ (g34 j).toInt ≤ 4 := by rw [eg34]; exact upd_all h_of ⟨by omega, by omega⟩
    refine lv_goto (tgt := 174) hx hb dX4_put_127 (by decide) ?_
    rw [hQ]
    exact x_v cx hr ((sh 0 1), (sh 1), g34, (sh 3), (sh 4), (sh 0 6), (sh 0 7), (sh 0 8), (sh 0 9), (sh 0 10), (sh 0 11), (sh 0 12)) hP hD hS ⟨(show 0 ≤ (sh 0 1).toInt ∧ (sh 0 1).toInt ≤ 4 from by omega), (show 0 ≤ (sh 0 12).toInt ∧ (sh 0 12).toInt ≤ 5 from by omega), ag34, h_go⟩ dX4_put_174
  by_cases c35 : p0 = 80
  · refine lv_tableIn (tgt := 150) (off := 149) hx hb dX4_put_1 (by rw [c35]; decide) (by rw [c35]; decide) (by rw [c35]; decide) (by decide) ?_
    have f35 : p0.toInt = 80 := f_eq rfl (by decide) c35
    refine lv_aload_n hx hb dX4_put_150 rfl (lv_at hl 0 rfl) ?_
    refine lv_iload_n hx hb dX4_put_151 rfl (lv_at hl 3 rfl) ?_
    refine g_pt cx hP hD hS iw_X4_put_X4 tyX4 tyX4_ok nmX4 0 rfl rfl 6 (by decide) rfl fw_X4_put_45 (ty := .int) rfl rfl rfl (Nat.le_of_ble_eq_true rfl) dX4_put_152 (fun H locs hP hD hS => ?_)
    have hP : va_P D vwCl [(qh 0, .inr (2, [.int (sh 0 0), .int (sh 0 1), .ref (qh 1), .ref (qh 2), .ref (qh 3), .ref (qh 4), .int p2, .int (sh 0 7), .int (sh 0 8), .int (sh 0 9), .int (sh 0 10), .int (sh 0 11), .int (sh 0 12), .ref (qh 5)])), (qh 1, .inl (k 0, 5, .inl (sh 1))), (qh 2, .inl (k 0, 5, .inl (sh 2))), (qh 3, .inl (k 0, 3, .inl (sh 3))), (qh 4, .inl (k 0, 3, .inl (sh 4))), (qh 5, .inl (k 0, 525, .inl (sh 5)))] H := hP
    have hD : va_D A [(qh 0, .inr (2, [.int (sh 0 0), .int (sh 0 1), .ref (qh 1), .ref (qh 2), .ref (qh 3), .ref (qh 4), .int p2, .int (sh 0 7), .int (sh 0 8), .int (sh 0 9), .int (sh 0 10), .int (sh 0 11), .int (sh 0 12), .ref (qh 5)])), (qh 1, .inl (k 0, 5, .inl (sh 1))), (qh 2, .inl (k 0, 5, .inl (sh 2))), (qh 3, .inl (k 0, 3, .inl (sh 3))), (qh 4, .inl (k 0, 3, .inl (sh 4))), (qh 5, .inl (k 0, 525, .inl (sh 5)))] := hD
    refine lv_goto (tgt := 174) hx hb dX4_put_155 (by decide) ?_
    rw [hQ]
    exact x_v cx hr ((sh 0 1), (sh 1), (sh 2), (sh 3), (sh 4), p2, (sh 0 7), (sh 0 8), (sh 0 9), (sh 0 10), (sh 0 11), (sh 0 12)) hP hD hS ⟨(show 0 ≤ (sh 0 1).toInt ∧ (sh 0 1).toInt ≤ 4 from by omega), (show 0 ≤ (sh 0 12).toInt ∧ (sh 0 12).toInt ≤ 5 from by omega), h_of, h_go⟩ dX4_put_174
  by_cases c36 : p0 = 81
  · refine lv_tableIn (tgt := 130) (off := 129) hx hb dX4_put_1 (by rw [c36]; decide) (by rw [c36]; decide) (by rw [c36]; decide) (by decide) ?_
    have f36 : p0.toInt = 81 := f_eq rfl (by decide) c36
    refine lv_aload_n hx hb dX4_put_130 rfl (lv_at hl 0 rfl) ?_
    refine g_get cx hP iw_X4_put_X4 0 rfl rfl 4 (by decide) rfl fw_X4_put_18 rfl dX4_put_131 ?_
    refine lv_iload_n hx hb dX4_put_134 rfl (lv_at hl 2 rfl) ?_
    refine lv_iload_n hx hb dX4_put_135 rfl (lv_at hl 3 rfl) ?_
    have hn37 : vp_in p1 3 := f_in (a := p1.toInt) rfl (by omega) (by omega)
    refine va_iast hx hb cx.2.1 hP hD hS 3 0 rfl rfl hn37 dX4_put_136 (fun H locs hP hD hS => ?_)
    obtain ⟨g38, eg38⟩ : ∃ g : Nat → Int32, g = upd (sh 3) (p1).toNatClampNeg p2 := ⟨_, rfl⟩
    rw [← eg38] at hP hD
    have hP : va_P D vwCl [(qh 0, .inr (2, [.int (sh 0 0), .int (sh 0 1), .ref (qh 1), .ref (qh 2), .ref (qh 3), .ref (qh 4), .int (sh 0 6), .int (sh 0 7), .int (sh 0 8), .int (sh 0 9), .int (sh 0 10), .int (sh 0 11), .int (sh 0 12), .ref (qh 5)])), (qh 1, .inl (k 0, 5, .inl (sh 1))), (qh 2, .inl (k 0, 5, .inl (sh 2))), (qh 3, .inl (k 0, 3, .inl g38)), (qh 4, .inl (k 0, 3, .inl (sh 4))), (qh 5, .inl (k 0, 525, .inl (sh 5)))] H := hP
    have hD : va_D A [(qh 0, .inr (2, [.int (sh 0 0), .int (sh 0 1), .ref (qh 1), .ref (qh 2), .ref (qh 3), .ref (qh 4), .int (sh 0 6), .int (sh 0 7), .int (sh 0 8), .int (sh 0 9), .int (sh 0 10), .int (sh 0 11), .int (sh 0 12), .ref (qh 5)])), (qh 1, .inl (k 0, 5, .inl (sh 1))), (qh 2, .inl (k 0, 5, .inl (sh 2))), (qh 3, .inl (k 0, 3, .inl g38)), (qh 4, .inl (k 0, 3, .inl (sh 4))), (qh 5, .inl (k 0, 525, .inl (sh 5)))] := hD
    have ag38 : ∀ j, 0 ≤ (g38 j).toInt ∧ (g38 j).toInt ≤ 5 := by rw [eg38]; exact upd_all h_go ⟨by omega, by omega⟩
    refine lv_goto (tgt := 174) hx hb dX4_put_137 (by decide) ?_
    rw [hQ]
    exact x_v cx hr ((sh 0 1), (sh 1), (sh 2), g38, (sh 4), (sh 0 6), (sh 0 7), (sh 0 8), (sh 0 9), (sh 0 10), (sh 0 11), (sh 0 12)) hP hD hS ⟨(show 0 ≤ (sh 0 1).toInt ∧ (sh 0 1).toInt ≤ 4 from by omega), (show 0 ≤ (sh 0 12).toInt ∧ (sh 0 12).toInt ≤ 5 from by omega), h_of, ag38⟩ dX4_put_174
  by_cases c39 : p0 = 82
  · refine lv_tableIn (tgt := 166) (off := 165) hx hb dX4_put_1 (by rw [c39]; decide) (by rw [c39]; decide) (by rw [c39]; decide) (by decide) ?_
    have f39 : p0.toInt = 82 := f_eq rfl (by decide) c39
    exact hJ166  _ _ _  hP hD hS (lv_sub hl [0, 1, 3, 4] rfl)
  by_cases c40 : p0 = 83
  · refine lv_tableIn (tgt := 158) (off := 157) hx hb dX4_put_1 (by rw [c40]; decide) (by rw [c40]; decide) (by rw [c40]; decide) (by decide) ?_
    have f40 : p0.toInt = 83 := f_eq rfl (by decide) c40
    refine lv_aload_n hx hb dX4_put_158 rfl (lv_at hl 0 rfl) ?_
    refine lv_iload_n hx hb dX4_put_159 rfl (lv_at hl 3 rfl) ?_
    refine g_pt cx hP hD hS iw_X4_put_X4 tyX4 tyX4_ok nmX4 0 rfl rfl 7 (by decide) rfl fw_X4_put_48 (ty := .int) rfl rfl rfl (Nat.le_of_ble_eq_true rfl) dX4_put_160 (fun H locs hP hD hS => ?_)
    have hP : va_P D vwCl [(qh 0, .inr (2, [.int (sh 0 0), .int (sh 0 1), .ref (qh 1), .ref (qh 2), .ref (qh 3), .ref (qh 4), .int (sh 0 6), .int p2, .int (sh 0 8), .int (sh 0 9), .int (sh 0 10), .int (sh 0 11), .int (sh 0 12), .ref (qh 5)])), (qh 1, .inl (k 0, 5, .inl (sh 1))), (qh 2, .inl (k 0, 5, .inl (sh 2))), (qh 3, .inl (k 0, 3, .inl (sh 3))), (qh 4, .inl (k 0, 3, .inl (sh 4))), (qh 5, .inl (k 0, 525, .inl (sh 5)))] H := hP
    have hD : va_D A [(qh 0, .inr (2, [.int (sh 0 0), .int (sh 0 1), .ref (qh 1), .ref (qh 2), .ref (qh 3), .ref (qh 4), .int (sh 0 6), .int p2, .int (sh 0 8), .int (sh 0 9), .int (sh 0 10), .int (sh 0 11), .int (sh 0 12), .ref (qh 5)])), (qh 1, .inl (k 0, 5, .inl (sh 1))), (qh 2, .inl (k 0, 5, .inl (sh 2))), (qh 3, .inl (k 0, 3, .inl (sh 3))), (qh 4, .inl (k 0, 3, .inl (sh 4))), (qh 5, .inl (k 0, 525, .inl (sh 5)))] := hD
    refine lv_goto (tgt := 174) hx hb dX4_put_163 (by decide) ?_
    rw [hQ]
    exact x_v cx hr ((sh 0 1), (sh 1), (sh 2), (sh 3), (sh 4), (sh 0 6), p2, (sh 0 8), (sh 0 9), (sh 0 10), (sh 0 11), (sh 0 12)) hP hD hS ⟨(show 0 ≤ (sh 0 1).toInt ∧ (sh 0 1).toInt ≤ 4 from by omega), (show 0 ≤ (sh 0 12).toInt ∧ (sh 0 12).toInt ≤ 5 from by omega), h_of, h_go⟩ dX4_put_174
  by_cases c41 : p0 = 84
  · refine lv_tableIn (tgt := 166) (off := 165) hx hb dX4_put_1 (by rw [c41]; decide) (by rw [c41]; decide) (by rw [c41]; decide) (by decide) ?_
    have f41 : p0.toInt = 84 := f_eq rfl (by decide) c41
    exact hJ166  _ _ _  hP hD hS (lv_sub hl [0, 1, 3, 4] rfl)
  by_cases c42 : p0 = 85
  · refine lv_tableIn (tgt := 166) (off := 165) hx hb dX4_put_1 (by rw [c42]; decide) (by rw [c42]; decide) (by rw [c42]; decide) (by decide) ?_
    have f42 : p0.toInt = 85 := f_eq rfl (by decide) c42
    exact hJ166  _ _ _  hP hD hS (lv_sub hl [0, 1, 3, 4] rfl)
  by_cases c43 : p0 = 86
  · refine lv_tableIn (tgt := 166) (off := 165) hx hb dX4_put_1 (by rw [c43]; decide) (by rw [c43]; decide) (by rw [c43]; decide) (by decide) ?_
    have f43 : p0.toInt = 86 := f_eq rfl (by decide) c43
    exact hJ166  _ _ _  hP hD hS (lv_sub hl [0, 1, 3, 4] rfl)
  by_cases c44 : p0 = 87
  · refine lv_tableIn (tgt := 104) (off := 103) hx hb dX4_put_1 (by rw [c44]; decide) (by rw [c44]; decide) (by rw [c44]; decide) (by decide) ?_
    have f44 : p0.toInt = 87 := f_eq rfl (by decide) c44
    refine lv_aload_n hx hb dX4_put_104 rfl (lv_at hl 0 rfl) ?_
    refine g_get cx hP iw_X4_put_X4 0 rfl rfl 2 (by decide) rfl fw_X4_put_9 rfl dX4_put_105 ?_
    refine lv_iload_n hx hb dX4_put_108 rfl (lv_at hl 2 rfl) ?_
    refine lv_bipush (v := 10) hx hb dX4_put_109 (by decide) ?_
    refine lv_iload_n hx hb dX4_put_111 rfl (lv_at hl 3 rfl) ?_
    refine lv_imul hx hb dX4_put_112 (lv_topi (fun v45 e45 => ?_))
    have t45 : v45.toInt = 10 * p2.toInt := by rw [e45]; exact i_mul (by decide) rfl (by omega) (by omega)
    refine lv_iload hx hb dX4_put_113 (lv_at hl 4 rfl) ?_
    refine lv_iadd hx hb dX4_put_115 (lv_topi (fun v46 e46 => ?_))
    have t46 : v46.toInt = v45.toInt + p3.toInt := by rw [e46]; exact i_add rfl rfl (by omega) (by omega)
    have hn47 : vp_in p1 5 := f_in (a := p1.toInt) rfl (by omega) (by omega)
    refine va_iast hx hb cx.2.1 hP hD hS 1 0 rfl rfl hn47 dX4_put_116 (fun H locs hP hD hS => ?_)
    obtain ⟨g48, eg48⟩ : ∃ g : Nat → Int32, g = upd (sh 1) (p1).toNatClampNeg v46 := ⟨_, rfl⟩
    rw [← eg48] at hP hD
    have hP : va_P D vwCl [(qh 0, .inr (2, [.int (sh 0 0), .int (sh 0 1), .ref (qh 1), .ref (qh 2), .ref (qh 3), .ref (qh 4), .int (sh 0 6), .int (sh 0 7), .int (sh 0 8), .int (sh 0 9), .int (sh 0 10), .int (sh 0 11), .int (sh 0 12), .ref (qh 5)])), (qh 1, .inl (k 0, 5, .inl g48)), (qh 2, .inl (k 0, 5, .inl (sh 2))), (qh 3, .inl (k 0, 3, .inl (sh 3))), (qh 4, .inl (k 0, 3, .inl (sh 4))), (qh 5, .inl (k 0, 525, .inl (sh 5)))] H := hP
    have hD : va_D A [(qh 0, .inr (2, [.int (sh 0 0), .int (sh 0 1), .ref (qh 1), .ref (qh 2), .ref (qh 3), .ref (qh 4), .int (sh 0 6), .int (sh 0 7), .int (sh 0 8), .int (sh 0 9), .int (sh 0 10), .int (sh 0 11), .int (sh 0 12), .ref (qh 5)])), (qh 1, .inl (k 0, 5, .inl g48)), (qh 2, .inl (k 0, 5, .inl (sh 2))), (qh 3, .inl (k 0, 3, .inl (sh 3))), (qh 4, .inl (k 0, 3, .inl (sh 4))), (qh 5, .inl (k 0, 525, .inl (sh 5)))] := hD
    refine lv_goto (tgt := 174) hx hb dX4_put_117 (by decide) ?_
    rw [hQ]
    exact x_v cx hr ((sh 0 1), g48, (sh 2), (sh 3), (sh 4), (sh 0 6), (sh 0 7), (sh 0 8), (sh 0 9), (sh 0 10), (sh 0 11), (sh 0 12)) hP hD hS ⟨(show 0 ≤ (sh 0 1).toInt ∧ (sh 0 1).toInt ≤ 4 from by omega), (show 0 ≤ (sh 0 12).toInt ∧ (sh 0 12).toInt ≤ 5 from by omega), h_of, h_go⟩ dX4_put_174
  have gc19 : ¬ p0.toInt = 68 := f_ne rfl (by decide) c19
  have gc22 : ¬ p0.toInt = 69 := f_ne rfl (by decide) c22
  have gc23 : ¬ p0.toInt = 70 := f_ne rfl (by decide) c23
  have gc24 : ¬ p0.toInt = 71 := f_ne rfl (by decide) c24
  have gc25 : ¬ p0.toInt = 72 := f_ne rfl (by decide) c25
  have gc26 : ¬ p0.toInt = 73 := f_ne rfl (by decide) c26
  have gc27 : ¬ p0.toInt = 74 := f_ne rfl (by decide) c27
  have gc28 : ¬ p0.toInt = 75 := f_ne rfl (by decide) c28
  have gc29 : ¬ p0.toInt = 76 := f_ne rfl (by decide) c29
  have gc30 : ¬ p0.toInt = 77 := f_ne rfl (by decide) c30
  have gc31 : ¬ p0.toInt = 78 := f_ne rfl (by decide) c31
  have gc32 : ¬ p0.toInt = 79 := f_ne rfl (by decide) c32
  have gc35 : ¬ p0.toInt = 80 := f_ne rfl (by decide) c35
  have gc36 : ¬ p0.toInt = 81 := f_ne rfl (by decide) c36
  have gc39 : ¬ p0.toInt = 82 := f_ne rfl (by decide) c39
  have gc40 : ¬ p0.toInt = 83 := f_ne rfl (by decide) c40
  have gc41 : ¬ p0.toInt = 84 := f_ne rfl (by decide) c41
  have gc42 : ¬ p0.toInt = 85 := f_ne rfl (by decide) c42
  have gc43 : ¬ p0.toInt = 86 := f_ne rfl (by decide) c43
  have gc44 : ¬ p0.toInt = 87 := f_ne rfl (by decide) c44
  refine lv_tableOut (tgt := 166) hx hb dX4_put_1 (by omega) (by decide) ?_
  exact hJ166  _ _ _  hP hD hS (lv_sub hl [0, 1, 3, 4] rfl)
theorem mw_X4_fifths_maxL97 : Cond.methodLink RX4 97 Lib.Math.max.name ∈ wsX4_fifths := by decide +kernel
theorem mw_X4_fifths_maxS : Cond.static Lib.Math.max.name ∈ wsX4_fifths := by decide +kernel
theorem mw_X4_fifths_maxI : Cond.initialized "java/lang/Math" ∈ wsX4_fifths := by decide +kernel
theorem mw_X4_fifths_maxC : Cond.code Lib.Math.max.name Lib.Math.max.code 2 (some .int) ∈ wsX4_fifths := by decide +kernel
theorem fw_X4_fifths_18 : Cond.fieldLink RX4 18 "StillInAugust$House" "goes" "[I" ∈ wsX4_fifths := by decide +kernel
theorem fw_X4_fifths_63 : Cond.fieldLink RX4 63 "StillInAugust$House" "fifthsLess" "I" ∈ wsX4_fifths := by decide +kernel
theorem iw_X4_fifths_X4 : ∀ w ∈ u_ws RX4 TX4 14, w ∈ wsX4_fifths := fun _ h => List.mem_cons_of_mem _ (List.mem_append_right _ h)
set_option maxHeartbeats 4000000 in
set_option maxRecDepth 100000 in
theorem c_X4_fifths (l : Launch) (D : va_G) (k : Nat → ClassId) (b : Nat → Nat) (qh : Nat → Nat) (sh : Nat → Nat → Int32) (sz : Nat) (p0 : Int32) (h_fl : 0 ≤ (sh 0 12).toInt ∧ (sh 0 12).toInt ≤ 5) (h_go : ∀ j, 0 ≤ (sh 3 j).toInt ∧ (sh 3 j).toInt ≤ 5) (hp0 : 0 ≤ p0.toInt ∧ p0.toInt ≤ 2) : MetI l D k b yX4_fifths wsX4_fifths ({ frames := 1, cells := 0, slots := 0, locals := 21 } : Room) [(qh 0, .inr (2, [.int (sh 0 0), .int (sh 0 1), .ref (qh 1), .ref (qh 2), .ref (qh 3), .ref (qh 4), .int (sh 0 6), .int (sh 0 7), .int (sh 0 8), .int (sh 0 9), .int (sh 0 10), .int (sh 0 11), .int (sh 0 12), .ref (qh 5)])), (qh 1, .inl (k 0, 5, .inl (sh 1))), (qh 2, .inl (k 0, 5, .inl (sh 2))), (qh 3, .inl (k 0, 3, .inl (sh 3))), (qh 4, .inl (k 0, 3, .inl (sh 4))), (qh 5, .inl (k 0, 525, .inl (sh 5)))] sz [.ref (qh 0), .int p0] (fun (r : Int32) (u : Unit) => 0 ≤ r.toInt ∧ r.toInt ≤ 5) (fun u => [(qh 0, .inr (2, [.int (sh 0 0), .int (sh 0 1), .ref (qh 1), .ref (qh 2), .ref (qh 3), .ref (qh 4), .int (sh 0 6), .int (sh 0 7), .int (sh 0 8), .int (sh 0 9), .int (sh 0 10), .int (sh 0 11), .int (sh 0 12), .ref (qh 5)])), (qh 1, .inl (k 0, 5, .inl (sh 1))), (qh 2, .inl (k 0, 5, .inl (sh 2))), (qh 3, .inl (k 0, 3, .inl (sh 3))), (qh 4, .inl (k 0, 3, .inl (sh 4))), (qh 5, .inl (k 0, 525, .inl (sh 5)))]) := by
  refine g_enter (cc := cX4_fifths) (maxL := 2) (ret := (some .int)) (by decide) rfl (Nat.le_of_ble_eq_true rfl) ?_
  intro p e s m below meth c A hsz hAe cx hr hP hD hS ls hl
  rw [hAe]
  refine g_q (fun Q hQ => ?_)
  have hx := cx.1.1
  have hb := cx.1.2.1
  have bp0 := i_rng p0
  have hl : lv_has ls 2 [(0, .ref (qh 0)), (1, .int p0)] := hl
  obtain ⟨H, eH⟩ : ∃ H : Heap, H = s.heap := ⟨_, rfl⟩
  obtain ⟨locs, el⟩ : ∃ L : List Loc, L = [] := ⟨_, rfl⟩
  have hP : va_P D vwCl [(qh 0, .inr (2, [.int (sh 0 0), .int (sh 0 1), .ref (qh 1), .ref (qh 2), .ref (qh 3), .ref (qh 4), .int (sh 0 6), .int (sh 0 7), .int (sh 0 8), .int (sh 0 9), .int (sh 0 10), .int (sh 0 11), .int (sh 0 12), .ref (qh 5)])), (qh 1, .inl (k 0, 5, .inl (sh 1))), (qh 2, .inl (k 0, 5, .inl (sh 2))), (qh 3, .inl (k 0, 3, .inl (sh 3))), (qh 4, .inl (k 0, 3, .inl (sh 4))), (qh 5, .inl (k 0, 525, .inl (sh 5)))] H := by rw [eH]; exact hP
  have hD : va_D A [(qh 0, .inr (2, [.int (sh 0 0), .int (sh 0 1), .ref (qh 1), .ref (qh 2), .ref (qh 3), .ref (qh 4), .int (sh 0 6), .int (sh 0 7), .int (sh 0 8), .int (sh 0 9), .int (sh 0 10), .int (sh 0 11), .int (sh 0 12), .ref (qh 5)])), (qh 1, .inl (k 0, 5, .inl (sh 1))), (qh 2, .inl (k 0, 5, .inl (sh 2))), (qh 3, .inl (k 0, 3, .inl (sh 3))), (qh 4, .inl (k 0, 3, .inl (sh 4))), (qh 5, .inl (k 0, 525, .inl (sh 5)))] := hD
  have hS : va_S A s.heap H locs := by rw [eH, el]; exact hS
  suffices goal : W p l e ({ frames := 1, cells := 0, slots := 0, locals := 21 } : Room) s m ([.ref (qh 0), .int p0] : List Value).toArray below meth c H locs 0 0 Q (F0 m 0 ls []) by rw [eH, el] at goal; exact goal
  refine lv_iconst (v := 0) hx hb dX4_fifths_0 (by decide) ?_
  refine lv_aload_n hx hb dX4_fifths_1 rfl (lv_at hl 0 rfl) ?_
  refine g_get cx hP iw_X4_fifths_X4 0 rfl rfl 4 (by decide) rfl fw_X4_fifths_18 rfl dX4_fifths_2 ?_
  refine lv_iload_n hx hb dX4_fifths_5 rfl (lv_at hl 1 rfl) ?_
  have hn1 : vp_in p0 3 := f_in (a := p0.toInt) rfl (by omega) (by omega)
  refine va_iald hx hb cx.2.1 hP 3 0 rfl rfl hn1 dX4_fifths_6 (lv_topi (fun v2 e2 => ?_))
  have t2 : 0 ≤ v2.toInt ∧ v2.toInt ≤ 5 := by rw [e2]; exact h_go _
  refine lv_aload_n hx hb dX4_fifths_7 rfl (lv_at hl 0 rfl) ?_
  refine g_get cx hP iw_X4_fifths_X4 0 rfl rfl 12 (by decide) rfl fw_X4_fifths_63 rfl dX4_fifths_8 ?_
  refine lv_isub hx hb dX4_fifths_11 (lv_topi (fun v3 e3 => ?_))
  have t3 : v3.toInt = v2.toInt - (sh 0 12).toInt := by rw [e3]; exact i_sub rfl rfl (by omega) (by omega)
  refine va_mmax hx hb (cx.1.2.2.1.trans hl.1.symm) cx.1.2.2.2.1 (cx.1.2.2.2.2 _ mw_X4_fifths_maxL97) (cx.1.2.2.2.2 _ mw_X4_fifths_maxS) (cx.1.2.2.2.2 _ mw_X4_fifths_maxI) (cx.1.2.2.2.2 _ mw_X4_fifths_maxC) (Nat.le_of_ble_eq_true rfl) (Nat.le_of_ble_eq_true rfl) (Nat.zero_le _) (Nat.zero_le _) dX4_fifths_12 (lv_topi (fun v4 e4 => ?_))
  have t4 := i_max (by decide) rfl (a := 0) (b := v3.toInt) e4
  rw [hQ]
  exact x_i cx hr () hP hD hS (show 0 ≤ v4.toInt ∧ v4.toInt ≤ 5 from by omega) dX4_fifths_15
theorem fw_X4_leaving_102 : Cond.fieldLink RX4 102 "StillInAugust$House" "POWERS" "[I" ∈ wsX4_leaving := by decide +kernel
theorem fw_X4_leaving_114 : Cond.fieldLink RX4 114 "StillInAugust$House" "WAYS" "[I" ∈ wsX4_leaving := by decide +kernel
theorem nd_X3_has : yX3_has.cls ≠ "java/lang/invoke/MethodHandle" ∧ yX3_has.cls ≠ "java/lang/invoke/VarHandle" ∧ (parseMethodDescriptor yX3_has.desc).map (fun d => d.parameters.length) = some 2 := by decide +kernel
theorem nd_X3_ofAge : yX3_ofAge.cls ≠ "java/lang/invoke/MethodHandle" ∧ yX3_ofAge.cls ≠ "java/lang/invoke/VarHandle" ∧ (parseMethodDescriptor yX3_ofAge.desc).map (fun d => d.parameters.length) = some 2 := by decide +kernel
theorem nd_X4_fifths : yX4_fifths.cls = RX4 ∧ yX4_fifths.cls ≠ "java/lang/invoke/MethodHandle" ∧ yX4_fifths.cls ≠ "java/lang/invoke/VarHandle" ∧ (parseMethodDescriptor yX4_fifths.desc).map (fun d => d.parameters.length) = some 1 := by decide +kernel
set_option maxHeartbeats 4000000 in
set_option maxRecDepth 100000 in
theorem c_X4_leaving (l : Launch) (D : va_G) (k : Nat → ClassId) (b : Nat → Nat) (qh : Nat → Nat) (sh : Nat → Nat → Int32) (sz : Nat) (p0 : Int32) (p1 : Int32) (h_fl : 0 ≤ (sh 0 12).toInt ∧ (sh 0 12).toInt ≤ 5) (h_go : ∀ j, 0 ≤ (sh 3 j).toInt ∧ (sh 3 j).toInt ≤ 5) (hv : 0 ≤ p0.toInt ∧ p0.toInt ≤ 400 ∧ tot p0 ≤ 4) (hg : 0 ≤ p1.toInt ∧ p1.toInt ≤ 444) : MetI l D k b yX4_leaving wsX4_leaving ({ frames := 2, cells := 0, slots := 0, locals := 42 } : Room) [(qh 0, .inr (2, [.int (sh 0 0), .int (sh 0 1), .ref (qh 1), .ref (qh 2), .ref (qh 3), .ref (qh 4), .int (sh 0 6), .int (sh 0 7), .int (sh 0 8), .int (sh 0 9), .int (sh 0 10), .int (sh 0 11), .int (sh 0 12), .ref (qh 5)])), (qh 1, .inl (k 0, 5, .inl (sh 1))), (qh 2, .inl (k 0, 5, .inl (sh 2))), (qh 3, .inl (k 0, 3, .inl (sh 3))), (qh 4, .inl (k 0, 3, .inl (sh 4))), (qh 5, .inl (k 0, 525, .inl (sh 5)))] sz [.ref (qh 0), .int p0, .int p1] (fun (r : Int32) (u : Unit) => r.toInt = 0 ∨ (hasI p0 p1)) (fun u => [(qh 0, .inr (2, [.int (sh 0 0), .int (sh 0 1), .ref (qh 1), .ref (qh 2), .ref (qh 3), .ref (qh 4), .int (sh 0 6), .int (sh 0 7), .int (sh 0 8), .int (sh 0 9), .int (sh 0 10), .int (sh 0 11), .int (sh 0 12), .ref (qh 5)])), (qh 1, .inl (k 0, 5, .inl (sh 1))), (qh 2, .inl (k 0, 5, .inl (sh 2))), (qh 3, .inl (k 0, 3, .inl (sh 3))), (qh 4, .inl (k 0, 3, .inl (sh 4))), (qh 5, .inl (k 0, 525, .inl (sh 5)))]) := by
  refine g_enter (cc := cX4_leaving) (maxL := 8) (ret := (some .int)) (by decide) rfl (Nat.le_of_ble_eq_true rfl) ?_
  intro p e s m below meth c A hsz hAe cx hr hP hD hS ls hl
  rw [hAe]
  refine g_q (fun Q hQ => ?_)
  have hx := cx.1.1
  have hb := cx.1.2.1
  have bp0 := i_rng p0
  have bp1 := i_rng p1
  have hl : lv_has ls 8 [(0, .ref (qh 0)), (1, .int p0), (2, .int p1)] := hl
  obtain ⟨H, eH⟩ : ∃ H : Heap, H = s.heap := ⟨_, rfl⟩
  obtain ⟨locs, el⟩ : ∃ L : List Loc, L = [] := ⟨_, rfl⟩
  have hP : va_P D vwCl [(qh 0, .inr (2, [.int (sh 0 0), .int (sh 0 1), .ref (qh 1), .ref (qh 2), .ref (qh 3), .ref (qh 4), .int (sh 0 6), .int (sh 0 7), .int (sh 0 8), .int (sh 0 9), .int (sh 0 10), .int (sh 0 11), .int (sh 0 12), .ref (qh 5)])), (qh 1, .inl (k 0, 5, .inl (sh 1))), (qh 2, .inl (k 0, 5, .inl (sh 2))), (qh 3, .inl (k 0, 3, .inl (sh 3))), (qh 4, .inl (k 0, 3, .inl (sh 4))), (qh 5, .inl (k 0, 525, .inl (sh 5)))] H := by rw [eH]; exact hP
  have hD : va_D A [(qh 0, .inr (2, [.int (sh 0 0), .int (sh 0 1), .ref (qh 1), .ref (qh 2), .ref (qh 3), .ref (qh 4), .int (sh 0 6), .int (sh 0 7), .int (sh 0 8), .int (sh 0 9), .int (sh 0 10), .int (sh 0 11), .int (sh 0 12), .ref (qh 5)])), (qh 1, .inl (k 0, 5, .inl (sh 1))), (qh 2, .inl (k 0, 5, .inl (sh 2))), (qh 3, .inl (k 0, 3, .inl (sh 3))), (qh 4, .inl (k 0, 3, .inl (sh 4))), (qh 5, .inl (k 0, 525, .inl (sh 5)))] := hD
  have hS : va_S A s.heap H locs := by rw [eH, el]; exact hS
  suffices goal : W p l e ({ frames := 2, cells := 0, slots := 0, locals := 42 } : Room) s m ([.ref (qh 0), .int p0, .int p1] : List Value).toArray below meth c H locs 0 0 Q (F0 m 0 ls []) by rw [eH, el] at goal; exact goal
  refine lv_iload_n hx hb dX4_leaving_0 rfl (lv_at hl 1 rfl) ?_
  refine lv_iload_n hx hb dX4_leaving_1 rfl (lv_at hl 2 rfl) ?_
  refine g_ir (g_runS (wc := []) (rest := []) cx hP hD hS [] rfl (by decide) [.int p0, .int p1] (c_X3_has l D k b H.size p0 p1) gX4_leaving_X3_has rfl rfl rfl nd_X3_has ⟨Nat.le_of_ble_eq_true rfl, Nat.le_of_ble_eq_true rfl⟩ rfl hl.1 rfl (Nat.le_of_ble_eq_true rfl) ⟨Nat.zero_le _, Nat.zero_le _⟩ dX4_leaving_2) cx.2.2.1 hP hD hS [] rfl rfl (fun r2 H locs hw1 hP hS => ?_)
  have w3 : r2 = J_X3_has p0 p1 := hw1
  clear hw1
  have zr2 := has_b w3
  refine lv_if_ne (tgt := 10) hx hb dX4_leaving_5 (by decide) (fun c4 => ?_) (fun c4 => ?_)
  · have f4 : ¬ r2.toInt = 0 := f_ne rfl (by decide) c4
    have k4 : hasI p0 p1 := has_t w3 c4 (by omega) (by omega)
    refine va_gets hx hb cx.2.2.2.t3.1 hS cx.1.2.2.2.1 (cx.1.2.2.2.2 _ fw_X4_leaving_102) (fun _ h => h) dX4_leaving_10 ?_
    refine lv_bipush (v := 29) hx hb dX4_leaving_13 (by decide) ?_
    refine lv_iload_n hx hb dX4_leaving_15 rfl (lv_at hl 1 rfl) ?_
    refine g_ir (g_runS (wc := []) (rest := [.int 29, .ref (b 3)]) cx hP hD hS [] rfl (by decide) [.int p0] (c_X3_total l D k b H.size p0) gX4_leaving_X3_total rfl rfl rfl nd_X3_total ⟨Nat.le_of_ble_eq_true rfl, Nat.le_of_ble_eq_true rfl⟩ rfl hl.1 rfl (Nat.le_of_ble_eq_true rfl) ⟨Nat.zero_le _, Nat.zero_le _⟩ dX4_leaving_16) cx.2.2.1 hP hD hS [] rfl rfl (fun r6 H locs hw5 hP hS => ?_)
    have w7 : r6 = J_X3_total p0 := hw5
    clear hw5
    have zr6 : r6.toInt = tot p0 := tot3 w7 (show 0 ≤ p0.toInt from by first | decide | omega)
    have yr6 := tot_0 (x := p0) (by first | decide | omega)
    refine lv_isub hx hb dX4_leaving_19 (lv_topi (fun v8 e8 => ?_))
    have t8 : v8.toInt = 29 - r6.toInt := by rw [e8]; exact i_sub (by decide) rfl (by omega) (by omega)
    have hn9 : vp_in v8 30 := f_in (a := v8.toInt) rfl (by omega) (by omega)
    refine va_ti hx hb cx.2.2.2.t3.2 hS hn9 rfl dX4_leaving_20 (lv_topi (fun v10 e10 => ?_))
    have t10 : 0 ≤ v10.toInt ∧ v10.toInt ≤ 625 := by rw [e10]; exact zPOW_b _
    refine lv_istore_n (lv' := [(3, .int v10), (0, .ref (qh 0)), (1, .int p0), (2, .int p1)]) hx hb dX4_leaving_21 rfl hl (by decide) rfl (fun ls hl => ?_)
    refine lv_iconst (v := 0) hx hb dX4_leaving_22 (by decide) ?_
    refine lv_istore (lv' := [(4, .int 0), (3, .int v10), (0, .ref (qh 0)), (1, .int p0), (2, .int p1)]) hx hb dX4_leaving_23 hl (by decide) rfl (fun ls hl => ?_)
    have hL25 : ∀ (n43 : Nat) (v41 : Int32) (v42 : Int32) (H : Heap) (locs : List Loc) (ls : Array Slot), 3 - v41.toInt < (n43 : Int) → (0 ≤ v41.toInt ∧ v41.toInt ≤ 3) → va_P D vwCl [(qh 0, .inr (2, [.int (sh 0 0), .int (sh 0 1), .ref (qh 1), .ref (qh 2), .ref (qh 3), .ref (qh 4), .int (sh 0 6), .int (sh 0 7), .int (sh 0 8), .int (sh 0 9), .int (sh 0 10), .int (sh 0 11), .int (sh 0 12), .ref (qh 5)])), (qh 1, .inl (k 0, 5, .inl (sh 1))), (qh 2, .inl (k 0, 5, .inl (sh 2))), (qh 3, .inl (k 0, 3, .inl (sh 3))), (qh 4, .inl (k 0, 3, .inl (sh 4))), (qh 5, .inl (k 0, 525, .inl (sh 5)))] H → va_D A [(qh 0, .inr (2, [.int (sh 0 0), .int (sh 0 1), .ref (qh 1), .ref (qh 2), .ref (qh 3), .ref (qh 4), .int (sh 0 6), .int (sh 0 7), .int (sh 0 8), .int (sh 0 9), .int (sh 0 10), .int (sh 0 11), .int (sh 0 12), .ref (qh 5)])), (qh 1, .inl (k 0, 5, .inl (sh 1))), (qh 2, .inl (k 0, 5, .inl (sh 2))), (qh 3, .inl (k 0, 3, .inl (sh 3))), (qh 4, .inl (k 0, 3, .inl (sh 4))), (qh 5, .inl (k 0, 525, .inl (sh 5)))] → va_S A s.heap H locs → lv_has ls 8 [(4, .int v41), (3, .int v42), (0, .ref (qh 0)), (1, .int p0), (2, .int p1)] → W p l e ({ frames := 2, cells := 0, slots := 0, locals := 42 } : Room) s m ([.ref (qh 0), .int p0, .int p1] : List Value).toArray below meth c H locs 0 0 Q (F0 m 25 ls []) := by
      intro n43
      induction n43 with
      | zero => intro v41 v42 H locs ls hmn43 bv41 hP hD hS hl; exact absurd hmn43 (by omega)
      | succ n43 ih25 =>
        intro v41 v42 H locs ls hmn43 bv41 hP hD hS hl
        refine lv_iload hx hb dX4_leaving_25 (lv_at hl 0 rfl) ?_
        refine lv_iconst (v := 3) hx hb dX4_leaving_27 (by decide) ?_
        refine lv_icmp_ge (tgt := 104) hx hb dX4_leaving_28 (by decide) (fun c44 => ?_) (fun c44 => ?_)
        · have f44 : 3 ≤ v41.toInt := f_le (by decide) rfl c44
          refine lv_iload_n hx hb dX4_leaving_104 rfl (lv_at hl 1 rfl) ?_
          rw [hQ]
          exact x_i cx hr () hP hD hS (show v42.toInt = 0 ∨ (hasI p0 p1) from by first | exact Or.inl (by first | decide | omega) | exact Or.inr (by assumption)) dX4_leaving_105
        · have f44 : v41.toInt < 3 := f_nle (by decide) rfl c44
          refine lv_iload_n hx hb dX4_leaving_31 rfl (lv_at hl 3 rfl) ?_
          refine lv_iload hx hb dX4_leaving_32 (lv_at hl 0 rfl) ?_
          refine g_ir (g_runS (wc := []) (rest := []) cx hP hD hS [] rfl (by decide) [.int p0, .int v41] (c_X3_ofAge l D k b H.size p0 v41) gX4_leaving_X3_ofAge rfl rfl rfl nd_X3_ofAge ⟨Nat.le_of_ble_eq_true rfl, Nat.le_of_ble_eq_true rfl⟩ rfl hl.1 rfl (Nat.le_of_ble_eq_true rfl) ⟨Nat.zero_le _, Nat.zero_le _⟩ dX4_leaving_34) cx.2.2.1 hP hD hS [] rfl rfl (fun r46 H locs hw45 hP hS => ?_)
          have w47 : r46 = J_X3_ofAge p0 v41 := hw45
          clear hw45
          have ow1 := w47
          refine lv_istore (lv' := [(5, .int r46), (4, .int v41), (3, .int v42), (0, .ref (qh 0)), (1, .int p0), (2, .int p1)]) hx hb dX4_leaving_37 hl (by decide) rfl (fun ls hl => ?_)
          refine lv_iload_n hx hb dX4_leaving_39 rfl (lv_at hl 5 rfl) ?_
          refine lv_iload hx hb dX4_leaving_40 (lv_at hl 1 rfl) ?_
          refine g_ir (g_runS (wc := []) (rest := []) cx hP hD hS [] rfl (by decide) [.int p1, .int v41] (c_X3_ofAge l D k b H.size p1 v41) gX4_leaving_X3_ofAge rfl rfl rfl nd_X3_ofAge ⟨Nat.le_of_ble_eq_true rfl, Nat.le_of_ble_eq_true rfl⟩ rfl hl.1 rfl (Nat.le_of_ble_eq_true rfl) ⟨Nat.zero_le _, Nat.zero_le _⟩ dX4_leaving_42) cx.2.2.1 hP hD hS [] rfl rfl (fun r49 H locs hw48 hP hS => ?_)
          have w50 : r49 = J_X3_ofAge p1 v41 := hw48
          clear hw48
          have ab := age_b ow1 w50 hv (by omega) (by assumption)
          refine lv_istore (lv' := [(6, .int r49), (5, .int r46), (4, .int v41), (3, .int v42), (0, .ref (qh 0)), (1, .int p0), (2, .int p1)]) hx hb dX4_leaving_45 hl (by decide) rfl (fun ls hl => ?_)
          refine lv_aload_n hx hb dX4_leaving_47 rfl (lv_at hl 4 rfl) ?_
          refine lv_iload hx hb dX4_leaving_48 (lv_at hl 2 rfl) ?_
          refine g_iF (w1 := fun (_ : Unit) => [(qh 0, .inr (2, [.int (sh 0 0), .int (sh 0 1), .ref (qh 1), .ref (qh 2), .ref (qh 3), .ref (qh 4), .int (sh 0 6), .int (sh 0 7), .int (sh 0 8), .int (sh 0 9), .int (sh 0 10), .int (sh 0 11), .int (sh 0 12), .ref (qh 5)])), (qh 1, .inl (k 0, 5, .inl (sh 1))), (qh 2, .inl (k 0, 5, .inl (sh 2))), (qh 3, .inl (k 0, 3, .inl (sh 3))), (qh 4, .inl (k 0, 3, .inl (sh 4))), (qh 5, .inl (k 0, 525, .inl (sh 5)))]) (g_runVF (ws := [(qh 0, .inr (2, [.int (sh 0 0), .int (sh 0 1), .ref (qh 1), .ref (qh 2), .ref (qh 3), .ref (qh 4), .int (sh 0 6), .int (sh 0 7), .int (sh 0 8), .int (sh 0 9), .int (sh 0 10), .int (sh 0 11), .int (sh 0 12), .ref (qh 5)])), (qh 1, .inl (k 0, 5, .inl (sh 1))), (qh 2, .inl (k 0, 5, .inl (sh 2))), (qh 3, .inl (k 0, 3, .inl (sh 3))), (qh 4, .inl (k 0, 3, .inl (sh 4))), (qh 5, .inl (k 0, 525, .inl (sh 5)))]) (rest := []) cx hP hD hS [.int v41] (c_X4_fifths l D k b qh sh H.size v41 (show 0 ≤ (sh 0 12).toInt ∧ (sh 0 12).toInt ≤ 5 from by first | decide | omega) h_go (show 0 ≤ v41.toInt ∧ v41.toInt ≤ 2 from by first | decide | omega)) gX4_leaving_X4_fifths rfl rfl rfl nd_X4_fifths ⟨Nat.le_of_ble_eq_true rfl, Nat.le_of_ble_eq_true rfl⟩ (ci := 2) (q0 := 0) rfl rfl rfl hl.1 rfl (Nat.le_of_ble_eq_true rfl) ⟨Nat.zero_le _, Nat.zero_le _⟩ dX4_leaving_50) cx.2.2.1 hD hS (fun r52 _ H locs hw51 hP hD hS => ?_)
          have w53 : 0 ≤ r52.toInt ∧ r52.toInt ≤ 5 := hw51
          clear hw51
          refine lv_istore (lv' := [(7, .int r52), (6, .int r49), (5, .int r46), (4, .int v41), (3, .int v42), (0, .ref (qh 0)), (1, .int p0), (2, .int p1)]) hx hb dX4_leaving_53 hl (by decide) rfl (fun ls hl => ?_)
          refine lv_iload_n hx hb dX4_leaving_55 rfl (lv_at hl 4 rfl) ?_
          refine va_gets hx hb cx.2.2.2.t2.1 hS cx.1.2.2.2.1 (cx.1.2.2.2.2 _ fw_X4_leaving_114) (fun _ h => h) dX4_leaving_56 ?_
          refine lv_iconst (v := 5) hx hb dX4_leaving_59 (by decide) ?_
          refine lv_iload hx hb dX4_leaving_60 (lv_at hl 2 rfl) ?_
          refine lv_imul hx hb dX4_leaving_62 (lv_topi (fun v54 e54 => ?_))
          have t54 : v54.toInt = 5 * r46.toInt := by rw [e54]; exact i_mul (by decide) rfl (by omega) (by omega)
          refine lv_iload hx hb dX4_leaving_63 (lv_at hl 1 rfl) ?_
          refine lv_iadd hx hb dX4_leaving_65 (lv_topi (fun v55 e55 => ?_))
          have t55 : v55.toInt = v54.toInt + r49.toInt := by rw [e55]; exact i_add rfl rfl (by omega) (by omega)
          have hn56 : vp_in v55 25 := f_in (a := v55.toInt) rfl (by omega) (by omega)
          refine va_ti hx hb cx.2.2.2.t2.2 hS hn56 rfl dX4_leaving_66 (lv_topi (fun v57 e57 => ?_))
          have t57 : 0 ≤ v57.toInt ∧ v57.toInt ≤ 6 := by rw [e57]; exact zWAY_b _
          refine va_gets hx hb cx.2.2.2.t3.1 hS cx.1.2.2.2.1 (cx.1.2.2.2.2 _ fw_X4_leaving_102) (fun _ h => h) dX4_leaving_67 ?_
          refine lv_iconst (v := 5) hx hb dX4_leaving_70 (by decide) ?_
          refine lv_iload hx hb dX4_leaving_71 (lv_at hl 0 rfl) ?_
          refine lv_imul hx hb dX4_leaving_73 (lv_topi (fun v58 e58 => ?_))
          have t58 : v58.toInt = 5 * r52.toInt := by rw [e58]; exact i_mul (by decide) rfl (by omega) (by omega)
          refine lv_iload hx hb dX4_leaving_74 (lv_at hl 1 rfl) ?_
          refine lv_iadd hx hb dX4_leaving_76 (lv_topi (fun v59 e59 => ?_))
          have t59 : v59.toInt = v58.toInt + r49.toInt := by rw [e59]; exact i_add rfl rfl (by omega) (by omega)
          have hn60 : vp_in v59 30 := f_in (a := v59.toInt) rfl (by omega) (by omega)
          refine va_ti hx hb cx.2.2.2.t3.2 hS hn60 rfl dX4_leaving_77 (lv_topi (fun v61 e61 => ?_))
          have t61 : 0 ≤ v61.toInt ∧ v61.toInt ≤ 625 := by rw [e61]; exact zPOW_b _
          refine lv_imul hx hb dX4_leaving_78 (lv_topi (fun v62 e62 => ?_))
          have t62b : 0 ≤ v57.toInt * v61.toInt ∧ v57.toInt * v61.toInt ≤ 3750 := ⟨Int.mul_nonneg (by omega) (by omega), Int.le_trans (Int.mul_le_mul (c := 6) (d := 625) (by omega) (by omega) (by omega) (by omega)) (by decide)⟩
          have t62c : v62.toInt = v57.toInt * v61.toInt := by rw [e62]; exact i_mul rfl rfl (by omega) (by omega)
          have t62 : 0 ≤ v62.toInt ∧ v62.toInt ≤ 3750 := by rw [t62c]; exact t62b
          refine va_gets hx hb cx.2.2.2.t3.1 hS cx.1.2.2.2.1 (cx.1.2.2.2.2 _ fw_X4_leaving_102) (fun _ h => h) dX4_leaving_79 ?_
          refine lv_iconst (v := 5) hx hb dX4_leaving_82 (by decide) ?_
          refine lv_iconst (v := 5) hx hb dX4_leaving_83 (by decide) ?_
          refine lv_iload hx hb dX4_leaving_84 (lv_at hl 0 rfl) ?_
          refine lv_isub hx hb dX4_leaving_86 (lv_topi (fun v63 e63 => ?_))
          have t63 : v63.toInt = 5 - r52.toInt := by rw [e63]; exact i_sub (by decide) rfl (by omega) (by omega)
          refine lv_imul hx hb dX4_leaving_87 (lv_topi (fun v64 e64 => ?_))
          have t64 : v64.toInt = 5 * v63.toInt := by rw [e64]; exact i_mul (by decide) rfl (by omega) (by omega)
          refine lv_iload hx hb dX4_leaving_88 (lv_at hl 2 rfl) ?_
          refine lv_iadd hx hb dX4_leaving_90 (lv_topi (fun v65 e65 => ?_))
          have t65 : v65.toInt = v64.toInt + r46.toInt := by rw [e65]; exact i_add rfl rfl (by omega) (by omega)
          refine lv_iload hx hb dX4_leaving_91 (lv_at hl 1 rfl) ?_
          refine lv_isub hx hb dX4_leaving_93 (lv_topi (fun v66 e66 => ?_))
          have t66 : v66.toInt = v65.toInt - r49.toInt := by rw [e66]; exact i_sub rfl rfl (by omega) (by omega)
          have hn67 : vp_in v66 30 := f_in (a := v66.toInt) rfl (by omega) (by omega)
          refine va_ti hx hb cx.2.2.2.t3.2 hS hn67 rfl dX4_leaving_94 (lv_topi (fun v68 e68 => ?_))
          have t68 : 0 ≤ v68.toInt ∧ v68.toInt ≤ 625 := by rw [e68]; exact zPOW_b _
          refine lv_imul hx hb dX4_leaving_95 (lv_topi (fun v69 e69 => ?_))
          have t69b : 0 ≤ v62.toInt * v68.toInt ∧ v62.toInt * v68.toInt ≤ 2343750 := ⟨Int.mul_nonneg (by omega) (by omega), Int.le_trans (Int.mul_le_mul (c := 3750) (d := 625) (by omega) (by omega) (by omega) (by omega)) (by decide)⟩
          have t69c : v69.toInt = v62.toInt * v68.toInt := by rw [e69]; exact i_mul rfl rfl (by omega) (by omega)
          have t69 : 0 ≤ v69.toInt ∧ v69.toInt ≤ 2343750 := by rw [t69c]; exact t69b
          refine lv_imul hx hb dX4_leaving_96 (lv_topi (fun v70 e70 => ?_))
          refine lv_istore_n (lv' := [(3, .int v70), (7, .int r52), (6, .int r49), (5, .int r46), (4, .int v41), (0, .ref (qh 0)), (1, .int p0), (2, .int p1)]) hx hb dX4_leaving_97 rfl hl (by decide) rfl (fun ls hl => ?_)
          obtain ⟨v71, e71⟩ : ∃ z : Int32, z = v41 + 1 := ⟨_, rfl⟩
          refine lv_iinc (v := v71) (lv' := [(4, .int v71), (3, .int v70), (7, .int r52), (6, .int r49), (5, .int r46), (0, .ref (qh 0)), (1, .int p0), (2, .int p1)]) hx hb dX4_leaving_98 hl (k := 4) rfl (by rw [e71]; rfl) (by decide) rfl (fun ls hl => ?_)
          have t71 : v71.toInt = v41.toInt + 1 := by rw [e71]; exact i_add rfl (by decide) (by omega) (by omega)
          refine lv_goto (tgt := 25) hx hb dX4_leaving_101 (by decide) ?_
          exact ih25 v71 v70 _ _ _ (by omega) (by first | decide | omega) hP hD hS (lv_sub hl [0, 1, 5, 6, 7] rfl)
    have hlit72 : (0 : Int32).toInt = 0 := by decide
    exact hL25 (Int.toNat (3 - 0) + 1) 0 v10 _ _ _ (by omega) (by first | decide | omega) hP hD hS (lv_sub hl [0, 1, 2, 3, 4] rfl)
  · have f4 : r2.toInt = 0 := f_eq rfl (by decide) c4
    refine lv_iconst (v := 0) hx hb dX4_leaving_8 (by decide) ?_
    have hlit73 : (0 : Int32).toInt = 0 := by decide
    rw [hQ]
    exact x_i cx hr () hP hD hS (show (0 : Int32).toInt = 0 ∨ (hasI p0 p1) from by first | exact Or.inl (by first | decide | omega) | exact Or.inr (by assumption)) dX4_leaving_9
theorem fw_X4_settle_26 : Cond.fieldLink RX4 26 "StillInAugust$House" "sundays" "[I" ∈ wsX4_settle := by decide +kernel
theorem fw_X4_settle_79 : Cond.fieldLink RX4 79 "StillInAugust$Hands" "ALL" "[I" ∈ wsX4_settle := by decide +kernel
theorem nd_X3_behindSunday : yX3_behindSunday.cls ≠ "java/lang/invoke/MethodHandle" ∧ yX3_behindSunday.cls ≠ "java/lang/invoke/VarHandle" ∧ (parseMethodDescriptor yX3_behindSunday.desc).map (fun d => d.parameters.length) = some 2 := by decide +kernel
theorem nd_X3_kind : yX3_kind.cls ≠ "java/lang/invoke/MethodHandle" ∧ yX3_kind.cls ≠ "java/lang/invoke/VarHandle" ∧ (parseMethodDescriptor yX3_kind.desc).map (fun d => d.parameters.length) = some 1 := by decide +kernel
theorem nd_X4_leaving : yX4_leaving.cls = RX4 ∧ yX4_leaving.cls ≠ "java/lang/invoke/MethodHandle" ∧ yX4_leaving.cls ≠ "java/lang/invoke/VarHandle" ∧ (parseMethodDescriptor yX4_leaving.desc).map (fun d => d.parameters.length) = some 2 := by decide +kernel
theorem iw_X4_settle_X4 : ∀ w ∈ u_ws RX4 TX4 14, w ∈ wsX4_settle := fun _ h => List.mem_cons_of_mem _ (List.mem_append_right _ h)
set_option maxHeartbeats 4000000 in
set_option maxRecDepth 100000 in
theorem c_X4_settle (l : Launch) (D : va_G) (k : Nat → ClassId) (b : Nat → Nat) (qh : Nat → Nat) (sh : Nat → Nat → Int32) (sz : Nat) (h_fl : 0 ≤ (sh 0 12).toInt ∧ (sh 0 12).toInt ≤ 5) (h_go : ∀ j, 0 ≤ (sh 3 j).toInt ∧ (sh 3 j).toInt ≤ 5) : MetV l D k b yX4_settle wsX4_settle ({ frames := 3, cells := 0, slots := 0, locals := 69 } : Room) [(qh 0, .inr (2, [.int (sh 0 0), .int (sh 0 1), .ref (qh 1), .ref (qh 2), .ref (qh 3), .ref (qh 4), .int (sh 0 6), .int (sh 0 7), .int (sh 0 8), .int (sh 0 9), .int (sh 0 10), .int (sh 0 11), .int (sh 0 12), .ref (qh 5)])), (qh 1, .inl (k 0, 5, .inl (sh 1))), (qh 2, .inl (k 0, 5, .inl (sh 2))), (qh 3, .inl (k 0, 3, .inl (sh 3))), (qh 4, .inl (k 0, 3, .inl (sh 4))), (qh 5, .inl (k 0, 525, .inl (sh 5)))] sz [.ref (qh 0)] (fun (u : (Nat → Int32)) => SUok u) (fun u => [(qh 0, .inr (2, [.int (sh 0 0), .int (sh 0 1), .ref (qh 1), .ref (qh 2), .ref (qh 3), .ref (qh 4), .int (sh 0 6), .int (sh 0 7), .int (sh 0 8), .int (sh 0 9), .int (sh 0 10), .int (sh 0 11), .int (sh 0 12), .ref (qh 5)])), (qh 1, .inl (k 0, 5, .inl (sh 1))), (qh 2, .inl (k 0, 5, .inl (sh 2))), (qh 3, .inl (k 0, 3, .inl (sh 3))), (qh 4, .inl (k 0, 3, .inl (sh 4))), (qh 5, .inl (k 0, 525, .inl u))]) := by
  refine g_enter (cc := cX4_settle) (maxL := 8) (ret := none) (by decide) rfl (Nat.le_of_ble_eq_true rfl) ?_
  intro p e s m below meth c A hsz hAe cx hr hP hD hS ls hl
  rw [hAe]
  refine g_q (fun Q hQ => ?_)
  have hx := cx.1.1
  have hb := cx.1.2.1
  have hl : lv_has ls 8 [(0, .ref (qh 0))] := hl
  obtain ⟨H, eH⟩ : ∃ H : Heap, H = s.heap := ⟨_, rfl⟩
  obtain ⟨locs, el⟩ : ∃ L : List Loc, L = [] := ⟨_, rfl⟩
  have hP : va_P D vwCl [(qh 0, .inr (2, [.int (sh 0 0), .int (sh 0 1), .ref (qh 1), .ref (qh 2), .ref (qh 3), .ref (qh 4), .int (sh 0 6), .int (sh 0 7), .int (sh 0 8), .int (sh 0 9), .int (sh 0 10), .int (sh 0 11), .int (sh 0 12), .ref (qh 5)])), (qh 1, .inl (k 0, 5, .inl (sh 1))), (qh 2, .inl (k 0, 5, .inl (sh 2))), (qh 3, .inl (k 0, 3, .inl (sh 3))), (qh 4, .inl (k 0, 3, .inl (sh 4))), (qh 5, .inl (k 0, 525, .inl (sh 5)))] H := by rw [eH]; exact hP
  have hD : va_D A [(qh 0, .inr (2, [.int (sh 0 0), .int (sh 0 1), .ref (qh 1), .ref (qh 2), .ref (qh 3), .ref (qh 4), .int (sh 0 6), .int (sh 0 7), .int (sh 0 8), .int (sh 0 9), .int (sh 0 10), .int (sh 0 11), .int (sh 0 12), .ref (qh 5)])), (qh 1, .inl (k 0, 5, .inl (sh 1))), (qh 2, .inl (k 0, 5, .inl (sh 2))), (qh 3, .inl (k 0, 3, .inl (sh 3))), (qh 4, .inl (k 0, 3, .inl (sh 4))), (qh 5, .inl (k 0, 525, .inl (sh 5)))] := hD
  have hS : va_S A s.heap H locs := by rw [eH, el]; exact hS
  suffices goal : W p l e ({ frames := 3, cells := 0, slots := 0, locals := 69 } : Room) s m ([.ref (qh 0)] : List Value).toArray below meth c H locs 0 0 Q (F0 m 0 ls []) by rw [eH, el] at goal; exact goal
  refine lv_aload_n hx hb dX4_settle_0 rfl (lv_at hl 0 rfl) ?_
  refine g_get cx hP iw_X4_settle_X4 0 rfl rfl 13 (by decide) rfl fw_X4_settle_26 rfl dX4_settle_1 ?_
  refine lv_iconst (v := 0) hx hb dX4_settle_4 (by decide) ?_
  have hlit1 : (0 : Int32).toInt = 0 := by decide
  refine g_v (w1 := fun (u : (Nat → Int32)) => [(qh 5, .inl (k 0, 525, .inl u))]) (g_runS (wc := [(qh 5, .inl (k 0, 525, .inl (sh 5)))]) (rest := []) cx hP hD hS [5] rfl (by decide) [.ref (qh 5), .int 0] (c_J7_fill_53178_525 l D k b (fun _ => qh 5) (fun _ => (sh 5)) H.size 0) gX4_settle_J7_fill_53178 rfl rfl rfl nd_J7_fill_53178 ⟨Nat.le_of_ble_eq_true rfl, Nat.le_of_ble_eq_true rfl⟩ rfl hl.1 rfl (Nat.le_of_ble_eq_true rfl) ⟨Nat.zero_le _, Nat.zero_le _⟩ dX4_settle_5) cx.2.2.1 hP hD hS [5] rfl (fun _ => rfl) (fun u3 H locs hw2 hP hD hS => ?_)
  obtain ⟨m4, rfl⟩ : ∃ z, z = u3 := ⟨_, rfl⟩
  have hP : va_P D vwCl [(qh 0, .inr (2, [.int (sh 0 0), .int (sh 0 1), .ref (qh 1), .ref (qh 2), .ref (qh 3), .ref (qh 4), .int (sh 0 6), .int (sh 0 7), .int (sh 0 8), .int (sh 0 9), .int (sh 0 10), .int (sh 0 11), .int (sh 0 12), .ref (qh 5)])), (qh 1, .inl (k 0, 5, .inl (sh 1))), (qh 2, .inl (k 0, 5, .inl (sh 2))), (qh 3, .inl (k 0, 3, .inl (sh 3))), (qh 4, .inl (k 0, 3, .inl (sh 4))), (qh 5, .inl (k 0, 525, .inl m4))] H := hP
  have hD : va_D A [(qh 0, .inr (2, [.int (sh 0 0), .int (sh 0 1), .ref (qh 1), .ref (qh 2), .ref (qh 3), .ref (qh 4), .int (sh 0 6), .int (sh 0 7), .int (sh 0 8), .int (sh 0 9), .int (sh 0 10), .int (sh 0 11), .int (sh 0 12), .ref (qh 5)])), (qh 1, .inl (k 0, 5, .inl (sh 1))), (qh 2, .inl (k 0, 5, .inl (sh 2))), (qh 3, .inl (k 0, 3, .inl (sh 3))), (qh 4, .inl (k 0, 3, .inl (sh 4))), (qh 5, .inl (k 0, 525, .inl m4))] := hD
  have w5 : m4 = fillI 525 (0 : Int32) (sh 5) := hw2
  clear hw2
  have su := SU_fill w5
  refine lv_iconst (v := 0) hx hb dX4_settle_8 (by decide) ?_
  refine lv_istore_n (lv' := [(1, .int 0), (0, .ref (qh 0))]) hx hb dX4_settle_9 rfl hl (by decide) rfl (fun ls hl => ?_)
  have hL10 : ∀ (n33 : Nat) (v31 : Int32) (g32 : Nat → Int32) (H : Heap) (locs : List Loc) (ls : Array Slot), 35 - v31.toInt < (n33 : Int) → (0 ≤ v31.toInt ∧ v31.toInt ≤ 35) → (SUok g32) → va_P D vwCl [(qh 0, .inr (2, [.int (sh 0 0), .int (sh 0 1), .ref (qh 1), .ref (qh 2), .ref (qh 3), .ref (qh 4), .int (sh 0 6), .int (sh 0 7), .int (sh 0 8), .int (sh 0 9), .int (sh 0 10), .int (sh 0 11), .int (sh 0 12), .ref (qh 5)])), (qh 1, .inl (k 0, 5, .inl (sh 1))), (qh 2, .inl (k 0, 5, .inl (sh 2))), (qh 3, .inl (k 0, 3, .inl (sh 3))), (qh 4, .inl (k 0, 3, .inl (sh 4))), (qh 5, .inl (k 0, 525, .inl g32))] H → va_D A [(qh 0, .inr (2, [.int (sh 0 0), .int (sh 0 1), .ref (qh 1), .ref (qh 2), .ref (qh 3), .ref (qh 4), .int (sh 0 6), .int (sh 0 7), .int (sh 0 8), .int (sh 0 9), .int (sh 0 10), .int (sh 0 11), .int (sh 0 12), .ref (qh 5)])), (qh 1, .inl (k 0, 5, .inl (sh 1))), (qh 2, .inl (k 0, 5, .inl (sh 2))), (qh 3, .inl (k 0, 3, .inl (sh 3))), (qh 4, .inl (k 0, 3, .inl (sh 4))), (qh 5, .inl (k 0, 525, .inl g32))] → va_S A s.heap H locs → lv_has ls 8 [(1, .int v31), (0, .ref (qh 0))] → W p l e ({ frames := 3, cells := 0, slots := 0, locals := 69 } : Room) s m ([.ref (qh 0)] : List Value).toArray below meth c H locs 0 0 Q (F0 m 10 ls []) := by
    intro n33
    induction n33 with
    | zero => intro v31 g32 H locs ls hmn33 bv31 su hP hD hS hl; exact absurd hmn33 (by omega)
    | succ n33 ih10 =>
      intro v31 g32 H locs ls hmn33 bv31 su hP hD hS hl
      refine lv_iload_n hx hb dX4_settle_10 rfl (lv_at hl 0 rfl) ?_
      refine lv_bipush (v := 35) hx hb dX4_settle_11 (by decide) ?_
      refine lv_icmp_ge (tgt := 100) hx hb dX4_settle_13 (by decide) (fun c34 => ?_) (fun c34 => ?_)
      · have f34 : 35 ≤ v31.toInt := f_le (by decide) rfl c34
        rw [hQ]
        exact x_v cx hr g32 hP hD hS (show SUok g32 from su) dX4_settle_100
      · have f34 : v31.toInt < 35 := f_nle (by decide) rfl c34
        refine va_gets hx hb cx.2.2.2.t0.1 hS cx.1.2.2.2.1 (cx.1.2.2.2.2 _ fw_X4_settle_79) (fun _ h => h) dX4_settle_16 ?_
        refine lv_iload_n hx hb dX4_settle_19 rfl (lv_at hl 0 rfl) ?_
        have hn35 : vp_in v31 35 := f_in (a := v31.toInt) rfl (by omega) (by omega)
        refine va_ti hx hb cx.2.2.2.t0.2 hS hn35 rfl dX4_settle_20 (lv_topi (fun v36 e36 => ?_))
        have t36 : 0 ≤ v36.toInt ∧ v36.toInt ≤ 400 ∧ tot v36 ≤ 4 := by rw [e36]; exact zALL_v _
        have tk : totN v31.toNatClampNeg = tot v36 := totN_of e36
        refine lv_istore_n (lv' := [(2, .int v36), (1, .int v31), (0, .ref (qh 0))]) hx hb dX4_settle_21 rfl hl (by decide) rfl (fun ls hl => ?_)
        refine va_gets hx hb cx.2.2.2.t0.1 hS cx.1.2.2.2.1 (cx.1.2.2.2.2 _ fw_X4_settle_79) (fun _ h => h) dX4_settle_22 ?_
        refine lv_astore_n (lv' := [(3, .ref (b 0)), (2, .int v36), (1, .int v31), (0, .ref (qh 0))]) hx hb dX4_settle_25 rfl hl (by decide) rfl (fun ls hl => ?_)
        refine lv_aload_n hx hb dX4_settle_26 rfl (lv_at hl 0 rfl) ?_
        refine va_tlen hx hb cx.2.2.2.t0.2 hS (v := 35) (by decide) dX4_settle_27 ?_
        refine lv_istore (lv' := [(4, .int 35), (3, .ref (b 0)), (2, .int v36), (1, .int v31), (0, .ref (qh 0))]) hx hb dX4_settle_28 hl (by decide) rfl (fun ls hl => ?_)
        refine lv_iconst (v := 0) hx hb dX4_settle_30 (by decide) ?_
        refine lv_istore (lv' := [(5, .int 0), (4, .int 35), (3, .ref (b 0)), (2, .int v36), (1, .int v31), (0, .ref (qh 0))]) hx hb dX4_settle_31 hl (by decide) rfl (fun ls hl => ?_)
        have hL33 : ∀ (n61 : Nat) (v59 : Int32) (g60 : Nat → Int32) (H : Heap) (locs : List Loc) (ls : Array Slot), 35 - v59.toInt < (n61 : Int) → (0 ≤ v59.toInt ∧ v59.toInt ≤ 35) → (SUok g60) → va_P D vwCl [(qh 0, .inr (2, [.int (sh 0 0), .int (sh 0 1), .ref (qh 1), .ref (qh 2), .ref (qh 3), .ref (qh 4), .int (sh 0 6), .int (sh 0 7), .int (sh 0 8), .int (sh 0 9), .int (sh 0 10), .int (sh 0 11), .int (sh 0 12), .ref (qh 5)])), (qh 1, .inl (k 0, 5, .inl (sh 1))), (qh 2, .inl (k 0, 5, .inl (sh 2))), (qh 3, .inl (k 0, 3, .inl (sh 3))), (qh 4, .inl (k 0, 3, .inl (sh 4))), (qh 5, .inl (k 0, 525, .inl g60))] H → va_D A [(qh 0, .inr (2, [.int (sh 0 0), .int (sh 0 1), .ref (qh 1), .ref (qh 2), .ref (qh 3), .ref (qh 4), .int (sh 0 6), .int (sh 0 7), .int (sh 0 8), .int (sh 0 9), .int (sh 0 10), .int (sh 0 11), .int (sh 0 12), .ref (qh 5)])), (qh 1, .inl (k 0, 5, .inl (sh 1))), (qh 2, .inl (k 0, 5, .inl (sh 2))), (qh 3, .inl (k 0, 3, .inl (sh 3))), (qh 4, .inl (k 0, 3, .inl (sh 4))), (qh 5, .inl (k 0, 525, .inl g60))] → va_S A s.heap H locs → lv_has ls 8 [(5, .int v59), (4, .int 35), (3, .ref (b 0)), (2, .int v36), (1, .int v31), (0, .ref (qh 0))] → W p l e ({ frames := 3, cells := 0, slots := 0, locals := 69 } : Room) s m ([.ref (qh 0)] : List Value).toArray below meth c H locs 0 0 Q (F0 m 33 ls []) := by
          intro n61
          induction n61 with
          | zero => intro v59 g60 H locs ls hmn61 bv59 su hP hD hS hl; exact absurd hmn61 (by omega)
          | succ n61 ih33 =>
            intro v59 g60 H locs ls hmn61 bv59 su hP hD hS hl
            refine lv_iload hx hb dX4_settle_33 (lv_at hl 0 rfl) ?_
            refine lv_iload hx hb dX4_settle_35 (lv_at hl 1 rfl) ?_
            refine lv_icmp_ge (tgt := 94) hx hb dX4_settle_37 (by decide) (fun c62 => ?_) (fun c62 => ?_)
            · have f62 : 35 ≤ v59.toInt := f_le (by decide) rfl c62
              obtain ⟨v63, e63⟩ : ∃ z : Int32, z = v31 + 1 := ⟨_, rfl⟩
              refine lv_iinc (v := v63) (lv' := [(1, .int v63), (5, .int v59), (4, .int 35), (3, .ref (b 0)), (2, .int v36), (0, .ref (qh 0))]) hx hb dX4_settle_94 hl (k := 4) rfl (by rw [e63]; rfl) (by decide) rfl (fun ls hl => ?_)
              have t63 : v63.toInt = v31.toInt + 1 := by rw [e63]; exact i_add rfl (by decide) (by omega) (by omega)
              refine lv_goto (tgt := 10) hx hb dX4_settle_97 (by decide) ?_
              exact ih10 v63 g60 _ _ _ (by omega) (by first | decide | omega) (by assumption) hP hD hS (lv_sub hl [0, 5] rfl)
            · have f62 : v59.toInt < 35 := f_nle (by decide) rfl c62
              refine lv_aload_n hx hb dX4_settle_40 rfl (lv_at hl 2 rfl) ?_
              refine lv_iload hx hb dX4_settle_41 (lv_at hl 0 rfl) ?_
              have hn64 : vp_in v59 35 := f_in (a := v59.toInt) rfl (by omega) (by omega)
              refine va_ti hx hb cx.2.2.2.t0.2 hS hn64 rfl dX4_settle_43 (lv_topi (fun v65 e65 => ?_))
              have t65 : 0 ≤ v65.toInt ∧ v65.toInt ≤ 400 ∧ v65.toInt / 100 + v65.toInt / 10 % 10 + v65.toInt % 10 ≤ 4 := by rw [e65]; exact zALL_v _
              refine lv_istore (lv' := [(6, .int v65), (5, .int v59), (4, .int 35), (3, .ref (b 0)), (2, .int v36), (1, .int v31), (0, .ref (qh 0))]) hx hb dX4_settle_44 hl (by decide) rfl (fun ls hl => ?_)
              refine lv_iload_n hx hb dX4_settle_46 rfl (lv_at hl 4 rfl) ?_
              refine lv_iload hx hb dX4_settle_47 (lv_at hl 0 rfl) ?_
              refine g_ir (g_runS (wc := []) (rest := []) cx hP hD hS [] rfl (by decide) [.int v36, .int v65] (c_X3_has l D k b H.size v36 v65) gX4_settle_X3_has rfl rfl rfl nd_X3_has ⟨Nat.le_of_ble_eq_true rfl, Nat.le_of_ble_eq_true rfl⟩ rfl hl.1 rfl (Nat.le_of_ble_eq_true rfl) ⟨Nat.zero_le _, Nat.zero_le _⟩ dX4_settle_49) cx.2.2.1 hP hD hS [] rfl rfl (fun r67 H locs hw66 hP hS => ?_)
              have w68 : r67 = J_X3_has v36 v65 := hw66
              clear hw66
              have zr67 := has_b w68
              have hJ88 : ∀ (g85 : Nat → Int32) (H : Heap) (locs : List Loc) (ls : Array Slot), (SUok g85) → va_P D vwCl [(qh 0, .inr (2, [.int (sh 0 0), .int (sh 0 1), .ref (qh 1), .ref (qh 2), .ref (qh 3), .ref (qh 4), .int (sh 0 6), .int (sh 0 7), .int (sh 0 8), .int (sh 0 9), .int (sh 0 10), .int (sh 0 11), .int (sh 0 12), .ref (qh 5)])), (qh 1, .inl (k 0, 5, .inl (sh 1))), (qh 2, .inl (k 0, 5, .inl (sh 2))), (qh 3, .inl (k 0, 3, .inl (sh 3))), (qh 4, .inl (k 0, 3, .inl (sh 4))), (qh 5, .inl (k 0, 525, .inl g85))] H → va_D A [(qh 0, .inr (2, [.int (sh 0 0), .int (sh 0 1), .ref (qh 1), .ref (qh 2), .ref (qh 3), .ref (qh 4), .int (sh 0 6), .int (sh 0 7), .int (sh 0 8), .int (sh 0 9), .int (sh 0 10), .int (sh 0 11), .int (sh 0 12), .ref (qh 5)])), (qh 1, .inl (k 0, 5, .inl (sh 1))), (qh 2, .inl (k 0, 5, .inl (sh 2))), (qh 3, .inl (k 0, 3, .inl (sh 3))), (qh 4, .inl (k 0, 3, .inl (sh 4))), (qh 5, .inl (k 0, 525, .inl g85))] → va_S A s.heap H locs → lv_has ls 8 [(5, .int v59), (4, .int 35), (3, .ref (b 0)), (2, .int v36), (1, .int v31), (0, .ref (qh 0))] → W p l e ({ frames := 3, cells := 0, slots := 0, locals := 69 } : Room) s m ([.ref (qh 0)] : List Value).toArray below meth c H locs 0 0 Q (F0 m 88 ls []) := by
                intro g85 H locs ls su hP hD hS hl
                obtain ⟨v86, e86⟩ : ∃ z : Int32, z = v59 + 1 := ⟨_, rfl⟩
                refine lv_iinc (v := v86) (lv' := [(5, .int v86), (4, .int 35), (3, .ref (b 0)), (2, .int v36), (1, .int v31), (0, .ref (qh 0))]) hx hb dX4_settle_88 hl (k := 0) rfl (by rw [e86]; rfl) (by decide) rfl (fun ls hl => ?_)
                have t86 : v86.toInt = v59.toInt + 1 := by rw [e86]; exact i_add rfl (by decide) (by omega) (by omega)
                refine lv_goto (tgt := 33) hx hb dX4_settle_91 (by decide) ?_
                exact ih33 v86 g85 _ _ _ (by omega) (by first | decide | omega) (by assumption) hP hD hS (lv_sub hl [0, 1, 2, 3, 4, 5] rfl)
              refine lv_if_eq (tgt := 88) hx hb dX4_settle_52 (by decide) (fun c87 => ?_) (fun c87 => ?_)
              · have f87 : r67.toInt = 0 := f_eq rfl (by decide) c87
                exact hJ88 g60 _ _ _ (by assumption) hP hD hS (lv_sub hl [1, 2, 3, 4, 5, 6] rfl)
              · have f87 : ¬ r67.toInt = 0 := f_ne rfl (by decide) c87
                have k87 : hasI v36 v65 := has_t w68 c87 (by omega) (by omega)
                refine lv_iload_n hx hb dX4_settle_55 rfl (lv_at hl 4 rfl) ?_
                refine lv_iload hx hb dX4_settle_56 (lv_at hl 0 rfl) ?_
                refine g_ir (g_runS (wc := []) (rest := []) cx hP hD hS [] rfl (by decide) [.int v36, .int v65] (c_X3_behindSunday l D k b H.size v36 v65) gX4_settle_X3_behindSunday rfl rfl rfl nd_X3_behindSunday ⟨Nat.le_of_ble_eq_true rfl, Nat.le_of_ble_eq_true rfl⟩ rfl hl.1 rfl (Nat.le_of_ble_eq_true rfl) ⟨Nat.zero_le _, Nat.zero_le _⟩ dX4_settle_58) cx.2.2.1 hP hD hS [] rfl rfl (fun r89 H locs hw88 hP hS => ?_)
                have w90 : r89 = J_X3_behindSunday v36 v65 := hw88
                clear hw88
                have bs := bs_t w90 ⟨by omega, by omega, by omega⟩ (by omega) (by assumption)
                refine g_ir (g_runS (wc := []) (rest := []) cx hP hD hS [] rfl (by decide) [.int r89] (c_X3_kind l D k b H.size r89 ⟨by first | decide | omega, by first | decide | omega, (show tot r89 ≤ 4 from by first | decide | omega)⟩) gX4_settle_X3_kind rfl rfl rfl nd_X3_kind ⟨Nat.le_of_ble_eq_true rfl, Nat.le_of_ble_eq_true rfl⟩ rfl hl.1 rfl (Nat.le_of_ble_eq_true rfl) ⟨Nat.zero_le _, Nat.zero_le _⟩ dX4_settle_61) cx.2.2.1 hP hD hS [] rfl rfl (fun r92 H locs hw91 hP hS => ?_)
                have w93 : r92 = J_X3_kind r89 := hw91
                clear hw91
                have zr92 := kind_t w93 ⟨by first | decide | omega, by first | decide | omega, (show tot r89 ≤ 4 from by first | decide | omega)⟩
                have bk : totN r92.toNatClampNeg = tot r89 := kind_all w93 ⟨by first | decide | omega, by first | decide | omega, (show tot r89 ≤ 4 from by first | decide | omega)⟩
                have bl : r92.toInt ≤ 14 := by omega
                refine lv_istore (lv' := [(7, .int r92), (6, .int v65), (5, .int v59), (4, .int 35), (3, .ref (b 0)), (2, .int v36), (1, .int v31), (0, .ref (qh 0))]) hx hb dX4_settle_64 hl (by decide) rfl (fun ls hl => ?_)
                refine lv_aload_n hx hb dX4_settle_66 rfl (lv_at hl 7 rfl) ?_
                refine g_get cx hP iw_X4_settle_X4 0 rfl rfl 13 (by decide) rfl fw_X4_settle_26 rfl dX4_settle_67 ?_
                refine lv_iload_n hx hb dX4_settle_70 rfl (lv_at hl 6 rfl) ?_
                refine lv_bipush (v := 15) hx hb dX4_settle_71 (by decide) ?_
                refine lv_imul hx hb dX4_settle_73 (lv_topi (fun v94 e94 => ?_))
                have t94 : v94.toInt = v31.toInt * 15 := by rw [e94]; exact i_mul rfl (by decide) (by omega) (by omega)
                refine lv_iload hx hb dX4_settle_74 (lv_at hl 0 rfl) ?_
                refine lv_iadd hx hb dX4_settle_76 (lv_topi (fun v95 e95 => ?_))
                have t95 : v95.toInt = v94.toInt + r92.toInt := by rw [e95]; exact i_add rfl rfl (by omega) (by omega)
                refine lv_dup2_11 hx hb dX4_settle_77 rfl rfl ?_
                have hn96 : vp_in v95 525 := f_in (a := v95.toInt) rfl (by omega) (by omega)
                refine va_iald hx hb cx.2.1 hP 5 0 rfl rfl hn96 dX4_settle_78 (lv_topi (fun v97 e97 => ?_))
                refine lv_aload_n hx hb dX4_settle_79 rfl (lv_at hl 7 rfl) ?_
                refine lv_iload_n hx hb dX4_settle_80 rfl (lv_at hl 5 rfl) ?_
                refine lv_iload hx hb dX4_settle_81 (lv_at hl 1 rfl) ?_
                refine g_iF (w1 := fun (_ : Unit) => [(qh 0, .inr (2, [.int (sh 0 0), .int (sh 0 1), .ref (qh 1), .ref (qh 2), .ref (qh 3), .ref (qh 4), .int (sh 0 6), .int (sh 0 7), .int (sh 0 8), .int (sh 0 9), .int (sh 0 10), .int (sh 0 11), .int (sh 0 12), .ref (qh 5)])), (qh 1, .inl (k 0, 5, .inl (sh 1))), (qh 2, .inl (k 0, 5, .inl (sh 2))), (qh 3, .inl (k 0, 3, .inl (sh 3))), (qh 4, .inl (k 0, 3, .inl (sh 4))), (qh 5, .inl (k 0, 525, .inl g60))]) (g_runVF (ws := [(qh 0, .inr (2, [.int (sh 0 0), .int (sh 0 1), .ref (qh 1), .ref (qh 2), .ref (qh 3), .ref (qh 4), .int (sh 0 6), .int (sh 0 7), .int (sh 0 8), .int (sh 0 9), .int (sh 0 10), .int (sh 0 11), .int (sh 0 12), .ref (qh 5)])), (qh 1, .inl (k 0, 5, .inl (sh 1))), (qh 2, .inl (k 0, 5, .inl (sh 2))), (qh 3, .inl (k 0, 3, .inl (sh 3))), (qh 4, .inl (k 0, 3, .inl (sh 4))), (qh 5, .inl (k 0, 525, .inl g60))]) (rest := [.int v97, .int v95, .ref (qh 5)]) cx hP hD hS [.int v36, .int v65] (c_X4_leaving l D k b qh (up2 sh 5 g60) H.size v36 v65 (show 0 ≤ (sh 0 12).toInt ∧ (sh 0 12).toInt ≤ 5 from by first | decide | omega) h_go (show 0 ≤ v36.toInt ∧ v36.toInt ≤ 400 ∧ tot v36 ≤ 4 from by first | decide | omega) (show 0 ≤ v65.toInt ∧ v65.toInt ≤ 444 from by first | decide | omega)) gX4_settle_X4_leaving rfl rfl rfl nd_X4_leaving ⟨Nat.le_of_ble_eq_true rfl, Nat.le_of_ble_eq_true rfl⟩ (ci := 2) (q0 := 0) rfl rfl rfl hl.1 rfl (Nat.le_of_ble_eq_true rfl) ⟨Nat.zero_le _, Nat.zero_le _⟩ dX4_settle_83) cx.2.2.1 hD hS (fun r99 _ H locs hw98 hP hD hS => ?_)
                have w100 : r99.toInt = 0 ∨ (hasI v36 v65) := hw98
                clear hw98
                refine lv_iadd hx hb dX4_settle_86 (lv_topi (fun v101 e101 => ?_))
                have hn102 : vp_in v95 525 := f_in (a := v95.toInt) rfl (by omega) (by omega)
                refine va_iast hx hb cx.2.1 hP hD hS 5 0 rfl rfl hn102 dX4_settle_87 (fun H locs hP hD hS => ?_)
                obtain ⟨g103, eg103⟩ : ∃ g : Nat → Int32, g = upd g60 (v95).toNatClampNeg v101 := ⟨_, rfl⟩
                rw [← eg103] at hP hD
                have hP : va_P D vwCl [(qh 0, .inr (2, [.int (sh 0 0), .int (sh 0 1), .ref (qh 1), .ref (qh 2), .ref (qh 3), .ref (qh 4), .int (sh 0 6), .int (sh 0 7), .int (sh 0 8), .int (sh 0 9), .int (sh 0 10), .int (sh 0 11), .int (sh 0 12), .ref (qh 5)])), (qh 1, .inl (k 0, 5, .inl (sh 1))), (qh 2, .inl (k 0, 5, .inl (sh 2))), (qh 3, .inl (k 0, 3, .inl (sh 3))), (qh 4, .inl (k 0, 3, .inl (sh 4))), (qh 5, .inl (k 0, 525, .inl g103))] H := hP
                have hD : va_D A [(qh 0, .inr (2, [.int (sh 0 0), .int (sh 0 1), .ref (qh 1), .ref (qh 2), .ref (qh 3), .ref (qh 4), .int (sh 0 6), .int (sh 0 7), .int (sh 0 8), .int (sh 0 9), .int (sh 0 10), .int (sh 0 11), .int (sh 0 12), .ref (qh 5)])), (qh 1, .inl (k 0, 5, .inl (sh 1))), (qh 2, .inl (k 0, 5, .inl (sh 2))), (qh 3, .inl (k 0, 3, .inl (sh 3))), (qh 4, .inl (k 0, 3, .inl (sh 4))), (qh 5, .inl (k 0, 525, .inl g103))] := hD
                have sug103 := SU_st (k := v31) (b := r92) eg103 su (by omega) ⟨by omega, by omega⟩ ⟨by omega, by omega⟩ (by omega)
                exact hJ88 g103 _ _ _ (by assumption) hP hD hS (lv_sub hl [2, 3, 4, 5, 6, 7] rfl)
        have hlit104 : (0 : Int32).toInt = 0 := by decide
        exact hL33 (Int.toNat (35 - 0) + 1) 0 g32 _ _ _ (by omega) (by first | decide | omega) su hP hD hS (lv_sub hl [0, 1, 2, 3, 4, 5] rfl)
  have hlit105 : (0 : Int32).toInt = 0 := by decide
  exact hL10 (Int.toNat (35 - 0) + 1) 0 m4 _ _ _ (by omega) (by first | decide | omega) su hP hD hS (lv_sub hl [0, 1] rfl)
