theorem fw_X12_readRule_103 : Cond.fieldLink RX12 103 "StillInAugustModel" "length" "I" ∈ wsX12_readRule := by decide +kernel
theorem fw_X12_readRule_108 : Cond.fieldLink RX12 108 "StillInAugustModel" "faultAt" "I" ∈ wsX12_readRule := by decide +kernel
theorem fw_X12_readRule_111 : Cond.fieldLink RX12 111 "StillInAugustModel" "at" "I" ∈ wsX12_readRule := by decide +kernel
theorem fw_X12_readRule_130 : Cond.fieldLink RX12 130 "StillInAugustModel" "exceptions" "I" ∈ wsX12_readRule := by decide +kernel
theorem fw_X12_readRule_16 : Cond.fieldLink RX12 16 "StillInAugustModel" "text" "[I" ∈ wsX12_readRule := by decide +kernel
theorem fw_X12_readRule_22 : Cond.fieldLink RX12 22 "StillInAugustModel" "readLevels" "[I" ∈ wsX12_readRule := by decide +kernel
theorem iw_X12_readRule_X12 : ∀ w ∈ u_ws RX12 TX12 33, w ∈ wsX12_readRule := fun _ h => List.mem_cons_of_mem _ (List.mem_append_right _ h)
set_option maxHeartbeats 4000000 in
set_option maxRecDepth 100000 in
theorem c_X12_readRule (l : Launch) (D : va_G) (k : Nat → ClassId) (b : Nat → Nat) (qm : Nat → Nat) (sm : Nat → Nat → Int32) (tm : Nat → Nat → Int64) (sz : Nat) (h_len : 0 ≤ (sm 0 3).toInt ∧ (sm 0 3).toInt ≤ 64) : MetI l D k b yX12_readRule wsX12_readRule ({ frames := 2, cells := 0, slots := 0, locals := 47 } : Room) [(qm 0, .inr (10, [.ref (qm 1), .ref (qm 2), .ref (qm 3), .int (sm 0 3), .int (sm 0 4), .int (sm 0 5), .int (sm 0 6), .int (sm 0 7), .int (sm 0 8), .int (sm 0 9), .int (sm 0 10), .ref (qm 4), .ref (qm 5), .int (sm 0 13), .ref (qm 6), .ref (qm 7), .ref (qm 8), .ref (qm 9), .ref (qm 10), .ref (qm 11), .ref (qm 12), .ref (qm 13), .int (sm 0 22), .int (sm 0 23), .ref (qm 14), .ref (qm 15), .int (sm 0 26), .ref (qm 16), .ref (qm 17), .long (tm 0 29), .long (tm 0 30), .long (tm 0 31), .int (sm 0 32)])), (qm 1, .inl (k 0, 26, .inl (sm 1))), (qm 2, .inl (k 0, 26, .inl (sm 2))), (qm 3, .inl (k 0, 64, .inl (sm 3))), (qm 4, .inl (k 0, 15, .inl (sm 4))), (qm 5, .inl (k 0, 5, .inl (sm 5))), (qm 6, .inl (k 1, 1000, .inr (.inl (tm 6)))), (qm 7, .inl (k 1, 1000, .inr (.inl (tm 7)))), (qm 8, .inl (k 1, 50, .inr (.inl (tm 8)))), (qm 9, .inl (k 1, 50, .inr (.inl (tm 9)))), (qm 10, .inl (k 1, 1500, .inr (.inl (tm 10)))), (qm 11, .inl (k 1, 1500, .inr (.inl (tm 11)))), (qm 12, .inl (k 0, 1500, .inl (sm 12))), (qm 13, .inl (k 0, 5, .inl (sm 13))), (qm 14, .inl (k 3, 2, .inl (sm 14))), (qm 15, .inl (k 0, 14, .inl (sm 15))), (qm 16, .inl (k 0, 5, .inl (sm 16))), (qm 17, .inl (k 0, 5, .inl (sm 17)))] sz [.ref (qm 0)] (fun (r : Int32) (u : Int32 × Int32 × Int32 × (Nat → Int32)) => 0 ≤ (u.1).toInt ∧ (u.1).toInt ≤ 64) (fun u => [(qm 0, .inr (10, [.ref (qm 1), .ref (qm 2), .ref (qm 3), .int (sm 0 3), .int (u.1), .int (u.2.1), .int (sm 0 6), .int (sm 0 7), .int (sm 0 8), .int (sm 0 9), .int (sm 0 10), .ref (qm 4), .ref (qm 5), .int (u.2.2.1), .ref (qm 6), .ref (qm 7), .ref (qm 8), .ref (qm 9), .ref (qm 10), .ref (qm 11), .ref (qm 12), .ref (qm 13), .int (sm 0 22), .int (sm 0 23), .ref (qm 14), .ref (qm 15), .int (sm 0 26), .ref (qm 16), .ref (qm 17), .long (tm 0 29), .long (tm 0 30), .long (tm 0 31), .int (sm 0 32)])), (qm 1, .inl (k 0, 26, .inl (sm 1))), (qm 2, .inl (k 0, 26, .inl (sm 2))), (qm 3, .inl (k 0, 64, .inl (sm 3))), (qm 4, .inl (k 0, 15, .inl (sm 4))), (qm 5, .inl (k 0, 5, .inl (u.2.2.2))), (qm 6, .inl (k 1, 1000, .inr (.inl (tm 6)))), (qm 7, .inl (k 1, 1000, .inr (.inl (tm 7)))), (qm 8, .inl (k 1, 50, .inr (.inl (tm 8)))), (qm 9, .inl (k 1, 50, .inr (.inl (tm 9)))), (qm 10, .inl (k 1, 1500, .inr (.inl (tm 10)))), (qm 11, .inl (k 1, 1500, .inr (.inl (tm 11)))), (qm 12, .inl (k 0, 1500, .inl (sm 12))), (qm 13, .inl (k 0, 5, .inl (sm 13))), (qm 14, .inl (k 3, 2, .inl (sm 14))), (qm 15, .inl (k 0, 14, .inl (sm 15))), (qm 16, .inl (k 0, 5, .inl (sm 16))), (qm 17, .inl (k 0, 5, .inl (sm 17)))]) := by
  refine g_enter (cc := cX12_readRule) (maxL := 4) (ret := (some .int)) (by decide) rfl (Nat.le_of_ble_eq_true rfl) ?_
  intro p e s m below meth c A hsz hAe cx hr hP hD hS ls hl
  rw [hAe]
  refine g_q (fun Q hQ => ?_)
  have hx := cx.1.1
  have hb := cx.1.2.1
  have hl : lv_has ls 4 [(0, .ref (qm 0))] := hl
  obtain ⟨H, eH⟩ : ∃ H : Heap, H = s.heap := ⟨_, rfl⟩
  obtain ⟨locs, el⟩ : ∃ L : List Loc, L = [] := ⟨_, rfl⟩
  have hP : va_P D vwCl [(qm 0, .inr (10, [.ref (qm 1), .ref (qm 2), .ref (qm 3), .int (sm 0 3), .int (sm 0 4), .int (sm 0 5), .int (sm 0 6), .int (sm 0 7), .int (sm 0 8), .int (sm 0 9), .int (sm 0 10), .ref (qm 4), .ref (qm 5), .int (sm 0 13), .ref (qm 6), .ref (qm 7), .ref (qm 8), .ref (qm 9), .ref (qm 10), .ref (qm 11), .ref (qm 12), .ref (qm 13), .int (sm 0 22), .int (sm 0 23), .ref (qm 14), .ref (qm 15), .int (sm 0 26), .ref (qm 16), .ref (qm 17), .long (tm 0 29), .long (tm 0 30), .long (tm 0 31), .int (sm 0 32)])), (qm 1, .inl (k 0, 26, .inl (sm 1))), (qm 2, .inl (k 0, 26, .inl (sm 2))), (qm 3, .inl (k 0, 64, .inl (sm 3))), (qm 4, .inl (k 0, 15, .inl (sm 4))), (qm 5, .inl (k 0, 5, .inl (sm 5))), (qm 6, .inl (k 1, 1000, .inr (.inl (tm 6)))), (qm 7, .inl (k 1, 1000, .inr (.inl (tm 7)))), (qm 8, .inl (k 1, 50, .inr (.inl (tm 8)))), (qm 9, .inl (k 1, 50, .inr (.inl (tm 9)))), (qm 10, .inl (k 1, 1500, .inr (.inl (tm 10)))), (qm 11, .inl (k 1, 1500, .inr (.inl (tm 11)))), (qm 12, .inl (k 0, 1500, .inl (sm 12))), (qm 13, .inl (k 0, 5, .inl (sm 13))), (qm 14, .inl (k 3, 2, .inl (sm 14))), (qm 15, .inl (k 0, 14, .inl (sm 15))), (qm 16, .inl (k 0, 5, .inl (sm 16))), (qm 17, .inl (k 0, 5, .inl (sm 17)))] H := by rw [eH]; exact hP
  have hD : va_D A [(qm 0, .inr (10, [.ref (qm 1), .ref (qm 2), .ref (qm 3), .int (sm 0 3), .int (sm 0 4), .int (sm 0 5), .int (sm 0 6), .int (sm 0 7), .int (sm 0 8), .int (sm 0 9), .int (sm 0 10), .ref (qm 4), .ref (qm 5), .int (sm 0 13), .ref (qm 6), .ref (qm 7), .ref (qm 8), .ref (qm 9), .ref (qm 10), .ref (qm 11), .ref (qm 12), .ref (qm 13), .int (sm 0 22), .int (sm 0 23), .ref (qm 14), .ref (qm 15), .int (sm 0 26), .ref (qm 16), .ref (qm 17), .long (tm 0 29), .long (tm 0 30), .long (tm 0 31), .int (sm 0 32)])), (qm 1, .inl (k 0, 26, .inl (sm 1))), (qm 2, .inl (k 0, 26, .inl (sm 2))), (qm 3, .inl (k 0, 64, .inl (sm 3))), (qm 4, .inl (k 0, 15, .inl (sm 4))), (qm 5, .inl (k 0, 5, .inl (sm 5))), (qm 6, .inl (k 1, 1000, .inr (.inl (tm 6)))), (qm 7, .inl (k 1, 1000, .inr (.inl (tm 7)))), (qm 8, .inl (k 1, 50, .inr (.inl (tm 8)))), (qm 9, .inl (k 1, 50, .inr (.inl (tm 9)))), (qm 10, .inl (k 1, 1500, .inr (.inl (tm 10)))), (qm 11, .inl (k 1, 1500, .inr (.inl (tm 11)))), (qm 12, .inl (k 0, 1500, .inl (sm 12))), (qm 13, .inl (k 0, 5, .inl (sm 13))), (qm 14, .inl (k 3, 2, .inl (sm 14))), (qm 15, .inl (k 0, 14, .inl (sm 15))), (qm 16, .inl (k 0, 5, .inl (sm 16))), (qm 17, .inl (k 0, 5, .inl (sm 17)))] := hD
  have hS : va_S A s.heap H locs := by rw [eH, el]; exact hS
  suffices goal : W p l e ({ frames := 2, cells := 0, slots := 0, locals := 47 } : Room) s m ([.ref (qm 0)] : List Value).toArray below meth c H locs 0 0 Q (F0 m 0 ls []) by rw [eH, el] at goal; exact goal
  refine lv_aload_n hx hb dX12_readRule_0 rfl (lv_at hl 0 rfl) ?_
  refine lv_iconst (v := 0) hx hb dX12_readRule_1 (by decide) ?_
  refine g_pt cx hP hD hS iw_X12_readRule_X12 tyX12 tyX12_ok nmX12 0 rfl rfl 4 (by decide) rfl fw_X12_readRule_111 (ty := .int) rfl rfl rfl (Nat.le_of_ble_eq_true rfl) dX12_readRule_2 (fun H locs hP hD hS => ?_)
  have hP : va_P D vwCl [(qm 0, .inr (10, [.ref (qm 1), .ref (qm 2), .ref (qm 3), .int (sm 0 3), .int 0, .int (sm 0 5), .int (sm 0 6), .int (sm 0 7), .int (sm 0 8), .int (sm 0 9), .int (sm 0 10), .ref (qm 4), .ref (qm 5), .int (sm 0 13), .ref (qm 6), .ref (qm 7), .ref (qm 8), .ref (qm 9), .ref (qm 10), .ref (qm 11), .ref (qm 12), .ref (qm 13), .int (sm 0 22), .int (sm 0 23), .ref (qm 14), .ref (qm 15), .int (sm 0 26), .ref (qm 16), .ref (qm 17), .long (tm 0 29), .long (tm 0 30), .long (tm 0 31), .int (sm 0 32)])), (qm 1, .inl (k 0, 26, .inl (sm 1))), (qm 2, .inl (k 0, 26, .inl (sm 2))), (qm 3, .inl (k 0, 64, .inl (sm 3))), (qm 4, .inl (k 0, 15, .inl (sm 4))), (qm 5, .inl (k 0, 5, .inl (sm 5))), (qm 6, .inl (k 1, 1000, .inr (.inl (tm 6)))), (qm 7, .inl (k 1, 1000, .inr (.inl (tm 7)))), (qm 8, .inl (k 1, 50, .inr (.inl (tm 8)))), (qm 9, .inl (k 1, 50, .inr (.inl (tm 9)))), (qm 10, .inl (k 1, 1500, .inr (.inl (tm 10)))), (qm 11, .inl (k 1, 1500, .inr (.inl (tm 11)))), (qm 12, .inl (k 0, 1500, .inl (sm 12))), (qm 13, .inl (k 0, 5, .inl (sm 13))), (qm 14, .inl (k 3, 2, .inl (sm 14))), (qm 15, .inl (k 0, 14, .inl (sm 15))), (qm 16, .inl (k 0, 5, .inl (sm 16))), (qm 17, .inl (k 0, 5, .inl (sm 17)))] H := hP
  have hD : va_D A [(qm 0, .inr (10, [.ref (qm 1), .ref (qm 2), .ref (qm 3), .int (sm 0 3), .int 0, .int (sm 0 5), .int (sm 0 6), .int (sm 0 7), .int (sm 0 8), .int (sm 0 9), .int (sm 0 10), .ref (qm 4), .ref (qm 5), .int (sm 0 13), .ref (qm 6), .ref (qm 7), .ref (qm 8), .ref (qm 9), .ref (qm 10), .ref (qm 11), .ref (qm 12), .ref (qm 13), .int (sm 0 22), .int (sm 0 23), .ref (qm 14), .ref (qm 15), .int (sm 0 26), .ref (qm 16), .ref (qm 17), .long (tm 0 29), .long (tm 0 30), .long (tm 0 31), .int (sm 0 32)])), (qm 1, .inl (k 0, 26, .inl (sm 1))), (qm 2, .inl (k 0, 26, .inl (sm 2))), (qm 3, .inl (k 0, 64, .inl (sm 3))), (qm 4, .inl (k 0, 15, .inl (sm 4))), (qm 5, .inl (k 0, 5, .inl (sm 5))), (qm 6, .inl (k 1, 1000, .inr (.inl (tm 6)))), (qm 7, .inl (k 1, 1000, .inr (.inl (tm 7)))), (qm 8, .inl (k 1, 50, .inr (.inl (tm 8)))), (qm 9, .inl (k 1, 50, .inr (.inl (tm 9)))), (qm 10, .inl (k 1, 1500, .inr (.inl (tm 10)))), (qm 11, .inl (k 1, 1500, .inr (.inl (tm 11)))), (qm 12, .inl (k 0, 1500, .inl (sm 12))), (qm 13, .inl (k 0, 5, .inl (sm 13))), (qm 14, .inl (k 3, 2, .inl (sm 14))), (qm 15, .inl (k 0, 14, .inl (sm 15))), (qm 16, .inl (k 0, 5, .inl (sm 16))), (qm 17, .inl (k 0, 5, .inl (sm 17)))] := hD
  have hlit1 : (0 : Int32).toInt = 0 := by decide
  refine lv_aload_n hx hb dX12_readRule_5 rfl (lv_at hl 0 rfl) ?_
  refine lv_bipush (v := (-9)) hx hb dX12_readRule_6 (by decide) ?_
  refine g_pt cx hP hD hS iw_X12_readRule_X12 tyX12 tyX12_ok nmX12 0 rfl rfl 5 (by decide) rfl fw_X12_readRule_108 (ty := .int) rfl rfl rfl (Nat.le_of_ble_eq_true rfl) dX12_readRule_8 (fun H locs hP hD hS => ?_)
  have hP : va_P D vwCl [(qm 0, .inr (10, [.ref (qm 1), .ref (qm 2), .ref (qm 3), .int (sm 0 3), .int 0, .int (-9), .int (sm 0 6), .int (sm 0 7), .int (sm 0 8), .int (sm 0 9), .int (sm 0 10), .ref (qm 4), .ref (qm 5), .int (sm 0 13), .ref (qm 6), .ref (qm 7), .ref (qm 8), .ref (qm 9), .ref (qm 10), .ref (qm 11), .ref (qm 12), .ref (qm 13), .int (sm 0 22), .int (sm 0 23), .ref (qm 14), .ref (qm 15), .int (sm 0 26), .ref (qm 16), .ref (qm 17), .long (tm 0 29), .long (tm 0 30), .long (tm 0 31), .int (sm 0 32)])), (qm 1, .inl (k 0, 26, .inl (sm 1))), (qm 2, .inl (k 0, 26, .inl (sm 2))), (qm 3, .inl (k 0, 64, .inl (sm 3))), (qm 4, .inl (k 0, 15, .inl (sm 4))), (qm 5, .inl (k 0, 5, .inl (sm 5))), (qm 6, .inl (k 1, 1000, .inr (.inl (tm 6)))), (qm 7, .inl (k 1, 1000, .inr (.inl (tm 7)))), (qm 8, .inl (k 1, 50, .inr (.inl (tm 8)))), (qm 9, .inl (k 1, 50, .inr (.inl (tm 9)))), (qm 10, .inl (k 1, 1500, .inr (.inl (tm 10)))), (qm 11, .inl (k 1, 1500, .inr (.inl (tm 11)))), (qm 12, .inl (k 0, 1500, .inl (sm 12))), (qm 13, .inl (k 0, 5, .inl (sm 13))), (qm 14, .inl (k 3, 2, .inl (sm 14))), (qm 15, .inl (k 0, 14, .inl (sm 15))), (qm 16, .inl (k 0, 5, .inl (sm 16))), (qm 17, .inl (k 0, 5, .inl (sm 17)))] H := hP
  have hD : va_D A [(qm 0, .inr (10, [.ref (qm 1), .ref (qm 2), .ref (qm 3), .int (sm 0 3), .int 0, .int (-9), .int (sm 0 6), .int (sm 0 7), .int (sm 0 8), .int (sm 0 9), .int (sm 0 10), .ref (qm 4), .ref (qm 5), .int (sm 0 13), .ref (qm 6), .ref (qm 7), .ref (qm 8), .ref (qm 9), .ref (qm 10), .ref (qm 11), .ref (qm 12), .ref (qm 13), .int (sm 0 22), .int (sm 0 23), .ref (qm 14), .ref (qm 15), .int (sm 0 26), .ref (qm 16), .ref (qm 17), .long (tm 0 29), .long (tm 0 30), .long (tm 0 31), .int (sm 0 32)])), (qm 1, .inl (k 0, 26, .inl (sm 1))), (qm 2, .inl (k 0, 26, .inl (sm 2))), (qm 3, .inl (k 0, 64, .inl (sm 3))), (qm 4, .inl (k 0, 15, .inl (sm 4))), (qm 5, .inl (k 0, 5, .inl (sm 5))), (qm 6, .inl (k 1, 1000, .inr (.inl (tm 6)))), (qm 7, .inl (k 1, 1000, .inr (.inl (tm 7)))), (qm 8, .inl (k 1, 50, .inr (.inl (tm 8)))), (qm 9, .inl (k 1, 50, .inr (.inl (tm 9)))), (qm 10, .inl (k 1, 1500, .inr (.inl (tm 10)))), (qm 11, .inl (k 1, 1500, .inr (.inl (tm 11)))), (qm 12, .inl (k 0, 1500, .inl (sm 12))), (qm 13, .inl (k 0, 5, .inl (sm 13))), (qm 14, .inl (k 3, 2, .inl (sm 14))), (qm 15, .inl (k 0, 14, .inl (sm 15))), (qm 16, .inl (k 0, 5, .inl (sm 16))), (qm 17, .inl (k 0, 5, .inl (sm 17)))] := hD
  have hlit2 : ((-9) : Int32).toInt = -9 := by decide
  refine lv_aload_n hx hb dX12_readRule_11 rfl (lv_at hl 0 rfl) ?_
  refine lv_iconst (v := 0) hx hb dX12_readRule_12 (by decide) ?_
  refine g_pt cx hP hD hS iw_X12_readRule_X12 tyX12 tyX12_ok nmX12 0 rfl rfl 13 (by decide) rfl fw_X12_readRule_130 (ty := .int) rfl rfl rfl (Nat.le_of_ble_eq_true rfl) dX12_readRule_13 (fun H locs hP hD hS => ?_)
  have hP : va_P D vwCl [(qm 0, .inr (10, [.ref (qm 1), .ref (qm 2), .ref (qm 3), .int (sm 0 3), .int 0, .int (-9), .int (sm 0 6), .int (sm 0 7), .int (sm 0 8), .int (sm 0 9), .int (sm 0 10), .ref (qm 4), .ref (qm 5), .int 0, .ref (qm 6), .ref (qm 7), .ref (qm 8), .ref (qm 9), .ref (qm 10), .ref (qm 11), .ref (qm 12), .ref (qm 13), .int (sm 0 22), .int (sm 0 23), .ref (qm 14), .ref (qm 15), .int (sm 0 26), .ref (qm 16), .ref (qm 17), .long (tm 0 29), .long (tm 0 30), .long (tm 0 31), .int (sm 0 32)])), (qm 1, .inl (k 0, 26, .inl (sm 1))), (qm 2, .inl (k 0, 26, .inl (sm 2))), (qm 3, .inl (k 0, 64, .inl (sm 3))), (qm 4, .inl (k 0, 15, .inl (sm 4))), (qm 5, .inl (k 0, 5, .inl (sm 5))), (qm 6, .inl (k 1, 1000, .inr (.inl (tm 6)))), (qm 7, .inl (k 1, 1000, .inr (.inl (tm 7)))), (qm 8, .inl (k 1, 50, .inr (.inl (tm 8)))), (qm 9, .inl (k 1, 50, .inr (.inl (tm 9)))), (qm 10, .inl (k 1, 1500, .inr (.inl (tm 10)))), (qm 11, .inl (k 1, 1500, .inr (.inl (tm 11)))), (qm 12, .inl (k 0, 1500, .inl (sm 12))), (qm 13, .inl (k 0, 5, .inl (sm 13))), (qm 14, .inl (k 3, 2, .inl (sm 14))), (qm 15, .inl (k 0, 14, .inl (sm 15))), (qm 16, .inl (k 0, 5, .inl (sm 16))), (qm 17, .inl (k 0, 5, .inl (sm 17)))] H := hP
  have hD : va_D A [(qm 0, .inr (10, [.ref (qm 1), .ref (qm 2), .ref (qm 3), .int (sm 0 3), .int 0, .int (-9), .int (sm 0 6), .int (sm 0 7), .int (sm 0 8), .int (sm 0 9), .int (sm 0 10), .ref (qm 4), .ref (qm 5), .int 0, .ref (qm 6), .ref (qm 7), .ref (qm 8), .ref (qm 9), .ref (qm 10), .ref (qm 11), .ref (qm 12), .ref (qm 13), .int (sm 0 22), .int (sm 0 23), .ref (qm 14), .ref (qm 15), .int (sm 0 26), .ref (qm 16), .ref (qm 17), .long (tm 0 29), .long (tm 0 30), .long (tm 0 31), .int (sm 0 32)])), (qm 1, .inl (k 0, 26, .inl (sm 1))), (qm 2, .inl (k 0, 26, .inl (sm 2))), (qm 3, .inl (k 0, 64, .inl (sm 3))), (qm 4, .inl (k 0, 15, .inl (sm 4))), (qm 5, .inl (k 0, 5, .inl (sm 5))), (qm 6, .inl (k 1, 1000, .inr (.inl (tm 6)))), (qm 7, .inl (k 1, 1000, .inr (.inl (tm 7)))), (qm 8, .inl (k 1, 50, .inr (.inl (tm 8)))), (qm 9, .inl (k 1, 50, .inr (.inl (tm 9)))), (qm 10, .inl (k 1, 1500, .inr (.inl (tm 10)))), (qm 11, .inl (k 1, 1500, .inr (.inl (tm 11)))), (qm 12, .inl (k 0, 1500, .inl (sm 12))), (qm 13, .inl (k 0, 5, .inl (sm 13))), (qm 14, .inl (k 3, 2, .inl (sm 14))), (qm 15, .inl (k 0, 14, .inl (sm 15))), (qm 16, .inl (k 0, 5, .inl (sm 16))), (qm 17, .inl (k 0, 5, .inl (sm 17)))] := hD
  have hlit3 : (0 : Int32).toInt = 0 := by decide
  refine lv_bipush (v := 31) hx hb dX12_readRule_16 (by decide) ?_
  refine lv_istore_n (lv' := [(1, .int 31), (0, .ref (qm 0))]) hx hb dX12_readRule_18 rfl hl (by decide) rfl (fun ls hl => ?_)
  have hL19 : ∀ (n39 : Nat) (v34 : Int32) (x35 : Int32) (x36 : Int32) (x37 : Int32) (g38 : Nat → Int32) (H : Heap) (locs : List Loc) (ls : Array Slot), (1 ≤ (n39 : Int) ∧ (¬ x36.toInt = -9 ∨ 65 - x35.toInt < (n39 : Int))) → (0 ≤ v34.toInt ∧ v34.toInt ≤ 31) → (0 ≤ x35.toInt ∧ x35.toInt ≤ 64) → va_P D vwCl [(qm 0, .inr (10, [.ref (qm 1), .ref (qm 2), .ref (qm 3), .int (sm 0 3), .int x35, .int x36, .int (sm 0 6), .int (sm 0 7), .int (sm 0 8), .int (sm 0 9), .int (sm 0 10), .ref (qm 4), .ref (qm 5), .int x37, .ref (qm 6), .ref (qm 7), .ref (qm 8), .ref (qm 9), .ref (qm 10), .ref (qm 11), .ref (qm 12), .ref (qm 13), .int (sm 0 22), .int (sm 0 23), .ref (qm 14), .ref (qm 15), .int (sm 0 26), .ref (qm 16), .ref (qm 17), .long (tm 0 29), .long (tm 0 30), .long (tm 0 31), .int (sm 0 32)])), (qm 1, .inl (k 0, 26, .inl (sm 1))), (qm 2, .inl (k 0, 26, .inl (sm 2))), (qm 3, .inl (k 0, 64, .inl (sm 3))), (qm 4, .inl (k 0, 15, .inl (sm 4))), (qm 5, .inl (k 0, 5, .inl g38)), (qm 6, .inl (k 1, 1000, .inr (.inl (tm 6)))), (qm 7, .inl (k 1, 1000, .inr (.inl (tm 7)))), (qm 8, .inl (k 1, 50, .inr (.inl (tm 8)))), (qm 9, .inl (k 1, 50, .inr (.inl (tm 9)))), (qm 10, .inl (k 1, 1500, .inr (.inl (tm 10)))), (qm 11, .inl (k 1, 1500, .inr (.inl (tm 11)))), (qm 12, .inl (k 0, 1500, .inl (sm 12))), (qm 13, .inl (k 0, 5, .inl (sm 13))), (qm 14, .inl (k 3, 2, .inl (sm 14))), (qm 15, .inl (k 0, 14, .inl (sm 15))), (qm 16, .inl (k 0, 5, .inl (sm 16))), (qm 17, .inl (k 0, 5, .inl (sm 17)))] H → va_D A [(qm 0, .inr (10, [.ref (qm 1), .ref (qm 2), .ref (qm 3), .int (sm 0 3), .int x35, .int x36, .int (sm 0 6), .int (sm 0 7), .int (sm 0 8), .int (sm 0 9), .int (sm 0 10), .ref (qm 4), .ref (qm 5), .int x37, .ref (qm 6), .ref (qm 7), .ref (qm 8), .ref (qm 9), .ref (qm 10), .ref (qm 11), .ref (qm 12), .ref (qm 13), .int (sm 0 22), .int (sm 0 23), .ref (qm 14), .ref (qm 15), .int (sm 0 26), .ref (qm 16), .ref (qm 17), .long (tm 0 29), .long (tm 0 30), .long (tm 0 31), .int (sm 0 32)])), (qm 1, .inl (k 0, 26, .inl (sm 1))), (qm 2, .inl (k 0, 26, .inl (sm 2))), (qm 3, .inl (k 0, 64, .inl (sm 3))), (qm 4, .inl (k 0, 15, .inl (sm 4))), (qm 5, .inl (k 0, 5, .inl g38)), (qm 6, .inl (k 1, 1000, .inr (.inl (tm 6)))), (qm 7, .inl (k 1, 1000, .inr (.inl (tm 7)))), (qm 8, .inl (k 1, 50, .inr (.inl (tm 8)))), (qm 9, .inl (k 1, 50, .inr (.inl (tm 9)))), (qm 10, .inl (k 1, 1500, .inr (.inl (tm 10)))), (qm 11, .inl (k 1, 1500, .inr (.inl (tm 11)))), (qm 12, .inl (k 0, 1500, .inl (sm 12))), (qm 13, .inl (k 0, 5, .inl (sm 13))), (qm 14, .inl (k 3, 2, .inl (sm 14))), (qm 15, .inl (k 0, 14, .inl (sm 15))), (qm 16, .inl (k 0, 5, .inl (sm 16))), (qm 17, .inl (k 0, 5, .inl (sm 17)))] → va_S A s.heap H locs → lv_has ls 4 [(1, .int v34), (0, .ref (qm 0))] → W p l e ({ frames := 2, cells := 0, slots := 0, locals := 47 } : Room) s m ([.ref (qm 0)] : List Value).toArray below meth c H locs 0 0 Q (F0 m 19 ls []) := by
    intro n39
    induction n39 with
    | zero => intro v34 x35 x36 x37 g38 H locs ls hmn39 bv34 bx35 hP hD hS hl; exact absurd hmn39 (by omega)
    | succ n39 ih19 =>
      intro v34 x35 x36 x37 g38 H locs ls hmn39 bv34 bx35 hP hD hS hl
      refine lv_aload_n hx hb dX12_readRule_19 rfl (lv_at hl 1 rfl) ?_
      refine g_get cx hP iw_X12_readRule_X12 0 rfl rfl 5 (by decide) rfl fw_X12_readRule_108 rfl dX12_readRule_20 ?_
      refine lv_bipush (v := (-9)) hx hb dX12_readRule_23 (by decide) ?_
      have hJ92 : ∀  (H : Heap) (locs : List Loc) (ls : Array Slot), va_P D vwCl [(qm 0, .inr (10, [.ref (qm 1), .ref (qm 2), .ref (qm 3), .int (sm 0 3), .int x35, .int x36, .int (sm 0 6), .int (sm 0 7), .int (sm 0 8), .int (sm 0 9), .int (sm 0 10), .ref (qm 4), .ref (qm 5), .int x37, .ref (qm 6), .ref (qm 7), .ref (qm 8), .ref (qm 9), .ref (qm 10), .ref (qm 11), .ref (qm 12), .ref (qm 13), .int (sm 0 22), .int (sm 0 23), .ref (qm 14), .ref (qm 15), .int (sm 0 26), .ref (qm 16), .ref (qm 17), .long (tm 0 29), .long (tm 0 30), .long (tm 0 31), .int (sm 0 32)])), (qm 1, .inl (k 0, 26, .inl (sm 1))), (qm 2, .inl (k 0, 26, .inl (sm 2))), (qm 3, .inl (k 0, 64, .inl (sm 3))), (qm 4, .inl (k 0, 15, .inl (sm 4))), (qm 5, .inl (k 0, 5, .inl g38)), (qm 6, .inl (k 1, 1000, .inr (.inl (tm 6)))), (qm 7, .inl (k 1, 1000, .inr (.inl (tm 7)))), (qm 8, .inl (k 1, 50, .inr (.inl (tm 8)))), (qm 9, .inl (k 1, 50, .inr (.inl (tm 9)))), (qm 10, .inl (k 1, 1500, .inr (.inl (tm 10)))), (qm 11, .inl (k 1, 1500, .inr (.inl (tm 11)))), (qm 12, .inl (k 0, 1500, .inl (sm 12))), (qm 13, .inl (k 0, 5, .inl (sm 13))), (qm 14, .inl (k 3, 2, .inl (sm 14))), (qm 15, .inl (k 0, 14, .inl (sm 15))), (qm 16, .inl (k 0, 5, .inl (sm 16))), (qm 17, .inl (k 0, 5, .inl (sm 17)))] H → va_D A [(qm 0, .inr (10, [.ref (qm 1), .ref (qm 2), .ref (qm 3), .int (sm 0 3), .int x35, .int x36, .int (sm 0 6), .int (sm 0 7), .int (sm 0 8), .int (sm 0 9), .int (sm 0 10), .ref (qm 4), .ref (qm 5), .int x37, .ref (qm 6), .ref (qm 7), .ref (qm 8), .ref (qm 9), .ref (qm 10), .ref (qm 11), .ref (qm 12), .ref (qm 13), .int (sm 0 22), .int (sm 0 23), .ref (qm 14), .ref (qm 15), .int (sm 0 26), .ref (qm 16), .ref (qm 17), .long (tm 0 29), .long (tm 0 30), .long (tm 0 31), .int (sm 0 32)])), (qm 1, .inl (k 0, 26, .inl (sm 1))), (qm 2, .inl (k 0, 26, .inl (sm 2))), (qm 3, .inl (k 0, 64, .inl (sm 3))), (qm 4, .inl (k 0, 15, .inl (sm 4))), (qm 5, .inl (k 0, 5, .inl g38)), (qm 6, .inl (k 1, 1000, .inr (.inl (tm 6)))), (qm 7, .inl (k 1, 1000, .inr (.inl (tm 7)))), (qm 8, .inl (k 1, 50, .inr (.inl (tm 8)))), (qm 9, .inl (k 1, 50, .inr (.inl (tm 9)))), (qm 10, .inl (k 1, 1500, .inr (.inl (tm 10)))), (qm 11, .inl (k 1, 1500, .inr (.inl (tm 11)))), (qm 12, .inl (k 0, 1500, .inl (sm 12))), (qm 13, .inl (k 0, 5, .inl (sm 13))), (qm 14, .inl (k 3, 2, .inl (sm 14))), (qm 15, .inl (k 0, 14, .inl (sm 15))), (qm 16, .inl (k 0, 5, .inl (sm 16))), (qm 17, .inl (k 0, 5, .inl (sm 17)))] → va_S A s.heap H locs → lv_has ls 4 [(1, .int v34), (0, .ref (qm 0))] → W p l e ({ frames := 2, cells := 0, slots := 0, locals := 47 } : Room) s m ([.ref (qm 0)] : List Value).toArray below meth c H locs 0 0 Q (F0 m 92 ls []) := by
        intro  H locs ls  hP hD hS hl
        refine lv_aload_n hx hb dX12_readRule_92 rfl (lv_at hl 1 rfl) ?_
        refine g_get cx hP iw_X12_readRule_X12 0 rfl rfl 5 (by decide) rfl fw_X12_readRule_108 rfl dX12_readRule_93 ?_
        refine lv_bipush (v := (-9)) hx hb dX12_readRule_96 (by decide) ?_
        have hJ143 : ∀ (x85 : Int32) (x86 : Int32) (H : Heap) (locs : List Loc) (ls : Array Slot), (0 ≤ x85.toInt ∧ x85.toInt ≤ 64) → va_P D vwCl [(qm 0, .inr (10, [.ref (qm 1), .ref (qm 2), .ref (qm 3), .int (sm 0 3), .int x85, .int x86, .int (sm 0 6), .int (sm 0 7), .int (sm 0 8), .int (sm 0 9), .int (sm 0 10), .ref (qm 4), .ref (qm 5), .int x37, .ref (qm 6), .ref (qm 7), .ref (qm 8), .ref (qm 9), .ref (qm 10), .ref (qm 11), .ref (qm 12), .ref (qm 13), .int (sm 0 22), .int (sm 0 23), .ref (qm 14), .ref (qm 15), .int (sm 0 26), .ref (qm 16), .ref (qm 17), .long (tm 0 29), .long (tm 0 30), .long (tm 0 31), .int (sm 0 32)])), (qm 1, .inl (k 0, 26, .inl (sm 1))), (qm 2, .inl (k 0, 26, .inl (sm 2))), (qm 3, .inl (k 0, 64, .inl (sm 3))), (qm 4, .inl (k 0, 15, .inl (sm 4))), (qm 5, .inl (k 0, 5, .inl g38)), (qm 6, .inl (k 1, 1000, .inr (.inl (tm 6)))), (qm 7, .inl (k 1, 1000, .inr (.inl (tm 7)))), (qm 8, .inl (k 1, 50, .inr (.inl (tm 8)))), (qm 9, .inl (k 1, 50, .inr (.inl (tm 9)))), (qm 10, .inl (k 1, 1500, .inr (.inl (tm 10)))), (qm 11, .inl (k 1, 1500, .inr (.inl (tm 11)))), (qm 12, .inl (k 0, 1500, .inl (sm 12))), (qm 13, .inl (k 0, 5, .inl (sm 13))), (qm 14, .inl (k 3, 2, .inl (sm 14))), (qm 15, .inl (k 0, 14, .inl (sm 15))), (qm 16, .inl (k 0, 5, .inl (sm 16))), (qm 17, .inl (k 0, 5, .inl (sm 17)))] H → va_D A [(qm 0, .inr (10, [.ref (qm 1), .ref (qm 2), .ref (qm 3), .int (sm 0 3), .int x85, .int x86, .int (sm 0 6), .int (sm 0 7), .int (sm 0 8), .int (sm 0 9), .int (sm 0 10), .ref (qm 4), .ref (qm 5), .int x37, .ref (qm 6), .ref (qm 7), .ref (qm 8), .ref (qm 9), .ref (qm 10), .ref (qm 11), .ref (qm 12), .ref (qm 13), .int (sm 0 22), .int (sm 0 23), .ref (qm 14), .ref (qm 15), .int (sm 0 26), .ref (qm 16), .ref (qm 17), .long (tm 0 29), .long (tm 0 30), .long (tm 0 31), .int (sm 0 32)])), (qm 1, .inl (k 0, 26, .inl (sm 1))), (qm 2, .inl (k 0, 26, .inl (sm 2))), (qm 3, .inl (k 0, 64, .inl (sm 3))), (qm 4, .inl (k 0, 15, .inl (sm 4))), (qm 5, .inl (k 0, 5, .inl g38)), (qm 6, .inl (k 1, 1000, .inr (.inl (tm 6)))), (qm 7, .inl (k 1, 1000, .inr (.inl (tm 7)))), (qm 8, .inl (k 1, 50, .inr (.inl (tm 8)))), (qm 9, .inl (k 1, 50, .inr (.inl (tm 9)))), (qm 10, .inl (k 1, 1500, .inr (.inl (tm 10)))), (qm 11, .inl (k 1, 1500, .inr (.inl (tm 11)))), (qm 12, .inl (k 0, 1500, .inl (sm 12))), (qm 13, .inl (k 0, 5, .inl (sm 13))), (qm 14, .inl (k 3, 2, .inl (sm 14))), (qm 15, .inl (k 0, 14, .inl (sm 15))), (qm 16, .inl (k 0, 5, .inl (sm 16))), (qm 17, .inl (k 0, 5, .inl (sm 17)))] → va_S A s.heap H locs → lv_has ls 4 [(1, .int v34), (0, .ref (qm 0))] → W p l e ({ frames := 2, cells := 0, slots := 0, locals := 47 } : Room) s m ([.ref (qm 0)] : List Value).toArray below meth c H locs 0 0 Q (F0 m 143 ls []) := by
          intro x85 x86 H locs ls bx85 hP hD hS hl
          refine lv_aload_n hx hb dX12_readRule_143 rfl (lv_at hl 1 rfl) ?_
          refine lv_bipush (v := 31) hx hb dX12_readRule_144 (by decide) ?_
          refine g_iF (w1 := fun (u : Int32 × Int32) => [(qm 0, .inr (10, [.ref (qm 1), .ref (qm 2), .ref (qm 3), .int (sm 0 3), .int (u.1), .int (u.2), .int (sm 0 6), .int (sm 0 7), .int (sm 0 8), .int (sm 0 9), .int (sm 0 10), .ref (qm 4), .ref (qm 5), .int x37, .ref (qm 6), .ref (qm 7), .ref (qm 8), .ref (qm 9), .ref (qm 10), .ref (qm 11), .ref (qm 12), .ref (qm 13), .int (sm 0 22), .int (sm 0 23), .ref (qm 14), .ref (qm 15), .int (sm 0 26), .ref (qm 16), .ref (qm 17), .long (tm 0 29), .long (tm 0 30), .long (tm 0 31), .int (sm 0 32)])), (qm 1, .inl (k 0, 26, .inl (sm 1))), (qm 2, .inl (k 0, 26, .inl (sm 2))), (qm 3, .inl (k 0, 64, .inl (sm 3))), (qm 4, .inl (k 0, 15, .inl (sm 4))), (qm 5, .inl (k 0, 5, .inl g38)), (qm 6, .inl (k 1, 1000, .inr (.inl (tm 6)))), (qm 7, .inl (k 1, 1000, .inr (.inl (tm 7)))), (qm 8, .inl (k 1, 50, .inr (.inl (tm 8)))), (qm 9, .inl (k 1, 50, .inr (.inl (tm 9)))), (qm 10, .inl (k 1, 1500, .inr (.inl (tm 10)))), (qm 11, .inl (k 1, 1500, .inr (.inl (tm 11)))), (qm 12, .inl (k 0, 1500, .inl (sm 12))), (qm 13, .inl (k 0, 5, .inl (sm 13))), (qm 14, .inl (k 3, 2, .inl (sm 14))), (qm 15, .inl (k 0, 14, .inl (sm 15))), (qm 16, .inl (k 0, 5, .inl (sm 16))), (qm 17, .inl (k 0, 5, .inl (sm 17)))]) (g_runVF (ws := [(qm 0, .inr (10, [.ref (qm 1), .ref (qm 2), .ref (qm 3), .int (sm 0 3), .int x85, .int x86, .int (sm 0 6), .int (sm 0 7), .int (sm 0 8), .int (sm 0 9), .int (sm 0 10), .ref (qm 4), .ref (qm 5), .int x37, .ref (qm 6), .ref (qm 7), .ref (qm 8), .ref (qm 9), .ref (qm 10), .ref (qm 11), .ref (qm 12), .ref (qm 13), .int (sm 0 22), .int (sm 0 23), .ref (qm 14), .ref (qm 15), .int (sm 0 26), .ref (qm 16), .ref (qm 17), .long (tm 0 29), .long (tm 0 30), .long (tm 0 31), .int (sm 0 32)])), (qm 1, .inl (k 0, 26, .inl (sm 1))), (qm 2, .inl (k 0, 26, .inl (sm 2))), (qm 3, .inl (k 0, 64, .inl (sm 3))), (qm 4, .inl (k 0, 15, .inl (sm 4))), (qm 5, .inl (k 0, 5, .inl g38)), (qm 6, .inl (k 1, 1000, .inr (.inl (tm 6)))), (qm 7, .inl (k 1, 1000, .inr (.inl (tm 7)))), (qm 8, .inl (k 1, 50, .inr (.inl (tm 8)))), (qm 9, .inl (k 1, 50, .inr (.inl (tm 9)))), (qm 10, .inl (k 1, 1500, .inr (.inl (tm 10)))), (qm 11, .inl (k 1, 1500, .inr (.inl (tm 11)))), (qm 12, .inl (k 0, 1500, .inl (sm 12))), (qm 13, .inl (k 0, 5, .inl (sm 13))), (qm 14, .inl (k 3, 2, .inl (sm 14))), (qm 15, .inl (k 0, 14, .inl (sm 15))), (qm 16, .inl (k 0, 5, .inl (sm 16))), (qm 17, .inl (k 0, 5, .inl (sm 17)))]) (rest := []) cx hP hD hS [.int 31] (c_X12_figure l D k b qm (up2 (up2 sm 0 (upd (upd (upd (sm 0) 4 x85) 5 x86) 13 x37)) 5 g38) tm H.size 31 (show 0 ≤ (sm 0 3).toInt ∧ (sm 0 3).toInt ≤ 64 from by first | decide | omega) (show 0 ≤ x85.toInt ∧ x85.toInt ≤ 64 from by first | decide | omega)) gX12_readRule_X12_figure rfl rfl rfl nd_X12_figure ⟨Nat.le_of_ble_eq_true rfl, Nat.le_of_ble_eq_true rfl⟩ (ci := 10) (q0 := 0) rfl rfl rfl hl.1 rfl (Nat.le_of_ble_eq_true rfl) ⟨Nat.zero_le _, Nat.zero_le _⟩ dX12_readRule_146) cx.2.2.1 hD hS (fun r89 u88 H locs hw87 hP hD hS => ?_)
          obtain ⟨m90, m91⟩ := u88
          have hP : va_P D vwCl [(qm 0, .inr (10, [.ref (qm 1), .ref (qm 2), .ref (qm 3), .int (sm 0 3), .int m90, .int m91, .int (sm 0 6), .int (sm 0 7), .int (sm 0 8), .int (sm 0 9), .int (sm 0 10), .ref (qm 4), .ref (qm 5), .int x37, .ref (qm 6), .ref (qm 7), .ref (qm 8), .ref (qm 9), .ref (qm 10), .ref (qm 11), .ref (qm 12), .ref (qm 13), .int (sm 0 22), .int (sm 0 23), .ref (qm 14), .ref (qm 15), .int (sm 0 26), .ref (qm 16), .ref (qm 17), .long (tm 0 29), .long (tm 0 30), .long (tm 0 31), .int (sm 0 32)])), (qm 1, .inl (k 0, 26, .inl (sm 1))), (qm 2, .inl (k 0, 26, .inl (sm 2))), (qm 3, .inl (k 0, 64, .inl (sm 3))), (qm 4, .inl (k 0, 15, .inl (sm 4))), (qm 5, .inl (k 0, 5, .inl g38)), (qm 6, .inl (k 1, 1000, .inr (.inl (tm 6)))), (qm 7, .inl (k 1, 1000, .inr (.inl (tm 7)))), (qm 8, .inl (k 1, 50, .inr (.inl (tm 8)))), (qm 9, .inl (k 1, 50, .inr (.inl (tm 9)))), (qm 10, .inl (k 1, 1500, .inr (.inl (tm 10)))), (qm 11, .inl (k 1, 1500, .inr (.inl (tm 11)))), (qm 12, .inl (k 0, 1500, .inl (sm 12))), (qm 13, .inl (k 0, 5, .inl (sm 13))), (qm 14, .inl (k 3, 2, .inl (sm 14))), (qm 15, .inl (k 0, 14, .inl (sm 15))), (qm 16, .inl (k 0, 5, .inl (sm 16))), (qm 17, .inl (k 0, 5, .inl (sm 17)))] H := hP
          have hD : va_D A [(qm 0, .inr (10, [.ref (qm 1), .ref (qm 2), .ref (qm 3), .int (sm 0 3), .int m90, .int m91, .int (sm 0 6), .int (sm 0 7), .int (sm 0 8), .int (sm 0 9), .int (sm 0 10), .ref (qm 4), .ref (qm 5), .int x37, .ref (qm 6), .ref (qm 7), .ref (qm 8), .ref (qm 9), .ref (qm 10), .ref (qm 11), .ref (qm 12), .ref (qm 13), .int (sm 0 22), .int (sm 0 23), .ref (qm 14), .ref (qm 15), .int (sm 0 26), .ref (qm 16), .ref (qm 17), .long (tm 0 29), .long (tm 0 30), .long (tm 0 31), .int (sm 0 32)])), (qm 1, .inl (k 0, 26, .inl (sm 1))), (qm 2, .inl (k 0, 26, .inl (sm 2))), (qm 3, .inl (k 0, 64, .inl (sm 3))), (qm 4, .inl (k 0, 15, .inl (sm 4))), (qm 5, .inl (k 0, 5, .inl g38)), (qm 6, .inl (k 1, 1000, .inr (.inl (tm 6)))), (qm 7, .inl (k 1, 1000, .inr (.inl (tm 7)))), (qm 8, .inl (k 1, 50, .inr (.inl (tm 8)))), (qm 9, .inl (k 1, 50, .inr (.inl (tm 9)))), (qm 10, .inl (k 1, 1500, .inr (.inl (tm 10)))), (qm 11, .inl (k 1, 1500, .inr (.inl (tm 11)))), (qm 12, .inl (k 0, 1500, .inl (sm 12))), (qm 13, .inl (k 0, 5, .inl (sm 13))), (qm 14, .inl (k 3, 2, .inl (sm 14))), (qm 15, .inl (k 0, 14, .inl (sm 15))), (qm 16, .inl (k 0, 5, .inl (sm 16))), (qm 17, .inl (k 0, 5, .inl (sm 17)))] := hD
          replace hw87 : (0 ≤ r89.toInt ∧ r89.toInt ≤ 9) ∧ (x85.toInt ≤ m90.toInt ∧ m90.toInt ≤ 64) ∧ (x85.toInt + 1 ≤ m90.toInt ∨ ¬ m91.toInt = -9) ∧ (Imp (0 ≤ (31 : Int32).toInt ∧ (31 : Int32).toInt ≤ 63) (r89.toInt ≤ 5)) ∧ (Imp (0 ≤ (31 : Int32).toInt ∧ (31 : Int32).toInt ≤ 31) (r89.toInt ≤ 4)) ∧ (Imp (0 ≤ (31 : Int32).toInt ∧ (31 : Int32).toInt ≤ 7) (r89.toInt ≤ 2)) := hw87
          obtain ⟨w92, w93, w94, w95, w96, w97⟩ := hw87
          have xr89 : r89.toInt ≤ 4 := w96 ⟨by decide, by decide⟩
          refine lv_istore_n (lv' := [(2, .int r89), (1, .int v34), (0, .ref (qm 0))]) hx hb dX12_readRule_149 rfl hl (by decide) rfl (fun ls hl => ?_)
          refine lv_iconst (v := 0) hx hb dX12_readRule_150 (by decide) ?_
          refine lv_istore_n (lv' := [(3, .int 0), (2, .int r89), (1, .int v34), (0, .ref (qm 0))]) hx hb dX12_readRule_151 rfl hl (by decide) rfl (fun ls hl => ?_)
          have hL152 : ∀ (n107 : Nat) (v105 : Int32) (g106 : Nat → Int32) (H : Heap) (locs : List Loc) (ls : Array Slot), 5 - v105.toInt < (n107 : Int) → (0 ≤ v105.toInt ∧ v105.toInt ≤ 5) → va_P D vwCl [(qm 0, .inr (10, [.ref (qm 1), .ref (qm 2), .ref (qm 3), .int (sm 0 3), .int m90, .int m91, .int (sm 0 6), .int (sm 0 7), .int (sm 0 8), .int (sm 0 9), .int (sm 0 10), .ref (qm 4), .ref (qm 5), .int x37, .ref (qm 6), .ref (qm 7), .ref (qm 8), .ref (qm 9), .ref (qm 10), .ref (qm 11), .ref (qm 12), .ref (qm 13), .int (sm 0 22), .int (sm 0 23), .ref (qm 14), .ref (qm 15), .int (sm 0 26), .ref (qm 16), .ref (qm 17), .long (tm 0 29), .long (tm 0 30), .long (tm 0 31), .int (sm 0 32)])), (qm 1, .inl (k 0, 26, .inl (sm 1))), (qm 2, .inl (k 0, 26, .inl (sm 2))), (qm 3, .inl (k 0, 64, .inl (sm 3))), (qm 4, .inl (k 0, 15, .inl (sm 4))), (qm 5, .inl (k 0, 5, .inl g106)), (qm 6, .inl (k 1, 1000, .inr (.inl (tm 6)))), (qm 7, .inl (k 1, 1000, .inr (.inl (tm 7)))), (qm 8, .inl (k 1, 50, .inr (.inl (tm 8)))), (qm 9, .inl (k 1, 50, .inr (.inl (tm 9)))), (qm 10, .inl (k 1, 1500, .inr (.inl (tm 10)))), (qm 11, .inl (k 1, 1500, .inr (.inl (tm 11)))), (qm 12, .inl (k 0, 1500, .inl (sm 12))), (qm 13, .inl (k 0, 5, .inl (sm 13))), (qm 14, .inl (k 3, 2, .inl (sm 14))), (qm 15, .inl (k 0, 14, .inl (sm 15))), (qm 16, .inl (k 0, 5, .inl (sm 16))), (qm 17, .inl (k 0, 5, .inl (sm 17)))] H → va_D A [(qm 0, .inr (10, [.ref (qm 1), .ref (qm 2), .ref (qm 3), .int (sm 0 3), .int m90, .int m91, .int (sm 0 6), .int (sm 0 7), .int (sm 0 8), .int (sm 0 9), .int (sm 0 10), .ref (qm 4), .ref (qm 5), .int x37, .ref (qm 6), .ref (qm 7), .ref (qm 8), .ref (qm 9), .ref (qm 10), .ref (qm 11), .ref (qm 12), .ref (qm 13), .int (sm 0 22), .int (sm 0 23), .ref (qm 14), .ref (qm 15), .int (sm 0 26), .ref (qm 16), .ref (qm 17), .long (tm 0 29), .long (tm 0 30), .long (tm 0 31), .int (sm 0 32)])), (qm 1, .inl (k 0, 26, .inl (sm 1))), (qm 2, .inl (k 0, 26, .inl (sm 2))), (qm 3, .inl (k 0, 64, .inl (sm 3))), (qm 4, .inl (k 0, 15, .inl (sm 4))), (qm 5, .inl (k 0, 5, .inl g106)), (qm 6, .inl (k 1, 1000, .inr (.inl (tm 6)))), (qm 7, .inl (k 1, 1000, .inr (.inl (tm 7)))), (qm 8, .inl (k 1, 50, .inr (.inl (tm 8)))), (qm 9, .inl (k 1, 50, .inr (.inl (tm 9)))), (qm 10, .inl (k 1, 1500, .inr (.inl (tm 10)))), (qm 11, .inl (k 1, 1500, .inr (.inl (tm 11)))), (qm 12, .inl (k 0, 1500, .inl (sm 12))), (qm 13, .inl (k 0, 5, .inl (sm 13))), (qm 14, .inl (k 3, 2, .inl (sm 14))), (qm 15, .inl (k 0, 14, .inl (sm 15))), (qm 16, .inl (k 0, 5, .inl (sm 16))), (qm 17, .inl (k 0, 5, .inl (sm 17)))] → va_S A s.heap H locs → lv_has ls 4 [(3, .int v105), (2, .int r89), (1, .int v34), (0, .ref (qm 0))] → W p l e ({ frames := 2, cells := 0, slots := 0, locals := 47 } : Room) s m ([.ref (qm 0)] : List Value).toArray below meth c H locs 0 0 Q (F0 m 152 ls []) := by
            intro n107
            induction n107 with
            | zero => intro v105 g106 H locs ls hmn107 bv105 hP hD hS hl; exact absurd hmn107 (by omega)
            | succ n107 ih152 =>
              intro v105 g106 H locs ls hmn107 bv105 hP hD hS hl
              refine lv_iload_n hx hb dX12_readRule_152 rfl (lv_at hl 0 rfl) ?_
              refine lv_iconst (v := 5) hx hb dX12_readRule_153 (by decide) ?_
              refine lv_icmp_ge (tgt := 188) hx hb dX12_readRule_154 (by decide) (fun c108 => ?_) (fun c108 => ?_)
              · have f108 : 5 ≤ v105.toInt := f_le (by decide) rfl c108
                refine lv_aload_n hx hb dX12_readRule_188 rfl (lv_at hl 3 rfl) ?_
                refine g_get cx hP iw_X12_readRule_X12 0 rfl rfl 5 (by decide) rfl fw_X12_readRule_108 rfl dX12_readRule_189 ?_
                refine lv_bipush (v := (-9)) hx hb dX12_readRule_192 (by decide) ?_
                refine lv_icmp_ne (tgt := 212) hx hb dX12_readRule_194 (by decide) (fun c109 => ?_) (fun c109 => ?_)
                · have f109 : ¬ m91.toInt = (-9) := f_ne rfl (by decide) c109
                  refine lv_aload_n hx hb dX12_readRule_212 rfl (lv_at hl 3 rfl) ?_
                  refine g_get cx hP iw_X12_readRule_X12 0 rfl rfl 5 (by decide) rfl fw_X12_readRule_108 rfl dX12_readRule_213 ?_
                  rw [hQ]
                  exact x_i cx hr (m90, m91, x37, g106) hP hD hS (show 0 ≤ m90.toInt ∧ m90.toInt ≤ 64 from by omega) dX12_readRule_216
                · have f109 : m91.toInt = (-9) := f_eq rfl (by decide) c109
                  refine lv_aload_n hx hb dX12_readRule_197 rfl (lv_at hl 3 rfl) ?_
                  refine g_get cx hP iw_X12_readRule_X12 0 rfl rfl 4 (by decide) rfl fw_X12_readRule_111 rfl dX12_readRule_198 ?_
                  refine lv_aload_n hx hb dX12_readRule_201 rfl (lv_at hl 3 rfl) ?_
                  refine g_get cx hP iw_X12_readRule_X12 0 rfl rfl 3 (by decide) rfl fw_X12_readRule_103 rfl dX12_readRule_202 ?_
                  refine lv_icmp_ge (tgt := 212) hx hb dX12_readRule_205 (by decide) (fun c110 => ?_) (fun c110 => ?_)
                  · have f110 : (sm 0 3).toInt ≤ m90.toInt := f_le rfl rfl c110
                    refine lv_aload_n hx hb dX12_readRule_212 rfl (lv_at hl 3 rfl) ?_
                    refine g_get cx hP iw_X12_readRule_X12 0 rfl rfl 5 (by decide) rfl fw_X12_readRule_108 rfl dX12_readRule_213 ?_
                    rw [hQ]
                    exact x_i cx hr (m90, m91, x37, g106) hP hD hS (show 0 ≤ m90.toInt ∧ m90.toInt ≤ 64 from by omega) dX12_readRule_216
                  · have f110 : m90.toInt < (sm 0 3).toInt := f_nle rfl rfl c110
                    refine lv_aload_n hx hb dX12_readRule_208 rfl (lv_at hl 3 rfl) ?_
                    refine g_vF (w1 := fun (u : Int32) => [(qm 0, .inr (10, [.ref (qm 1), .ref (qm 2), .ref (qm 3), .int (sm 0 3), .int m90, .int u, .int (sm 0 6), .int (sm 0 7), .int (sm 0 8), .int (sm 0 9), .int (sm 0 10), .ref (qm 4), .ref (qm 5), .int x37, .ref (qm 6), .ref (qm 7), .ref (qm 8), .ref (qm 9), .ref (qm 10), .ref (qm 11), .ref (qm 12), .ref (qm 13), .int (sm 0 22), .int (sm 0 23), .ref (qm 14), .ref (qm 15), .int (sm 0 26), .ref (qm 16), .ref (qm 17), .long (tm 0 29), .long (tm 0 30), .long (tm 0 31), .int (sm 0 32)])), (qm 1, .inl (k 0, 26, .inl (sm 1))), (qm 2, .inl (k 0, 26, .inl (sm 2))), (qm 3, .inl (k 0, 64, .inl (sm 3))), (qm 4, .inl (k 0, 15, .inl (sm 4))), (qm 5, .inl (k 0, 5, .inl g106)), (qm 6, .inl (k 1, 1000, .inr (.inl (tm 6)))), (qm 7, .inl (k 1, 1000, .inr (.inl (tm 7)))), (qm 8, .inl (k 1, 50, .inr (.inl (tm 8)))), (qm 9, .inl (k 1, 50, .inr (.inl (tm 9)))), (qm 10, .inl (k 1, 1500, .inr (.inl (tm 10)))), (qm 11, .inl (k 1, 1500, .inr (.inl (tm 11)))), (qm 12, .inl (k 0, 1500, .inl (sm 12))), (qm 13, .inl (k 0, 5, .inl (sm 13))), (qm 14, .inl (k 3, 2, .inl (sm 14))), (qm 15, .inl (k 0, 14, .inl (sm 15))), (qm 16, .inl (k 0, 5, .inl (sm 16))), (qm 17, .inl (k 0, 5, .inl (sm 17)))]) (g_runVF (ws := [(qm 0, .inr (10, [.ref (qm 1), .ref (qm 2), .ref (qm 3), .int (sm 0 3), .int m90, .int m91, .int (sm 0 6), .int (sm 0 7), .int (sm 0 8), .int (sm 0 9), .int (sm 0 10), .ref (qm 4), .ref (qm 5), .int x37, .ref (qm 6), .ref (qm 7), .ref (qm 8), .ref (qm 9), .ref (qm 10), .ref (qm 11), .ref (qm 12), .ref (qm 13), .int (sm 0 22), .int (sm 0 23), .ref (qm 14), .ref (qm 15), .int (sm 0 26), .ref (qm 16), .ref (qm 17), .long (tm 0 29), .long (tm 0 30), .long (tm 0 31), .int (sm 0 32)])), (qm 1, .inl (k 0, 26, .inl (sm 1))), (qm 2, .inl (k 0, 26, .inl (sm 2))), (qm 3, .inl (k 0, 64, .inl (sm 3))), (qm 4, .inl (k 0, 15, .inl (sm 4))), (qm 5, .inl (k 0, 5, .inl g106)), (qm 6, .inl (k 1, 1000, .inr (.inl (tm 6)))), (qm 7, .inl (k 1, 1000, .inr (.inl (tm 7)))), (qm 8, .inl (k 1, 50, .inr (.inl (tm 8)))), (qm 9, .inl (k 1, 50, .inr (.inl (tm 9)))), (qm 10, .inl (k 1, 1500, .inr (.inl (tm 10)))), (qm 11, .inl (k 1, 1500, .inr (.inl (tm 11)))), (qm 12, .inl (k 0, 1500, .inl (sm 12))), (qm 13, .inl (k 0, 5, .inl (sm 13))), (qm 14, .inl (k 3, 2, .inl (sm 14))), (qm 15, .inl (k 0, 14, .inl (sm 15))), (qm 16, .inl (k 0, 5, .inl (sm 16))), (qm 17, .inl (k 0, 5, .inl (sm 17)))]) (rest := []) cx hP hD hS [] (c_X12_fail l D k b qm (up2 (up2 sm 0 (upd (upd (upd (sm 0) 4 m90) 5 m91) 13 x37)) 5 g106) tm H.size (show 0 ≤ m90.toInt ∧ m90.toInt ≤ 64 from by first | decide | omega)) gX12_readRule_X12_fail rfl rfl rfl nd_X12_fail ⟨Nat.le_of_ble_eq_true rfl, Nat.le_of_ble_eq_true rfl⟩ (ci := 10) (q0 := 0) rfl rfl rfl hl.1 rfl (Nat.le_of_ble_eq_true rfl) ⟨Nat.zero_le _, Nat.zero_le _⟩ dX12_readRule_209) cx.2.2.1 hD hS (fun u112 H locs hw111 hP hD hS => ?_)
                    obtain ⟨m113, rfl⟩ : ∃ z, z = u112 := ⟨_, rfl⟩
                    have hP : va_P D vwCl [(qm 0, .inr (10, [.ref (qm 1), .ref (qm 2), .ref (qm 3), .int (sm 0 3), .int m90, .int m113, .int (sm 0 6), .int (sm 0 7), .int (sm 0 8), .int (sm 0 9), .int (sm 0 10), .ref (qm 4), .ref (qm 5), .int x37, .ref (qm 6), .ref (qm 7), .ref (qm 8), .ref (qm 9), .ref (qm 10), .ref (qm 11), .ref (qm 12), .ref (qm 13), .int (sm 0 22), .int (sm 0 23), .ref (qm 14), .ref (qm 15), .int (sm 0 26), .ref (qm 16), .ref (qm 17), .long (tm 0 29), .long (tm 0 30), .long (tm 0 31), .int (sm 0 32)])), (qm 1, .inl (k 0, 26, .inl (sm 1))), (qm 2, .inl (k 0, 26, .inl (sm 2))), (qm 3, .inl (k 0, 64, .inl (sm 3))), (qm 4, .inl (k 0, 15, .inl (sm 4))), (qm 5, .inl (k 0, 5, .inl g106)), (qm 6, .inl (k 1, 1000, .inr (.inl (tm 6)))), (qm 7, .inl (k 1, 1000, .inr (.inl (tm 7)))), (qm 8, .inl (k 1, 50, .inr (.inl (tm 8)))), (qm 9, .inl (k 1, 50, .inr (.inl (tm 9)))), (qm 10, .inl (k 1, 1500, .inr (.inl (tm 10)))), (qm 11, .inl (k 1, 1500, .inr (.inl (tm 11)))), (qm 12, .inl (k 0, 1500, .inl (sm 12))), (qm 13, .inl (k 0, 5, .inl (sm 13))), (qm 14, .inl (k 3, 2, .inl (sm 14))), (qm 15, .inl (k 0, 14, .inl (sm 15))), (qm 16, .inl (k 0, 5, .inl (sm 16))), (qm 17, .inl (k 0, 5, .inl (sm 17)))] H := hP
                    have hD : va_D A [(qm 0, .inr (10, [.ref (qm 1), .ref (qm 2), .ref (qm 3), .int (sm 0 3), .int m90, .int m113, .int (sm 0 6), .int (sm 0 7), .int (sm 0 8), .int (sm 0 9), .int (sm 0 10), .ref (qm 4), .ref (qm 5), .int x37, .ref (qm 6), .ref (qm 7), .ref (qm 8), .ref (qm 9), .ref (qm 10), .ref (qm 11), .ref (qm 12), .ref (qm 13), .int (sm 0 22), .int (sm 0 23), .ref (qm 14), .ref (qm 15), .int (sm 0 26), .ref (qm 16), .ref (qm 17), .long (tm 0 29), .long (tm 0 30), .long (tm 0 31), .int (sm 0 32)])), (qm 1, .inl (k 0, 26, .inl (sm 1))), (qm 2, .inl (k 0, 26, .inl (sm 2))), (qm 3, .inl (k 0, 64, .inl (sm 3))), (qm 4, .inl (k 0, 15, .inl (sm 4))), (qm 5, .inl (k 0, 5, .inl g106)), (qm 6, .inl (k 1, 1000, .inr (.inl (tm 6)))), (qm 7, .inl (k 1, 1000, .inr (.inl (tm 7)))), (qm 8, .inl (k 1, 50, .inr (.inl (tm 8)))), (qm 9, .inl (k 1, 50, .inr (.inl (tm 9)))), (qm 10, .inl (k 1, 1500, .inr (.inl (tm 10)))), (qm 11, .inl (k 1, 1500, .inr (.inl (tm 11)))), (qm 12, .inl (k 0, 1500, .inl (sm 12))), (qm 13, .inl (k 0, 5, .inl (sm 13))), (qm 14, .inl (k 3, 2, .inl (sm 14))), (qm 15, .inl (k 0, 14, .inl (sm 15))), (qm 16, .inl (k 0, 5, .inl (sm 16))), (qm 17, .inl (k 0, 5, .inl (sm 17)))] := hD
                    have w114 : ¬ m113.toInt = -9 := hw111
                    clear hw111
                    refine lv_aload_n hx hb dX12_readRule_212 rfl (lv_at hl 3 rfl) ?_
                    refine g_get cx hP iw_X12_readRule_X12 0 rfl rfl 5 (by decide) rfl fw_X12_readRule_108 rfl dX12_readRule_213 ?_
                    rw [hQ]
                    exact x_i cx hr (m90, m113, x37, g106) hP hD hS (show 0 ≤ m90.toInt ∧ m90.toInt ≤ 64 from by omega) dX12_readRule_216
              · have f108 : v105.toInt < 5 := f_nle (by decide) rfl c108
                refine lv_aload_n hx hb dX12_readRule_157 rfl (lv_at hl 3 rfl) ?_
                refine g_get cx hP iw_X12_readRule_X12 0 rfl rfl 12 (by decide) rfl fw_X12_readRule_22 rfl dX12_readRule_158 ?_
                refine lv_iload_n hx hb dX12_readRule_161 rfl (lv_at hl 0 rfl) ?_
                refine lv_iload_n hx hb dX12_readRule_162 rfl (lv_at hl 2 rfl) ?_
                refine lv_iload_n hx hb dX12_readRule_163 rfl (lv_at hl 0 rfl) ?_
                refine lv_ishr hx hb dX12_readRule_164 (lv_topi (fun v115 e115 => ?_))
                refine lv_iconst (v := 1) hx hb dX12_readRule_165 (by decide) ?_
                refine lv_iand hx hb dX12_readRule_166 (lv_topi (fun v116 e116 => ?_))
                have t116 : 0 ≤ v116.toInt ∧ v116.toInt ≤ 1 := by rw [e116]; exact and_r (by decide) (by omega)
                refine lv_iconst (v := 1) hx hb dX12_readRule_167 (by decide) ?_
                have hJ181 : ∀ (v119 : Int32) (H : Heap) (locs : List Loc) (ls : Array Slot), va_P D vwCl [(qm 0, .inr (10, [.ref (qm 1), .ref (qm 2), .ref (qm 3), .int (sm 0 3), .int m90, .int m91, .int (sm 0 6), .int (sm 0 7), .int (sm 0 8), .int (sm 0 9), .int (sm 0 10), .ref (qm 4), .ref (qm 5), .int x37, .ref (qm 6), .ref (qm 7), .ref (qm 8), .ref (qm 9), .ref (qm 10), .ref (qm 11), .ref (qm 12), .ref (qm 13), .int (sm 0 22), .int (sm 0 23), .ref (qm 14), .ref (qm 15), .int (sm 0 26), .ref (qm 16), .ref (qm 17), .long (tm 0 29), .long (tm 0 30), .long (tm 0 31), .int (sm 0 32)])), (qm 1, .inl (k 0, 26, .inl (sm 1))), (qm 2, .inl (k 0, 26, .inl (sm 2))), (qm 3, .inl (k 0, 64, .inl (sm 3))), (qm 4, .inl (k 0, 15, .inl (sm 4))), (qm 5, .inl (k 0, 5, .inl g106)), (qm 6, .inl (k 1, 1000, .inr (.inl (tm 6)))), (qm 7, .inl (k 1, 1000, .inr (.inl (tm 7)))), (qm 8, .inl (k 1, 50, .inr (.inl (tm 8)))), (qm 9, .inl (k 1, 50, .inr (.inl (tm 9)))), (qm 10, .inl (k 1, 1500, .inr (.inl (tm 10)))), (qm 11, .inl (k 1, 1500, .inr (.inl (tm 11)))), (qm 12, .inl (k 0, 1500, .inl (sm 12))), (qm 13, .inl (k 0, 5, .inl (sm 13))), (qm 14, .inl (k 3, 2, .inl (sm 14))), (qm 15, .inl (k 0, 14, .inl (sm 15))), (qm 16, .inl (k 0, 5, .inl (sm 16))), (qm 17, .inl (k 0, 5, .inl (sm 17)))] H → va_D A [(qm 0, .inr (10, [.ref (qm 1), .ref (qm 2), .ref (qm 3), .int (sm 0 3), .int m90, .int m91, .int (sm 0 6), .int (sm 0 7), .int (sm 0 8), .int (sm 0 9), .int (sm 0 10), .ref (qm 4), .ref (qm 5), .int x37, .ref (qm 6), .ref (qm 7), .ref (qm 8), .ref (qm 9), .ref (qm 10), .ref (qm 11), .ref (qm 12), .ref (qm 13), .int (sm 0 22), .int (sm 0 23), .ref (qm 14), .ref (qm 15), .int (sm 0 26), .ref (qm 16), .ref (qm 17), .long (tm 0 29), .long (tm 0 30), .long (tm 0 31), .int (sm 0 32)])), (qm 1, .inl (k 0, 26, .inl (sm 1))), (qm 2, .inl (k 0, 26, .inl (sm 2))), (qm 3, .inl (k 0, 64, .inl (sm 3))), (qm 4, .inl (k 0, 15, .inl (sm 4))), (qm 5, .inl (k 0, 5, .inl g106)), (qm 6, .inl (k 1, 1000, .inr (.inl (tm 6)))), (qm 7, .inl (k 1, 1000, .inr (.inl (tm 7)))), (qm 8, .inl (k 1, 50, .inr (.inl (tm 8)))), (qm 9, .inl (k 1, 50, .inr (.inl (tm 9)))), (qm 10, .inl (k 1, 1500, .inr (.inl (tm 10)))), (qm 11, .inl (k 1, 1500, .inr (.inl (tm 11)))), (qm 12, .inl (k 0, 1500, .inl (sm 12))), (qm 13, .inl (k 0, 5, .inl (sm 13))), (qm 14, .inl (k 3, 2, .inl (sm 14))), (qm 15, .inl (k 0, 14, .inl (sm 15))), (qm 16, .inl (k 0, 5, .inl (sm 16))), (qm 17, .inl (k 0, 5, .inl (sm 17)))] → va_S A s.heap H locs → lv_has ls 4 [(3, .int v105), (2, .int r89), (1, .int v34), (0, .ref (qm 0))] → W p l e ({ frames := 2, cells := 0, slots := 0, locals := 47 } : Room) s m ([.ref (qm 0)] : List Value).toArray below meth c H locs 0 0 Q (F0 m 181 ls [.int v119, .int v105, .ref (qm 5)]) := by
                  intro v119 H locs ls  hP hD hS hl
                  have hn120 : vp_in v105 5 := f_in (a := v105.toInt) rfl (by omega) (by omega)
                  refine va_iast hx hb cx.2.1 hP hD hS 5 0 rfl rfl hn120 dX12_readRule_181 (fun H locs hP hD hS => ?_)
                  obtain ⟨g121, eg121⟩ : ∃ g : Nat → Int32, g = upd g106 (v105).toNatClampNeg v119 := ⟨_, rfl⟩
                  rw [← eg121] at hP hD
                  have hP : va_P D vwCl [(qm 0, .inr (10, [.ref (qm 1), .ref (qm 2), .ref (qm 3), .int (sm 0 3), .int m90, .int m91, .int (sm 0 6), .int (sm 0 7), .int (sm 0 8), .int (sm 0 9), .int (sm 0 10), .ref (qm 4), .ref (qm 5), .int x37, .ref (qm 6), .ref (qm 7), .ref (qm 8), .ref (qm 9), .ref (qm 10), .ref (qm 11), .ref (qm 12), .ref (qm 13), .int (sm 0 22), .int (sm 0 23), .ref (qm 14), .ref (qm 15), .int (sm 0 26), .ref (qm 16), .ref (qm 17), .long (tm 0 29), .long (tm 0 30), .long (tm 0 31), .int (sm 0 32)])), (qm 1, .inl (k 0, 26, .inl (sm 1))), (qm 2, .inl (k 0, 26, .inl (sm 2))), (qm 3, .inl (k 0, 64, .inl (sm 3))), (qm 4, .inl (k 0, 15, .inl (sm 4))), (qm 5, .inl (k 0, 5, .inl g121)), (qm 6, .inl (k 1, 1000, .inr (.inl (tm 6)))), (qm 7, .inl (k 1, 1000, .inr (.inl (tm 7)))), (qm 8, .inl (k 1, 50, .inr (.inl (tm 8)))), (qm 9, .inl (k 1, 50, .inr (.inl (tm 9)))), (qm 10, .inl (k 1, 1500, .inr (.inl (tm 10)))), (qm 11, .inl (k 1, 1500, .inr (.inl (tm 11)))), (qm 12, .inl (k 0, 1500, .inl (sm 12))), (qm 13, .inl (k 0, 5, .inl (sm 13))), (qm 14, .inl (k 3, 2, .inl (sm 14))), (qm 15, .inl (k 0, 14, .inl (sm 15))), (qm 16, .inl (k 0, 5, .inl (sm 16))), (qm 17, .inl (k 0, 5, .inl (sm 17)))] H := hP
                  have hD : va_D A [(qm 0, .inr (10, [.ref (qm 1), .ref (qm 2), .ref (qm 3), .int (sm 0 3), .int m90, .int m91, .int (sm 0 6), .int (sm 0 7), .int (sm 0 8), .int (sm 0 9), .int (sm 0 10), .ref (qm 4), .ref (qm 5), .int x37, .ref (qm 6), .ref (qm 7), .ref (qm 8), .ref (qm 9), .ref (qm 10), .ref (qm 11), .ref (qm 12), .ref (qm 13), .int (sm 0 22), .int (sm 0 23), .ref (qm 14), .ref (qm 15), .int (sm 0 26), .ref (qm 16), .ref (qm 17), .long (tm 0 29), .long (tm 0 30), .long (tm 0 31), .int (sm 0 32)])), (qm 1, .inl (k 0, 26, .inl (sm 1))), (qm 2, .inl (k 0, 26, .inl (sm 2))), (qm 3, .inl (k 0, 64, .inl (sm 3))), (qm 4, .inl (k 0, 15, .inl (sm 4))), (qm 5, .inl (k 0, 5, .inl g121)), (qm 6, .inl (k 1, 1000, .inr (.inl (tm 6)))), (qm 7, .inl (k 1, 1000, .inr (.inl (tm 7)))), (qm 8, .inl (k 1, 50, .inr (.inl (tm 8)))), (qm 9, .inl (k 1, 50, .inr (.inl (tm 9)))), (qm 10, .inl (k 1, 1500, .inr (.inl (tm 10)))), (qm 11, .inl (k 1, 1500, .inr (.inl (tm 11)))), (qm 12, .inl (k 0, 1500, .inl (sm 12))), (qm 13, .inl (k 0, 5, .inl (sm 13))), (qm 14, .inl (k 3, 2, .inl (sm 14))), (qm 15, .inl (k 0, 14, .inl (sm 15))), (qm 16, .inl (k 0, 5, .inl (sm 16))), (qm 17, .inl (k 0, 5, .inl (sm 17)))] := hD
                  obtain ⟨v122, e122⟩ : ∃ z : Int32, z = v105 + 1 := ⟨_, rfl⟩
                  refine lv_iinc (v := v122) (lv' := [(3, .int v122), (2, .int r89), (1, .int v34), (0, .ref (qm 0))]) hx hb dX12_readRule_182 hl (k := 0) rfl (by rw [e122]; rfl) (by decide) rfl (fun ls hl => ?_)
                  have t122 : v122.toInt = v105.toInt + 1 := by rw [e122]; exact i_add rfl (by decide) (by omega) (by omega)
                  refine lv_goto (tgt := 152) hx hb dX12_readRule_185 (by decide) ?_
                  exact ih152 v122 g121 _ _ _ (by omega) (by first | decide | omega) hP hD hS (lv_sub hl [0, 1, 2, 3] rfl)
                refine lv_icmp_ne (tgt := 175) hx hb dX12_readRule_168 (by decide) (fun c123 => ?_) (fun c123 => ?_)
                · have f123 : ¬ v116.toInt = 1 := f_ne rfl (by decide) c123
                  refine lv_aload_n hx hb dX12_readRule_175 rfl (lv_at hl 3 rfl) ?_
                  refine g_get cx hP iw_X12_readRule_X12 0 rfl rfl 12 (by decide) rfl fw_X12_readRule_22 rfl dX12_readRule_176 ?_
                  refine lv_iload_n hx hb dX12_readRule_179 rfl (lv_at hl 0 rfl) ?_
                  have hn124 : vp_in v105 5 := f_in (a := v105.toInt) rfl (by omega) (by omega)
                  refine va_iald hx hb cx.2.1 hP 5 0 rfl rfl hn124 dX12_readRule_180 (lv_topi (fun v125 e125 => ?_))
                  exact hJ181 v125 _ _ _  hP hD hS (lv_sub hl [0, 1, 2, 3] rfl)
                · have f123 : v116.toInt = 1 := f_eq rfl (by decide) c123
                  refine lv_iload_n hx hb dX12_readRule_171 rfl (lv_at hl 1 rfl) ?_
                  refine lv_goto (tgt := 181) hx hb dX12_readRule_172 (by decide) ?_
                  exact hJ181 r89 _ _ _  hP hD hS (lv_sub hl [0, 1, 2, 3] rfl)
          have hlit126 : (0 : Int32).toInt = 0 := by decide
          exact hL152 (Int.toNat (5 - 0) + 1) 0 g38 _ _ _ (by omega) (by first | decide | omega) hP hD hS (lv_sub hl [0, 1, 2, 3] rfl)
        have hJ139 : ∀  (H : Heap) (locs : List Loc) (ls : Array Slot), va_P D vwCl [(qm 0, .inr (10, [.ref (qm 1), .ref (qm 2), .ref (qm 3), .int (sm 0 3), .int x35, .int x36, .int (sm 0 6), .int (sm 0 7), .int (sm 0 8), .int (sm 0 9), .int (sm 0 10), .ref (qm 4), .ref (qm 5), .int x37, .ref (qm 6), .ref (qm 7), .ref (qm 8), .ref (qm 9), .ref (qm 10), .ref (qm 11), .ref (qm 12), .ref (qm 13), .int (sm 0 22), .int (sm 0 23), .ref (qm 14), .ref (qm 15), .int (sm 0 26), .ref (qm 16), .ref (qm 17), .long (tm 0 29), .long (tm 0 30), .long (tm 0 31), .int (sm 0 32)])), (qm 1, .inl (k 0, 26, .inl (sm 1))), (qm 2, .inl (k 0, 26, .inl (sm 2))), (qm 3, .inl (k 0, 64, .inl (sm 3))), (qm 4, .inl (k 0, 15, .inl (sm 4))), (qm 5, .inl (k 0, 5, .inl g38)), (qm 6, .inl (k 1, 1000, .inr (.inl (tm 6)))), (qm 7, .inl (k 1, 1000, .inr (.inl (tm 7)))), (qm 8, .inl (k 1, 50, .inr (.inl (tm 8)))), (qm 9, .inl (k 1, 50, .inr (.inl (tm 9)))), (qm 10, .inl (k 1, 1500, .inr (.inl (tm 10)))), (qm 11, .inl (k 1, 1500, .inr (.inl (tm 11)))), (qm 12, .inl (k 0, 1500, .inl (sm 12))), (qm 13, .inl (k 0, 5, .inl (sm 13))), (qm 14, .inl (k 3, 2, .inl (sm 14))), (qm 15, .inl (k 0, 14, .inl (sm 15))), (qm 16, .inl (k 0, 5, .inl (sm 16))), (qm 17, .inl (k 0, 5, .inl (sm 17)))] H → va_D A [(qm 0, .inr (10, [.ref (qm 1), .ref (qm 2), .ref (qm 3), .int (sm 0 3), .int x35, .int x36, .int (sm 0 6), .int (sm 0 7), .int (sm 0 8), .int (sm 0 9), .int (sm 0 10), .ref (qm 4), .ref (qm 5), .int x37, .ref (qm 6), .ref (qm 7), .ref (qm 8), .ref (qm 9), .ref (qm 10), .ref (qm 11), .ref (qm 12), .ref (qm 13), .int (sm 0 22), .int (sm 0 23), .ref (qm 14), .ref (qm 15), .int (sm 0 26), .ref (qm 16), .ref (qm 17), .long (tm 0 29), .long (tm 0 30), .long (tm 0 31), .int (sm 0 32)])), (qm 1, .inl (k 0, 26, .inl (sm 1))), (qm 2, .inl (k 0, 26, .inl (sm 2))), (qm 3, .inl (k 0, 64, .inl (sm 3))), (qm 4, .inl (k 0, 15, .inl (sm 4))), (qm 5, .inl (k 0, 5, .inl g38)), (qm 6, .inl (k 1, 1000, .inr (.inl (tm 6)))), (qm 7, .inl (k 1, 1000, .inr (.inl (tm 7)))), (qm 8, .inl (k 1, 50, .inr (.inl (tm 8)))), (qm 9, .inl (k 1, 50, .inr (.inl (tm 9)))), (qm 10, .inl (k 1, 1500, .inr (.inl (tm 10)))), (qm 11, .inl (k 1, 1500, .inr (.inl (tm 11)))), (qm 12, .inl (k 0, 1500, .inl (sm 12))), (qm 13, .inl (k 0, 5, .inl (sm 13))), (qm 14, .inl (k 3, 2, .inl (sm 14))), (qm 15, .inl (k 0, 14, .inl (sm 15))), (qm 16, .inl (k 0, 5, .inl (sm 16))), (qm 17, .inl (k 0, 5, .inl (sm 17)))] → va_S A s.heap H locs → lv_has ls 4 [(1, .int v34), (0, .ref (qm 0))] → W p l e ({ frames := 2, cells := 0, slots := 0, locals := 47 } : Room) s m ([.ref (qm 0)] : List Value).toArray below meth c H locs 0 0 Q (F0 m 139 ls []) := by
          intro  H locs ls  hP hD hS hl
          refine lv_aload_n hx hb dX12_readRule_139 rfl (lv_at hl 1 rfl) ?_
          refine g_vF (w1 := fun (u : Int32) => [(qm 0, .inr (10, [.ref (qm 1), .ref (qm 2), .ref (qm 3), .int (sm 0 3), .int x35, .int u, .int (sm 0 6), .int (sm 0 7), .int (sm 0 8), .int (sm 0 9), .int (sm 0 10), .ref (qm 4), .ref (qm 5), .int x37, .ref (qm 6), .ref (qm 7), .ref (qm 8), .ref (qm 9), .ref (qm 10), .ref (qm 11), .ref (qm 12), .ref (qm 13), .int (sm 0 22), .int (sm 0 23), .ref (qm 14), .ref (qm 15), .int (sm 0 26), .ref (qm 16), .ref (qm 17), .long (tm 0 29), .long (tm 0 30), .long (tm 0 31), .int (sm 0 32)])), (qm 1, .inl (k 0, 26, .inl (sm 1))), (qm 2, .inl (k 0, 26, .inl (sm 2))), (qm 3, .inl (k 0, 64, .inl (sm 3))), (qm 4, .inl (k 0, 15, .inl (sm 4))), (qm 5, .inl (k 0, 5, .inl g38)), (qm 6, .inl (k 1, 1000, .inr (.inl (tm 6)))), (qm 7, .inl (k 1, 1000, .inr (.inl (tm 7)))), (qm 8, .inl (k 1, 50, .inr (.inl (tm 8)))), (qm 9, .inl (k 1, 50, .inr (.inl (tm 9)))), (qm 10, .inl (k 1, 1500, .inr (.inl (tm 10)))), (qm 11, .inl (k 1, 1500, .inr (.inl (tm 11)))), (qm 12, .inl (k 0, 1500, .inl (sm 12))), (qm 13, .inl (k 0, 5, .inl (sm 13))), (qm 14, .inl (k 3, 2, .inl (sm 14))), (qm 15, .inl (k 0, 14, .inl (sm 15))), (qm 16, .inl (k 0, 5, .inl (sm 16))), (qm 17, .inl (k 0, 5, .inl (sm 17)))]) (g_runVF (ws := [(qm 0, .inr (10, [.ref (qm 1), .ref (qm 2), .ref (qm 3), .int (sm 0 3), .int x35, .int x36, .int (sm 0 6), .int (sm 0 7), .int (sm 0 8), .int (sm 0 9), .int (sm 0 10), .ref (qm 4), .ref (qm 5), .int x37, .ref (qm 6), .ref (qm 7), .ref (qm 8), .ref (qm 9), .ref (qm 10), .ref (qm 11), .ref (qm 12), .ref (qm 13), .int (sm 0 22), .int (sm 0 23), .ref (qm 14), .ref (qm 15), .int (sm 0 26), .ref (qm 16), .ref (qm 17), .long (tm 0 29), .long (tm 0 30), .long (tm 0 31), .int (sm 0 32)])), (qm 1, .inl (k 0, 26, .inl (sm 1))), (qm 2, .inl (k 0, 26, .inl (sm 2))), (qm 3, .inl (k 0, 64, .inl (sm 3))), (qm 4, .inl (k 0, 15, .inl (sm 4))), (qm 5, .inl (k 0, 5, .inl g38)), (qm 6, .inl (k 1, 1000, .inr (.inl (tm 6)))), (qm 7, .inl (k 1, 1000, .inr (.inl (tm 7)))), (qm 8, .inl (k 1, 50, .inr (.inl (tm 8)))), (qm 9, .inl (k 1, 50, .inr (.inl (tm 9)))), (qm 10, .inl (k 1, 1500, .inr (.inl (tm 10)))), (qm 11, .inl (k 1, 1500, .inr (.inl (tm 11)))), (qm 12, .inl (k 0, 1500, .inl (sm 12))), (qm 13, .inl (k 0, 5, .inl (sm 13))), (qm 14, .inl (k 3, 2, .inl (sm 14))), (qm 15, .inl (k 0, 14, .inl (sm 15))), (qm 16, .inl (k 0, 5, .inl (sm 16))), (qm 17, .inl (k 0, 5, .inl (sm 17)))]) (rest := []) cx hP hD hS [] (c_X12_fail l D k b qm (up2 (up2 sm 0 (upd (upd (upd (sm 0) 4 x35) 5 x36) 13 x37)) 5 g38) tm H.size (show 0 ≤ x35.toInt ∧ x35.toInt ≤ 64 from by first | decide | omega)) gX12_readRule_X12_fail rfl rfl rfl nd_X12_fail ⟨Nat.le_of_ble_eq_true rfl, Nat.le_of_ble_eq_true rfl⟩ (ci := 10) (q0 := 0) rfl rfl rfl hl.1 rfl (Nat.le_of_ble_eq_true rfl) ⟨Nat.zero_le _, Nat.zero_le _⟩ dX12_readRule_140) cx.2.2.1 hD hS (fun u131 H locs hw130 hP hD hS => ?_)
          obtain ⟨m132, rfl⟩ : ∃ z, z = u131 := ⟨_, rfl⟩
          have hP : va_P D vwCl [(qm 0, .inr (10, [.ref (qm 1), .ref (qm 2), .ref (qm 3), .int (sm 0 3), .int x35, .int m132, .int (sm 0 6), .int (sm 0 7), .int (sm 0 8), .int (sm 0 9), .int (sm 0 10), .ref (qm 4), .ref (qm 5), .int x37, .ref (qm 6), .ref (qm 7), .ref (qm 8), .ref (qm 9), .ref (qm 10), .ref (qm 11), .ref (qm 12), .ref (qm 13), .int (sm 0 22), .int (sm 0 23), .ref (qm 14), .ref (qm 15), .int (sm 0 26), .ref (qm 16), .ref (qm 17), .long (tm 0 29), .long (tm 0 30), .long (tm 0 31), .int (sm 0 32)])), (qm 1, .inl (k 0, 26, .inl (sm 1))), (qm 2, .inl (k 0, 26, .inl (sm 2))), (qm 3, .inl (k 0, 64, .inl (sm 3))), (qm 4, .inl (k 0, 15, .inl (sm 4))), (qm 5, .inl (k 0, 5, .inl g38)), (qm 6, .inl (k 1, 1000, .inr (.inl (tm 6)))), (qm 7, .inl (k 1, 1000, .inr (.inl (tm 7)))), (qm 8, .inl (k 1, 50, .inr (.inl (tm 8)))), (qm 9, .inl (k 1, 50, .inr (.inl (tm 9)))), (qm 10, .inl (k 1, 1500, .inr (.inl (tm 10)))), (qm 11, .inl (k 1, 1500, .inr (.inl (tm 11)))), (qm 12, .inl (k 0, 1500, .inl (sm 12))), (qm 13, .inl (k 0, 5, .inl (sm 13))), (qm 14, .inl (k 3, 2, .inl (sm 14))), (qm 15, .inl (k 0, 14, .inl (sm 15))), (qm 16, .inl (k 0, 5, .inl (sm 16))), (qm 17, .inl (k 0, 5, .inl (sm 17)))] H := hP
          have hD : va_D A [(qm 0, .inr (10, [.ref (qm 1), .ref (qm 2), .ref (qm 3), .int (sm 0 3), .int x35, .int m132, .int (sm 0 6), .int (sm 0 7), .int (sm 0 8), .int (sm 0 9), .int (sm 0 10), .ref (qm 4), .ref (qm 5), .int x37, .ref (qm 6), .ref (qm 7), .ref (qm 8), .ref (qm 9), .ref (qm 10), .ref (qm 11), .ref (qm 12), .ref (qm 13), .int (sm 0 22), .int (sm 0 23), .ref (qm 14), .ref (qm 15), .int (sm 0 26), .ref (qm 16), .ref (qm 17), .long (tm 0 29), .long (tm 0 30), .long (tm 0 31), .int (sm 0 32)])), (qm 1, .inl (k 0, 26, .inl (sm 1))), (qm 2, .inl (k 0, 26, .inl (sm 2))), (qm 3, .inl (k 0, 64, .inl (sm 3))), (qm 4, .inl (k 0, 15, .inl (sm 4))), (qm 5, .inl (k 0, 5, .inl g38)), (qm 6, .inl (k 1, 1000, .inr (.inl (tm 6)))), (qm 7, .inl (k 1, 1000, .inr (.inl (tm 7)))), (qm 8, .inl (k 1, 50, .inr (.inl (tm 8)))), (qm 9, .inl (k 1, 50, .inr (.inl (tm 9)))), (qm 10, .inl (k 1, 1500, .inr (.inl (tm 10)))), (qm 11, .inl (k 1, 1500, .inr (.inl (tm 11)))), (qm 12, .inl (k 0, 1500, .inl (sm 12))), (qm 13, .inl (k 0, 5, .inl (sm 13))), (qm 14, .inl (k 3, 2, .inl (sm 14))), (qm 15, .inl (k 0, 14, .inl (sm 15))), (qm 16, .inl (k 0, 5, .inl (sm 16))), (qm 17, .inl (k 0, 5, .inl (sm 17)))] := hD
          have w133 : ¬ m132.toInt = -9 := hw130
          clear hw130
          exact hJ143 x35 m132 _ _ _ (by first | decide | omega) hP hD hS (lv_sub hl [0, 1] rfl)
        refine lv_icmp_ne (tgt := 139) hx hb dX12_readRule_98 (by decide) (fun c134 => ?_) (fun c134 => ?_)
        · have f134 : ¬ x36.toInt = (-9) := f_ne rfl (by decide) c134
          exact hJ139  _ _ _  hP hD hS (lv_sub hl [0, 1] rfl)
        · have f134 : x36.toInt = (-9) := f_eq rfl (by decide) c134
          refine lv_aload_n hx hb dX12_readRule_101 rfl (lv_at hl 1 rfl) ?_
          refine g_get cx hP iw_X12_readRule_X12 0 rfl rfl 4 (by decide) rfl fw_X12_readRule_111 rfl dX12_readRule_102 ?_
          refine lv_aload_n hx hb dX12_readRule_105 rfl (lv_at hl 1 rfl) ?_
          refine g_get cx hP iw_X12_readRule_X12 0 rfl rfl 3 (by decide) rfl fw_X12_readRule_103 rfl dX12_readRule_106 ?_
          refine lv_icmp_ge (tgt := 139) hx hb dX12_readRule_109 (by decide) (fun c135 => ?_) (fun c135 => ?_)
          · have f135 : (sm 0 3).toInt ≤ x35.toInt := f_le rfl rfl c135
            exact hJ139  _ _ _  hP hD hS (lv_sub hl [0, 1] rfl)
          · have f135 : x35.toInt < (sm 0 3).toInt := f_nle rfl rfl c135
            refine lv_aload_n hx hb dX12_readRule_112 rfl (lv_at hl 1 rfl) ?_
            refine g_get cx hP iw_X12_readRule_X12 0 rfl rfl 2 (by decide) rfl fw_X12_readRule_16 rfl dX12_readRule_113 ?_
            refine lv_aload_n hx hb dX12_readRule_116 rfl (lv_at hl 1 rfl) ?_
            refine g_get cx hP iw_X12_readRule_X12 0 rfl rfl 4 (by decide) rfl fw_X12_readRule_111 rfl dX12_readRule_117 ?_
            have hn136 : vp_in x35 64 := f_in (a := x35.toInt) rfl (by omega) (by omega)
            refine va_iald hx hb cx.2.1 hP 3 0 rfl rfl hn136 dX12_readRule_120 (lv_topi (fun v137 e137 => ?_))
            refine lv_bipush (v := 76) hx hb dX12_readRule_121 (by decide) ?_
            refine lv_icmp_ne (tgt := 139) hx hb dX12_readRule_123 (by decide) (fun c138 => ?_) (fun c138 => ?_)
            · have f138 : ¬ v137.toInt = 76 := f_ne rfl (by decide) c138
              exact hJ139  _ _ _  hP hD hS (lv_sub hl [0, 1] rfl)
            · have f138 : v137.toInt = 76 := f_eq rfl (by decide) c138
              refine lv_aload_n hx hb dX12_readRule_126 rfl (lv_at hl 1 rfl) ?_
              refine lv_dup hx hb dX12_readRule_127 rfl ?_
              refine g_get cx hP iw_X12_readRule_X12 0 rfl rfl 4 (by decide) rfl fw_X12_readRule_111 rfl dX12_readRule_128 ?_
              refine lv_iconst (v := 1) hx hb dX12_readRule_131 (by decide) ?_
              refine lv_iadd hx hb dX12_readRule_132 (lv_topi (fun v139 e139 => ?_))
              have t139 : v139.toInt = x35.toInt + 1 := by rw [e139]; exact i_add rfl (by decide) (by omega) (by omega)
              refine g_pt cx hP hD hS iw_X12_readRule_X12 tyX12 tyX12_ok nmX12 0 rfl rfl 4 (by decide) rfl fw_X12_readRule_111 (ty := .int) rfl rfl rfl (Nat.le_of_ble_eq_true rfl) dX12_readRule_133 (fun H locs hP hD hS => ?_)
              have hP : va_P D vwCl [(qm 0, .inr (10, [.ref (qm 1), .ref (qm 2), .ref (qm 3), .int (sm 0 3), .int v139, .int x36, .int (sm 0 6), .int (sm 0 7), .int (sm 0 8), .int (sm 0 9), .int (sm 0 10), .ref (qm 4), .ref (qm 5), .int x37, .ref (qm 6), .ref (qm 7), .ref (qm 8), .ref (qm 9), .ref (qm 10), .ref (qm 11), .ref (qm 12), .ref (qm 13), .int (sm 0 22), .int (sm 0 23), .ref (qm 14), .ref (qm 15), .int (sm 0 26), .ref (qm 16), .ref (qm 17), .long (tm 0 29), .long (tm 0 30), .long (tm 0 31), .int (sm 0 32)])), (qm 1, .inl (k 0, 26, .inl (sm 1))), (qm 2, .inl (k 0, 26, .inl (sm 2))), (qm 3, .inl (k 0, 64, .inl (sm 3))), (qm 4, .inl (k 0, 15, .inl (sm 4))), (qm 5, .inl (k 0, 5, .inl g38)), (qm 6, .inl (k 1, 1000, .inr (.inl (tm 6)))), (qm 7, .inl (k 1, 1000, .inr (.inl (tm 7)))), (qm 8, .inl (k 1, 50, .inr (.inl (tm 8)))), (qm 9, .inl (k 1, 50, .inr (.inl (tm 9)))), (qm 10, .inl (k 1, 1500, .inr (.inl (tm 10)))), (qm 11, .inl (k 1, 1500, .inr (.inl (tm 11)))), (qm 12, .inl (k 0, 1500, .inl (sm 12))), (qm 13, .inl (k 0, 5, .inl (sm 13))), (qm 14, .inl (k 3, 2, .inl (sm 14))), (qm 15, .inl (k 0, 14, .inl (sm 15))), (qm 16, .inl (k 0, 5, .inl (sm 16))), (qm 17, .inl (k 0, 5, .inl (sm 17)))] H := hP
              have hD : va_D A [(qm 0, .inr (10, [.ref (qm 1), .ref (qm 2), .ref (qm 3), .int (sm 0 3), .int v139, .int x36, .int (sm 0 6), .int (sm 0 7), .int (sm 0 8), .int (sm 0 9), .int (sm 0 10), .ref (qm 4), .ref (qm 5), .int x37, .ref (qm 6), .ref (qm 7), .ref (qm 8), .ref (qm 9), .ref (qm 10), .ref (qm 11), .ref (qm 12), .ref (qm 13), .int (sm 0 22), .int (sm 0 23), .ref (qm 14), .ref (qm 15), .int (sm 0 26), .ref (qm 16), .ref (qm 17), .long (tm 0 29), .long (tm 0 30), .long (tm 0 31), .int (sm 0 32)])), (qm 1, .inl (k 0, 26, .inl (sm 1))), (qm 2, .inl (k 0, 26, .inl (sm 2))), (qm 3, .inl (k 0, 64, .inl (sm 3))), (qm 4, .inl (k 0, 15, .inl (sm 4))), (qm 5, .inl (k 0, 5, .inl g38)), (qm 6, .inl (k 1, 1000, .inr (.inl (tm 6)))), (qm 7, .inl (k 1, 1000, .inr (.inl (tm 7)))), (qm 8, .inl (k 1, 50, .inr (.inl (tm 8)))), (qm 9, .inl (k 1, 50, .inr (.inl (tm 9)))), (qm 10, .inl (k 1, 1500, .inr (.inl (tm 10)))), (qm 11, .inl (k 1, 1500, .inr (.inl (tm 11)))), (qm 12, .inl (k 0, 1500, .inl (sm 12))), (qm 13, .inl (k 0, 5, .inl (sm 13))), (qm 14, .inl (k 3, 2, .inl (sm 14))), (qm 15, .inl (k 0, 14, .inl (sm 15))), (qm 16, .inl (k 0, 5, .inl (sm 16))), (qm 17, .inl (k 0, 5, .inl (sm 17)))] := hD
              refine lv_goto (tgt := 143) hx hb dX12_readRule_136 (by decide) ?_
              exact hJ143 v139 x36 _ _ _ (by first | decide | omega) hP hD hS (lv_sub hl [0, 1] rfl)
      refine lv_icmp_ne (tgt := 92) hx hb dX12_readRule_25 (by decide) (fun c140 => ?_) (fun c140 => ?_)
      · have f140 : ¬ x36.toInt = (-9) := f_ne rfl (by decide) c140
        exact hJ92  _ _ _  hP hD hS (lv_sub hl [0, 1] rfl)
      · have f140 : x36.toInt = (-9) := f_eq rfl (by decide) c140
        refine lv_aload_n hx hb dX12_readRule_28 rfl (lv_at hl 1 rfl) ?_
        refine g_get cx hP iw_X12_readRule_X12 0 rfl rfl 4 (by decide) rfl fw_X12_readRule_111 rfl dX12_readRule_29 ?_
        refine lv_aload_n hx hb dX12_readRule_32 rfl (lv_at hl 1 rfl) ?_
        refine g_get cx hP iw_X12_readRule_X12 0 rfl rfl 3 (by decide) rfl fw_X12_readRule_103 rfl dX12_readRule_33 ?_
        refine lv_icmp_ge (tgt := 92) hx hb dX12_readRule_36 (by decide) (fun c141 => ?_) (fun c141 => ?_)
        · have f141 : (sm 0 3).toInt ≤ x35.toInt := f_le rfl rfl c141
          exact hJ92  _ _ _  hP hD hS (lv_sub hl [0, 1] rfl)
        · have f141 : x35.toInt < (sm 0 3).toInt := f_nle rfl rfl c141
          refine lv_aload_n hx hb dX12_readRule_39 rfl (lv_at hl 1 rfl) ?_
          refine g_get cx hP iw_X12_readRule_X12 0 rfl rfl 2 (by decide) rfl fw_X12_readRule_16 rfl dX12_readRule_40 ?_
          refine lv_aload_n hx hb dX12_readRule_43 rfl (lv_at hl 1 rfl) ?_
          refine g_get cx hP iw_X12_readRule_X12 0 rfl rfl 4 (by decide) rfl fw_X12_readRule_111 rfl dX12_readRule_44 ?_
          have hn142 : vp_in x35 64 := f_in (a := x35.toInt) rfl (by omega) (by omega)
          refine va_iald hx hb cx.2.1 hP 3 0 rfl rfl hn142 dX12_readRule_47 (lv_topi (fun v143 e143 => ?_))
          refine lv_bipush (v := 76) hx hb dX12_readRule_48 (by decide) ?_
          refine lv_icmp_eq (tgt := 92) hx hb dX12_readRule_50 (by decide) (fun c144 => ?_) (fun c144 => ?_)
          · have f144 : v143.toInt = 76 := f_eq rfl (by decide) c144
            exact hJ92  _ _ _  hP hD hS (lv_sub hl [0, 1] rfl)
          · have f144 : ¬ v143.toInt = 76 := f_ne rfl (by decide) c144
            refine lv_aload_n hx hb dX12_readRule_53 rfl (lv_at hl 1 rfl) ?_
            refine lv_iload_n hx hb dX12_readRule_54 rfl (lv_at hl 0 rfl) ?_
            refine g_iF (w1 := fun (u : Int32 × Int32) => [(qm 0, .inr (10, [.ref (qm 1), .ref (qm 2), .ref (qm 3), .int (sm 0 3), .int (u.1), .int (u.2), .int (sm 0 6), .int (sm 0 7), .int (sm 0 8), .int (sm 0 9), .int (sm 0 10), .ref (qm 4), .ref (qm 5), .int x37, .ref (qm 6), .ref (qm 7), .ref (qm 8), .ref (qm 9), .ref (qm 10), .ref (qm 11), .ref (qm 12), .ref (qm 13), .int (sm 0 22), .int (sm 0 23), .ref (qm 14), .ref (qm 15), .int (sm 0 26), .ref (qm 16), .ref (qm 17), .long (tm 0 29), .long (tm 0 30), .long (tm 0 31), .int (sm 0 32)])), (qm 1, .inl (k 0, 26, .inl (sm 1))), (qm 2, .inl (k 0, 26, .inl (sm 2))), (qm 3, .inl (k 0, 64, .inl (sm 3))), (qm 4, .inl (k 0, 15, .inl (sm 4))), (qm 5, .inl (k 0, 5, .inl g38)), (qm 6, .inl (k 1, 1000, .inr (.inl (tm 6)))), (qm 7, .inl (k 1, 1000, .inr (.inl (tm 7)))), (qm 8, .inl (k 1, 50, .inr (.inl (tm 8)))), (qm 9, .inl (k 1, 50, .inr (.inl (tm 9)))), (qm 10, .inl (k 1, 1500, .inr (.inl (tm 10)))), (qm 11, .inl (k 1, 1500, .inr (.inl (tm 11)))), (qm 12, .inl (k 0, 1500, .inl (sm 12))), (qm 13, .inl (k 0, 5, .inl (sm 13))), (qm 14, .inl (k 3, 2, .inl (sm 14))), (qm 15, .inl (k 0, 14, .inl (sm 15))), (qm 16, .inl (k 0, 5, .inl (sm 16))), (qm 17, .inl (k 0, 5, .inl (sm 17)))]) (g_runVF (ws := [(qm 0, .inr (10, [.ref (qm 1), .ref (qm 2), .ref (qm 3), .int (sm 0 3), .int x35, .int x36, .int (sm 0 6), .int (sm 0 7), .int (sm 0 8), .int (sm 0 9), .int (sm 0 10), .ref (qm 4), .ref (qm 5), .int x37, .ref (qm 6), .ref (qm 7), .ref (qm 8), .ref (qm 9), .ref (qm 10), .ref (qm 11), .ref (qm 12), .ref (qm 13), .int (sm 0 22), .int (sm 0 23), .ref (qm 14), .ref (qm 15), .int (sm 0 26), .ref (qm 16), .ref (qm 17), .long (tm 0 29), .long (tm 0 30), .long (tm 0 31), .int (sm 0 32)])), (qm 1, .inl (k 0, 26, .inl (sm 1))), (qm 2, .inl (k 0, 26, .inl (sm 2))), (qm 3, .inl (k 0, 64, .inl (sm 3))), (qm 4, .inl (k 0, 15, .inl (sm 4))), (qm 5, .inl (k 0, 5, .inl g38)), (qm 6, .inl (k 1, 1000, .inr (.inl (tm 6)))), (qm 7, .inl (k 1, 1000, .inr (.inl (tm 7)))), (qm 8, .inl (k 1, 50, .inr (.inl (tm 8)))), (qm 9, .inl (k 1, 50, .inr (.inl (tm 9)))), (qm 10, .inl (k 1, 1500, .inr (.inl (tm 10)))), (qm 11, .inl (k 1, 1500, .inr (.inl (tm 11)))), (qm 12, .inl (k 0, 1500, .inl (sm 12))), (qm 13, .inl (k 0, 5, .inl (sm 13))), (qm 14, .inl (k 3, 2, .inl (sm 14))), (qm 15, .inl (k 0, 14, .inl (sm 15))), (qm 16, .inl (k 0, 5, .inl (sm 16))), (qm 17, .inl (k 0, 5, .inl (sm 17)))]) (rest := []) cx hP hD hS [.int v34] (c_X12_figure l D k b qm (up2 (up2 sm 0 (upd (upd (upd (sm 0) 4 x35) 5 x36) 13 x37)) 5 g38) tm H.size v34 (show 0 ≤ (sm 0 3).toInt ∧ (sm 0 3).toInt ≤ 64 from by first | decide | omega) (show 0 ≤ x35.toInt ∧ x35.toInt ≤ 64 from by first | decide | omega)) gX12_readRule_X12_figure rfl rfl rfl nd_X12_figure ⟨Nat.le_of_ble_eq_true rfl, Nat.le_of_ble_eq_true rfl⟩ (ci := 10) (q0 := 0) rfl rfl rfl hl.1 rfl (Nat.le_of_ble_eq_true rfl) ⟨Nat.zero_le _, Nat.zero_le _⟩ dX12_readRule_55) cx.2.2.1 hD hS (fun r147 u146 H locs hw145 hP hD hS => ?_)
            obtain ⟨m148, m149⟩ := u146
            have hP : va_P D vwCl [(qm 0, .inr (10, [.ref (qm 1), .ref (qm 2), .ref (qm 3), .int (sm 0 3), .int m148, .int m149, .int (sm 0 6), .int (sm 0 7), .int (sm 0 8), .int (sm 0 9), .int (sm 0 10), .ref (qm 4), .ref (qm 5), .int x37, .ref (qm 6), .ref (qm 7), .ref (qm 8), .ref (qm 9), .ref (qm 10), .ref (qm 11), .ref (qm 12), .ref (qm 13), .int (sm 0 22), .int (sm 0 23), .ref (qm 14), .ref (qm 15), .int (sm 0 26), .ref (qm 16), .ref (qm 17), .long (tm 0 29), .long (tm 0 30), .long (tm 0 31), .int (sm 0 32)])), (qm 1, .inl (k 0, 26, .inl (sm 1))), (qm 2, .inl (k 0, 26, .inl (sm 2))), (qm 3, .inl (k 0, 64, .inl (sm 3))), (qm 4, .inl (k 0, 15, .inl (sm 4))), (qm 5, .inl (k 0, 5, .inl g38)), (qm 6, .inl (k 1, 1000, .inr (.inl (tm 6)))), (qm 7, .inl (k 1, 1000, .inr (.inl (tm 7)))), (qm 8, .inl (k 1, 50, .inr (.inl (tm 8)))), (qm 9, .inl (k 1, 50, .inr (.inl (tm 9)))), (qm 10, .inl (k 1, 1500, .inr (.inl (tm 10)))), (qm 11, .inl (k 1, 1500, .inr (.inl (tm 11)))), (qm 12, .inl (k 0, 1500, .inl (sm 12))), (qm 13, .inl (k 0, 5, .inl (sm 13))), (qm 14, .inl (k 3, 2, .inl (sm 14))), (qm 15, .inl (k 0, 14, .inl (sm 15))), (qm 16, .inl (k 0, 5, .inl (sm 16))), (qm 17, .inl (k 0, 5, .inl (sm 17)))] H := hP
            have hD : va_D A [(qm 0, .inr (10, [.ref (qm 1), .ref (qm 2), .ref (qm 3), .int (sm 0 3), .int m148, .int m149, .int (sm 0 6), .int (sm 0 7), .int (sm 0 8), .int (sm 0 9), .int (sm 0 10), .ref (qm 4), .ref (qm 5), .int x37, .ref (qm 6), .ref (qm 7), .ref (qm 8), .ref (qm 9), .ref (qm 10), .ref (qm 11), .ref (qm 12), .ref (qm 13), .int (sm 0 22), .int (sm 0 23), .ref (qm 14), .ref (qm 15), .int (sm 0 26), .ref (qm 16), .ref (qm 17), .long (tm 0 29), .long (tm 0 30), .long (tm 0 31), .int (sm 0 32)])), (qm 1, .inl (k 0, 26, .inl (sm 1))), (qm 2, .inl (k 0, 26, .inl (sm 2))), (qm 3, .inl (k 0, 64, .inl (sm 3))), (qm 4, .inl (k 0, 15, .inl (sm 4))), (qm 5, .inl (k 0, 5, .inl g38)), (qm 6, .inl (k 1, 1000, .inr (.inl (tm 6)))), (qm 7, .inl (k 1, 1000, .inr (.inl (tm 7)))), (qm 8, .inl (k 1, 50, .inr (.inl (tm 8)))), (qm 9, .inl (k 1, 50, .inr (.inl (tm 9)))), (qm 10, .inl (k 1, 1500, .inr (.inl (tm 10)))), (qm 11, .inl (k 1, 1500, .inr (.inl (tm 11)))), (qm 12, .inl (k 0, 1500, .inl (sm 12))), (qm 13, .inl (k 0, 5, .inl (sm 13))), (qm 14, .inl (k 3, 2, .inl (sm 14))), (qm 15, .inl (k 0, 14, .inl (sm 15))), (qm 16, .inl (k 0, 5, .inl (sm 16))), (qm 17, .inl (k 0, 5, .inl (sm 17)))] := hD
            replace hw145 : (0 ≤ r147.toInt ∧ r147.toInt ≤ 9) ∧ (x35.toInt ≤ m148.toInt ∧ m148.toInt ≤ 64) ∧ (x35.toInt + 1 ≤ m148.toInt ∨ ¬ m149.toInt = -9) ∧ (Imp (0 ≤ v34.toInt ∧ v34.toInt ≤ 63) (r147.toInt ≤ 5)) ∧ (Imp (0 ≤ v34.toInt ∧ v34.toInt ≤ 31) (r147.toInt ≤ 4)) ∧ (Imp (0 ≤ v34.toInt ∧ v34.toInt ≤ 7) (r147.toInt ≤ 2)) := hw145
            obtain ⟨w150, w151, w152, w153, w154, w155⟩ := hw145
            have xr147 : r147.toInt ≤ 4 := w154 ⟨by omega, by omega⟩
            refine lv_istore_n (lv' := [(2, .int r147), (1, .int v34), (0, .ref (qm 0))]) hx hb dX12_readRule_58 rfl hl (by decide) rfl (fun ls hl => ?_)
            refine lv_iload_n hx hb dX12_readRule_59 rfl (lv_at hl 1 rfl) ?_
            refine lv_iconst (v := 1) hx hb dX12_readRule_60 (by decide) ?_
            refine lv_iload_n hx hb dX12_readRule_61 rfl (lv_at hl 0 rfl) ?_
            refine lv_ishl hx hb dX12_readRule_62 (lv_topi (fun v156 e156 => ?_))
            refine lv_iconst (v := (-1)) hx hb dX12_readRule_63 (by decide) ?_
            refine lv_ixor hx hb dX12_readRule_64 (lv_topi (fun v157 e157 => ?_))
            refine lv_iand hx hb dX12_readRule_65 (lv_topi (fun v158 e158 => ?_))
            have t158 : 0 ≤ v158.toInt ∧ v158.toInt ≤ v34.toInt := by rw [e158]; exact and_l rfl (by omega)
            refine lv_istore_n (lv' := [(1, .int v158), (2, .int r147), (0, .ref (qm 0))]) hx hb dX12_readRule_66 rfl hl (by decide) rfl (fun ls hl => ?_)
            refine lv_aload_n hx hb dX12_readRule_67 rfl (lv_at hl 2 rfl) ?_
            refine g_get cx hP iw_X12_readRule_X12 0 rfl rfl 12 (by decide) rfl fw_X12_readRule_22 rfl dX12_readRule_68 ?_
            refine lv_iload_n hx hb dX12_readRule_71 rfl (lv_at hl 1 rfl) ?_
            refine lv_aload_n hx hb dX12_readRule_72 rfl (lv_at hl 2 rfl) ?_
            refine lv_bipush (v := 31) hx hb dX12_readRule_73 (by decide) ?_
            refine g_iF (w1 := fun (u : Int32 × Int32) => [(qm 0, .inr (10, [.ref (qm 1), .ref (qm 2), .ref (qm 3), .int (sm 0 3), .int (u.1), .int (u.2), .int (sm 0 6), .int (sm 0 7), .int (sm 0 8), .int (sm 0 9), .int (sm 0 10), .ref (qm 4), .ref (qm 5), .int x37, .ref (qm 6), .ref (qm 7), .ref (qm 8), .ref (qm 9), .ref (qm 10), .ref (qm 11), .ref (qm 12), .ref (qm 13), .int (sm 0 22), .int (sm 0 23), .ref (qm 14), .ref (qm 15), .int (sm 0 26), .ref (qm 16), .ref (qm 17), .long (tm 0 29), .long (tm 0 30), .long (tm 0 31), .int (sm 0 32)])), (qm 1, .inl (k 0, 26, .inl (sm 1))), (qm 2, .inl (k 0, 26, .inl (sm 2))), (qm 3, .inl (k 0, 64, .inl (sm 3))), (qm 4, .inl (k 0, 15, .inl (sm 4))), (qm 5, .inl (k 0, 5, .inl g38)), (qm 6, .inl (k 1, 1000, .inr (.inl (tm 6)))), (qm 7, .inl (k 1, 1000, .inr (.inl (tm 7)))), (qm 8, .inl (k 1, 50, .inr (.inl (tm 8)))), (qm 9, .inl (k 1, 50, .inr (.inl (tm 9)))), (qm 10, .inl (k 1, 1500, .inr (.inl (tm 10)))), (qm 11, .inl (k 1, 1500, .inr (.inl (tm 11)))), (qm 12, .inl (k 0, 1500, .inl (sm 12))), (qm 13, .inl (k 0, 5, .inl (sm 13))), (qm 14, .inl (k 3, 2, .inl (sm 14))), (qm 15, .inl (k 0, 14, .inl (sm 15))), (qm 16, .inl (k 0, 5, .inl (sm 16))), (qm 17, .inl (k 0, 5, .inl (sm 17)))]) (g_runVF (ws := [(qm 0, .inr (10, [.ref (qm 1), .ref (qm 2), .ref (qm 3), .int (sm 0 3), .int m148, .int m149, .int (sm 0 6), .int (sm 0 7), .int (sm 0 8), .int (sm 0 9), .int (sm 0 10), .ref (qm 4), .ref (qm 5), .int x37, .ref (qm 6), .ref (qm 7), .ref (qm 8), .ref (qm 9), .ref (qm 10), .ref (qm 11), .ref (qm 12), .ref (qm 13), .int (sm 0 22), .int (sm 0 23), .ref (qm 14), .ref (qm 15), .int (sm 0 26), .ref (qm 16), .ref (qm 17), .long (tm 0 29), .long (tm 0 30), .long (tm 0 31), .int (sm 0 32)])), (qm 1, .inl (k 0, 26, .inl (sm 1))), (qm 2, .inl (k 0, 26, .inl (sm 2))), (qm 3, .inl (k 0, 64, .inl (sm 3))), (qm 4, .inl (k 0, 15, .inl (sm 4))), (qm 5, .inl (k 0, 5, .inl g38)), (qm 6, .inl (k 1, 1000, .inr (.inl (tm 6)))), (qm 7, .inl (k 1, 1000, .inr (.inl (tm 7)))), (qm 8, .inl (k 1, 50, .inr (.inl (tm 8)))), (qm 9, .inl (k 1, 50, .inr (.inl (tm 9)))), (qm 10, .inl (k 1, 1500, .inr (.inl (tm 10)))), (qm 11, .inl (k 1, 1500, .inr (.inl (tm 11)))), (qm 12, .inl (k 0, 1500, .inl (sm 12))), (qm 13, .inl (k 0, 5, .inl (sm 13))), (qm 14, .inl (k 3, 2, .inl (sm 14))), (qm 15, .inl (k 0, 14, .inl (sm 15))), (qm 16, .inl (k 0, 5, .inl (sm 16))), (qm 17, .inl (k 0, 5, .inl (sm 17)))]) (rest := [.int r147, .ref (qm 5)]) cx hP hD hS [.int 31] (c_X12_figure l D k b qm (up2 (up2 sm 0 (upd (upd (upd (sm 0) 4 m148) 5 m149) 13 x37)) 5 g38) tm H.size 31 (show 0 ≤ (sm 0 3).toInt ∧ (sm 0 3).toInt ≤ 64 from by first | decide | omega) (show 0 ≤ m148.toInt ∧ m148.toInt ≤ 64 from by first | decide | omega)) gX12_readRule_X12_figure rfl rfl rfl nd_X12_figure ⟨Nat.le_of_ble_eq_true rfl, Nat.le_of_ble_eq_true rfl⟩ (ci := 10) (q0 := 0) rfl rfl rfl hl.1 rfl (Nat.le_of_ble_eq_true rfl) ⟨Nat.zero_le _, Nat.zero_le _⟩ dX12_readRule_75) cx.2.2.1 hD hS (fun r161 u160 H locs hw159 hP hD hS => ?_)
            obtain ⟨m162, m163⟩ := u160
            have hP : va_P D vwCl [(qm 0, .inr (10, [.ref (qm 1), .ref (qm 2), .ref (qm 3), .int (sm 0 3), .int m162, .int m163, .int (sm 0 6), .int (sm 0 7), .int (sm 0 8), .int (sm 0 9), .int (sm 0 10), .ref (qm 4), .ref (qm 5), .int x37, .ref (qm 6), .ref (qm 7), .ref (qm 8), .ref (qm 9), .ref (qm 10), .ref (qm 11), .ref (qm 12), .ref (qm 13), .int (sm 0 22), .int (sm 0 23), .ref (qm 14), .ref (qm 15), .int (sm 0 26), .ref (qm 16), .ref (qm 17), .long (tm 0 29), .long (tm 0 30), .long (tm 0 31), .int (sm 0 32)])), (qm 1, .inl (k 0, 26, .inl (sm 1))), (qm 2, .inl (k 0, 26, .inl (sm 2))), (qm 3, .inl (k 0, 64, .inl (sm 3))), (qm 4, .inl (k 0, 15, .inl (sm 4))), (qm 5, .inl (k 0, 5, .inl g38)), (qm 6, .inl (k 1, 1000, .inr (.inl (tm 6)))), (qm 7, .inl (k 1, 1000, .inr (.inl (tm 7)))), (qm 8, .inl (k 1, 50, .inr (.inl (tm 8)))), (qm 9, .inl (k 1, 50, .inr (.inl (tm 9)))), (qm 10, .inl (k 1, 1500, .inr (.inl (tm 10)))), (qm 11, .inl (k 1, 1500, .inr (.inl (tm 11)))), (qm 12, .inl (k 0, 1500, .inl (sm 12))), (qm 13, .inl (k 0, 5, .inl (sm 13))), (qm 14, .inl (k 3, 2, .inl (sm 14))), (qm 15, .inl (k 0, 14, .inl (sm 15))), (qm 16, .inl (k 0, 5, .inl (sm 16))), (qm 17, .inl (k 0, 5, .inl (sm 17)))] H := hP
            have hD : va_D A [(qm 0, .inr (10, [.ref (qm 1), .ref (qm 2), .ref (qm 3), .int (sm 0 3), .int m162, .int m163, .int (sm 0 6), .int (sm 0 7), .int (sm 0 8), .int (sm 0 9), .int (sm 0 10), .ref (qm 4), .ref (qm 5), .int x37, .ref (qm 6), .ref (qm 7), .ref (qm 8), .ref (qm 9), .ref (qm 10), .ref (qm 11), .ref (qm 12), .ref (qm 13), .int (sm 0 22), .int (sm 0 23), .ref (qm 14), .ref (qm 15), .int (sm 0 26), .ref (qm 16), .ref (qm 17), .long (tm 0 29), .long (tm 0 30), .long (tm 0 31), .int (sm 0 32)])), (qm 1, .inl (k 0, 26, .inl (sm 1))), (qm 2, .inl (k 0, 26, .inl (sm 2))), (qm 3, .inl (k 0, 64, .inl (sm 3))), (qm 4, .inl (k 0, 15, .inl (sm 4))), (qm 5, .inl (k 0, 5, .inl g38)), (qm 6, .inl (k 1, 1000, .inr (.inl (tm 6)))), (qm 7, .inl (k 1, 1000, .inr (.inl (tm 7)))), (qm 8, .inl (k 1, 50, .inr (.inl (tm 8)))), (qm 9, .inl (k 1, 50, .inr (.inl (tm 9)))), (qm 10, .inl (k 1, 1500, .inr (.inl (tm 10)))), (qm 11, .inl (k 1, 1500, .inr (.inl (tm 11)))), (qm 12, .inl (k 0, 1500, .inl (sm 12))), (qm 13, .inl (k 0, 5, .inl (sm 13))), (qm 14, .inl (k 3, 2, .inl (sm 14))), (qm 15, .inl (k 0, 14, .inl (sm 15))), (qm 16, .inl (k 0, 5, .inl (sm 16))), (qm 17, .inl (k 0, 5, .inl (sm 17)))] := hD
            replace hw159 : (0 ≤ r161.toInt ∧ r161.toInt ≤ 9) ∧ (m148.toInt ≤ m162.toInt ∧ m162.toInt ≤ 64) ∧ (m148.toInt + 1 ≤ m162.toInt ∨ ¬ m163.toInt = -9) ∧ (Imp (0 ≤ (31 : Int32).toInt ∧ (31 : Int32).toInt ≤ 63) (r161.toInt ≤ 5)) ∧ (Imp (0 ≤ (31 : Int32).toInt ∧ (31 : Int32).toInt ≤ 31) (r161.toInt ≤ 4)) ∧ (Imp (0 ≤ (31 : Int32).toInt ∧ (31 : Int32).toInt ≤ 7) (r161.toInt ≤ 2)) := hw159
            obtain ⟨w164, w165, w166, w167, w168, w169⟩ := hw159
            have xr161 : r161.toInt ≤ 4 := w168 ⟨by decide, by decide⟩
            have hn170 : vp_in r147 5 := f_in (a := r147.toInt) rfl (by omega) (by omega)
            refine va_iast hx hb cx.2.1 hP hD hS 5 0 rfl rfl hn170 dX12_readRule_78 (fun H locs hP hD hS => ?_)
            obtain ⟨g171, eg171⟩ : ∃ g : Nat → Int32, g = upd g38 (r147).toNatClampNeg r161 := ⟨_, rfl⟩
            rw [← eg171] at hP hD
            have hP : va_P D vwCl [(qm 0, .inr (10, [.ref (qm 1), .ref (qm 2), .ref (qm 3), .int (sm 0 3), .int m162, .int m163, .int (sm 0 6), .int (sm 0 7), .int (sm 0 8), .int (sm 0 9), .int (sm 0 10), .ref (qm 4), .ref (qm 5), .int x37, .ref (qm 6), .ref (qm 7), .ref (qm 8), .ref (qm 9), .ref (qm 10), .ref (qm 11), .ref (qm 12), .ref (qm 13), .int (sm 0 22), .int (sm 0 23), .ref (qm 14), .ref (qm 15), .int (sm 0 26), .ref (qm 16), .ref (qm 17), .long (tm 0 29), .long (tm 0 30), .long (tm 0 31), .int (sm 0 32)])), (qm 1, .inl (k 0, 26, .inl (sm 1))), (qm 2, .inl (k 0, 26, .inl (sm 2))), (qm 3, .inl (k 0, 64, .inl (sm 3))), (qm 4, .inl (k 0, 15, .inl (sm 4))), (qm 5, .inl (k 0, 5, .inl g171)), (qm 6, .inl (k 1, 1000, .inr (.inl (tm 6)))), (qm 7, .inl (k 1, 1000, .inr (.inl (tm 7)))), (qm 8, .inl (k 1, 50, .inr (.inl (tm 8)))), (qm 9, .inl (k 1, 50, .inr (.inl (tm 9)))), (qm 10, .inl (k 1, 1500, .inr (.inl (tm 10)))), (qm 11, .inl (k 1, 1500, .inr (.inl (tm 11)))), (qm 12, .inl (k 0, 1500, .inl (sm 12))), (qm 13, .inl (k 0, 5, .inl (sm 13))), (qm 14, .inl (k 3, 2, .inl (sm 14))), (qm 15, .inl (k 0, 14, .inl (sm 15))), (qm 16, .inl (k 0, 5, .inl (sm 16))), (qm 17, .inl (k 0, 5, .inl (sm 17)))] H := hP
            have hD : va_D A [(qm 0, .inr (10, [.ref (qm 1), .ref (qm 2), .ref (qm 3), .int (sm 0 3), .int m162, .int m163, .int (sm 0 6), .int (sm 0 7), .int (sm 0 8), .int (sm 0 9), .int (sm 0 10), .ref (qm 4), .ref (qm 5), .int x37, .ref (qm 6), .ref (qm 7), .ref (qm 8), .ref (qm 9), .ref (qm 10), .ref (qm 11), .ref (qm 12), .ref (qm 13), .int (sm 0 22), .int (sm 0 23), .ref (qm 14), .ref (qm 15), .int (sm 0 26), .ref (qm 16), .ref (qm 17), .long (tm 0 29), .long (tm 0 30), .long (tm 0 31), .int (sm 0 32)])), (qm 1, .inl (k 0, 26, .inl (sm 1))), (qm 2, .inl (k 0, 26, .inl (sm 2))), (qm 3, .inl (k 0, 64, .inl (sm 3))), (qm 4, .inl (k 0, 15, .inl (sm 4))), (qm 5, .inl (k 0, 5, .inl g171)), (qm 6, .inl (k 1, 1000, .inr (.inl (tm 6)))), (qm 7, .inl (k 1, 1000, .inr (.inl (tm 7)))), (qm 8, .inl (k 1, 50, .inr (.inl (tm 8)))), (qm 9, .inl (k 1, 50, .inr (.inl (tm 9)))), (qm 10, .inl (k 1, 1500, .inr (.inl (tm 10)))), (qm 11, .inl (k 1, 1500, .inr (.inl (tm 11)))), (qm 12, .inl (k 0, 1500, .inl (sm 12))), (qm 13, .inl (k 0, 5, .inl (sm 13))), (qm 14, .inl (k 3, 2, .inl (sm 14))), (qm 15, .inl (k 0, 14, .inl (sm 15))), (qm 16, .inl (k 0, 5, .inl (sm 16))), (qm 17, .inl (k 0, 5, .inl (sm 17)))] := hD
            refine lv_aload_n hx hb dX12_readRule_79 rfl (lv_at hl 2 rfl) ?_
            refine lv_dup hx hb dX12_readRule_80 rfl ?_
            refine g_get cx hP iw_X12_readRule_X12 0 rfl rfl 13 (by decide) rfl fw_X12_readRule_130 rfl dX12_readRule_81 ?_
            refine lv_iconst (v := 1) hx hb dX12_readRule_84 (by decide) ?_
            refine lv_iadd hx hb dX12_readRule_85 (lv_topi (fun v172 e172 => ?_))
            refine g_pt cx hP hD hS iw_X12_readRule_X12 tyX12 tyX12_ok nmX12 0 rfl rfl 13 (by decide) rfl fw_X12_readRule_130 (ty := .int) rfl rfl rfl (Nat.le_of_ble_eq_true rfl) dX12_readRule_86 (fun H locs hP hD hS => ?_)
            have hP : va_P D vwCl [(qm 0, .inr (10, [.ref (qm 1), .ref (qm 2), .ref (qm 3), .int (sm 0 3), .int m162, .int m163, .int (sm 0 6), .int (sm 0 7), .int (sm 0 8), .int (sm 0 9), .int (sm 0 10), .ref (qm 4), .ref (qm 5), .int v172, .ref (qm 6), .ref (qm 7), .ref (qm 8), .ref (qm 9), .ref (qm 10), .ref (qm 11), .ref (qm 12), .ref (qm 13), .int (sm 0 22), .int (sm 0 23), .ref (qm 14), .ref (qm 15), .int (sm 0 26), .ref (qm 16), .ref (qm 17), .long (tm 0 29), .long (tm 0 30), .long (tm 0 31), .int (sm 0 32)])), (qm 1, .inl (k 0, 26, .inl (sm 1))), (qm 2, .inl (k 0, 26, .inl (sm 2))), (qm 3, .inl (k 0, 64, .inl (sm 3))), (qm 4, .inl (k 0, 15, .inl (sm 4))), (qm 5, .inl (k 0, 5, .inl g171)), (qm 6, .inl (k 1, 1000, .inr (.inl (tm 6)))), (qm 7, .inl (k 1, 1000, .inr (.inl (tm 7)))), (qm 8, .inl (k 1, 50, .inr (.inl (tm 8)))), (qm 9, .inl (k 1, 50, .inr (.inl (tm 9)))), (qm 10, .inl (k 1, 1500, .inr (.inl (tm 10)))), (qm 11, .inl (k 1, 1500, .inr (.inl (tm 11)))), (qm 12, .inl (k 0, 1500, .inl (sm 12))), (qm 13, .inl (k 0, 5, .inl (sm 13))), (qm 14, .inl (k 3, 2, .inl (sm 14))), (qm 15, .inl (k 0, 14, .inl (sm 15))), (qm 16, .inl (k 0, 5, .inl (sm 16))), (qm 17, .inl (k 0, 5, .inl (sm 17)))] H := hP
            have hD : va_D A [(qm 0, .inr (10, [.ref (qm 1), .ref (qm 2), .ref (qm 3), .int (sm 0 3), .int m162, .int m163, .int (sm 0 6), .int (sm 0 7), .int (sm 0 8), .int (sm 0 9), .int (sm 0 10), .ref (qm 4), .ref (qm 5), .int v172, .ref (qm 6), .ref (qm 7), .ref (qm 8), .ref (qm 9), .ref (qm 10), .ref (qm 11), .ref (qm 12), .ref (qm 13), .int (sm 0 22), .int (sm 0 23), .ref (qm 14), .ref (qm 15), .int (sm 0 26), .ref (qm 16), .ref (qm 17), .long (tm 0 29), .long (tm 0 30), .long (tm 0 31), .int (sm 0 32)])), (qm 1, .inl (k 0, 26, .inl (sm 1))), (qm 2, .inl (k 0, 26, .inl (sm 2))), (qm 3, .inl (k 0, 64, .inl (sm 3))), (qm 4, .inl (k 0, 15, .inl (sm 4))), (qm 5, .inl (k 0, 5, .inl g171)), (qm 6, .inl (k 1, 1000, .inr (.inl (tm 6)))), (qm 7, .inl (k 1, 1000, .inr (.inl (tm 7)))), (qm 8, .inl (k 1, 50, .inr (.inl (tm 8)))), (qm 9, .inl (k 1, 50, .inr (.inl (tm 9)))), (qm 10, .inl (k 1, 1500, .inr (.inl (tm 10)))), (qm 11, .inl (k 1, 1500, .inr (.inl (tm 11)))), (qm 12, .inl (k 0, 1500, .inl (sm 12))), (qm 13, .inl (k 0, 5, .inl (sm 13))), (qm 14, .inl (k 3, 2, .inl (sm 14))), (qm 15, .inl (k 0, 14, .inl (sm 15))), (qm 16, .inl (k 0, 5, .inl (sm 16))), (qm 17, .inl (k 0, 5, .inl (sm 17)))] := hD
            refine lv_goto (tgt := 19) hx hb dX12_readRule_89 (by decide) ?_
            exact ih19 v158 m162 m163 v172 g171 _ _ _ (by omega) (by first | decide | omega) (by first | decide | omega) hP hD hS (lv_sub hl [0, 2] rfl)
  have hlit173 : (31 : Int32).toInt = 31 := by decide
  have hlit174 : (0 : Int32).toInt = 0 := by decide
  have hlit175 : (-9 : Int32).toInt = -9 := by decide
  have hlit176 : (0 : Int32).toInt = 0 := by decide
  exact hL19 (200) 31 0 (-9) 0 (sm 5) _ _ _ (by omega) (by first | decide | omega) (by first | decide | omega) hP hD hS (lv_sub hl [0, 1] rfl)
theorem kJ_X12_isRule_146 : Cond.constantLong RX12 146 (2) ∈ wsX12_isRule := by decide +kernel
set_option maxHeartbeats 4000000 in
set_option maxRecDepth 100000 in
theorem c_X12_isRule (l : Launch) (D : va_G) (k : Nat → ClassId) (b : Nat → Nat) (sz : Nat) (p0 : Int32) : MetI l D k b yX12_isRule wsX12_isRule ({ frames := 1, cells := 0, slots := 0, locals := 25 } : Room) [] sz [.int p0] (fun (r : Int32) (u : Unit) => (0 ≤ r.toInt ∧ r.toInt ≤ 1) ∧ (Imp (r.toInt = 1) (0 ≤ p0.toInt ∧ p0.toInt ≤ 2))) (fun u => []) := by
  refine g_enter (cc := cX12_isRule) (maxL := 1) (ret := (some .boolean)) (by decide) rfl (Nat.le_of_ble_eq_true rfl) ?_
  intro p e s m below meth c A hsz hAe cx hr hP hD hS ls hl
  rw [hAe]
  refine g_q (fun Q hQ => ?_)
  have hx := cx.1.1
  have hb := cx.1.2.1
  have bp0 := i_rng p0
  have hl : lv_has ls 1 [(0, .int p0)] := hl
  obtain ⟨H, eH⟩ : ∃ H : Heap, H = s.heap := ⟨_, rfl⟩
  obtain ⟨locs, el⟩ : ∃ L : List Loc, L = [] := ⟨_, rfl⟩
  have hP : va_P D vwCl [] H := by rw [eH]; exact hP
  have hD : va_D A [] := hD
  have hS : va_S A s.heap H locs := by rw [eH, el]; exact hS
  suffices goal : W p l e ({ frames := 1, cells := 0, slots := 0, locals := 25 } : Room) s m ([.int p0] : List Value).toArray below meth c H locs 0 0 Q (F0 m 0 ls []) by rw [eH, el] at goal; exact goal
  refine lv_iload_n hx hb dX12_isRule_0 rfl (lv_at hl 0 rfl) ?_
  obtain ⟨v1, e1⟩ : ∃ z : Int64, z = (p0 : Int32).toInt64 := ⟨_, rfl⟩
  refine lv_i2l (v := v1) hx hb dX12_isRule_1 e1.symm ?_
  refine lv_lconst (v := 0) hx hb dX12_isRule_2 (by decide) ?_
  refine lv_ldc2 (v := 2) hx hb cx.1.2.2.2.1 (cx.1.2.2.2.2 _ kJ_X12_isRule_146) dX12_isRule_3 ?_
  refine g_ir (g_runS (wc := []) (rest := []) cx hP hD hS [] rfl (by decide) [.long v1, .long 0, .long 2] (c_X12_in l D k b H.size v1 0 2) gX12_isRule_X12_in rfl rfl rfl nd_X12_in ⟨Nat.le_of_ble_eq_true rfl, Nat.le_of_ble_eq_true rfl⟩ rfl hl.1 rfl (Nat.le_of_ble_eq_true rfl) ⟨Nat.zero_le _, Nat.zero_le _⟩ dX12_isRule_6) cx.2.2.1 hP hD hS [] rfl rfl (fun r3 H locs hw2 hP hS => ?_)
  have w4 : r3 = J_X12_in v1 (0 : Int64) (2 : Int64) := hw2
  clear hw2
  have zr3 := in_b w4
  rw [hQ]
  exact x_z cx hr (nar_z (by omega)) () hP hD hS ⟨(show 0 ≤ r3.toInt ∧ r3.toInt ≤ 1 from by omega), (show Imp (r3.toInt = 1) (0 ≤ p0.toInt ∧ p0.toInt ≤ 2) from fun h => by have q : 0 ≤ p0.toInt ∧ p0.toInt ≤ 2 := in_t (i2l_t rfl e1) (by decide) (by decide) w4 (ne1 h); omega)⟩ dX12_isRule_9
theorem kJ_X12_isGone_248 : Cond.constantLong RX12 248 (444) ∈ wsX12_isGone := by decide +kernel
def J_X12_isGone (p0 : Int32) : Int32 := if (J_X12_in (p0.toInt64) 0 444) = 0 then (0 : Int32) else if 5 ≤ ((p0 / 10) - (p0 / 10) / 10 * 10) then (0 : Int32) else if 5 ≤ (p0 - p0 / 10 * 10) then (0 : Int32) else (1 : Int32)
set_option maxHeartbeats 4000000 in
set_option maxRecDepth 100000 in
theorem c_X12_isGone (l : Launch) (D : va_G) (k : Nat → ClassId) (b : Nat → Nat) (sz : Nat) (p0 : Int32) : MetI l D k b yX12_isGone wsX12_isGone ({ frames := 1, cells := 0, slots := 0, locals := 25 } : Room) [] sz [.int p0] (fun (r : Int32) (u : Unit) => r = J_X12_isGone p0) (fun u => []) := by
  refine g_enter (cc := cX12_isGone) (maxL := 1) (ret := (some .boolean)) (by decide) rfl (Nat.le_of_ble_eq_true rfl) ?_
  intro p e s m below meth c A hsz hAe cx hr hP hD hS ls hl
  rw [hAe]
  refine g_q (fun Q hQ => ?_)
  have hx := cx.1.1
  have hb := cx.1.2.1
  have hl : lv_has ls 1 [(0, .int p0)] := hl
  obtain ⟨H, eH⟩ : ∃ H : Heap, H = s.heap := ⟨_, rfl⟩
  obtain ⟨locs, el⟩ : ∃ L : List Loc, L = [] := ⟨_, rfl⟩
  have hP : va_P D vwCl [] H := by rw [eH]; exact hP
  have hD : va_D A [] := hD
  have hS : va_S A s.heap H locs := by rw [eH, el]; exact hS
  suffices goal : W p l e ({ frames := 1, cells := 0, slots := 0, locals := 25 } : Room) s m ([.int p0] : List Value).toArray below meth c H locs 0 0 Q (F0 m 0 ls []) by rw [eH, el] at goal; exact goal
  refine lv_iload_n hx hb dX12_isGone_0 rfl (lv_at hl 0 rfl) ?_
  obtain ⟨v1, e1⟩ : ∃ z : Int64, z = (p0 : Int32).toInt64 := ⟨_, rfl⟩
  refine lv_i2l (v := v1) hx hb dX12_isGone_1 e1.symm ?_
  refine lv_lconst (v := 0) hx hb dX12_isGone_2 (by decide) ?_
  refine lv_ldc2 (v := 444) hx hb cx.1.2.2.2.1 (cx.1.2.2.2.2 _ kJ_X12_isGone_248) dX12_isGone_3 ?_
  refine g_ir (g_runS (wc := []) (rest := []) cx hP hD hS [] rfl (by decide) [.long v1, .long 0, .long 444] (c_X12_in l D k b H.size v1 0 444) gX12_isGone_X12_in rfl rfl rfl nd_X12_in ⟨Nat.le_of_ble_eq_true rfl, Nat.le_of_ble_eq_true rfl⟩ rfl hl.1 rfl (Nat.le_of_ble_eq_true rfl) ⟨Nat.zero_le _, Nat.zero_le _⟩ dX12_isGone_6) cx.2.2.1 hP hD hS [] rfl rfl (fun r3 H locs hw2 hP hS => ?_)
  have w4 : r3 = J_X12_in v1 (0 : Int64) (444 : Int64) := hw2
  clear hw2
  refine lv_if_eq (tgt := 35) hx hb dX12_isGone_9 (by decide) (fun c5 => ?_) (fun c5 => ?_)
  · refine lv_iconst (v := 0) hx hb dX12_isGone_35 (by decide) ?_
    rw [hQ]
    exact x_z cx hr (by decide) () hP hD hS (show 0 = J_X12_isGone p0 from by subst e1 w4; unfold J_X12_isGone; rw [if_pos c5]) dX12_isGone_36
  · refine lv_iload_n hx hb dX12_isGone_12 rfl (lv_at hl 0 rfl) ?_
    refine lv_bipush (v := 10) hx hb dX12_isGone_13 (by decide) ?_
    refine lv_idiv hx hb dX12_isGone_15 (by decide) (lv_topi (fun v6 e6 => ?_))
    refine lv_bipush (v := 10) hx hb dX12_isGone_16 (by decide) ?_
    refine lv_irem hx hb dX12_isGone_18 (by decide) (lv_topi (fun v7 e7 => ?_))
    refine lv_iconst (v := 5) hx hb dX12_isGone_19 (by decide) ?_
    refine lv_icmp_ge (tgt := 35) hx hb dX12_isGone_20 (by decide) (fun c8 => ?_) (fun c8 => ?_)
    · refine lv_iconst (v := 0) hx hb dX12_isGone_35 (by decide) ?_
      rw [hQ]
      exact x_z cx hr (by decide) () hP hD hS (show 0 = J_X12_isGone p0 from by subst e1 w4 e6 e7; unfold J_X12_isGone; rw [if_neg c5, if_pos c8]) dX12_isGone_36
    · refine lv_iload_n hx hb dX12_isGone_23 rfl (lv_at hl 0 rfl) ?_
      refine lv_bipush (v := 10) hx hb dX12_isGone_24 (by decide) ?_
      refine lv_irem hx hb dX12_isGone_26 (by decide) (lv_topi (fun v9 e9 => ?_))
      refine lv_iconst (v := 5) hx hb dX12_isGone_27 (by decide) ?_
      refine lv_icmp_ge (tgt := 35) hx hb dX12_isGone_28 (by decide) (fun c10 => ?_) (fun c10 => ?_)
      · refine lv_iconst (v := 0) hx hb dX12_isGone_35 (by decide) ?_
        rw [hQ]
        exact x_z cx hr (by decide) () hP hD hS (show 0 = J_X12_isGone p0 from by subst e1 w4 e6 e7 e9; unfold J_X12_isGone; rw [if_neg c5, if_neg c8, if_pos c10]) dX12_isGone_36
      · refine lv_iconst (v := 1) hx hb dX12_isGone_31 (by decide) ?_
        refine lv_goto (tgt := 36) hx hb dX12_isGone_32 (by decide) ?_
        rw [hQ]
        exact x_z cx hr (by decide) () hP hD hS (show 1 = J_X12_isGone p0 from by subst e1 w4 e6 e7 e9; unfold J_X12_isGone; rw [if_neg c5, if_neg c8, if_neg c10]) dX12_isGone_36
theorem fw_X12_isWeek_13 : Cond.fieldLink RX12 13 "StillInAugustModel" "house" "[I" ∈ wsX12_isWeek := by decide +kernel
theorem iw_X12_isWeek_X12 : ∀ w ∈ u_ws RX12 TX12 33, w ∈ wsX12_isWeek := fun _ h => List.mem_cons_of_mem _ (List.mem_append_right _ h)
set_option maxHeartbeats 4000000 in
set_option maxRecDepth 100000 in
theorem c_X12_isWeek (l : Launch) (D : va_G) (k : Nat → ClassId) (b : Nat → Nat) (qm : Nat → Nat) (sm : Nat → Nat → Int32) (tm : Nat → Nat → Int64) (sz : Nat) (p0 : Int32) (h_w0 : 0 ≤ (sm 2 0).toInt ∧ (sm 2 0).toInt ≤ 5) : MetI l D k b yX12_isWeek wsX12_isWeek ({ frames := 1, cells := 0, slots := 0, locals := 25 } : Room) [(qm 0, .inr (10, [.ref (qm 1), .ref (qm 2), .ref (qm 3), .int (sm 0 3), .int (sm 0 4), .int (sm 0 5), .int (sm 0 6), .int (sm 0 7), .int (sm 0 8), .int (sm 0 9), .int (sm 0 10), .ref (qm 4), .ref (qm 5), .int (sm 0 13), .ref (qm 6), .ref (qm 7), .ref (qm 8), .ref (qm 9), .ref (qm 10), .ref (qm 11), .ref (qm 12), .ref (qm 13), .int (sm 0 22), .int (sm 0 23), .ref (qm 14), .ref (qm 15), .int (sm 0 26), .ref (qm 16), .ref (qm 17), .long (tm 0 29), .long (tm 0 30), .long (tm 0 31), .int (sm 0 32)])), (qm 1, .inl (k 0, 26, .inl (sm 1))), (qm 2, .inl (k 0, 26, .inl (sm 2))), (qm 3, .inl (k 0, 64, .inl (sm 3))), (qm 4, .inl (k 0, 15, .inl (sm 4))), (qm 5, .inl (k 0, 5, .inl (sm 5))), (qm 6, .inl (k 1, 1000, .inr (.inl (tm 6)))), (qm 7, .inl (k 1, 1000, .inr (.inl (tm 7)))), (qm 8, .inl (k 1, 50, .inr (.inl (tm 8)))), (qm 9, .inl (k 1, 50, .inr (.inl (tm 9)))), (qm 10, .inl (k 1, 1500, .inr (.inl (tm 10)))), (qm 11, .inl (k 1, 1500, .inr (.inl (tm 11)))), (qm 12, .inl (k 0, 1500, .inl (sm 12))), (qm 13, .inl (k 0, 5, .inl (sm 13))), (qm 14, .inl (k 3, 2, .inl (sm 14))), (qm 15, .inl (k 0, 14, .inl (sm 15))), (qm 16, .inl (k 0, 5, .inl (sm 16))), (qm 17, .inl (k 0, 5, .inl (sm 17)))] sz [.ref (qm 0), .int p0] (fun (r : Int32) (u : Unit) => (0 ≤ r.toInt ∧ r.toInt ≤ 1) ∧ (Imp (r.toInt = 1) (0 ≤ p0.toInt ∧ p0.toInt ≤ 4))) (fun u => [(qm 0, .inr (10, [.ref (qm 1), .ref (qm 2), .ref (qm 3), .int (sm 0 3), .int (sm 0 4), .int (sm 0 5), .int (sm 0 6), .int (sm 0 7), .int (sm 0 8), .int (sm 0 9), .int (sm 0 10), .ref (qm 4), .ref (qm 5), .int (sm 0 13), .ref (qm 6), .ref (qm 7), .ref (qm 8), .ref (qm 9), .ref (qm 10), .ref (qm 11), .ref (qm 12), .ref (qm 13), .int (sm 0 22), .int (sm 0 23), .ref (qm 14), .ref (qm 15), .int (sm 0 26), .ref (qm 16), .ref (qm 17), .long (tm 0 29), .long (tm 0 30), .long (tm 0 31), .int (sm 0 32)])), (qm 1, .inl (k 0, 26, .inl (sm 1))), (qm 2, .inl (k 0, 26, .inl (sm 2))), (qm 3, .inl (k 0, 64, .inl (sm 3))), (qm 4, .inl (k 0, 15, .inl (sm 4))), (qm 5, .inl (k 0, 5, .inl (sm 5))), (qm 6, .inl (k 1, 1000, .inr (.inl (tm 6)))), (qm 7, .inl (k 1, 1000, .inr (.inl (tm 7)))), (qm 8, .inl (k 1, 50, .inr (.inl (tm 8)))), (qm 9, .inl (k 1, 50, .inr (.inl (tm 9)))), (qm 10, .inl (k 1, 1500, .inr (.inl (tm 10)))), (qm 11, .inl (k 1, 1500, .inr (.inl (tm 11)))), (qm 12, .inl (k 0, 1500, .inl (sm 12))), (qm 13, .inl (k 0, 5, .inl (sm 13))), (qm 14, .inl (k 3, 2, .inl (sm 14))), (qm 15, .inl (k 0, 14, .inl (sm 15))), (qm 16, .inl (k 0, 5, .inl (sm 16))), (qm 17, .inl (k 0, 5, .inl (sm 17)))]) := by
  refine g_enter (cc := cX12_isWeek) (maxL := 2) (ret := (some .boolean)) (by decide) rfl (Nat.le_of_ble_eq_true rfl) ?_
  intro p e s m below meth c A hsz hAe cx hr hP hD hS ls hl
  rw [hAe]
  refine g_q (fun Q hQ => ?_)
  have hx := cx.1.1
  have hb := cx.1.2.1
  have bp0 := i_rng p0
  have hl : lv_has ls 2 [(0, .ref (qm 0)), (1, .int p0)] := hl
  obtain ⟨H, eH⟩ : ∃ H : Heap, H = s.heap := ⟨_, rfl⟩
  obtain ⟨locs, el⟩ : ∃ L : List Loc, L = [] := ⟨_, rfl⟩
  have hP : va_P D vwCl [(qm 0, .inr (10, [.ref (qm 1), .ref (qm 2), .ref (qm 3), .int (sm 0 3), .int (sm 0 4), .int (sm 0 5), .int (sm 0 6), .int (sm 0 7), .int (sm 0 8), .int (sm 0 9), .int (sm 0 10), .ref (qm 4), .ref (qm 5), .int (sm 0 13), .ref (qm 6), .ref (qm 7), .ref (qm 8), .ref (qm 9), .ref (qm 10), .ref (qm 11), .ref (qm 12), .ref (qm 13), .int (sm 0 22), .int (sm 0 23), .ref (qm 14), .ref (qm 15), .int (sm 0 26), .ref (qm 16), .ref (qm 17), .long (tm 0 29), .long (tm 0 30), .long (tm 0 31), .int (sm 0 32)])), (qm 1, .inl (k 0, 26, .inl (sm 1))), (qm 2, .inl (k 0, 26, .inl (sm 2))), (qm 3, .inl (k 0, 64, .inl (sm 3))), (qm 4, .inl (k 0, 15, .inl (sm 4))), (qm 5, .inl (k 0, 5, .inl (sm 5))), (qm 6, .inl (k 1, 1000, .inr (.inl (tm 6)))), (qm 7, .inl (k 1, 1000, .inr (.inl (tm 7)))), (qm 8, .inl (k 1, 50, .inr (.inl (tm 8)))), (qm 9, .inl (k 1, 50, .inr (.inl (tm 9)))), (qm 10, .inl (k 1, 1500, .inr (.inl (tm 10)))), (qm 11, .inl (k 1, 1500, .inr (.inl (tm 11)))), (qm 12, .inl (k 0, 1500, .inl (sm 12))), (qm 13, .inl (k 0, 5, .inl (sm 13))), (qm 14, .inl (k 3, 2, .inl (sm 14))), (qm 15, .inl (k 0, 14, .inl (sm 15))), (qm 16, .inl (k 0, 5, .inl (sm 16))), (qm 17, .inl (k 0, 5, .inl (sm 17)))] H := by rw [eH]; exact hP
  have hD : va_D A [(qm 0, .inr (10, [.ref (qm 1), .ref (qm 2), .ref (qm 3), .int (sm 0 3), .int (sm 0 4), .int (sm 0 5), .int (sm 0 6), .int (sm 0 7), .int (sm 0 8), .int (sm 0 9), .int (sm 0 10), .ref (qm 4), .ref (qm 5), .int (sm 0 13), .ref (qm 6), .ref (qm 7), .ref (qm 8), .ref (qm 9), .ref (qm 10), .ref (qm 11), .ref (qm 12), .ref (qm 13), .int (sm 0 22), .int (sm 0 23), .ref (qm 14), .ref (qm 15), .int (sm 0 26), .ref (qm 16), .ref (qm 17), .long (tm 0 29), .long (tm 0 30), .long (tm 0 31), .int (sm 0 32)])), (qm 1, .inl (k 0, 26, .inl (sm 1))), (qm 2, .inl (k 0, 26, .inl (sm 2))), (qm 3, .inl (k 0, 64, .inl (sm 3))), (qm 4, .inl (k 0, 15, .inl (sm 4))), (qm 5, .inl (k 0, 5, .inl (sm 5))), (qm 6, .inl (k 1, 1000, .inr (.inl (tm 6)))), (qm 7, .inl (k 1, 1000, .inr (.inl (tm 7)))), (qm 8, .inl (k 1, 50, .inr (.inl (tm 8)))), (qm 9, .inl (k 1, 50, .inr (.inl (tm 9)))), (qm 10, .inl (k 1, 1500, .inr (.inl (tm 10)))), (qm 11, .inl (k 1, 1500, .inr (.inl (tm 11)))), (qm 12, .inl (k 0, 1500, .inl (sm 12))), (qm 13, .inl (k 0, 5, .inl (sm 13))), (qm 14, .inl (k 3, 2, .inl (sm 14))), (qm 15, .inl (k 0, 14, .inl (sm 15))), (qm 16, .inl (k 0, 5, .inl (sm 16))), (qm 17, .inl (k 0, 5, .inl (sm 17)))] := hD
  have hS : va_S A s.heap H locs := by rw [eH, el]; exact hS
  suffices goal : W p l e ({ frames := 1, cells := 0, slots := 0, locals := 25 } : Room) s m ([.ref (qm 0), .int p0] : List Value).toArray below meth c H locs 0 0 Q (F0 m 0 ls []) by rw [eH, el] at goal; exact goal
  refine lv_iload_n hx hb dX12_isWeek_0 rfl (lv_at hl 1 rfl) ?_
  obtain ⟨v1, e1⟩ : ∃ z : Int64, z = (p0 : Int32).toInt64 := ⟨_, rfl⟩
  refine lv_i2l (v := v1) hx hb dX12_isWeek_1 e1.symm ?_
  refine lv_lconst (v := 0) hx hb dX12_isWeek_2 (by decide) ?_
  refine lv_aload_n hx hb dX12_isWeek_3 rfl (lv_at hl 0 rfl) ?_
  refine g_get cx hP iw_X12_isWeek_X12 0 rfl rfl 1 (by decide) rfl fw_X12_isWeek_13 rfl dX12_isWeek_4 ?_
  refine lv_iconst (v := 0) hx hb dX12_isWeek_7 (by decide) ?_
  have hn2 : vp_in 0 26 := f_in (a := 0) (by decide) (by omega) (by omega)
  refine va_iald hx hb cx.2.1 hP 2 0 rfl rfl hn2 dX12_isWeek_8 (lv_topi (fun v3 e3 => ?_))
  have uv3 : v3.toInt = ((sm 2) 0).toInt := congrArg Int32.toInt e3
  have t3 : 0 ≤ v3.toInt ∧ v3.toInt ≤ 5 := by rw [e3]; exact h_w0
  refine lv_iconst (v := 1) hx hb dX12_isWeek_9 (by decide) ?_
  refine lv_isub hx hb dX12_isWeek_10 (lv_topi (fun v4 e4 => ?_))
  have t4 : v4.toInt = v3.toInt - 1 := by rw [e4]; exact i_sub rfl (by decide) (by omega) (by omega)
  obtain ⟨v5, e5⟩ : ∃ z : Int64, z = (v4 : Int32).toInt64 := ⟨_, rfl⟩
  refine lv_i2l (v := v5) hx hb dX12_isWeek_11 e5.symm ?_
  refine g_ir (g_runS (wc := []) (rest := []) cx hP hD hS [] rfl (by decide) [.long v1, .long 0, .long v5] (c_X12_in l D k b H.size v1 0 v5) gX12_isWeek_X12_in rfl rfl rfl nd_X12_in ⟨Nat.le_of_ble_eq_true rfl, Nat.le_of_ble_eq_true rfl⟩ rfl hl.1 rfl (Nat.le_of_ble_eq_true rfl) ⟨Nat.zero_le _, Nat.zero_le _⟩ dX12_isWeek_12) cx.2.2.1 hP hD hS [] rfl rfl (fun r7 H locs hw6 hP hS => ?_)
  have w8 : r7 = J_X12_in v1 (0 : Int64) v5 := hw6
  clear hw6
  have zr7 := in_b w8
  rw [hQ]
  exact x_z cx hr (nar_z (by omega)) () hP hD hS ⟨(show 0 ≤ r7.toInt ∧ r7.toInt ≤ 1 from by omega), (show Imp (r7.toInt = 1) (0 ≤ p0.toInt ∧ p0.toInt ≤ 4) from fun h => by have q : 0 ≤ p0.toInt ∧ p0.toInt ≤ v4.toInt := in_t (i2l_t rfl e1) (by decide) (i2l_t rfl e5) w8 (ne1 h); omega)⟩ dX12_isWeek_15
theorem fw_X12_goes_13 : Cond.fieldLink RX12 13 "StillInAugustModel" "house" "[I" ∈ wsX12_goes := by decide +kernel
theorem iw_X12_goes_X12 : ∀ w ∈ u_ws RX12 TX12 33, w ∈ wsX12_goes := fun _ h => List.mem_cons_of_mem _ (List.mem_append_right _ h)
set_option maxHeartbeats 4000000 in
set_option maxRecDepth 100000 in
theorem c_X12_goes (l : Launch) (D : va_G) (k : Nat → ClassId) (b : Nat → Nat) (qm : Nat → Nat) (sm : Nat → Nat → Int32) (tm : Nat → Nat → Int64) (sz : Nat) (p0 : Int32) (hp0 : 0 ≤ p0.toInt ∧ p0.toInt ≤ 2) : MetI l D k b yX12_goes wsX12_goes ({ frames := 0, cells := 0, slots := 0, locals := 0 } : Room) [(qm 0, .inr (10, [.ref (qm 1), .ref (qm 2), .ref (qm 3), .int (sm 0 3), .int (sm 0 4), .int (sm 0 5), .int (sm 0 6), .int (sm 0 7), .int (sm 0 8), .int (sm 0 9), .int (sm 0 10), .ref (qm 4), .ref (qm 5), .int (sm 0 13), .ref (qm 6), .ref (qm 7), .ref (qm 8), .ref (qm 9), .ref (qm 10), .ref (qm 11), .ref (qm 12), .ref (qm 13), .int (sm 0 22), .int (sm 0 23), .ref (qm 14), .ref (qm 15), .int (sm 0 26), .ref (qm 16), .ref (qm 17), .long (tm 0 29), .long (tm 0 30), .long (tm 0 31), .int (sm 0 32)])), (qm 1, .inl (k 0, 26, .inl (sm 1))), (qm 2, .inl (k 0, 26, .inl (sm 2))), (qm 3, .inl (k 0, 64, .inl (sm 3))), (qm 4, .inl (k 0, 15, .inl (sm 4))), (qm 5, .inl (k 0, 5, .inl (sm 5))), (qm 6, .inl (k 1, 1000, .inr (.inl (tm 6)))), (qm 7, .inl (k 1, 1000, .inr (.inl (tm 7)))), (qm 8, .inl (k 1, 50, .inr (.inl (tm 8)))), (qm 9, .inl (k 1, 50, .inr (.inl (tm 9)))), (qm 10, .inl (k 1, 1500, .inr (.inl (tm 10)))), (qm 11, .inl (k 1, 1500, .inr (.inl (tm 11)))), (qm 12, .inl (k 0, 1500, .inl (sm 12))), (qm 13, .inl (k 0, 5, .inl (sm 13))), (qm 14, .inl (k 3, 2, .inl (sm 14))), (qm 15, .inl (k 0, 14, .inl (sm 15))), (qm 16, .inl (k 0, 5, .inl (sm 16))), (qm 17, .inl (k 0, 5, .inl (sm 17)))] sz [.ref (qm 0), .int p0] (fun (r : Int32) (u : Unit) => True) (fun u => [(qm 0, .inr (10, [.ref (qm 1), .ref (qm 2), .ref (qm 3), .int (sm 0 3), .int (sm 0 4), .int (sm 0 5), .int (sm 0 6), .int (sm 0 7), .int (sm 0 8), .int (sm 0 9), .int (sm 0 10), .ref (qm 4), .ref (qm 5), .int (sm 0 13), .ref (qm 6), .ref (qm 7), .ref (qm 8), .ref (qm 9), .ref (qm 10), .ref (qm 11), .ref (qm 12), .ref (qm 13), .int (sm 0 22), .int (sm 0 23), .ref (qm 14), .ref (qm 15), .int (sm 0 26), .ref (qm 16), .ref (qm 17), .long (tm 0 29), .long (tm 0 30), .long (tm 0 31), .int (sm 0 32)])), (qm 1, .inl (k 0, 26, .inl (sm 1))), (qm 2, .inl (k 0, 26, .inl (sm 2))), (qm 3, .inl (k 0, 64, .inl (sm 3))), (qm 4, .inl (k 0, 15, .inl (sm 4))), (qm 5, .inl (k 0, 5, .inl (sm 5))), (qm 6, .inl (k 1, 1000, .inr (.inl (tm 6)))), (qm 7, .inl (k 1, 1000, .inr (.inl (tm 7)))), (qm 8, .inl (k 1, 50, .inr (.inl (tm 8)))), (qm 9, .inl (k 1, 50, .inr (.inl (tm 9)))), (qm 10, .inl (k 1, 1500, .inr (.inl (tm 10)))), (qm 11, .inl (k 1, 1500, .inr (.inl (tm 11)))), (qm 12, .inl (k 0, 1500, .inl (sm 12))), (qm 13, .inl (k 0, 5, .inl (sm 13))), (qm 14, .inl (k 3, 2, .inl (sm 14))), (qm 15, .inl (k 0, 14, .inl (sm 15))), (qm 16, .inl (k 0, 5, .inl (sm 16))), (qm 17, .inl (k 0, 5, .inl (sm 17)))]) := by
  refine g_enter (cc := cX12_goes) (maxL := 3) (ret := (some .int)) (by decide) rfl (Nat.le_of_ble_eq_true rfl) ?_
  intro p e s m below meth c A hsz hAe cx hr hP hD hS ls hl
  rw [hAe]
  refine g_q (fun Q hQ => ?_)
  have hx := cx.1.1
  have hb := cx.1.2.1
  have bp0 := i_rng p0
  have hl : lv_has ls 3 [(0, .ref (qm 0)), (1, .int p0)] := hl
  obtain ⟨H, eH⟩ : ∃ H : Heap, H = s.heap := ⟨_, rfl⟩
  obtain ⟨locs, el⟩ : ∃ L : List Loc, L = [] := ⟨_, rfl⟩
  have hP : va_P D vwCl [(qm 0, .inr (10, [.ref (qm 1), .ref (qm 2), .ref (qm 3), .int (sm 0 3), .int (sm 0 4), .int (sm 0 5), .int (sm 0 6), .int (sm 0 7), .int (sm 0 8), .int (sm 0 9), .int (sm 0 10), .ref (qm 4), .ref (qm 5), .int (sm 0 13), .ref (qm 6), .ref (qm 7), .ref (qm 8), .ref (qm 9), .ref (qm 10), .ref (qm 11), .ref (qm 12), .ref (qm 13), .int (sm 0 22), .int (sm 0 23), .ref (qm 14), .ref (qm 15), .int (sm 0 26), .ref (qm 16), .ref (qm 17), .long (tm 0 29), .long (tm 0 30), .long (tm 0 31), .int (sm 0 32)])), (qm 1, .inl (k 0, 26, .inl (sm 1))), (qm 2, .inl (k 0, 26, .inl (sm 2))), (qm 3, .inl (k 0, 64, .inl (sm 3))), (qm 4, .inl (k 0, 15, .inl (sm 4))), (qm 5, .inl (k 0, 5, .inl (sm 5))), (qm 6, .inl (k 1, 1000, .inr (.inl (tm 6)))), (qm 7, .inl (k 1, 1000, .inr (.inl (tm 7)))), (qm 8, .inl (k 1, 50, .inr (.inl (tm 8)))), (qm 9, .inl (k 1, 50, .inr (.inl (tm 9)))), (qm 10, .inl (k 1, 1500, .inr (.inl (tm 10)))), (qm 11, .inl (k 1, 1500, .inr (.inl (tm 11)))), (qm 12, .inl (k 0, 1500, .inl (sm 12))), (qm 13, .inl (k 0, 5, .inl (sm 13))), (qm 14, .inl (k 3, 2, .inl (sm 14))), (qm 15, .inl (k 0, 14, .inl (sm 15))), (qm 16, .inl (k 0, 5, .inl (sm 16))), (qm 17, .inl (k 0, 5, .inl (sm 17)))] H := by rw [eH]; exact hP
  have hD : va_D A [(qm 0, .inr (10, [.ref (qm 1), .ref (qm 2), .ref (qm 3), .int (sm 0 3), .int (sm 0 4), .int (sm 0 5), .int (sm 0 6), .int (sm 0 7), .int (sm 0 8), .int (sm 0 9), .int (sm 0 10), .ref (qm 4), .ref (qm 5), .int (sm 0 13), .ref (qm 6), .ref (qm 7), .ref (qm 8), .ref (qm 9), .ref (qm 10), .ref (qm 11), .ref (qm 12), .ref (qm 13), .int (sm 0 22), .int (sm 0 23), .ref (qm 14), .ref (qm 15), .int (sm 0 26), .ref (qm 16), .ref (qm 17), .long (tm 0 29), .long (tm 0 30), .long (tm 0 31), .int (sm 0 32)])), (qm 1, .inl (k 0, 26, .inl (sm 1))), (qm 2, .inl (k 0, 26, .inl (sm 2))), (qm 3, .inl (k 0, 64, .inl (sm 3))), (qm 4, .inl (k 0, 15, .inl (sm 4))), (qm 5, .inl (k 0, 5, .inl (sm 5))), (qm 6, .inl (k 1, 1000, .inr (.inl (tm 6)))), (qm 7, .inl (k 1, 1000, .inr (.inl (tm 7)))), (qm 8, .inl (k 1, 50, .inr (.inl (tm 8)))), (qm 9, .inl (k 1, 50, .inr (.inl (tm 9)))), (qm 10, .inl (k 1, 1500, .inr (.inl (tm 10)))), (qm 11, .inl (k 1, 1500, .inr (.inl (tm 11)))), (qm 12, .inl (k 0, 1500, .inl (sm 12))), (qm 13, .inl (k 0, 5, .inl (sm 13))), (qm 14, .inl (k 3, 2, .inl (sm 14))), (qm 15, .inl (k 0, 14, .inl (sm 15))), (qm 16, .inl (k 0, 5, .inl (sm 16))), (qm 17, .inl (k 0, 5, .inl (sm 17)))] := hD
  have hS : va_S A s.heap H locs := by rw [eH, el]; exact hS
  suffices goal : W p l e ({ frames := 0, cells := 0, slots := 0, locals := 0 } : Room) s m ([.ref (qm 0), .int p0] : List Value).toArray below meth c H locs 0 0 Q (F0 m 0 ls []) by rw [eH, el] at goal; exact goal
  refine lv_aload_n hx hb dX12_goes_0 rfl (lv_at hl 0 rfl) ?_
  refine g_get cx hP iw_X12_goes_X12 0 rfl rfl 1 (by decide) rfl fw_X12_goes_13 rfl dX12_goes_1 ?_
  refine lv_bipush (v := 20) hx hb dX12_goes_4 (by decide) ?_
  refine lv_iload_n hx hb dX12_goes_6 rfl (lv_at hl 1 rfl) ?_
  refine lv_iadd hx hb dX12_goes_7 (lv_topi (fun v1 e1 => ?_))
  have t1 : v1.toInt = 20 + p0.toInt := by rw [e1]; exact i_add (by decide) rfl (by omega) (by omega)
  have hn2 : vp_in v1 26 := f_in (a := v1.toInt) rfl (by omega) (by omega)
  refine va_iald hx hb cx.2.1 hP 2 0 rfl rfl hn2 dX12_goes_8 (lv_topi (fun v3 e3 => ?_))
  refine lv_aload_n hx hb dX12_goes_9 rfl (lv_at hl 0 rfl) ?_
  refine g_get cx hP iw_X12_goes_X12 0 rfl rfl 1 (by decide) rfl fw_X12_goes_13 rfl dX12_goes_10 ?_
  refine lv_bipush (v := 7) hx hb dX12_goes_13 (by decide) ?_
  have hn4 : vp_in 7 26 := f_in (a := 7) (by decide) (by omega) (by omega)
  refine va_iald hx hb cx.2.1 hP 2 0 rfl rfl hn4 dX12_goes_15 (lv_topi (fun v5 e5 => ?_))
  have uv5 : v5.toInt = ((sm 2) 7).toInt := congrArg Int32.toInt e5
  refine lv_bipush (v := (-9)) hx hb dX12_goes_16 (by decide) ?_
  have hJ32 : ∀ (v8 : Int32) (H : Heap) (locs : List Loc) (ls : Array Slot), va_P D vwCl [(qm 0, .inr (10, [.ref (qm 1), .ref (qm 2), .ref (qm 3), .int (sm 0 3), .int (sm 0 4), .int (sm 0 5), .int (sm 0 6), .int (sm 0 7), .int (sm 0 8), .int (sm 0 9), .int (sm 0 10), .ref (qm 4), .ref (qm 5), .int (sm 0 13), .ref (qm 6), .ref (qm 7), .ref (qm 8), .ref (qm 9), .ref (qm 10), .ref (qm 11), .ref (qm 12), .ref (qm 13), .int (sm 0 22), .int (sm 0 23), .ref (qm 14), .ref (qm 15), .int (sm 0 26), .ref (qm 16), .ref (qm 17), .long (tm 0 29), .long (tm 0 30), .long (tm 0 31), .int (sm 0 32)])), (qm 1, .inl (k 0, 26, .inl (sm 1))), (qm 2, .inl (k 0, 26, .inl (sm 2))), (qm 3, .inl (k 0, 64, .inl (sm 3))), (qm 4, .inl (k 0, 15, .inl (sm 4))), (qm 5, .inl (k 0, 5, .inl (sm 5))), (qm 6, .inl (k 1, 1000, .inr (.inl (tm 6)))), (qm 7, .inl (k 1, 1000, .inr (.inl (tm 7)))), (qm 8, .inl (k 1, 50, .inr (.inl (tm 8)))), (qm 9, .inl (k 1, 50, .inr (.inl (tm 9)))), (qm 10, .inl (k 1, 1500, .inr (.inl (tm 10)))), (qm 11, .inl (k 1, 1500, .inr (.inl (tm 11)))), (qm 12, .inl (k 0, 1500, .inl (sm 12))), (qm 13, .inl (k 0, 5, .inl (sm 13))), (qm 14, .inl (k 3, 2, .inl (sm 14))), (qm 15, .inl (k 0, 14, .inl (sm 15))), (qm 16, .inl (k 0, 5, .inl (sm 16))), (qm 17, .inl (k 0, 5, .inl (sm 17)))] H → va_D A [(qm 0, .inr (10, [.ref (qm 1), .ref (qm 2), .ref (qm 3), .int (sm 0 3), .int (sm 0 4), .int (sm 0 5), .int (sm 0 6), .int (sm 0 7), .int (sm 0 8), .int (sm 0 9), .int (sm 0 10), .ref (qm 4), .ref (qm 5), .int (sm 0 13), .ref (qm 6), .ref (qm 7), .ref (qm 8), .ref (qm 9), .ref (qm 10), .ref (qm 11), .ref (qm 12), .ref (qm 13), .int (sm 0 22), .int (sm 0 23), .ref (qm 14), .ref (qm 15), .int (sm 0 26), .ref (qm 16), .ref (qm 17), .long (tm 0 29), .long (tm 0 30), .long (tm 0 31), .int (sm 0 32)])), (qm 1, .inl (k 0, 26, .inl (sm 1))), (qm 2, .inl (k 0, 26, .inl (sm 2))), (qm 3, .inl (k 0, 64, .inl (sm 3))), (qm 4, .inl (k 0, 15, .inl (sm 4))), (qm 5, .inl (k 0, 5, .inl (sm 5))), (qm 6, .inl (k 1, 1000, .inr (.inl (tm 6)))), (qm 7, .inl (k 1, 1000, .inr (.inl (tm 7)))), (qm 8, .inl (k 1, 50, .inr (.inl (tm 8)))), (qm 9, .inl (k 1, 50, .inr (.inl (tm 9)))), (qm 10, .inl (k 1, 1500, .inr (.inl (tm 10)))), (qm 11, .inl (k 1, 1500, .inr (.inl (tm 11)))), (qm 12, .inl (k 0, 1500, .inl (sm 12))), (qm 13, .inl (k 0, 5, .inl (sm 13))), (qm 14, .inl (k 3, 2, .inl (sm 14))), (qm 15, .inl (k 0, 14, .inl (sm 15))), (qm 16, .inl (k 0, 5, .inl (sm 16))), (qm 17, .inl (k 0, 5, .inl (sm 17)))] → va_S A s.heap H locs → lv_has ls 3 [] → W p l e ({ frames := 0, cells := 0, slots := 0, locals := 0 } : Room) s m ([.ref (qm 0), .int p0] : List Value).toArray below meth c H locs 0 0 Q (F0 m 32 ls [.int v8, .int v3]) := by
    intro v8 H locs ls  hP hD hS hl
    refine lv_isub hx hb dX12_goes_32 (lv_topi (fun v9 e9 => ?_))
    refine lv_istore_n (lv' := [(2, .int v9)]) hx hb dX12_goes_33 rfl hl (by decide) rfl (fun ls hl => ?_)
    refine lv_iload_n hx hb dX12_goes_34 rfl (lv_at hl 0 rfl) ?_
    refine lv_if_ge (tgt := 42) hx hb dX12_goes_35 (by decide) (fun c10 => ?_) (fun c10 => ?_)
    · have f10 : 0 ≤ v9.toInt := f_le (by decide) rfl c10
      refine lv_iload_n hx hb dX12_goes_42 rfl (lv_at hl 0 rfl) ?_
      rw [hQ]
      exact x_i cx hr () hP hD hS trivial dX12_goes_43
    · have f10 : v9.toInt < 0 := f_nle (by decide) rfl c10
      refine lv_iconst (v := 0) hx hb dX12_goes_38 (by decide) ?_
      refine lv_goto (tgt := 43) hx hb dX12_goes_39 (by decide) ?_
      have hlit11 : (0 : Int32).toInt = 0 := by decide
      rw [hQ]
      exact x_i cx hr () hP hD hS trivial dX12_goes_43
  refine lv_icmp_ne (tgt := 25) hx hb dX12_goes_18 (by decide) (fun c12 => ?_) (fun c12 => ?_)
  · have f12 : ¬ v5.toInt = (-9) := f_ne rfl (by decide) c12
    refine lv_aload_n hx hb dX12_goes_25 rfl (lv_at hl 0 rfl) ?_
    refine g_get cx hP iw_X12_goes_X12 0 rfl rfl 1 (by decide) rfl fw_X12_goes_13 rfl dX12_goes_26 ?_
    refine lv_bipush (v := 8) hx hb dX12_goes_29 (by decide) ?_
    have hn13 : vp_in 8 26 := f_in (a := 8) (by decide) (by omega) (by omega)
    refine va_iald hx hb cx.2.1 hP 2 0 rfl rfl hn13 dX12_goes_31 (lv_topi (fun v14 e14 => ?_))
    have uv14 : v14.toInt = ((sm 2) 8).toInt := congrArg Int32.toInt e14
    exact hJ32 v14 _ _ _  hP hD hS (lv_sub hl [] rfl)
  · have f12 : v5.toInt = (-9) := f_eq rfl (by decide) c12
    refine lv_iconst (v := 0) hx hb dX12_goes_21 (by decide) ?_
    refine lv_goto (tgt := 32) hx hb dX12_goes_22 (by decide) ?_
    have hlit15 : (0 : Int32).toInt = 0 := by decide
    exact hJ32 0 _ _ _  hP hD hS (lv_sub hl [] rfl)
theorem fw_X12_isComing_13 : Cond.fieldLink RX12 13 "StillInAugustModel" "house" "[I" ∈ wsX12_isComing := by decide +kernel
theorem kJ_X12_isComing_146 : Cond.constantLong RX12 146 (2) ∈ wsX12_isComing := by decide +kernel
theorem iw_X12_isComing_X12 : ∀ w ∈ u_ws RX12 TX12 33, w ∈ wsX12_isComing := fun _ h => List.mem_cons_of_mem _ (List.mem_append_right _ h)
set_option maxHeartbeats 4000000 in
set_option maxRecDepth 100000 in
theorem c_X12_isComing (l : Launch) (D : va_G) (k : Nat → ClassId) (b : Nat → Nat) (qm : Nat → Nat) (sm : Nat → Nat → Int32) (tm : Nat → Nat → Int64) (sz : Nat) (p0 : Int32) : MetI l D k b yX12_isComing wsX12_isComing ({ frames := 1, cells := 0, slots := 0, locals := 25 } : Room) [(qm 0, .inr (10, [.ref (qm 1), .ref (qm 2), .ref (qm 3), .int (sm 0 3), .int (sm 0 4), .int (sm 0 5), .int (sm 0 6), .int (sm 0 7), .int (sm 0 8), .int (sm 0 9), .int (sm 0 10), .ref (qm 4), .ref (qm 5), .int (sm 0 13), .ref (qm 6), .ref (qm 7), .ref (qm 8), .ref (qm 9), .ref (qm 10), .ref (qm 11), .ref (qm 12), .ref (qm 13), .int (sm 0 22), .int (sm 0 23), .ref (qm 14), .ref (qm 15), .int (sm 0 26), .ref (qm 16), .ref (qm 17), .long (tm 0 29), .long (tm 0 30), .long (tm 0 31), .int (sm 0 32)])), (qm 1, .inl (k 0, 26, .inl (sm 1))), (qm 2, .inl (k 0, 26, .inl (sm 2))), (qm 3, .inl (k 0, 64, .inl (sm 3))), (qm 4, .inl (k 0, 15, .inl (sm 4))), (qm 5, .inl (k 0, 5, .inl (sm 5))), (qm 6, .inl (k 1, 1000, .inr (.inl (tm 6)))), (qm 7, .inl (k 1, 1000, .inr (.inl (tm 7)))), (qm 8, .inl (k 1, 50, .inr (.inl (tm 8)))), (qm 9, .inl (k 1, 50, .inr (.inl (tm 9)))), (qm 10, .inl (k 1, 1500, .inr (.inl (tm 10)))), (qm 11, .inl (k 1, 1500, .inr (.inl (tm 11)))), (qm 12, .inl (k 0, 1500, .inl (sm 12))), (qm 13, .inl (k 0, 5, .inl (sm 13))), (qm 14, .inl (k 3, 2, .inl (sm 14))), (qm 15, .inl (k 0, 14, .inl (sm 15))), (qm 16, .inl (k 0, 5, .inl (sm 16))), (qm 17, .inl (k 0, 5, .inl (sm 17)))] sz [.ref (qm 0), .int p0] (fun (r : Int32) (u : Unit) => (0 ≤ r.toInt ∧ r.toInt ≤ 1) ∧ (Imp (r.toInt = 1) (0 ≤ p0.toInt ∧ p0.toInt ≤ 2))) (fun u => [(qm 0, .inr (10, [.ref (qm 1), .ref (qm 2), .ref (qm 3), .int (sm 0 3), .int (sm 0 4), .int (sm 0 5), .int (sm 0 6), .int (sm 0 7), .int (sm 0 8), .int (sm 0 9), .int (sm 0 10), .ref (qm 4), .ref (qm 5), .int (sm 0 13), .ref (qm 6), .ref (qm 7), .ref (qm 8), .ref (qm 9), .ref (qm 10), .ref (qm 11), .ref (qm 12), .ref (qm 13), .int (sm 0 22), .int (sm 0 23), .ref (qm 14), .ref (qm 15), .int (sm 0 26), .ref (qm 16), .ref (qm 17), .long (tm 0 29), .long (tm 0 30), .long (tm 0 31), .int (sm 0 32)])), (qm 1, .inl (k 0, 26, .inl (sm 1))), (qm 2, .inl (k 0, 26, .inl (sm 2))), (qm 3, .inl (k 0, 64, .inl (sm 3))), (qm 4, .inl (k 0, 15, .inl (sm 4))), (qm 5, .inl (k 0, 5, .inl (sm 5))), (qm 6, .inl (k 1, 1000, .inr (.inl (tm 6)))), (qm 7, .inl (k 1, 1000, .inr (.inl (tm 7)))), (qm 8, .inl (k 1, 50, .inr (.inl (tm 8)))), (qm 9, .inl (k 1, 50, .inr (.inl (tm 9)))), (qm 10, .inl (k 1, 1500, .inr (.inl (tm 10)))), (qm 11, .inl (k 1, 1500, .inr (.inl (tm 11)))), (qm 12, .inl (k 0, 1500, .inl (sm 12))), (qm 13, .inl (k 0, 5, .inl (sm 13))), (qm 14, .inl (k 3, 2, .inl (sm 14))), (qm 15, .inl (k 0, 14, .inl (sm 15))), (qm 16, .inl (k 0, 5, .inl (sm 16))), (qm 17, .inl (k 0, 5, .inl (sm 17)))]) := by
  refine g_enter (cc := cX12_isComing) (maxL := 2) (ret := (some .boolean)) (by decide) rfl (Nat.le_of_ble_eq_true rfl) ?_
  intro p e s m below meth c A hsz hAe cx hr hP hD hS ls hl
  rw [hAe]
  refine g_q (fun Q hQ => ?_)
  have hx := cx.1.1
  have hb := cx.1.2.1
  have bp0 := i_rng p0
  have hl : lv_has ls 2 [(0, .ref (qm 0)), (1, .int p0)] := hl
  obtain ⟨H, eH⟩ : ∃ H : Heap, H = s.heap := ⟨_, rfl⟩
  obtain ⟨locs, el⟩ : ∃ L : List Loc, L = [] := ⟨_, rfl⟩
  have hP : va_P D vwCl [(qm 0, .inr (10, [.ref (qm 1), .ref (qm 2), .ref (qm 3), .int (sm 0 3), .int (sm 0 4), .int (sm 0 5), .int (sm 0 6), .int (sm 0 7), .int (sm 0 8), .int (sm 0 9), .int (sm 0 10), .ref (qm 4), .ref (qm 5), .int (sm 0 13), .ref (qm 6), .ref (qm 7), .ref (qm 8), .ref (qm 9), .ref (qm 10), .ref (qm 11), .ref (qm 12), .ref (qm 13), .int (sm 0 22), .int (sm 0 23), .ref (qm 14), .ref (qm 15), .int (sm 0 26), .ref (qm 16), .ref (qm 17), .long (tm 0 29), .long (tm 0 30), .long (tm 0 31), .int (sm 0 32)])), (qm 1, .inl (k 0, 26, .inl (sm 1))), (qm 2, .inl (k 0, 26, .inl (sm 2))), (qm 3, .inl (k 0, 64, .inl (sm 3))), (qm 4, .inl (k 0, 15, .inl (sm 4))), (qm 5, .inl (k 0, 5, .inl (sm 5))), (qm 6, .inl (k 1, 1000, .inr (.inl (tm 6)))), (qm 7, .inl (k 1, 1000, .inr (.inl (tm 7)))), (qm 8, .inl (k 1, 50, .inr (.inl (tm 8)))), (qm 9, .inl (k 1, 50, .inr (.inl (tm 9)))), (qm 10, .inl (k 1, 1500, .inr (.inl (tm 10)))), (qm 11, .inl (k 1, 1500, .inr (.inl (tm 11)))), (qm 12, .inl (k 0, 1500, .inl (sm 12))), (qm 13, .inl (k 0, 5, .inl (sm 13))), (qm 14, .inl (k 3, 2, .inl (sm 14))), (qm 15, .inl (k 0, 14, .inl (sm 15))), (qm 16, .inl (k 0, 5, .inl (sm 16))), (qm 17, .inl (k 0, 5, .inl (sm 17)))] H := by rw [eH]; exact hP
  have hD : va_D A [(qm 0, .inr (10, [.ref (qm 1), .ref (qm 2), .ref (qm 3), .int (sm 0 3), .int (sm 0 4), .int (sm 0 5), .int (sm 0 6), .int (sm 0 7), .int (sm 0 8), .int (sm 0 9), .int (sm 0 10), .ref (qm 4), .ref (qm 5), .int (sm 0 13), .ref (qm 6), .ref (qm 7), .ref (qm 8), .ref (qm 9), .ref (qm 10), .ref (qm 11), .ref (qm 12), .ref (qm 13), .int (sm 0 22), .int (sm 0 23), .ref (qm 14), .ref (qm 15), .int (sm 0 26), .ref (qm 16), .ref (qm 17), .long (tm 0 29), .long (tm 0 30), .long (tm 0 31), .int (sm 0 32)])), (qm 1, .inl (k 0, 26, .inl (sm 1))), (qm 2, .inl (k 0, 26, .inl (sm 2))), (qm 3, .inl (k 0, 64, .inl (sm 3))), (qm 4, .inl (k 0, 15, .inl (sm 4))), (qm 5, .inl (k 0, 5, .inl (sm 5))), (qm 6, .inl (k 1, 1000, .inr (.inl (tm 6)))), (qm 7, .inl (k 1, 1000, .inr (.inl (tm 7)))), (qm 8, .inl (k 1, 50, .inr (.inl (tm 8)))), (qm 9, .inl (k 1, 50, .inr (.inl (tm 9)))), (qm 10, .inl (k 1, 1500, .inr (.inl (tm 10)))), (qm 11, .inl (k 1, 1500, .inr (.inl (tm 11)))), (qm 12, .inl (k 0, 1500, .inl (sm 12))), (qm 13, .inl (k 0, 5, .inl (sm 13))), (qm 14, .inl (k 3, 2, .inl (sm 14))), (qm 15, .inl (k 0, 14, .inl (sm 15))), (qm 16, .inl (k 0, 5, .inl (sm 16))), (qm 17, .inl (k 0, 5, .inl (sm 17)))] := hD
  have hS : va_S A s.heap H locs := by rw [eH, el]; exact hS
  suffices goal : W p l e ({ frames := 1, cells := 0, slots := 0, locals := 25 } : Room) s m ([.ref (qm 0), .int p0] : List Value).toArray below meth c H locs 0 0 Q (F0 m 0 ls []) by rw [eH, el] at goal; exact goal
  refine lv_iload_n hx hb dX12_isComing_0 rfl (lv_at hl 1 rfl) ?_
  obtain ⟨v1, e1⟩ : ∃ z : Int64, z = (p0 : Int32).toInt64 := ⟨_, rfl⟩
  refine lv_i2l (v := v1) hx hb dX12_isComing_1 e1.symm ?_
  refine lv_lconst (v := 0) hx hb dX12_isComing_2 (by decide) ?_
  refine lv_aload_n hx hb dX12_isComing_3 rfl (lv_at hl 0 rfl) ?_
  refine g_get cx hP iw_X12_isComing_X12 0 rfl rfl 1 (by decide) rfl fw_X12_isComing_13 rfl dX12_isComing_4 ?_
  refine lv_bipush (v := 6) hx hb dX12_isComing_7 (by decide) ?_
  have hn2 : vp_in 6 26 := f_in (a := 6) (by decide) (by omega) (by omega)
  refine va_iald hx hb cx.2.1 hP 2 0 rfl rfl hn2 dX12_isComing_9 (lv_topi (fun v3 e3 => ?_))
  have uv3 : v3.toInt = ((sm 2) 6).toInt := congrArg Int32.toInt e3
  refine lv_bipush (v := (-9)) hx hb dX12_isComing_10 (by decide) ?_
  have hJ22 : ∀ (v4 : Int64) (H : Heap) (locs : List Loc) (ls : Array Slot), (v4.toInt = 0 ∨ v4.toInt = 2) → va_P D vwCl [(qm 0, .inr (10, [.ref (qm 1), .ref (qm 2), .ref (qm 3), .int (sm 0 3), .int (sm 0 4), .int (sm 0 5), .int (sm 0 6), .int (sm 0 7), .int (sm 0 8), .int (sm 0 9), .int (sm 0 10), .ref (qm 4), .ref (qm 5), .int (sm 0 13), .ref (qm 6), .ref (qm 7), .ref (qm 8), .ref (qm 9), .ref (qm 10), .ref (qm 11), .ref (qm 12), .ref (qm 13), .int (sm 0 22), .int (sm 0 23), .ref (qm 14), .ref (qm 15), .int (sm 0 26), .ref (qm 16), .ref (qm 17), .long (tm 0 29), .long (tm 0 30), .long (tm 0 31), .int (sm 0 32)])), (qm 1, .inl (k 0, 26, .inl (sm 1))), (qm 2, .inl (k 0, 26, .inl (sm 2))), (qm 3, .inl (k 0, 64, .inl (sm 3))), (qm 4, .inl (k 0, 15, .inl (sm 4))), (qm 5, .inl (k 0, 5, .inl (sm 5))), (qm 6, .inl (k 1, 1000, .inr (.inl (tm 6)))), (qm 7, .inl (k 1, 1000, .inr (.inl (tm 7)))), (qm 8, .inl (k 1, 50, .inr (.inl (tm 8)))), (qm 9, .inl (k 1, 50, .inr (.inl (tm 9)))), (qm 10, .inl (k 1, 1500, .inr (.inl (tm 10)))), (qm 11, .inl (k 1, 1500, .inr (.inl (tm 11)))), (qm 12, .inl (k 0, 1500, .inl (sm 12))), (qm 13, .inl (k 0, 5, .inl (sm 13))), (qm 14, .inl (k 3, 2, .inl (sm 14))), (qm 15, .inl (k 0, 14, .inl (sm 15))), (qm 16, .inl (k 0, 5, .inl (sm 16))), (qm 17, .inl (k 0, 5, .inl (sm 17)))] H → va_D A [(qm 0, .inr (10, [.ref (qm 1), .ref (qm 2), .ref (qm 3), .int (sm 0 3), .int (sm 0 4), .int (sm 0 5), .int (sm 0 6), .int (sm 0 7), .int (sm 0 8), .int (sm 0 9), .int (sm 0 10), .ref (qm 4), .ref (qm 5), .int (sm 0 13), .ref (qm 6), .ref (qm 7), .ref (qm 8), .ref (qm 9), .ref (qm 10), .ref (qm 11), .ref (qm 12), .ref (qm 13), .int (sm 0 22), .int (sm 0 23), .ref (qm 14), .ref (qm 15), .int (sm 0 26), .ref (qm 16), .ref (qm 17), .long (tm 0 29), .long (tm 0 30), .long (tm 0 31), .int (sm 0 32)])), (qm 1, .inl (k 0, 26, .inl (sm 1))), (qm 2, .inl (k 0, 26, .inl (sm 2))), (qm 3, .inl (k 0, 64, .inl (sm 3))), (qm 4, .inl (k 0, 15, .inl (sm 4))), (qm 5, .inl (k 0, 5, .inl (sm 5))), (qm 6, .inl (k 1, 1000, .inr (.inl (tm 6)))), (qm 7, .inl (k 1, 1000, .inr (.inl (tm 7)))), (qm 8, .inl (k 1, 50, .inr (.inl (tm 8)))), (qm 9, .inl (k 1, 50, .inr (.inl (tm 9)))), (qm 10, .inl (k 1, 1500, .inr (.inl (tm 10)))), (qm 11, .inl (k 1, 1500, .inr (.inl (tm 11)))), (qm 12, .inl (k 0, 1500, .inl (sm 12))), (qm 13, .inl (k 0, 5, .inl (sm 13))), (qm 14, .inl (k 3, 2, .inl (sm 14))), (qm 15, .inl (k 0, 14, .inl (sm 15))), (qm 16, .inl (k 0, 5, .inl (sm 16))), (qm 17, .inl (k 0, 5, .inl (sm 17)))] → va_S A s.heap H locs → lv_has ls 2 [] → W p l e ({ frames := 1, cells := 0, slots := 0, locals := 25 } : Room) s m ([.ref (qm 0), .int p0] : List Value).toArray below meth c H locs 0 0 Q (F0 m 22 ls [.long v4, .long 0, .long v1]) := by
    intro v4 H locs ls ql hP hD hS hl
    refine g_ir (g_runS (wc := []) (rest := []) cx hP hD hS [] rfl (by decide) [.long v1, .long 0, .long v4] (c_X12_in l D k b H.size v1 0 v4) gX12_isComing_X12_in rfl rfl rfl nd_X12_in ⟨Nat.le_of_ble_eq_true rfl, Nat.le_of_ble_eq_true rfl⟩ rfl hl.1 rfl (Nat.le_of_ble_eq_true rfl) ⟨Nat.zero_le _, Nat.zero_le _⟩ dX12_isComing_22) cx.2.2.1 hP hD hS [] rfl rfl (fun r6 H locs hw5 hP hS => ?_)
    have w7 : r6 = J_X12_in v1 (0 : Int64) v4 := hw5
    clear hw5
    have zr6 := in_b w7
    rw [hQ]
    exact x_z cx hr (nar_z (by omega)) () hP hD hS ⟨(show 0 ≤ r6.toInt ∧ r6.toInt ≤ 1 from by omega), (show Imp (r6.toInt = 1) (0 ≤ p0.toInt ∧ p0.toInt ≤ 2) from fun h => by have q : 0 ≤ p0.toInt ∧ p0.toInt ≤ v4.toInt := in_t (i2l_t rfl e1) (by decide) rfl w7 (ne1 h); omega)⟩ dX12_isComing_25
  refine lv_icmp_ne (tgt := 19) hx hb dX12_isComing_12 (by decide) (fun c8 => ?_) (fun c8 => ?_)
  · have f8 : ¬ v3.toInt = (-9) := f_ne rfl (by decide) c8
    refine lv_ldc2 (v := 2) hx hb cx.1.2.2.2.1 (cx.1.2.2.2.2 _ kJ_X12_isComing_146) dX12_isComing_19 ?_
    have hlit9 : (2 : Int32).toInt = 2 := by decide
    exact hJ22 2 _ _ _ (by first | decide | omega) hP hD hS (lv_sub hl [] rfl)
  · have f8 : v3.toInt = (-9) := f_eq rfl (by decide) c8
    refine lv_lconst (v := 0) hx hb dX12_isComing_15 (by decide) ?_
    refine lv_goto (tgt := 22) hx hb dX12_isComing_16 (by decide) ?_
    have hlit10 : (0 : Int32).toInt = 0 := by decide
    exact hJ22 0 _ _ _ (by first | decide | omega) hP hD hS (lv_sub hl [] rfl)
theorem fw_X12_isHands_13 : Cond.fieldLink RX12 13 "StillInAugustModel" "house" "[I" ∈ wsX12_isHands := by decide +kernel
theorem kJ_X12_isHands_158 : Cond.constantLong RX12 158 (999) ∈ wsX12_isHands := by decide +kernel
theorem nd_X12_all : yX12_all.cls ≠ "java/lang/invoke/MethodHandle" ∧ yX12_all.cls ≠ "java/lang/invoke/VarHandle" ∧ (parseMethodDescriptor yX12_all.desc).map (fun d => d.parameters.length) = some 1 := by decide +kernel
theorem iw_X12_isHands_X12 : ∀ w ∈ u_ws RX12 TX12 33, w ∈ wsX12_isHands := fun _ h => List.mem_cons_of_mem _ (List.mem_append_right _ h)
set_option maxHeartbeats 4000000 in
set_option maxRecDepth 100000 in
theorem c_X12_isHands (l : Launch) (D : va_G) (k : Nat → ClassId) (b : Nat → Nat) (qm : Nat → Nat) (sm : Nat → Nat → Int32) (tm : Nat → Nat → Int64) (sz : Nat) (p0 : Int32) (h_k1 : 0 ≤ (sm 2 1).toInt ∧ (sm 2 1).toInt ≤ 4) : MetI l D k b yX12_isHands wsX12_isHands ({ frames := 1, cells := 0, slots := 0, locals := 25 } : Room) [(qm 0, .inr (10, [.ref (qm 1), .ref (qm 2), .ref (qm 3), .int (sm 0 3), .int (sm 0 4), .int (sm 0 5), .int (sm 0 6), .int (sm 0 7), .int (sm 0 8), .int (sm 0 9), .int (sm 0 10), .ref (qm 4), .ref (qm 5), .int (sm 0 13), .ref (qm 6), .ref (qm 7), .ref (qm 8), .ref (qm 9), .ref (qm 10), .ref (qm 11), .ref (qm 12), .ref (qm 13), .int (sm 0 22), .int (sm 0 23), .ref (qm 14), .ref (qm 15), .int (sm 0 26), .ref (qm 16), .ref (qm 17), .long (tm 0 29), .long (tm 0 30), .long (tm 0 31), .int (sm 0 32)])), (qm 1, .inl (k 0, 26, .inl (sm 1))), (qm 2, .inl (k 0, 26, .inl (sm 2))), (qm 3, .inl (k 0, 64, .inl (sm 3))), (qm 4, .inl (k 0, 15, .inl (sm 4))), (qm 5, .inl (k 0, 5, .inl (sm 5))), (qm 6, .inl (k 1, 1000, .inr (.inl (tm 6)))), (qm 7, .inl (k 1, 1000, .inr (.inl (tm 7)))), (qm 8, .inl (k 1, 50, .inr (.inl (tm 8)))), (qm 9, .inl (k 1, 50, .inr (.inl (tm 9)))), (qm 10, .inl (k 1, 1500, .inr (.inl (tm 10)))), (qm 11, .inl (k 1, 1500, .inr (.inl (tm 11)))), (qm 12, .inl (k 0, 1500, .inl (sm 12))), (qm 13, .inl (k 0, 5, .inl (sm 13))), (qm 14, .inl (k 3, 2, .inl (sm 14))), (qm 15, .inl (k 0, 14, .inl (sm 15))), (qm 16, .inl (k 0, 5, .inl (sm 16))), (qm 17, .inl (k 0, 5, .inl (sm 17)))] sz [.ref (qm 0), .int p0] (fun (r : Int32) (u : Unit) => (0 ≤ r.toInt ∧ r.toInt ≤ 1) ∧ (Imp (r.toInt = 1) (0 ≤ p0.toInt ∧ p0.toInt ≤ 400))) (fun u => [(qm 0, .inr (10, [.ref (qm 1), .ref (qm 2), .ref (qm 3), .int (sm 0 3), .int (sm 0 4), .int (sm 0 5), .int (sm 0 6), .int (sm 0 7), .int (sm 0 8), .int (sm 0 9), .int (sm 0 10), .ref (qm 4), .ref (qm 5), .int (sm 0 13), .ref (qm 6), .ref (qm 7), .ref (qm 8), .ref (qm 9), .ref (qm 10), .ref (qm 11), .ref (qm 12), .ref (qm 13), .int (sm 0 22), .int (sm 0 23), .ref (qm 14), .ref (qm 15), .int (sm 0 26), .ref (qm 16), .ref (qm 17), .long (tm 0 29), .long (tm 0 30), .long (tm 0 31), .int (sm 0 32)])), (qm 1, .inl (k 0, 26, .inl (sm 1))), (qm 2, .inl (k 0, 26, .inl (sm 2))), (qm 3, .inl (k 0, 64, .inl (sm 3))), (qm 4, .inl (k 0, 15, .inl (sm 4))), (qm 5, .inl (k 0, 5, .inl (sm 5))), (qm 6, .inl (k 1, 1000, .inr (.inl (tm 6)))), (qm 7, .inl (k 1, 1000, .inr (.inl (tm 7)))), (qm 8, .inl (k 1, 50, .inr (.inl (tm 8)))), (qm 9, .inl (k 1, 50, .inr (.inl (tm 9)))), (qm 10, .inl (k 1, 1500, .inr (.inl (tm 10)))), (qm 11, .inl (k 1, 1500, .inr (.inl (tm 11)))), (qm 12, .inl (k 0, 1500, .inl (sm 12))), (qm 13, .inl (k 0, 5, .inl (sm 13))), (qm 14, .inl (k 3, 2, .inl (sm 14))), (qm 15, .inl (k 0, 14, .inl (sm 15))), (qm 16, .inl (k 0, 5, .inl (sm 16))), (qm 17, .inl (k 0, 5, .inl (sm 17)))]) := by
  refine g_enter (cc := cX12_isHands) (maxL := 2) (ret := (some .boolean)) (by decide) rfl (Nat.le_of_ble_eq_true rfl) ?_
  intro p e s m below meth c A hsz hAe cx hr hP hD hS ls hl
  rw [hAe]
  refine g_q (fun Q hQ => ?_)
  have hx := cx.1.1
  have hb := cx.1.2.1
  have bp0 := i_rng p0
  have hl : lv_has ls 2 [(0, .ref (qm 0)), (1, .int p0)] := hl
  obtain ⟨H, eH⟩ : ∃ H : Heap, H = s.heap := ⟨_, rfl⟩
  obtain ⟨locs, el⟩ : ∃ L : List Loc, L = [] := ⟨_, rfl⟩
  have hP : va_P D vwCl [(qm 0, .inr (10, [.ref (qm 1), .ref (qm 2), .ref (qm 3), .int (sm 0 3), .int (sm 0 4), .int (sm 0 5), .int (sm 0 6), .int (sm 0 7), .int (sm 0 8), .int (sm 0 9), .int (sm 0 10), .ref (qm 4), .ref (qm 5), .int (sm 0 13), .ref (qm 6), .ref (qm 7), .ref (qm 8), .ref (qm 9), .ref (qm 10), .ref (qm 11), .ref (qm 12), .ref (qm 13), .int (sm 0 22), .int (sm 0 23), .ref (qm 14), .ref (qm 15), .int (sm 0 26), .ref (qm 16), .ref (qm 17), .long (tm 0 29), .long (tm 0 30), .long (tm 0 31), .int (sm 0 32)])), (qm 1, .inl (k 0, 26, .inl (sm 1))), (qm 2, .inl (k 0, 26, .inl (sm 2))), (qm 3, .inl (k 0, 64, .inl (sm 3))), (qm 4, .inl (k 0, 15, .inl (sm 4))), (qm 5, .inl (k 0, 5, .inl (sm 5))), (qm 6, .inl (k 1, 1000, .inr (.inl (tm 6)))), (qm 7, .inl (k 1, 1000, .inr (.inl (tm 7)))), (qm 8, .inl (k 1, 50, .inr (.inl (tm 8)))), (qm 9, .inl (k 1, 50, .inr (.inl (tm 9)))), (qm 10, .inl (k 1, 1500, .inr (.inl (tm 10)))), (qm 11, .inl (k 1, 1500, .inr (.inl (tm 11)))), (qm 12, .inl (k 0, 1500, .inl (sm 12))), (qm 13, .inl (k 0, 5, .inl (sm 13))), (qm 14, .inl (k 3, 2, .inl (sm 14))), (qm 15, .inl (k 0, 14, .inl (sm 15))), (qm 16, .inl (k 0, 5, .inl (sm 16))), (qm 17, .inl (k 0, 5, .inl (sm 17)))] H := by rw [eH]; exact hP
  have hD : va_D A [(qm 0, .inr (10, [.ref (qm 1), .ref (qm 2), .ref (qm 3), .int (sm 0 3), .int (sm 0 4), .int (sm 0 5), .int (sm 0 6), .int (sm 0 7), .int (sm 0 8), .int (sm 0 9), .int (sm 0 10), .ref (qm 4), .ref (qm 5), .int (sm 0 13), .ref (qm 6), .ref (qm 7), .ref (qm 8), .ref (qm 9), .ref (qm 10), .ref (qm 11), .ref (qm 12), .ref (qm 13), .int (sm 0 22), .int (sm 0 23), .ref (qm 14), .ref (qm 15), .int (sm 0 26), .ref (qm 16), .ref (qm 17), .long (tm 0 29), .long (tm 0 30), .long (tm 0 31), .int (sm 0 32)])), (qm 1, .inl (k 0, 26, .inl (sm 1))), (qm 2, .inl (k 0, 26, .inl (sm 2))), (qm 3, .inl (k 0, 64, .inl (sm 3))), (qm 4, .inl (k 0, 15, .inl (sm 4))), (qm 5, .inl (k 0, 5, .inl (sm 5))), (qm 6, .inl (k 1, 1000, .inr (.inl (tm 6)))), (qm 7, .inl (k 1, 1000, .inr (.inl (tm 7)))), (qm 8, .inl (k 1, 50, .inr (.inl (tm 8)))), (qm 9, .inl (k 1, 50, .inr (.inl (tm 9)))), (qm 10, .inl (k 1, 1500, .inr (.inl (tm 10)))), (qm 11, .inl (k 1, 1500, .inr (.inl (tm 11)))), (qm 12, .inl (k 0, 1500, .inl (sm 12))), (qm 13, .inl (k 0, 5, .inl (sm 13))), (qm 14, .inl (k 3, 2, .inl (sm 14))), (qm 15, .inl (k 0, 14, .inl (sm 15))), (qm 16, .inl (k 0, 5, .inl (sm 16))), (qm 17, .inl (k 0, 5, .inl (sm 17)))] := hD
  have hS : va_S A s.heap H locs := by rw [eH, el]; exact hS
  suffices goal : W p l e ({ frames := 1, cells := 0, slots := 0, locals := 25 } : Room) s m ([.ref (qm 0), .int p0] : List Value).toArray below meth c H locs 0 0 Q (F0 m 0 ls []) by rw [eH, el] at goal; exact goal
  refine lv_iload_n hx hb dX12_isHands_0 rfl (lv_at hl 1 rfl) ?_
  obtain ⟨v1, e1⟩ : ∃ z : Int64, z = (p0 : Int32).toInt64 := ⟨_, rfl⟩
  refine lv_i2l (v := v1) hx hb dX12_isHands_1 e1.symm ?_
  refine lv_lconst (v := 0) hx hb dX12_isHands_2 (by decide) ?_
  refine lv_ldc2 (v := 999) hx hb cx.1.2.2.2.1 (cx.1.2.2.2.2 _ kJ_X12_isHands_158) dX12_isHands_3 ?_
  refine g_ir (g_runS (wc := []) (rest := []) cx hP hD hS [] rfl (by decide) [.long v1, .long 0, .long 999] (c_X12_in l D k b H.size v1 0 999) gX12_isHands_X12_in rfl rfl rfl nd_X12_in ⟨Nat.le_of_ble_eq_true rfl, Nat.le_of_ble_eq_true rfl⟩ rfl hl.1 rfl (Nat.le_of_ble_eq_true rfl) ⟨Nat.zero_le _, Nat.zero_le _⟩ dX12_isHands_6) cx.2.2.1 hP hD hS [] rfl rfl (fun r3 H locs hw2 hP hS => ?_)
  have w4 : r3 = J_X12_in v1 (0 : Int64) (999 : Int64) := hw2
  clear hw2
  have zr3 := in_b w4
  refine lv_if_eq (tgt := 29) hx hb dX12_isHands_9 (by decide) (fun c5 => ?_) (fun c5 => ?_)
  · have f5 : r3.toInt = 0 := f_eq rfl (by decide) c5
    have k5 : p0.toInt < 0 ∨ 999 < p0.toInt := in_f (i2l_t rfl e1) (by decide) (by decide) w4 c5
    refine lv_iconst (v := 0) hx hb dX12_isHands_29 (by decide) ?_
    have hlit6 : (0 : Int32).toInt = 0 := by decide
    rw [hQ]
    exact x_z cx hr (by decide) () hP hD hS ⟨(show 0 ≤ (0 : Int32).toInt ∧ (0 : Int32).toInt ≤ 1 from by omega), (show Imp ((0 : Int32).toInt = 1) (0 ≤ p0.toInt ∧ p0.toInt ≤ 400) from fun h => absurd h (by decide))⟩ dX12_isHands_30
  · have f5 : ¬ r3.toInt = 0 := f_ne rfl (by decide) c5
    have k5 : 0 ≤ p0.toInt ∧ p0.toInt ≤ 999 := in_t (i2l_t rfl e1) (by decide) (by decide) w4 c5
    refine lv_iload_n hx hb dX12_isHands_12 rfl (lv_at hl 1 rfl) ?_
    refine g_ir (g_runS (wc := []) (rest := []) cx hP hD hS [] rfl (by decide) [.int p0] (c_X12_all l D k b H.size p0) gX12_isHands_X12_all rfl rfl rfl nd_X12_all ⟨Nat.le_of_ble_eq_true rfl, Nat.le_of_ble_eq_true rfl⟩ rfl hl.1 rfl (Nat.le_of_ble_eq_true rfl) ⟨Nat.zero_le _, Nat.zero_le _⟩ dX12_isHands_13) cx.2.2.1 hP hD hS [] rfl rfl (fun r8 H locs hw7 hP hS => ?_)
    have w9 : r8 = J_X12_all p0 := hw7
    clear hw7
    have zr8 := all_t w9 (show 0 ≤ p0.toInt from by omega)
    refine lv_aload_n hx hb dX12_isHands_16 rfl (lv_at hl 0 rfl) ?_
    refine g_get cx hP iw_X12_isHands_X12 0 rfl rfl 1 (by decide) rfl fw_X12_isHands_13 rfl dX12_isHands_17 ?_
    refine lv_iconst (v := 1) hx hb dX12_isHands_20 (by decide) ?_
    have hn10 : vp_in 1 26 := f_in (a := 1) (by decide) (by omega) (by omega)
    refine va_iald hx hb cx.2.1 hP 2 0 rfl rfl hn10 dX12_isHands_21 (lv_topi (fun v11 e11 => ?_))
    have uv11 : v11.toInt = ((sm 2) 1).toInt := congrArg Int32.toInt e11
    have t11 : 0 ≤ v11.toInt ∧ v11.toInt ≤ 4 := by rw [e11]; exact h_k1
    refine lv_icmp_gt (tgt := 29) hx hb dX12_isHands_22 (by decide) (fun c12 => ?_) (fun c12 => ?_)
    · have f12 : v11.toInt < r8.toInt := f_lt rfl rfl c12
      refine lv_iconst (v := 0) hx hb dX12_isHands_29 (by decide) ?_
      have hlit13 : (0 : Int32).toInt = 0 := by decide
      rw [hQ]
      exact x_z cx hr (by decide) () hP hD hS ⟨(show 0 ≤ (0 : Int32).toInt ∧ (0 : Int32).toInt ≤ 1 from by omega), (show Imp ((0 : Int32).toInt = 1) (0 ≤ p0.toInt ∧ p0.toInt ≤ 400) from fun h => absurd h (by decide))⟩ dX12_isHands_30
    · have f12 : r8.toInt ≤ v11.toInt := f_nlt rfl rfl c12
      refine lv_iconst (v := 1) hx hb dX12_isHands_25 (by decide) ?_
      refine lv_goto (tgt := 30) hx hb dX12_isHands_26 (by decide) ?_
      have hlit14 : (1 : Int32).toInt = 1 := by decide
      rw [hQ]
      exact x_z cx hr (by decide) () hP hD hS ⟨(show 0 ≤ (1 : Int32).toInt ∧ (1 : Int32).toInt ≤ 1 from by omega), (show Imp ((1 : Int32).toInt = 1) (0 ≤ p0.toInt ∧ p0.toInt ≤ 400) from fun h => by omega)⟩ dX12_isHands_30
theorem fw_X12_after_13 : Cond.fieldLink RX12 13 "StillInAugustModel" "house" "[I" ∈ wsX12_after := by decide +kernel
theorem nd_X12_fewer : yX12_fewer.cls ≠ "java/lang/invoke/MethodHandle" ∧ yX12_fewer.cls ≠ "java/lang/invoke/VarHandle" ∧ (parseMethodDescriptor yX12_fewer.desc).map (fun d => d.parameters.length) = some 2 := by decide +kernel
theorem iw_X12_after_X12 : ∀ w ∈ u_ws RX12 TX12 33, w ∈ wsX12_after := fun _ h => List.mem_cons_of_mem _ (List.mem_append_right _ h)
set_option maxHeartbeats 4000000 in
set_option maxRecDepth 100000 in
theorem c_X12_after (l : Launch) (D : va_G) (k : Nat → ClassId) (b : Nat → Nat) (qm : Nat → Nat) (sm : Nat → Nat → Int32) (tm : Nat → Nat → Int64) (sz : Nat) (p0 : Int32) (p1 : Int32) (p2 : Int32) (h_w0 : 0 ≤ (sm 2 0).toInt ∧ (sm 2 0).toInt ≤ 5) (hp0 : 0 ≤ p0.toInt ∧ p0.toInt ≤ 4) : MetI l D k b yX12_after wsX12_after ({ frames := 1, cells := 0, slots := 0, locals := 26 } : Room) [(qm 0, .inr (10, [.ref (qm 1), .ref (qm 2), .ref (qm 3), .int (sm 0 3), .int (sm 0 4), .int (sm 0 5), .int (sm 0 6), .int (sm 0 7), .int (sm 0 8), .int (sm 0 9), .int (sm 0 10), .ref (qm 4), .ref (qm 5), .int (sm 0 13), .ref (qm 6), .ref (qm 7), .ref (qm 8), .ref (qm 9), .ref (qm 10), .ref (qm 11), .ref (qm 12), .ref (qm 13), .int (sm 0 22), .int (sm 0 23), .ref (qm 14), .ref (qm 15), .int (sm 0 26), .ref (qm 16), .ref (qm 17), .long (tm 0 29), .long (tm 0 30), .long (tm 0 31), .int (sm 0 32)])), (qm 1, .inl (k 0, 26, .inl (sm 1))), (qm 2, .inl (k 0, 26, .inl (sm 2))), (qm 3, .inl (k 0, 64, .inl (sm 3))), (qm 4, .inl (k 0, 15, .inl (sm 4))), (qm 5, .inl (k 0, 5, .inl (sm 5))), (qm 6, .inl (k 1, 1000, .inr (.inl (tm 6)))), (qm 7, .inl (k 1, 1000, .inr (.inl (tm 7)))), (qm 8, .inl (k 1, 50, .inr (.inl (tm 8)))), (qm 9, .inl (k 1, 50, .inr (.inl (tm 9)))), (qm 10, .inl (k 1, 1500, .inr (.inl (tm 10)))), (qm 11, .inl (k 1, 1500, .inr (.inl (tm 11)))), (qm 12, .inl (k 0, 1500, .inl (sm 12))), (qm 13, .inl (k 0, 5, .inl (sm 13))), (qm 14, .inl (k 3, 2, .inl (sm 14))), (qm 15, .inl (k 0, 14, .inl (sm 15))), (qm 16, .inl (k 0, 5, .inl (sm 16))), (qm 17, .inl (k 0, 5, .inl (sm 17)))] sz [.ref (qm 0), .int p0, .int p1, .int p2] (fun (r : Int32) (u : Unit) => True) (fun u => [(qm 0, .inr (10, [.ref (qm 1), .ref (qm 2), .ref (qm 3), .int (sm 0 3), .int (sm 0 4), .int (sm 0 5), .int (sm 0 6), .int (sm 0 7), .int (sm 0 8), .int (sm 0 9), .int (sm 0 10), .ref (qm 4), .ref (qm 5), .int (sm 0 13), .ref (qm 6), .ref (qm 7), .ref (qm 8), .ref (qm 9), .ref (qm 10), .ref (qm 11), .ref (qm 12), .ref (qm 13), .int (sm 0 22), .int (sm 0 23), .ref (qm 14), .ref (qm 15), .int (sm 0 26), .ref (qm 16), .ref (qm 17), .long (tm 0 29), .long (tm 0 30), .long (tm 0 31), .int (sm 0 32)])), (qm 1, .inl (k 0, 26, .inl (sm 1))), (qm 2, .inl (k 0, 26, .inl (sm 2))), (qm 3, .inl (k 0, 64, .inl (sm 3))), (qm 4, .inl (k 0, 15, .inl (sm 4))), (qm 5, .inl (k 0, 5, .inl (sm 5))), (qm 6, .inl (k 1, 1000, .inr (.inl (tm 6)))), (qm 7, .inl (k 1, 1000, .inr (.inl (tm 7)))), (qm 8, .inl (k 1, 50, .inr (.inl (tm 8)))), (qm 9, .inl (k 1, 50, .inr (.inl (tm 9)))), (qm 10, .inl (k 1, 1500, .inr (.inl (tm 10)))), (qm 11, .inl (k 1, 1500, .inr (.inl (tm 11)))), (qm 12, .inl (k 0, 1500, .inl (sm 12))), (qm 13, .inl (k 0, 5, .inl (sm 13))), (qm 14, .inl (k 3, 2, .inl (sm 14))), (qm 15, .inl (k 0, 14, .inl (sm 15))), (qm 16, .inl (k 0, 5, .inl (sm 16))), (qm 17, .inl (k 0, 5, .inl (sm 17)))]) := by
  refine g_enter (cc := cX12_after) (maxL := 10) (ret := (some .int)) (by decide) rfl (Nat.le_of_ble_eq_true rfl) ?_
  intro p e s m below meth c A hsz hAe cx hr hP hD hS ls hl
  rw [hAe]
  refine g_q (fun Q hQ => ?_)
  have hx := cx.1.1
  have hb := cx.1.2.1
  have bp0 := i_rng p0
  have bp1 := i_rng p1
  have bp2 := i_rng p2
  have hl : lv_has ls 10 [(0, .ref (qm 0)), (1, .int p0), (2, .int p1), (3, .int p2)] := hl
  obtain ⟨H, eH⟩ : ∃ H : Heap, H = s.heap := ⟨_, rfl⟩
  obtain ⟨locs, el⟩ : ∃ L : List Loc, L = [] := ⟨_, rfl⟩
  have hP : va_P D vwCl [(qm 0, .inr (10, [.ref (qm 1), .ref (qm 2), .ref (qm 3), .int (sm 0 3), .int (sm 0 4), .int (sm 0 5), .int (sm 0 6), .int (sm 0 7), .int (sm 0 8), .int (sm 0 9), .int (sm 0 10), .ref (qm 4), .ref (qm 5), .int (sm 0 13), .ref (qm 6), .ref (qm 7), .ref (qm 8), .ref (qm 9), .ref (qm 10), .ref (qm 11), .ref (qm 12), .ref (qm 13), .int (sm 0 22), .int (sm 0 23), .ref (qm 14), .ref (qm 15), .int (sm 0 26), .ref (qm 16), .ref (qm 17), .long (tm 0 29), .long (tm 0 30), .long (tm 0 31), .int (sm 0 32)])), (qm 1, .inl (k 0, 26, .inl (sm 1))), (qm 2, .inl (k 0, 26, .inl (sm 2))), (qm 3, .inl (k 0, 64, .inl (sm 3))), (qm 4, .inl (k 0, 15, .inl (sm 4))), (qm 5, .inl (k 0, 5, .inl (sm 5))), (qm 6, .inl (k 1, 1000, .inr (.inl (tm 6)))), (qm 7, .inl (k 1, 1000, .inr (.inl (tm 7)))), (qm 8, .inl (k 1, 50, .inr (.inl (tm 8)))), (qm 9, .inl (k 1, 50, .inr (.inl (tm 9)))), (qm 10, .inl (k 1, 1500, .inr (.inl (tm 10)))), (qm 11, .inl (k 1, 1500, .inr (.inl (tm 11)))), (qm 12, .inl (k 0, 1500, .inl (sm 12))), (qm 13, .inl (k 0, 5, .inl (sm 13))), (qm 14, .inl (k 3, 2, .inl (sm 14))), (qm 15, .inl (k 0, 14, .inl (sm 15))), (qm 16, .inl (k 0, 5, .inl (sm 16))), (qm 17, .inl (k 0, 5, .inl (sm 17)))] H := by rw [eH]; exact hP
  have hD : va_D A [(qm 0, .inr (10, [.ref (qm 1), .ref (qm 2), .ref (qm 3), .int (sm 0 3), .int (sm 0 4), .int (sm 0 5), .int (sm 0 6), .int (sm 0 7), .int (sm 0 8), .int (sm 0 9), .int (sm 0 10), .ref (qm 4), .ref (qm 5), .int (sm 0 13), .ref (qm 6), .ref (qm 7), .ref (qm 8), .ref (qm 9), .ref (qm 10), .ref (qm 11), .ref (qm 12), .ref (qm 13), .int (sm 0 22), .int (sm 0 23), .ref (qm 14), .ref (qm 15), .int (sm 0 26), .ref (qm 16), .ref (qm 17), .long (tm 0 29), .long (tm 0 30), .long (tm 0 31), .int (sm 0 32)])), (qm 1, .inl (k 0, 26, .inl (sm 1))), (qm 2, .inl (k 0, 26, .inl (sm 2))), (qm 3, .inl (k 0, 64, .inl (sm 3))), (qm 4, .inl (k 0, 15, .inl (sm 4))), (qm 5, .inl (k 0, 5, .inl (sm 5))), (qm 6, .inl (k 1, 1000, .inr (.inl (tm 6)))), (qm 7, .inl (k 1, 1000, .inr (.inl (tm 7)))), (qm 8, .inl (k 1, 50, .inr (.inl (tm 8)))), (qm 9, .inl (k 1, 50, .inr (.inl (tm 9)))), (qm 10, .inl (k 1, 1500, .inr (.inl (tm 10)))), (qm 11, .inl (k 1, 1500, .inr (.inl (tm 11)))), (qm 12, .inl (k 0, 1500, .inl (sm 12))), (qm 13, .inl (k 0, 5, .inl (sm 13))), (qm 14, .inl (k 3, 2, .inl (sm 14))), (qm 15, .inl (k 0, 14, .inl (sm 15))), (qm 16, .inl (k 0, 5, .inl (sm 16))), (qm 17, .inl (k 0, 5, .inl (sm 17)))] := hD
  have hS : va_S A s.heap H locs := by rw [eH, el]; exact hS
  suffices goal : W p l e ({ frames := 1, cells := 0, slots := 0, locals := 26 } : Room) s m ([.ref (qm 0), .int p0, .int p1, .int p2] : List Value).toArray below meth c H locs 0 0 Q (F0 m 0 ls []) by rw [eH, el] at goal; exact goal
  refine lv_iload_n hx hb dX12_after_0 rfl (lv_at hl 3 rfl) ?_
  refine lv_sipush (v := 1000) hx hb dX12_after_1 (by decide) ?_
  refine lv_idiv hx hb dX12_after_4 (by decide) (lv_topi (fun v1 e1 => ?_))
  refine lv_istore (lv' := [(4, .int v1), (0, .ref (qm 0)), (1, .int p0), (2, .int p1), (3, .int p2)]) hx hb dX12_after_5 hl (by decide) rfl (fun ls hl => ?_)
  refine lv_iload_n hx hb dX12_after_7 rfl (lv_at hl 4 rfl) ?_
  refine lv_bipush (v := 100) hx hb dX12_after_8 (by decide) ?_
  refine lv_idiv hx hb dX12_after_10 (by decide) (lv_topi (fun v2 e2 => ?_))
  refine lv_bipush (v := 10) hx hb dX12_after_11 (by decide) ?_
  refine lv_irem hx hb dX12_after_13 (by decide) (lv_topi (fun v3 e3 => ?_))
  have t3 : -10 < v3.toInt ∧ v3.toInt < 10 := by rw [e3]; exact i_remb (by decide) (by decide)
  refine lv_istore (lv' := [(5, .int v3), (4, .int v1), (0, .ref (qm 0)), (1, .int p0), (2, .int p1), (3, .int p2)]) hx hb dX12_after_14 hl (by decide) rfl (fun ls hl => ?_)
  refine lv_iload_n hx hb dX12_after_16 rfl (lv_at hl 5 rfl) ?_
  refine lv_bipush (v := 10) hx hb dX12_after_17 (by decide) ?_
  refine lv_idiv hx hb dX12_after_19 (by decide) (lv_topi (fun v4 e4 => ?_))
  refine lv_bipush (v := 10) hx hb dX12_after_20 (by decide) ?_
  refine lv_irem hx hb dX12_after_22 (by decide) (lv_topi (fun v5 e5 => ?_))
  have t5 : -10 < v5.toInt ∧ v5.toInt < 10 := by rw [e5]; exact i_remb (by decide) (by decide)
  refine lv_istore (lv' := [(6, .int v5), (5, .int v3), (4, .int v1), (0, .ref (qm 0)), (1, .int p0), (2, .int p1), (3, .int p2)]) hx hb dX12_after_23 hl (by decide) rfl (fun ls hl => ?_)
  refine lv_iload_n hx hb dX12_after_25 rfl (lv_at hl 6 rfl) ?_
  refine lv_bipush (v := 10) hx hb dX12_after_26 (by decide) ?_
  refine lv_irem hx hb dX12_after_28 (by decide) (lv_topi (fun v6 e6 => ?_))
  have t6 : -10 < v6.toInt ∧ v6.toInt < 10 := by rw [e6]; exact i_remb (by decide) (by decide)
  refine lv_istore (lv' := [(7, .int v6), (6, .int v5), (5, .int v3), (4, .int v1), (0, .ref (qm 0)), (1, .int p0), (2, .int p1), (3, .int p2)]) hx hb dX12_after_29 hl (by decide) rfl (fun ls hl => ?_)
  refine lv_iload_n hx hb dX12_after_31 rfl (lv_at hl 7 rfl) ?_
  refine lv_sipush (v := 10000) hx hb dX12_after_32 (by decide) ?_
  have hJ78 : ∀ (v13 : Int32) (H : Heap) (locs : List Loc) (ls : Array Slot), (0 ≤ v13.toInt ∧ v13.toInt ≤ 1) → va_P D vwCl [(qm 0, .inr (10, [.ref (qm 1), .ref (qm 2), .ref (qm 3), .int (sm 0 3), .int (sm 0 4), .int (sm 0 5), .int (sm 0 6), .int (sm 0 7), .int (sm 0 8), .int (sm 0 9), .int (sm 0 10), .ref (qm 4), .ref (qm 5), .int (sm 0 13), .ref (qm 6), .ref (qm 7), .ref (qm 8), .ref (qm 9), .ref (qm 10), .ref (qm 11), .ref (qm 12), .ref (qm 13), .int (sm 0 22), .int (sm 0 23), .ref (qm 14), .ref (qm 15), .int (sm 0 26), .ref (qm 16), .ref (qm 17), .long (tm 0 29), .long (tm 0 30), .long (tm 0 31), .int (sm 0 32)])), (qm 1, .inl (k 0, 26, .inl (sm 1))), (qm 2, .inl (k 0, 26, .inl (sm 2))), (qm 3, .inl (k 0, 64, .inl (sm 3))), (qm 4, .inl (k 0, 15, .inl (sm 4))), (qm 5, .inl (k 0, 5, .inl (sm 5))), (qm 6, .inl (k 1, 1000, .inr (.inl (tm 6)))), (qm 7, .inl (k 1, 1000, .inr (.inl (tm 7)))), (qm 8, .inl (k 1, 50, .inr (.inl (tm 8)))), (qm 9, .inl (k 1, 50, .inr (.inl (tm 9)))), (qm 10, .inl (k 1, 1500, .inr (.inl (tm 10)))), (qm 11, .inl (k 1, 1500, .inr (.inl (tm 11)))), (qm 12, .inl (k 0, 1500, .inl (sm 12))), (qm 13, .inl (k 0, 5, .inl (sm 13))), (qm 14, .inl (k 3, 2, .inl (sm 14))), (qm 15, .inl (k 0, 14, .inl (sm 15))), (qm 16, .inl (k 0, 5, .inl (sm 16))), (qm 17, .inl (k 0, 5, .inl (sm 17)))] H → va_D A [(qm 0, .inr (10, [.ref (qm 1), .ref (qm 2), .ref (qm 3), .int (sm 0 3), .int (sm 0 4), .int (sm 0 5), .int (sm 0 6), .int (sm 0 7), .int (sm 0 8), .int (sm 0 9), .int (sm 0 10), .ref (qm 4), .ref (qm 5), .int (sm 0 13), .ref (qm 6), .ref (qm 7), .ref (qm 8), .ref (qm 9), .ref (qm 10), .ref (qm 11), .ref (qm 12), .ref (qm 13), .int (sm 0 22), .int (sm 0 23), .ref (qm 14), .ref (qm 15), .int (sm 0 26), .ref (qm 16), .ref (qm 17), .long (tm 0 29), .long (tm 0 30), .long (tm 0 31), .int (sm 0 32)])), (qm 1, .inl (k 0, 26, .inl (sm 1))), (qm 2, .inl (k 0, 26, .inl (sm 2))), (qm 3, .inl (k 0, 64, .inl (sm 3))), (qm 4, .inl (k 0, 15, .inl (sm 4))), (qm 5, .inl (k 0, 5, .inl (sm 5))), (qm 6, .inl (k 1, 1000, .inr (.inl (tm 6)))), (qm 7, .inl (k 1, 1000, .inr (.inl (tm 7)))), (qm 8, .inl (k 1, 50, .inr (.inl (tm 8)))), (qm 9, .inl (k 1, 50, .inr (.inl (tm 9)))), (qm 10, .inl (k 1, 1500, .inr (.inl (tm 10)))), (qm 11, .inl (k 1, 1500, .inr (.inl (tm 11)))), (qm 12, .inl (k 0, 1500, .inl (sm 12))), (qm 13, .inl (k 0, 5, .inl (sm 13))), (qm 14, .inl (k 3, 2, .inl (sm 14))), (qm 15, .inl (k 0, 14, .inl (sm 15))), (qm 16, .inl (k 0, 5, .inl (sm 16))), (qm 17, .inl (k 0, 5, .inl (sm 17)))] → va_S A s.heap H locs → lv_has ls 10 [(7, .int v6), (6, .int v5), (5, .int v3), (4, .int v1), (0, .ref (qm 0)), (1, .int p0), (2, .int p1)] → W p l e ({ frames := 1, cells := 0, slots := 0, locals := 26 } : Room) s m ([.ref (qm 0), .int p0, .int p1, .int p2] : List Value).toArray below meth c H locs 0 0 Q (F0 m 78 ls [.int v13]) := by
    intro v13 H locs ls bv13 hP hD hS hl
    refine lv_istore (lv' := [(8, .int v13), (7, .int v6), (6, .int v5), (5, .int v3), (4, .int v1), (0, .ref (qm 0)), (1, .int p0), (2, .int p1)]) hx hb dX12_after_78 hl (by decide) rfl (fun ls hl => ?_)
    refine lv_iload hx hb dX12_after_80 (lv_at hl 0 rfl) ?_
    have hJ151 : ∀ (v40 : Int32) (H : Heap) (locs : List Loc) (ls : Array Slot), (0 ≤ v40.toInt ∧ v40.toInt ≤ 1) → va_P D vwCl [(qm 0, .inr (10, [.ref (qm 1), .ref (qm 2), .ref (qm 3), .int (sm 0 3), .int (sm 0 4), .int (sm 0 5), .int (sm 0 6), .int (sm 0 7), .int (sm 0 8), .int (sm 0 9), .int (sm 0 10), .ref (qm 4), .ref (qm 5), .int (sm 0 13), .ref (qm 6), .ref (qm 7), .ref (qm 8), .ref (qm 9), .ref (qm 10), .ref (qm 11), .ref (qm 12), .ref (qm 13), .int (sm 0 22), .int (sm 0 23), .ref (qm 14), .ref (qm 15), .int (sm 0 26), .ref (qm 16), .ref (qm 17), .long (tm 0 29), .long (tm 0 30), .long (tm 0 31), .int (sm 0 32)])), (qm 1, .inl (k 0, 26, .inl (sm 1))), (qm 2, .inl (k 0, 26, .inl (sm 2))), (qm 3, .inl (k 0, 64, .inl (sm 3))), (qm 4, .inl (k 0, 15, .inl (sm 4))), (qm 5, .inl (k 0, 5, .inl (sm 5))), (qm 6, .inl (k 1, 1000, .inr (.inl (tm 6)))), (qm 7, .inl (k 1, 1000, .inr (.inl (tm 7)))), (qm 8, .inl (k 1, 50, .inr (.inl (tm 8)))), (qm 9, .inl (k 1, 50, .inr (.inl (tm 9)))), (qm 10, .inl (k 1, 1500, .inr (.inl (tm 10)))), (qm 11, .inl (k 1, 1500, .inr (.inl (tm 11)))), (qm 12, .inl (k 0, 1500, .inl (sm 12))), (qm 13, .inl (k 0, 5, .inl (sm 13))), (qm 14, .inl (k 3, 2, .inl (sm 14))), (qm 15, .inl (k 0, 14, .inl (sm 15))), (qm 16, .inl (k 0, 5, .inl (sm 16))), (qm 17, .inl (k 0, 5, .inl (sm 17)))] H → va_D A [(qm 0, .inr (10, [.ref (qm 1), .ref (qm 2), .ref (qm 3), .int (sm 0 3), .int (sm 0 4), .int (sm 0 5), .int (sm 0 6), .int (sm 0 7), .int (sm 0 8), .int (sm 0 9), .int (sm 0 10), .ref (qm 4), .ref (qm 5), .int (sm 0 13), .ref (qm 6), .ref (qm 7), .ref (qm 8), .ref (qm 9), .ref (qm 10), .ref (qm 11), .ref (qm 12), .ref (qm 13), .int (sm 0 22), .int (sm 0 23), .ref (qm 14), .ref (qm 15), .int (sm 0 26), .ref (qm 16), .ref (qm 17), .long (tm 0 29), .long (tm 0 30), .long (tm 0 31), .int (sm 0 32)])), (qm 1, .inl (k 0, 26, .inl (sm 1))), (qm 2, .inl (k 0, 26, .inl (sm 2))), (qm 3, .inl (k 0, 64, .inl (sm 3))), (qm 4, .inl (k 0, 15, .inl (sm 4))), (qm 5, .inl (k 0, 5, .inl (sm 5))), (qm 6, .inl (k 1, 1000, .inr (.inl (tm 6)))), (qm 7, .inl (k 1, 1000, .inr (.inl (tm 7)))), (qm 8, .inl (k 1, 50, .inr (.inl (tm 8)))), (qm 9, .inl (k 1, 50, .inr (.inl (tm 9)))), (qm 10, .inl (k 1, 1500, .inr (.inl (tm 10)))), (qm 11, .inl (k 1, 1500, .inr (.inl (tm 11)))), (qm 12, .inl (k 0, 1500, .inl (sm 12))), (qm 13, .inl (k 0, 5, .inl (sm 13))), (qm 14, .inl (k 3, 2, .inl (sm 14))), (qm 15, .inl (k 0, 14, .inl (sm 15))), (qm 16, .inl (k 0, 5, .inl (sm 16))), (qm 17, .inl (k 0, 5, .inl (sm 17)))] → va_S A s.heap H locs → lv_has ls 10 [(6, .int v5), (5, .int v3), (4, .int v1), (0, .ref (qm 0)), (2, .int p1)] → W p l e ({ frames := 1, cells := 0, slots := 0, locals := 26 } : Room) s m ([.ref (qm 0), .int p0, .int p1, .int p2] : List Value).toArray below meth c H locs 0 0 Q (F0 m 151 ls [.int v40]) := by
      intro v40 H locs ls bv40 hP hD hS hl
      refine lv_istore (lv' := [(8, .int v40), (6, .int v5), (5, .int v3), (4, .int v1), (0, .ref (qm 0)), (2, .int p1)]) hx hb dX12_after_151 hl (by decide) rfl (fun ls hl => ?_)
      refine lv_iload hx hb dX12_after_153 (lv_at hl 0 rfl) ?_
      refine lv_if_ne (tgt := 161) hx hb dX12_after_155 (by decide) (fun c41 => ?_) (fun c41 => ?_)
      · have f41 : ¬ v40.toInt = 0 := f_ne rfl (by decide) c41
        refine lv_iload_n hx hb dX12_after_161 rfl (lv_at hl 5 rfl) ?_
        refine lv_iload hx hb dX12_after_162 (lv_at hl 3 rfl) ?_
        refine g_ir (g_runS (wc := []) (rest := []) cx hP hD hS [] rfl (by decide) [.int p1, .int v1] (c_X12_fewer l D k b H.size p1 v1) gX12_after_X12_fewer rfl rfl rfl nd_X12_fewer ⟨Nat.le_of_ble_eq_true rfl, Nat.le_of_ble_eq_true rfl⟩ rfl hl.1 rfl (Nat.le_of_ble_eq_true rfl) ⟨Nat.zero_le _, Nat.zero_le _⟩ dX12_after_164) cx.2.2.1 hP hD hS [] rfl rfl (fun r43 H locs hw42 hP hS => ?_)
        have w44 : r43 = J_X12_fewer p1 v1 := hw42
        clear hw42
        refine lv_bipush (v := 100) hx hb dX12_after_167 (by decide) ?_
        refine lv_iload hx hb dX12_after_169 (lv_at hl 2 rfl) ?_
        refine lv_imul hx hb dX12_after_171 (lv_topi (fun v45 e45 => ?_))
        have t45 : v45.toInt = 100 * v3.toInt := by rw [e45]; exact i_mul (by decide) rfl (by omega) (by omega)
        refine lv_iadd hx hb dX12_after_172 (lv_topi (fun v46 e46 => ?_))
        refine lv_istore (lv' := [(9, .int v46), (8, .int v40), (6, .int v5), (5, .int v3), (4, .int v1), (0, .ref (qm 0)), (2, .int p1)]) hx hb dX12_after_173 hl (by decide) rfl (fun ls hl => ?_)
        refine lv_iload hx hb dX12_after_175 (lv_at hl 0 rfl) ?_
        refine g_ir (g_runS (wc := []) (rest := []) cx hP hD hS [] rfl (by decide) [.int v46] (c_X12_all l D k b H.size v46) gX12_after_X12_all rfl rfl rfl nd_X12_all ⟨Nat.le_of_ble_eq_true rfl, Nat.le_of_ble_eq_true rfl⟩ rfl hl.1 rfl (Nat.le_of_ble_eq_true rfl) ⟨Nat.zero_le _, Nat.zero_le _⟩ dX12_after_177) cx.2.2.1 hP hD hS [] rfl rfl (fun r48 H locs hw47 hP hS => ?_)
        have w49 : r48 = J_X12_all v46 := hw47
        clear hw47
        refine lv_aload_n hx hb dX12_after_180 rfl (lv_at hl 5 rfl) ?_
        refine g_get cx hP iw_X12_after_X12 0 rfl rfl 1 (by decide) rfl fw_X12_after_13 rfl dX12_after_181 ?_
        refine lv_iconst (v := 1) hx hb dX12_after_184 (by decide) ?_
        have hn50 : vp_in 1 26 := f_in (a := 1) (by decide) (by omega) (by omega)
        refine va_iald hx hb cx.2.1 hP 2 0 rfl rfl hn50 dX12_after_185 (lv_topi (fun v51 e51 => ?_))
        have uv51 : v51.toInt = ((sm 2) 1).toInt := congrArg Int32.toInt e51
        refine lv_icmp_gt (tgt := 211) hx hb dX12_after_186 (by decide) (fun c52 => ?_) (fun c52 => ?_)
        · have f52 : v51.toInt < r48.toInt := f_lt rfl rfl c52
          refine lv_bipush (v := (-9)) hx hb dX12_after_211 (by decide) ?_
          have hlit53 : ((-9) : Int32).toInt = -9 := by decide
          rw [hQ]
          exact x_i cx hr () hP hD hS trivial dX12_after_213
        · have f52 : r48.toInt ≤ v51.toInt := f_nlt rfl rfl c52
          refine lv_iload hx hb dX12_after_189 (lv_at hl 2 rfl) ?_
          refine lv_iconst (v := 1) hx hb dX12_after_191 (by decide) ?_
          have hJ214 : ∀  (H : Heap) (locs : List Loc) (ls : Array Slot), va_P D vwCl [(qm 0, .inr (10, [.ref (qm 1), .ref (qm 2), .ref (qm 3), .int (sm 0 3), .int (sm 0 4), .int (sm 0 5), .int (sm 0 6), .int (sm 0 7), .int (sm 0 8), .int (sm 0 9), .int (sm 0 10), .ref (qm 4), .ref (qm 5), .int (sm 0 13), .ref (qm 6), .ref (qm 7), .ref (qm 8), .ref (qm 9), .ref (qm 10), .ref (qm 11), .ref (qm 12), .ref (qm 13), .int (sm 0 22), .int (sm 0 23), .ref (qm 14), .ref (qm 15), .int (sm 0 26), .ref (qm 16), .ref (qm 17), .long (tm 0 29), .long (tm 0 30), .long (tm 0 31), .int (sm 0 32)])), (qm 1, .inl (k 0, 26, .inl (sm 1))), (qm 2, .inl (k 0, 26, .inl (sm 2))), (qm 3, .inl (k 0, 64, .inl (sm 3))), (qm 4, .inl (k 0, 15, .inl (sm 4))), (qm 5, .inl (k 0, 5, .inl (sm 5))), (qm 6, .inl (k 1, 1000, .inr (.inl (tm 6)))), (qm 7, .inl (k 1, 1000, .inr (.inl (tm 7)))), (qm 8, .inl (k 1, 50, .inr (.inl (tm 8)))), (qm 9, .inl (k 1, 50, .inr (.inl (tm 9)))), (qm 10, .inl (k 1, 1500, .inr (.inl (tm 10)))), (qm 11, .inl (k 1, 1500, .inr (.inl (tm 11)))), (qm 12, .inl (k 0, 1500, .inl (sm 12))), (qm 13, .inl (k 0, 5, .inl (sm 13))), (qm 14, .inl (k 3, 2, .inl (sm 14))), (qm 15, .inl (k 0, 14, .inl (sm 15))), (qm 16, .inl (k 0, 5, .inl (sm 16))), (qm 17, .inl (k 0, 5, .inl (sm 17)))] H → va_D A [(qm 0, .inr (10, [.ref (qm 1), .ref (qm 2), .ref (qm 3), .int (sm 0 3), .int (sm 0 4), .int (sm 0 5), .int (sm 0 6), .int (sm 0 7), .int (sm 0 8), .int (sm 0 9), .int (sm 0 10), .ref (qm 4), .ref (qm 5), .int (sm 0 13), .ref (qm 6), .ref (qm 7), .ref (qm 8), .ref (qm 9), .ref (qm 10), .ref (qm 11), .ref (qm 12), .ref (qm 13), .int (sm 0 22), .int (sm 0 23), .ref (qm 14), .ref (qm 15), .int (sm 0 26), .ref (qm 16), .ref (qm 17), .long (tm 0 29), .long (tm 0 30), .long (tm 0 31), .int (sm 0 32)])), (qm 1, .inl (k 0, 26, .inl (sm 1))), (qm 2, .inl (k 0, 26, .inl (sm 2))), (qm 3, .inl (k 0, 64, .inl (sm 3))), (qm 4, .inl (k 0, 15, .inl (sm 4))), (qm 5, .inl (k 0, 5, .inl (sm 5))), (qm 6, .inl (k 1, 1000, .inr (.inl (tm 6)))), (qm 7, .inl (k 1, 1000, .inr (.inl (tm 7)))), (qm 8, .inl (k 1, 50, .inr (.inl (tm 8)))), (qm 9, .inl (k 1, 50, .inr (.inl (tm 9)))), (qm 10, .inl (k 1, 1500, .inr (.inl (tm 10)))), (qm 11, .inl (k 1, 1500, .inr (.inl (tm 11)))), (qm 12, .inl (k 0, 1500, .inl (sm 12))), (qm 13, .inl (k 0, 5, .inl (sm 13))), (qm 14, .inl (k 3, 2, .inl (sm 14))), (qm 15, .inl (k 0, 14, .inl (sm 15))), (qm 16, .inl (k 0, 5, .inl (sm 16))), (qm 17, .inl (k 0, 5, .inl (sm 17)))] → va_S A s.heap H locs → lv_has ls 10 [(9, .int v46), (6, .int v5)] → W p l e ({ frames := 1, cells := 0, slots := 0, locals := 26 } : Room) s m ([.ref (qm 0), .int p0, .int p1, .int p2] : List Value).toArray below meth c H locs 0 0 Q (F0 m 214 ls []) := by
            intro  H locs ls  hP hD hS hl
            refine lv_iload hx hb dX12_after_214 (lv_at hl 1 rfl) ?_
            refine lv_iconst (v := 1) hx hb dX12_after_216 (by decide) ?_
            refine lv_icmp_ne (tgt := 228) hx hb dX12_after_217 (by decide) (fun c56 => ?_) (fun c56 => ?_)
            · have f56 : ¬ v5.toInt = 1 := f_ne rfl (by decide) c56
              refine lv_iload hx hb dX12_after_228 (lv_at hl 0 rfl) ?_
              rw [hQ]
              exact x_i cx hr () hP hD hS trivial dX12_after_230
            · have f56 : v5.toInt = 1 := f_eq rfl (by decide) c56
              refine lv_iload hx hb dX12_after_220 (lv_at hl 0 rfl) ?_
              refine lv_bipush (v := 90) hx hb dX12_after_222 (by decide) ?_
              refine lv_isub hx hb dX12_after_224 (lv_topi (fun v57 e57 => ?_))
              refine lv_goto (tgt := 230) hx hb dX12_after_225 (by decide) ?_
              rw [hQ]
              exact x_i cx hr () hP hD hS trivial dX12_after_230
          refine lv_icmp_ne (tgt := 214) hx hb dX12_after_192 (by decide) (fun c58 => ?_) (fun c58 => ?_)
          · have f58 : ¬ v5.toInt = 1 := f_ne rfl (by decide) c58
            exact hJ214  _ _ _  hP hD hS (lv_sub hl [0, 2] rfl)
          · have f58 : v5.toInt = 1 := f_eq rfl (by decide) c58
            refine lv_iload hx hb dX12_after_195 (lv_at hl 0 rfl) ?_
            refine lv_bipush (v := 100) hx hb dX12_after_197 (by decide) ?_
            refine lv_idiv hx hb dX12_after_199 (by decide) (lv_topi (fun v59 e59 => ?_))
            refine lv_if_eq (tgt := 211) hx hb dX12_after_200 (by decide) (fun c60 => ?_) (fun c60 => ?_)
            · have f60 : v59.toInt = 0 := f_eq rfl (by decide) c60
              refine lv_bipush (v := (-9)) hx hb dX12_after_211 (by decide) ?_
              have hlit61 : ((-9) : Int32).toInt = -9 := by decide
              rw [hQ]
              exact x_i cx hr () hP hD hS trivial dX12_after_213
            · have f60 : ¬ v59.toInt = 0 := f_ne rfl (by decide) c60
              refine lv_iload hx hb dX12_after_203 (lv_at hl 0 rfl) ?_
              refine lv_bipush (v := 10) hx hb dX12_after_205 (by decide) ?_
              refine lv_irem hx hb dX12_after_207 (by decide) (lv_topi (fun v62 e62 => ?_))
              have t62 : -10 < v62.toInt ∧ v62.toInt < 10 := by rw [e62]; exact i_remb (by decide) (by decide)
              refine lv_if_ne (tgt := 214) hx hb dX12_after_208 (by decide) (fun c63 => ?_) (fun c63 => ?_)
              · have f63 : ¬ v62.toInt = 0 := f_ne rfl (by decide) c63
                exact hJ214  _ _ _  hP hD hS (lv_sub hl [0, 2] rfl)
              · have f63 : v62.toInt = 0 := f_eq rfl (by decide) c63
                refine lv_bipush (v := (-9)) hx hb dX12_after_211 (by decide) ?_
                have hlit64 : ((-9) : Int32).toInt = -9 := by decide
                rw [hQ]
                exact x_i cx hr () hP hD hS trivial dX12_after_213
      · have f41 : v40.toInt = 0 := f_eq rfl (by decide) c41
        refine lv_bipush (v := (-9)) hx hb dX12_after_158 (by decide) ?_
        have hlit65 : ((-9) : Int32).toInt = -9 := by decide
        rw [hQ]
        exact x_i cx hr () hP hD hS trivial dX12_after_160
    have hJ150 : ∀  (H : Heap) (locs : List Loc) (ls : Array Slot), va_P D vwCl [(qm 0, .inr (10, [.ref (qm 1), .ref (qm 2), .ref (qm 3), .int (sm 0 3), .int (sm 0 4), .int (sm 0 5), .int (sm 0 6), .int (sm 0 7), .int (sm 0 8), .int (sm 0 9), .int (sm 0 10), .ref (qm 4), .ref (qm 5), .int (sm 0 13), .ref (qm 6), .ref (qm 7), .ref (qm 8), .ref (qm 9), .ref (qm 10), .ref (qm 11), .ref (qm 12), .ref (qm 13), .int (sm 0 22), .int (sm 0 23), .ref (qm 14), .ref (qm 15), .int (sm 0 26), .ref (qm 16), .ref (qm 17), .long (tm 0 29), .long (tm 0 30), .long (tm 0 31), .int (sm 0 32)])), (qm 1, .inl (k 0, 26, .inl (sm 1))), (qm 2, .inl (k 0, 26, .inl (sm 2))), (qm 3, .inl (k 0, 64, .inl (sm 3))), (qm 4, .inl (k 0, 15, .inl (sm 4))), (qm 5, .inl (k 0, 5, .inl (sm 5))), (qm 6, .inl (k 1, 1000, .inr (.inl (tm 6)))), (qm 7, .inl (k 1, 1000, .inr (.inl (tm 7)))), (qm 8, .inl (k 1, 50, .inr (.inl (tm 8)))), (qm 9, .inl (k 1, 50, .inr (.inl (tm 9)))), (qm 10, .inl (k 1, 1500, .inr (.inl (tm 10)))), (qm 11, .inl (k 1, 1500, .inr (.inl (tm 11)))), (qm 12, .inl (k 0, 1500, .inl (sm 12))), (qm 13, .inl (k 0, 5, .inl (sm 13))), (qm 14, .inl (k 3, 2, .inl (sm 14))), (qm 15, .inl (k 0, 14, .inl (sm 15))), (qm 16, .inl (k 0, 5, .inl (sm 16))), (qm 17, .inl (k 0, 5, .inl (sm 17)))] H → va_D A [(qm 0, .inr (10, [.ref (qm 1), .ref (qm 2), .ref (qm 3), .int (sm 0 3), .int (sm 0 4), .int (sm 0 5), .int (sm 0 6), .int (sm 0 7), .int (sm 0 8), .int (sm 0 9), .int (sm 0 10), .ref (qm 4), .ref (qm 5), .int (sm 0 13), .ref (qm 6), .ref (qm 7), .ref (qm 8), .ref (qm 9), .ref (qm 10), .ref (qm 11), .ref (qm 12), .ref (qm 13), .int (sm 0 22), .int (sm 0 23), .ref (qm 14), .ref (qm 15), .int (sm 0 26), .ref (qm 16), .ref (qm 17), .long (tm 0 29), .long (tm 0 30), .long (tm 0 31), .int (sm 0 32)])), (qm 1, .inl (k 0, 26, .inl (sm 1))), (qm 2, .inl (k 0, 26, .inl (sm 2))), (qm 3, .inl (k 0, 64, .inl (sm 3))), (qm 4, .inl (k 0, 15, .inl (sm 4))), (qm 5, .inl (k 0, 5, .inl (sm 5))), (qm 6, .inl (k 1, 1000, .inr (.inl (tm 6)))), (qm 7, .inl (k 1, 1000, .inr (.inl (tm 7)))), (qm 8, .inl (k 1, 50, .inr (.inl (tm 8)))), (qm 9, .inl (k 1, 50, .inr (.inl (tm 9)))), (qm 10, .inl (k 1, 1500, .inr (.inl (tm 10)))), (qm 11, .inl (k 1, 1500, .inr (.inl (tm 11)))), (qm 12, .inl (k 0, 1500, .inl (sm 12))), (qm 13, .inl (k 0, 5, .inl (sm 13))), (qm 14, .inl (k 3, 2, .inl (sm 14))), (qm 15, .inl (k 0, 14, .inl (sm 15))), (qm 16, .inl (k 0, 5, .inl (sm 16))), (qm 17, .inl (k 0, 5, .inl (sm 17)))] → va_S A s.heap H locs → lv_has ls 10 [(6, .int v5), (5, .int v3), (4, .int v1), (0, .ref (qm 0)), (2, .int p1)] → W p l e ({ frames := 1, cells := 0, slots := 0, locals := 26 } : Room) s m ([.ref (qm 0), .int p0, .int p1, .int p2] : List Value).toArray below meth c H locs 0 0 Q (F0 m 150 ls []) := by
      intro  H locs ls  hP hD hS hl
      refine lv_iconst (v := 0) hx hb dX12_after_150 (by decide) ?_
      have hlit92 : (0 : Int32).toInt = 0 := by decide
      exact hJ151 0 _ _ _ (by first | decide | omega) hP hD hS (lv_sub hl [0, 1, 2, 3, 4] rfl)
    refine lv_if_eq (tgt := 150) hx hb dX12_after_82 (by decide) (fun c93 => ?_) (fun c93 => ?_)
    · have f93 : v13.toInt = 0 := f_eq rfl (by decide) c93
      exact hJ150  _ _ _  hP hD hS (lv_sub hl [2, 3, 4, 5, 7] rfl)
    · have f93 : ¬ v13.toInt = 0 := f_ne rfl (by decide) c93
      refine lv_iload hx hb dX12_after_85 (lv_at hl 4 rfl) ?_
      have hJ101 : ∀  (H : Heap) (locs : List Loc) (ls : Array Slot), va_P D vwCl [(qm 0, .inr (10, [.ref (qm 1), .ref (qm 2), .ref (qm 3), .int (sm 0 3), .int (sm 0 4), .int (sm 0 5), .int (sm 0 6), .int (sm 0 7), .int (sm 0 8), .int (sm 0 9), .int (sm 0 10), .ref (qm 4), .ref (qm 5), .int (sm 0 13), .ref (qm 6), .ref (qm 7), .ref (qm 8), .ref (qm 9), .ref (qm 10), .ref (qm 11), .ref (qm 12), .ref (qm 13), .int (sm 0 22), .int (sm 0 23), .ref (qm 14), .ref (qm 15), .int (sm 0 26), .ref (qm 16), .ref (qm 17), .long (tm 0 29), .long (tm 0 30), .long (tm 0 31), .int (sm 0 32)])), (qm 1, .inl (k 0, 26, .inl (sm 1))), (qm 2, .inl (k 0, 26, .inl (sm 2))), (qm 3, .inl (k 0, 64, .inl (sm 3))), (qm 4, .inl (k 0, 15, .inl (sm 4))), (qm 5, .inl (k 0, 5, .inl (sm 5))), (qm 6, .inl (k 1, 1000, .inr (.inl (tm 6)))), (qm 7, .inl (k 1, 1000, .inr (.inl (tm 7)))), (qm 8, .inl (k 1, 50, .inr (.inl (tm 8)))), (qm 9, .inl (k 1, 50, .inr (.inl (tm 9)))), (qm 10, .inl (k 1, 1500, .inr (.inl (tm 10)))), (qm 11, .inl (k 1, 1500, .inr (.inl (tm 11)))), (qm 12, .inl (k 0, 1500, .inl (sm 12))), (qm 13, .inl (k 0, 5, .inl (sm 13))), (qm 14, .inl (k 3, 2, .inl (sm 14))), (qm 15, .inl (k 0, 14, .inl (sm 15))), (qm 16, .inl (k 0, 5, .inl (sm 16))), (qm 17, .inl (k 0, 5, .inl (sm 17)))] H → va_D A [(qm 0, .inr (10, [.ref (qm 1), .ref (qm 2), .ref (qm 3), .int (sm 0 3), .int (sm 0 4), .int (sm 0 5), .int (sm 0 6), .int (sm 0 7), .int (sm 0 8), .int (sm 0 9), .int (sm 0 10), .ref (qm 4), .ref (qm 5), .int (sm 0 13), .ref (qm 6), .ref (qm 7), .ref (qm 8), .ref (qm 9), .ref (qm 10), .ref (qm 11), .ref (qm 12), .ref (qm 13), .int (sm 0 22), .int (sm 0 23), .ref (qm 14), .ref (qm 15), .int (sm 0 26), .ref (qm 16), .ref (qm 17), .long (tm 0 29), .long (tm 0 30), .long (tm 0 31), .int (sm 0 32)])), (qm 1, .inl (k 0, 26, .inl (sm 1))), (qm 2, .inl (k 0, 26, .inl (sm 2))), (qm 3, .inl (k 0, 64, .inl (sm 3))), (qm 4, .inl (k 0, 15, .inl (sm 4))), (qm 5, .inl (k 0, 5, .inl (sm 5))), (qm 6, .inl (k 1, 1000, .inr (.inl (tm 6)))), (qm 7, .inl (k 1, 1000, .inr (.inl (tm 7)))), (qm 8, .inl (k 1, 50, .inr (.inl (tm 8)))), (qm 9, .inl (k 1, 50, .inr (.inl (tm 9)))), (qm 10, .inl (k 1, 1500, .inr (.inl (tm 10)))), (qm 11, .inl (k 1, 1500, .inr (.inl (tm 11)))), (qm 12, .inl (k 0, 1500, .inl (sm 12))), (qm 13, .inl (k 0, 5, .inl (sm 13))), (qm 14, .inl (k 3, 2, .inl (sm 14))), (qm 15, .inl (k 0, 14, .inl (sm 15))), (qm 16, .inl (k 0, 5, .inl (sm 16))), (qm 17, .inl (k 0, 5, .inl (sm 17)))] → va_S A s.heap H locs → lv_has ls 10 [(7, .int v6), (6, .int v5), (5, .int v3), (4, .int v1), (0, .ref (qm 0)), (1, .int p0), (2, .int p1)] → W p l e ({ frames := 1, cells := 0, slots := 0, locals := 26 } : Room) s m ([.ref (qm 0), .int p0, .int p1, .int p2] : List Value).toArray below meth c H locs 0 0 Q (F0 m 101 ls []) := by
        intro  H locs ls  hP hD hS hl
        refine lv_iload hx hb dX12_after_101 (lv_at hl 1 rfl) ?_
        have hJ117 : ∀  (H : Heap) (locs : List Loc) (ls : Array Slot), va_P D vwCl [(qm 0, .inr (10, [.ref (qm 1), .ref (qm 2), .ref (qm 3), .int (sm 0 3), .int (sm 0 4), .int (sm 0 5), .int (sm 0 6), .int (sm 0 7), .int (sm 0 8), .int (sm 0 9), .int (sm 0 10), .ref (qm 4), .ref (qm 5), .int (sm 0 13), .ref (qm 6), .ref (qm 7), .ref (qm 8), .ref (qm 9), .ref (qm 10), .ref (qm 11), .ref (qm 12), .ref (qm 13), .int (sm 0 22), .int (sm 0 23), .ref (qm 14), .ref (qm 15), .int (sm 0 26), .ref (qm 16), .ref (qm 17), .long (tm 0 29), .long (tm 0 30), .long (tm 0 31), .int (sm 0 32)])), (qm 1, .inl (k 0, 26, .inl (sm 1))), (qm 2, .inl (k 0, 26, .inl (sm 2))), (qm 3, .inl (k 0, 64, .inl (sm 3))), (qm 4, .inl (k 0, 15, .inl (sm 4))), (qm 5, .inl (k 0, 5, .inl (sm 5))), (qm 6, .inl (k 1, 1000, .inr (.inl (tm 6)))), (qm 7, .inl (k 1, 1000, .inr (.inl (tm 7)))), (qm 8, .inl (k 1, 50, .inr (.inl (tm 8)))), (qm 9, .inl (k 1, 50, .inr (.inl (tm 9)))), (qm 10, .inl (k 1, 1500, .inr (.inl (tm 10)))), (qm 11, .inl (k 1, 1500, .inr (.inl (tm 11)))), (qm 12, .inl (k 0, 1500, .inl (sm 12))), (qm 13, .inl (k 0, 5, .inl (sm 13))), (qm 14, .inl (k 3, 2, .inl (sm 14))), (qm 15, .inl (k 0, 14, .inl (sm 15))), (qm 16, .inl (k 0, 5, .inl (sm 16))), (qm 17, .inl (k 0, 5, .inl (sm 17)))] H → va_D A [(qm 0, .inr (10, [.ref (qm 1), .ref (qm 2), .ref (qm 3), .int (sm 0 3), .int (sm 0 4), .int (sm 0 5), .int (sm 0 6), .int (sm 0 7), .int (sm 0 8), .int (sm 0 9), .int (sm 0 10), .ref (qm 4), .ref (qm 5), .int (sm 0 13), .ref (qm 6), .ref (qm 7), .ref (qm 8), .ref (qm 9), .ref (qm 10), .ref (qm 11), .ref (qm 12), .ref (qm 13), .int (sm 0 22), .int (sm 0 23), .ref (qm 14), .ref (qm 15), .int (sm 0 26), .ref (qm 16), .ref (qm 17), .long (tm 0 29), .long (tm 0 30), .long (tm 0 31), .int (sm 0 32)])), (qm 1, .inl (k 0, 26, .inl (sm 1))), (qm 2, .inl (k 0, 26, .inl (sm 2))), (qm 3, .inl (k 0, 64, .inl (sm 3))), (qm 4, .inl (k 0, 15, .inl (sm 4))), (qm 5, .inl (k 0, 5, .inl (sm 5))), (qm 6, .inl (k 1, 1000, .inr (.inl (tm 6)))), (qm 7, .inl (k 1, 1000, .inr (.inl (tm 7)))), (qm 8, .inl (k 1, 50, .inr (.inl (tm 8)))), (qm 9, .inl (k 1, 50, .inr (.inl (tm 9)))), (qm 10, .inl (k 1, 1500, .inr (.inl (tm 10)))), (qm 11, .inl (k 1, 1500, .inr (.inl (tm 11)))), (qm 12, .inl (k 0, 1500, .inl (sm 12))), (qm 13, .inl (k 0, 5, .inl (sm 13))), (qm 14, .inl (k 3, 2, .inl (sm 14))), (qm 15, .inl (k 0, 14, .inl (sm 15))), (qm 16, .inl (k 0, 5, .inl (sm 16))), (qm 17, .inl (k 0, 5, .inl (sm 17)))] → va_S A s.heap H locs → lv_has ls 10 [(7, .int v6), (6, .int v5), (5, .int v3), (4, .int v1), (0, .ref (qm 0)), (1, .int p0), (2, .int p1)] → W p l e ({ frames := 1, cells := 0, slots := 0, locals := 26 } : Room) s m ([.ref (qm 0), .int p0, .int p1, .int p2] : List Value).toArray below meth c H locs 0 0 Q (F0 m 117 ls []) := by
          intro  H locs ls  hP hD hS hl
          refine lv_iload hx hb dX12_after_117 (lv_at hl 0 rfl) ?_
          have hJ146 : ∀  (H : Heap) (locs : List Loc) (ls : Array Slot), va_P D vwCl [(qm 0, .inr (10, [.ref (qm 1), .ref (qm 2), .ref (qm 3), .int (sm 0 3), .int (sm 0 4), .int (sm 0 5), .int (sm 0 6), .int (sm 0 7), .int (sm 0 8), .int (sm 0 9), .int (sm 0 10), .ref (qm 4), .ref (qm 5), .int (sm 0 13), .ref (qm 6), .ref (qm 7), .ref (qm 8), .ref (qm 9), .ref (qm 10), .ref (qm 11), .ref (qm 12), .ref (qm 13), .int (sm 0 22), .int (sm 0 23), .ref (qm 14), .ref (qm 15), .int (sm 0 26), .ref (qm 16), .ref (qm 17), .long (tm 0 29), .long (tm 0 30), .long (tm 0 31), .int (sm 0 32)])), (qm 1, .inl (k 0, 26, .inl (sm 1))), (qm 2, .inl (k 0, 26, .inl (sm 2))), (qm 3, .inl (k 0, 64, .inl (sm 3))), (qm 4, .inl (k 0, 15, .inl (sm 4))), (qm 5, .inl (k 0, 5, .inl (sm 5))), (qm 6, .inl (k 1, 1000, .inr (.inl (tm 6)))), (qm 7, .inl (k 1, 1000, .inr (.inl (tm 7)))), (qm 8, .inl (k 1, 50, .inr (.inl (tm 8)))), (qm 9, .inl (k 1, 50, .inr (.inl (tm 9)))), (qm 10, .inl (k 1, 1500, .inr (.inl (tm 10)))), (qm 11, .inl (k 1, 1500, .inr (.inl (tm 11)))), (qm 12, .inl (k 0, 1500, .inl (sm 12))), (qm 13, .inl (k 0, 5, .inl (sm 13))), (qm 14, .inl (k 3, 2, .inl (sm 14))), (qm 15, .inl (k 0, 14, .inl (sm 15))), (qm 16, .inl (k 0, 5, .inl (sm 16))), (qm 17, .inl (k 0, 5, .inl (sm 17)))] H → va_D A [(qm 0, .inr (10, [.ref (qm 1), .ref (qm 2), .ref (qm 3), .int (sm 0 3), .int (sm 0 4), .int (sm 0 5), .int (sm 0 6), .int (sm 0 7), .int (sm 0 8), .int (sm 0 9), .int (sm 0 10), .ref (qm 4), .ref (qm 5), .int (sm 0 13), .ref (qm 6), .ref (qm 7), .ref (qm 8), .ref (qm 9), .ref (qm 10), .ref (qm 11), .ref (qm 12), .ref (qm 13), .int (sm 0 22), .int (sm 0 23), .ref (qm 14), .ref (qm 15), .int (sm 0 26), .ref (qm 16), .ref (qm 17), .long (tm 0 29), .long (tm 0 30), .long (tm 0 31), .int (sm 0 32)])), (qm 1, .inl (k 0, 26, .inl (sm 1))), (qm 2, .inl (k 0, 26, .inl (sm 2))), (qm 3, .inl (k 0, 64, .inl (sm 3))), (qm 4, .inl (k 0, 15, .inl (sm 4))), (qm 5, .inl (k 0, 5, .inl (sm 5))), (qm 6, .inl (k 1, 1000, .inr (.inl (tm 6)))), (qm 7, .inl (k 1, 1000, .inr (.inl (tm 7)))), (qm 8, .inl (k 1, 50, .inr (.inl (tm 8)))), (qm 9, .inl (k 1, 50, .inr (.inl (tm 9)))), (qm 10, .inl (k 1, 1500, .inr (.inl (tm 10)))), (qm 11, .inl (k 1, 1500, .inr (.inl (tm 11)))), (qm 12, .inl (k 0, 1500, .inl (sm 12))), (qm 13, .inl (k 0, 5, .inl (sm 13))), (qm 14, .inl (k 3, 2, .inl (sm 14))), (qm 15, .inl (k 0, 14, .inl (sm 15))), (qm 16, .inl (k 0, 5, .inl (sm 16))), (qm 17, .inl (k 0, 5, .inl (sm 17)))] → va_S A s.heap H locs → lv_has ls 10 [(6, .int v5), (5, .int v3), (4, .int v1), (0, .ref (qm 0)), (2, .int p1)] → W p l e ({ frames := 1, cells := 0, slots := 0, locals := 26 } : Room) s m ([.ref (qm 0), .int p0, .int p1, .int p2] : List Value).toArray below meth c H locs 0 0 Q (F0 m 146 ls []) := by
            intro  H locs ls  hP hD hS hl
            refine lv_iconst (v := 1) hx hb dX12_after_146 (by decide) ?_
            refine lv_goto (tgt := 151) hx hb dX12_after_147 (by decide) ?_
            have hlit103 : (1 : Int32).toInt = 1 := by decide
            exact hJ151 1 _ _ _ (by first | decide | omega) hP hD hS (lv_sub hl [0, 1, 2, 3, 4] rfl)
          refine lv_if_eq (tgt := 146) hx hb dX12_after_119 (by decide) (fun c104 => ?_) (fun c104 => ?_)
          · have f104 : v6.toInt = 0 := f_eq rfl (by decide) c104
            exact hJ146  _ _ _  hP hD hS (lv_sub hl [1, 2, 3, 4, 6] rfl)
          · have f104 : ¬ v6.toInt = 0 := f_ne rfl (by decide) c104
            refine lv_aload_n hx hb dX12_after_122 rfl (lv_at hl 4 rfl) ?_
            refine g_get cx hP iw_X12_after_X12 0 rfl rfl 1 (by decide) rfl fw_X12_after_13 rfl dX12_after_123 ?_
            refine lv_bipush (v := 6) hx hb dX12_after_126 (by decide) ?_
            have hn105 : vp_in 6 26 := f_in (a := 6) (by decide) (by omega) (by omega)
            refine va_iald hx hb cx.2.1 hP 2 0 rfl rfl hn105 dX12_after_128 (lv_topi (fun v106 e106 => ?_))
            have uv106 : v106.toInt = ((sm 2) 6).toInt := congrArg Int32.toInt e106
            refine lv_bipush (v := (-9)) hx hb dX12_after_129 (by decide) ?_
            refine lv_icmp_eq (tgt := 150) hx hb dX12_after_131 (by decide) (fun c107 => ?_) (fun c107 => ?_)
            · have f107 : v106.toInt = (-9) := f_eq rfl (by decide) c107
              exact hJ150  _ _ _  hP hD hS (lv_sub hl [1, 2, 3, 4, 6] rfl)
            · have f107 : ¬ v106.toInt = (-9) := f_ne rfl (by decide) c107
              refine lv_iload_n hx hb dX12_after_134 rfl (lv_at hl 5 rfl) ?_
              refine lv_aload_n hx hb dX12_after_135 rfl (lv_at hl 4 rfl) ?_
              refine g_get cx hP iw_X12_after_X12 0 rfl rfl 1 (by decide) rfl fw_X12_after_13 rfl dX12_after_136 ?_
              refine lv_iconst (v := 0) hx hb dX12_after_139 (by decide) ?_
              have hn108 : vp_in 0 26 := f_in (a := 0) (by decide) (by omega) (by omega)
              refine va_iald hx hb cx.2.1 hP 2 0 rfl rfl hn108 dX12_after_140 (lv_topi (fun v109 e109 => ?_))
              have uv109 : v109.toInt = ((sm 2) 0).toInt := congrArg Int32.toInt e109
              have t109 : 0 ≤ v109.toInt ∧ v109.toInt ≤ 5 := by rw [e109]; exact h_w0
              refine lv_iconst (v := 1) hx hb dX12_after_141 (by decide) ?_
              refine lv_isub hx hb dX12_after_142 (lv_topi (fun v110 e110 => ?_))
              have t110 : v110.toInt = v109.toInt - 1 := by rw [e110]; exact i_sub rfl (by decide) (by omega) (by omega)
              refine lv_icmp_ge (tgt := 150) hx hb dX12_after_143 (by decide) (fun c111 => ?_) (fun c111 => ?_)
              · have f111 : v110.toInt ≤ p0.toInt := f_le rfl rfl c111
                exact hJ150  _ _ _  hP hD hS (lv_sub hl [1, 2, 3, 4, 6] rfl)
              · have f111 : p0.toInt < v110.toInt := f_nle rfl rfl c111
                exact hJ146  _ _ _  hP hD hS (lv_sub hl [1, 2, 3, 4, 6] rfl)
        refine lv_if_eq (tgt := 117) hx hb dX12_after_103 (by decide) (fun c112 => ?_) (fun c112 => ?_)
        · have f112 : v5.toInt = 0 := f_eq rfl (by decide) c112
          exact hJ117  _ _ _  hP hD hS (lv_sub hl [0, 1, 2, 3, 4, 5, 6] rfl)
        · have f112 : ¬ v5.toInt = 0 := f_ne rfl (by decide) c112
          refine lv_aload_n hx hb dX12_after_106 rfl (lv_at hl 4 rfl) ?_
          refine g_get cx hP iw_X12_after_X12 0 rfl rfl 1 (by decide) rfl fw_X12_after_13 rfl dX12_after_107 ?_
          refine lv_iconst (v := 5) hx hb dX12_after_110 (by decide) ?_
          have hn113 : vp_in 5 26 := f_in (a := 5) (by decide) (by omega) (by omega)
          refine va_iald hx hb cx.2.1 hP 2 0 rfl rfl hn113 dX12_after_111 (lv_topi (fun v114 e114 => ?_))
          have uv114 : v114.toInt = ((sm 2) 5).toInt := congrArg Int32.toInt e114
          refine lv_bipush (v := (-9)) hx hb dX12_after_112 (by decide) ?_
          refine lv_icmp_eq (tgt := 150) hx hb dX12_after_114 (by decide) (fun c115 => ?_) (fun c115 => ?_)
          · have f115 : v114.toInt = (-9) := f_eq rfl (by decide) c115
            exact hJ150  _ _ _  hP hD hS (lv_sub hl [1, 2, 3, 4, 6] rfl)
          · have f115 : ¬ v114.toInt = (-9) := f_ne rfl (by decide) c115
            exact hJ117  _ _ _  hP hD hS (lv_sub hl [0, 1, 2, 3, 4, 5, 6] rfl)
      refine lv_if_eq (tgt := 101) hx hb dX12_after_87 (by decide) (fun c116 => ?_) (fun c116 => ?_)
      · have f116 : v1.toInt = 0 := f_eq rfl (by decide) c116
        exact hJ101  _ _ _  hP hD hS (lv_sub hl [1, 2, 3, 4, 5, 6, 7] rfl)
      · have f116 : ¬ v1.toInt = 0 := f_ne rfl (by decide) c116
        refine lv_aload_n hx hb dX12_after_90 rfl (lv_at hl 5 rfl) ?_
        refine g_get cx hP iw_X12_after_X12 0 rfl rfl 1 (by decide) rfl fw_X12_after_13 rfl dX12_after_91 ?_
        refine lv_iconst (v := 4) hx hb dX12_after_94 (by decide) ?_
        have hn117 : vp_in 4 26 := f_in (a := 4) (by decide) (by omega) (by omega)
        refine va_iald hx hb cx.2.1 hP 2 0 rfl rfl hn117 dX12_after_95 (lv_topi (fun v118 e118 => ?_))
        have uv118 : v118.toInt = ((sm 2) 4).toInt := congrArg Int32.toInt e118
        refine lv_bipush (v := (-9)) hx hb dX12_after_96 (by decide) ?_
        refine lv_icmp_eq (tgt := 150) hx hb dX12_after_98 (by decide) (fun c119 => ?_) (fun c119 => ?_)
        · have f119 : v118.toInt = (-9) := f_eq rfl (by decide) c119
          exact hJ150  _ _ _  hP hD hS (lv_sub hl [2, 3, 4, 5, 7] rfl)
        · have f119 : ¬ v118.toInt = (-9) := f_ne rfl (by decide) c119
          exact hJ101  _ _ _  hP hD hS (lv_sub hl [1, 2, 3, 4, 5, 6, 7] rfl)
  have hJ77 : ∀  (H : Heap) (locs : List Loc) (ls : Array Slot), va_P D vwCl [(qm 0, .inr (10, [.ref (qm 1), .ref (qm 2), .ref (qm 3), .int (sm 0 3), .int (sm 0 4), .int (sm 0 5), .int (sm 0 6), .int (sm 0 7), .int (sm 0 8), .int (sm 0 9), .int (sm 0 10), .ref (qm 4), .ref (qm 5), .int (sm 0 13), .ref (qm 6), .ref (qm 7), .ref (qm 8), .ref (qm 9), .ref (qm 10), .ref (qm 11), .ref (qm 12), .ref (qm 13), .int (sm 0 22), .int (sm 0 23), .ref (qm 14), .ref (qm 15), .int (sm 0 26), .ref (qm 16), .ref (qm 17), .long (tm 0 29), .long (tm 0 30), .long (tm 0 31), .int (sm 0 32)])), (qm 1, .inl (k 0, 26, .inl (sm 1))), (qm 2, .inl (k 0, 26, .inl (sm 2))), (qm 3, .inl (k 0, 64, .inl (sm 3))), (qm 4, .inl (k 0, 15, .inl (sm 4))), (qm 5, .inl (k 0, 5, .inl (sm 5))), (qm 6, .inl (k 1, 1000, .inr (.inl (tm 6)))), (qm 7, .inl (k 1, 1000, .inr (.inl (tm 7)))), (qm 8, .inl (k 1, 50, .inr (.inl (tm 8)))), (qm 9, .inl (k 1, 50, .inr (.inl (tm 9)))), (qm 10, .inl (k 1, 1500, .inr (.inl (tm 10)))), (qm 11, .inl (k 1, 1500, .inr (.inl (tm 11)))), (qm 12, .inl (k 0, 1500, .inl (sm 12))), (qm 13, .inl (k 0, 5, .inl (sm 13))), (qm 14, .inl (k 3, 2, .inl (sm 14))), (qm 15, .inl (k 0, 14, .inl (sm 15))), (qm 16, .inl (k 0, 5, .inl (sm 16))), (qm 17, .inl (k 0, 5, .inl (sm 17)))] H → va_D A [(qm 0, .inr (10, [.ref (qm 1), .ref (qm 2), .ref (qm 3), .int (sm 0 3), .int (sm 0 4), .int (sm 0 5), .int (sm 0 6), .int (sm 0 7), .int (sm 0 8), .int (sm 0 9), .int (sm 0 10), .ref (qm 4), .ref (qm 5), .int (sm 0 13), .ref (qm 6), .ref (qm 7), .ref (qm 8), .ref (qm 9), .ref (qm 10), .ref (qm 11), .ref (qm 12), .ref (qm 13), .int (sm 0 22), .int (sm 0 23), .ref (qm 14), .ref (qm 15), .int (sm 0 26), .ref (qm 16), .ref (qm 17), .long (tm 0 29), .long (tm 0 30), .long (tm 0 31), .int (sm 0 32)])), (qm 1, .inl (k 0, 26, .inl (sm 1))), (qm 2, .inl (k 0, 26, .inl (sm 2))), (qm 3, .inl (k 0, 64, .inl (sm 3))), (qm 4, .inl (k 0, 15, .inl (sm 4))), (qm 5, .inl (k 0, 5, .inl (sm 5))), (qm 6, .inl (k 1, 1000, .inr (.inl (tm 6)))), (qm 7, .inl (k 1, 1000, .inr (.inl (tm 7)))), (qm 8, .inl (k 1, 50, .inr (.inl (tm 8)))), (qm 9, .inl (k 1, 50, .inr (.inl (tm 9)))), (qm 10, .inl (k 1, 1500, .inr (.inl (tm 10)))), (qm 11, .inl (k 1, 1500, .inr (.inl (tm 11)))), (qm 12, .inl (k 0, 1500, .inl (sm 12))), (qm 13, .inl (k 0, 5, .inl (sm 13))), (qm 14, .inl (k 3, 2, .inl (sm 14))), (qm 15, .inl (k 0, 14, .inl (sm 15))), (qm 16, .inl (k 0, 5, .inl (sm 16))), (qm 17, .inl (k 0, 5, .inl (sm 17)))] → va_S A s.heap H locs → lv_has ls 10 [(7, .int v6), (6, .int v5), (5, .int v3), (4, .int v1), (0, .ref (qm 0)), (1, .int p0), (2, .int p1)] → W p l e ({ frames := 1, cells := 0, slots := 0, locals := 26 } : Room) s m ([.ref (qm 0), .int p0, .int p1, .int p2] : List Value).toArray below meth c H locs 0 0 Q (F0 m 77 ls []) := by
    intro  H locs ls  hP hD hS hl
    refine lv_iconst (v := 0) hx hb dX12_after_77 (by decide) ?_
    have hlit126 : (0 : Int32).toInt = 0 := by decide
    exact hJ78 0 _ _ _ (by first | decide | omega) hP hD hS (lv_sub hl [0, 1, 2, 3, 4, 5, 6] rfl)
  refine lv_icmp_ge (tgt := 77) hx hb dX12_after_35 (by decide) (fun c127 => ?_) (fun c127 => ?_)
  · have f127 : 10000 ≤ p2.toInt := f_le (by decide) rfl c127
    exact hJ77  _ _ _  hP hD hS (lv_sub hl [0, 1, 2, 3, 4, 5, 6] rfl)
  · have f127 : p2.toInt < 10000 := f_nle (by decide) rfl c127
    refine lv_iload hx hb dX12_after_38 (lv_at hl 3 rfl) ?_
    refine lv_iload_n hx hb dX12_after_40 rfl (lv_at hl 6 rfl) ?_
    refine g_ir (g_runS (wc := []) (rest := [.int v1]) cx hP hD hS [] rfl (by decide) [.int p1] (c_X12_all l D k b H.size p1) gX12_after_X12_all rfl rfl rfl nd_X12_all ⟨Nat.le_of_ble_eq_true rfl, Nat.le_of_ble_eq_true rfl⟩ rfl hl.1 rfl (Nat.le_of_ble_eq_true rfl) ⟨Nat.zero_le _, Nat.zero_le _⟩ dX12_after_41) cx.2.2.1 hP hD hS [] rfl rfl (fun r129 H locs hw128 hP hS => ?_)
    have w130 : r129 = J_X12_all p1 := hw128
    clear hw128
    refine lv_icmp_gt (tgt := 77) hx hb dX12_after_44 (by decide) (fun c131 => ?_) (fun c131 => ?_)
    · have f131 : r129.toInt < v1.toInt := f_lt rfl rfl c131
      exact hJ77  _ _ _  hP hD hS (lv_sub hl [0, 1, 2, 3, 4, 5, 6] rfl)
    · have f131 : v1.toInt ≤ r129.toInt := f_nlt rfl rfl c131
      refine lv_iload hx hb dX12_after_47 (lv_at hl 2 rfl) ?_
      refine lv_aload_n hx hb dX12_after_49 rfl (lv_at hl 4 rfl) ?_
      refine g_get cx hP iw_X12_after_X12 0 rfl rfl 1 (by decide) rfl fw_X12_after_13 rfl dX12_after_50 ?_
      refine lv_bipush (v := 15) hx hb dX12_after_53 (by decide) ?_
      refine lv_iload_n hx hb dX12_after_55 rfl (lv_at hl 5 rfl) ?_
      refine lv_iadd hx hb dX12_after_56 (lv_topi (fun v132 e132 => ?_))
      have t132 : v132.toInt = 15 + p0.toInt := by rw [e132]; exact i_add (by decide) rfl (by omega) (by omega)
      have hn133 : vp_in v132 26 := f_in (a := v132.toInt) rfl (by omega) (by omega)
      refine va_iald hx hb cx.2.1 hP 2 0 rfl rfl hn133 dX12_after_57 (lv_topi (fun v134 e134 => ?_))
      refine lv_icmp_gt (tgt := 77) hx hb dX12_after_58 (by decide) (fun c135 => ?_) (fun c135 => ?_)
      · have f135 : v134.toInt < v3.toInt := f_lt rfl rfl c135
        exact hJ77  _ _ _  hP hD hS (lv_sub hl [0, 1, 2, 3, 4, 5, 6] rfl)
      · have f135 : v3.toInt ≤ v134.toInt := f_nlt rfl rfl c135
        refine lv_iload hx hb dX12_after_61 (lv_at hl 1 rfl) ?_
        refine lv_iconst (v := 2) hx hb dX12_after_63 (by decide) ?_
        refine lv_icmp_ge (tgt := 77) hx hb dX12_after_64 (by decide) (fun c136 => ?_) (fun c136 => ?_)
        · have f136 : 2 ≤ v5.toInt := f_le (by decide) rfl c136
          exact hJ77  _ _ _  hP hD hS (lv_sub hl [0, 1, 2, 3, 4, 5, 6] rfl)
        · have f136 : v5.toInt < 2 := f_nle (by decide) rfl c136
          refine lv_iload hx hb dX12_after_67 (lv_at hl 0 rfl) ?_
          refine lv_iconst (v := 3) hx hb dX12_after_69 (by decide) ?_
          refine lv_icmp_ge (tgt := 77) hx hb dX12_after_70 (by decide) (fun c137 => ?_) (fun c137 => ?_)
          · have f137 : 3 ≤ v6.toInt := f_le (by decide) rfl c137
            exact hJ77  _ _ _  hP hD hS (lv_sub hl [0, 1, 2, 3, 4, 5, 6] rfl)
          · have f137 : v6.toInt < 3 := f_nle (by decide) rfl c137
            refine lv_iconst (v := 1) hx hb dX12_after_73 (by decide) ?_
            refine lv_goto (tgt := 78) hx hb dX12_after_74 (by decide) ?_
            have hlit138 : (1 : Int32).toInt = 1 := by decide
            exact hJ78 1 _ _ _ (by first | decide | omega) hP hD hS (lv_sub hl [0, 1, 2, 3, 4, 5, 6] rfl)
theorem fw_X12_over_13 : Cond.fieldLink RX12 13 "StillInAugustModel" "house" "[I" ∈ wsX12_over := by decide +kernel
theorem iw_X12_over_X12 : ∀ w ∈ u_ws RX12 TX12 33, w ∈ wsX12_over := fun _ h => List.mem_cons_of_mem _ (List.mem_append_right _ h)
set_option maxHeartbeats 4000000 in
set_option maxRecDepth 100000 in
theorem c_X12_over (l : Launch) (D : va_G) (k : Nat → ClassId) (b : Nat → Nat) (qm : Nat → Nat) (sm : Nat → Nat → Int32) (tm : Nat → Nat → Int64) (sz : Nat) (p0 : Int32) (p1 : Int32) (p2 : Int32) (p3 : Int32) (hp0 : 0 ≤ p0.toInt ∧ p0.toInt ≤ 4) : MetI l D k b yX12_over wsX12_over ({ frames := 0, cells := 0, slots := 0, locals := 0 } : Room) [(qm 0, .inr (10, [.ref (qm 1), .ref (qm 2), .ref (qm 3), .int (sm 0 3), .int (sm 0 4), .int (sm 0 5), .int (sm 0 6), .int (sm 0 7), .int (sm 0 8), .int (sm 0 9), .int (sm 0 10), .ref (qm 4), .ref (qm 5), .int (sm 0 13), .ref (qm 6), .ref (qm 7), .ref (qm 8), .ref (qm 9), .ref (qm 10), .ref (qm 11), .ref (qm 12), .ref (qm 13), .int (sm 0 22), .int (sm 0 23), .ref (qm 14), .ref (qm 15), .int (sm 0 26), .ref (qm 16), .ref (qm 17), .long (tm 0 29), .long (tm 0 30), .long (tm 0 31), .int (sm 0 32)])), (qm 1, .inl (k 0, 26, .inl (sm 1))), (qm 2, .inl (k 0, 26, .inl (sm 2))), (qm 3, .inl (k 0, 64, .inl (sm 3))), (qm 4, .inl (k 0, 15, .inl (sm 4))), (qm 5, .inl (k 0, 5, .inl (sm 5))), (qm 6, .inl (k 1, 1000, .inr (.inl (tm 6)))), (qm 7, .inl (k 1, 1000, .inr (.inl (tm 7)))), (qm 8, .inl (k 1, 50, .inr (.inl (tm 8)))), (qm 9, .inl (k 1, 50, .inr (.inl (tm 9)))), (qm 10, .inl (k 1, 1500, .inr (.inl (tm 10)))), (qm 11, .inl (k 1, 1500, .inr (.inl (tm 11)))), (qm 12, .inl (k 0, 1500, .inl (sm 12))), (qm 13, .inl (k 0, 5, .inl (sm 13))), (qm 14, .inl (k 3, 2, .inl (sm 14))), (qm 15, .inl (k 0, 14, .inl (sm 15))), (qm 16, .inl (k 0, 5, .inl (sm 16))), (qm 17, .inl (k 0, 5, .inl (sm 17)))] sz [.ref (qm 0), .int p0, .int p1, .int p2, .int p3] (fun (r : Int32) (u : Unit) => True) (fun u => [(qm 0, .inr (10, [.ref (qm 1), .ref (qm 2), .ref (qm 3), .int (sm 0 3), .int (sm 0 4), .int (sm 0 5), .int (sm 0 6), .int (sm 0 7), .int (sm 0 8), .int (sm 0 9), .int (sm 0 10), .ref (qm 4), .ref (qm 5), .int (sm 0 13), .ref (qm 6), .ref (qm 7), .ref (qm 8), .ref (qm 9), .ref (qm 10), .ref (qm 11), .ref (qm 12), .ref (qm 13), .int (sm 0 22), .int (sm 0 23), .ref (qm 14), .ref (qm 15), .int (sm 0 26), .ref (qm 16), .ref (qm 17), .long (tm 0 29), .long (tm 0 30), .long (tm 0 31), .int (sm 0 32)])), (qm 1, .inl (k 0, 26, .inl (sm 1))), (qm 2, .inl (k 0, 26, .inl (sm 2))), (qm 3, .inl (k 0, 64, .inl (sm 3))), (qm 4, .inl (k 0, 15, .inl (sm 4))), (qm 5, .inl (k 0, 5, .inl (sm 5))), (qm 6, .inl (k 1, 1000, .inr (.inl (tm 6)))), (qm 7, .inl (k 1, 1000, .inr (.inl (tm 7)))), (qm 8, .inl (k 1, 50, .inr (.inl (tm 8)))), (qm 9, .inl (k 1, 50, .inr (.inl (tm 9)))), (qm 10, .inl (k 1, 1500, .inr (.inl (tm 10)))), (qm 11, .inl (k 1, 1500, .inr (.inl (tm 11)))), (qm 12, .inl (k 0, 1500, .inl (sm 12))), (qm 13, .inl (k 0, 5, .inl (sm 13))), (qm 14, .inl (k 3, 2, .inl (sm 14))), (qm 15, .inl (k 0, 14, .inl (sm 15))), (qm 16, .inl (k 0, 5, .inl (sm 16))), (qm 17, .inl (k 0, 5, .inl (sm 17)))]) := by
  refine g_enter (cc := cX12_over) (maxL := 6) (ret := (some .int)) (by decide) rfl (Nat.le_of_ble_eq_true rfl) ?_
  intro p e s m below meth c A hsz hAe cx hr hP hD hS ls hl
  rw [hAe]
  refine g_q (fun Q hQ => ?_)
  have hx := cx.1.1
  have hb := cx.1.2.1
  have bp0 := i_rng p0
  have bp1 := i_rng p1
  have bp2 := i_rng p2
  have bp3 := i_rng p3
  have hl : lv_has ls 6 [(0, .ref (qm 0)), (1, .int p0), (2, .int p1), (3, .int p2), (4, .int p3)] := hl
  obtain ⟨H, eH⟩ : ∃ H : Heap, H = s.heap := ⟨_, rfl⟩
  obtain ⟨locs, el⟩ : ∃ L : List Loc, L = [] := ⟨_, rfl⟩
  have hP : va_P D vwCl [(qm 0, .inr (10, [.ref (qm 1), .ref (qm 2), .ref (qm 3), .int (sm 0 3), .int (sm 0 4), .int (sm 0 5), .int (sm 0 6), .int (sm 0 7), .int (sm 0 8), .int (sm 0 9), .int (sm 0 10), .ref (qm 4), .ref (qm 5), .int (sm 0 13), .ref (qm 6), .ref (qm 7), .ref (qm 8), .ref (qm 9), .ref (qm 10), .ref (qm 11), .ref (qm 12), .ref (qm 13), .int (sm 0 22), .int (sm 0 23), .ref (qm 14), .ref (qm 15), .int (sm 0 26), .ref (qm 16), .ref (qm 17), .long (tm 0 29), .long (tm 0 30), .long (tm 0 31), .int (sm 0 32)])), (qm 1, .inl (k 0, 26, .inl (sm 1))), (qm 2, .inl (k 0, 26, .inl (sm 2))), (qm 3, .inl (k 0, 64, .inl (sm 3))), (qm 4, .inl (k 0, 15, .inl (sm 4))), (qm 5, .inl (k 0, 5, .inl (sm 5))), (qm 6, .inl (k 1, 1000, .inr (.inl (tm 6)))), (qm 7, .inl (k 1, 1000, .inr (.inl (tm 7)))), (qm 8, .inl (k 1, 50, .inr (.inl (tm 8)))), (qm 9, .inl (k 1, 50, .inr (.inl (tm 9)))), (qm 10, .inl (k 1, 1500, .inr (.inl (tm 10)))), (qm 11, .inl (k 1, 1500, .inr (.inl (tm 11)))), (qm 12, .inl (k 0, 1500, .inl (sm 12))), (qm 13, .inl (k 0, 5, .inl (sm 13))), (qm 14, .inl (k 3, 2, .inl (sm 14))), (qm 15, .inl (k 0, 14, .inl (sm 15))), (qm 16, .inl (k 0, 5, .inl (sm 16))), (qm 17, .inl (k 0, 5, .inl (sm 17)))] H := by rw [eH]; exact hP
  have hD : va_D A [(qm 0, .inr (10, [.ref (qm 1), .ref (qm 2), .ref (qm 3), .int (sm 0 3), .int (sm 0 4), .int (sm 0 5), .int (sm 0 6), .int (sm 0 7), .int (sm 0 8), .int (sm 0 9), .int (sm 0 10), .ref (qm 4), .ref (qm 5), .int (sm 0 13), .ref (qm 6), .ref (qm 7), .ref (qm 8), .ref (qm 9), .ref (qm 10), .ref (qm 11), .ref (qm 12), .ref (qm 13), .int (sm 0 22), .int (sm 0 23), .ref (qm 14), .ref (qm 15), .int (sm 0 26), .ref (qm 16), .ref (qm 17), .long (tm 0 29), .long (tm 0 30), .long (tm 0 31), .int (sm 0 32)])), (qm 1, .inl (k 0, 26, .inl (sm 1))), (qm 2, .inl (k 0, 26, .inl (sm 2))), (qm 3, .inl (k 0, 64, .inl (sm 3))), (qm 4, .inl (k 0, 15, .inl (sm 4))), (qm 5, .inl (k 0, 5, .inl (sm 5))), (qm 6, .inl (k 1, 1000, .inr (.inl (tm 6)))), (qm 7, .inl (k 1, 1000, .inr (.inl (tm 7)))), (qm 8, .inl (k 1, 50, .inr (.inl (tm 8)))), (qm 9, .inl (k 1, 50, .inr (.inl (tm 9)))), (qm 10, .inl (k 1, 1500, .inr (.inl (tm 10)))), (qm 11, .inl (k 1, 1500, .inr (.inl (tm 11)))), (qm 12, .inl (k 0, 1500, .inl (sm 12))), (qm 13, .inl (k 0, 5, .inl (sm 13))), (qm 14, .inl (k 3, 2, .inl (sm 14))), (qm 15, .inl (k 0, 14, .inl (sm 15))), (qm 16, .inl (k 0, 5, .inl (sm 16))), (qm 17, .inl (k 0, 5, .inl (sm 17)))] := hD
  have hS : va_S A s.heap H locs := by rw [eH, el]; exact hS
  suffices goal : W p l e ({ frames := 0, cells := 0, slots := 0, locals := 0 } : Room) s m ([.ref (qm 0), .int p0, .int p1, .int p2, .int p3] : List Value).toArray below meth c H locs 0 0 Q (F0 m 0 ls []) by rw [eH, el] at goal; exact goal
  refine lv_iload_n hx hb dX12_over_0 rfl (lv_at hl 2 rfl) ?_
  refine lv_bipush (v := 10) hx hb dX12_over_1 (by decide) ?_
  refine lv_irem hx hb dX12_over_3 (by decide) (lv_topi (fun v1 e1 => ?_))
  have t1 : -10 < v1.toInt ∧ v1.toInt < 10 := by rw [e1]; exact i_remb (by decide) (by decide)
  refine lv_iload_n hx hb dX12_over_4 rfl (lv_at hl 3 rfl) ?_
  refine lv_iadd hx hb dX12_over_5 (lv_topi (fun v2 e2 => ?_))
  refine lv_iload hx hb dX12_over_6 (lv_at hl 4 rfl) ?_
  refine lv_bipush (v := 10) hx hb dX12_over_8 (by decide) ?_
  refine lv_idiv hx hb dX12_over_10 (by decide) (lv_topi (fun v3 e3 => ?_))
  refine lv_bipush (v := 10) hx hb dX12_over_11 (by decide) ?_
  refine lv_irem hx hb dX12_over_13 (by decide) (lv_topi (fun v4 e4 => ?_))
  have t4 : -10 < v4.toInt ∧ v4.toInt < 10 := by rw [e4]; exact i_remb (by decide) (by decide)
  refine lv_isub hx hb dX12_over_14 (lv_topi (fun v5 e5 => ?_))
  refine lv_istore (lv' := [(5, .int v5), (0, .ref (qm 0)), (1, .int p0), (2, .int p1), (3, .int p2), (4, .int p3)]) hx hb dX12_over_15 hl (by decide) rfl (fun ls hl => ?_)
  refine lv_iload_n hx hb dX12_over_17 rfl (lv_at hl 3 rfl) ?_
  refine lv_bipush (v := 100) hx hb dX12_over_18 (by decide) ?_
  refine lv_idiv hx hb dX12_over_20 (by decide) (lv_topi (fun v6 e6 => ?_))
  refine lv_aload_n hx hb dX12_over_21 rfl (lv_at hl 1 rfl) ?_
  refine g_get cx hP iw_X12_over_X12 0 rfl rfl 1 (by decide) rfl fw_X12_over_13 rfl dX12_over_22 ?_
  refine lv_bipush (v := 23) hx hb dX12_over_25 (by decide) ?_
  have hn7 : vp_in 23 26 := f_in (a := 23) (by decide) (by omega) (by omega)
  refine va_iald hx hb cx.2.1 hP 2 0 rfl rfl hn7 dX12_over_27 (lv_topi (fun v8 e8 => ?_))
  have uv8 : v8.toInt = ((sm 2) 23).toInt := congrArg Int32.toInt e8
  refine lv_imul hx hb dX12_over_28 (lv_topi (fun v9 e9 => ?_))
  refine lv_iload_n hx hb dX12_over_29 rfl (lv_at hl 3 rfl) ?_
  refine lv_bipush (v := 10) hx hb dX12_over_30 (by decide) ?_
  refine lv_idiv hx hb dX12_over_32 (by decide) (lv_topi (fun v10 e10 => ?_))
  refine lv_bipush (v := 10) hx hb dX12_over_33 (by decide) ?_
  refine lv_irem hx hb dX12_over_35 (by decide) (lv_topi (fun v11 e11 => ?_))
  have t11 : -10 < v11.toInt ∧ v11.toInt < 10 := by rw [e11]; exact i_remb (by decide) (by decide)
  refine lv_aload_n hx hb dX12_over_36 rfl (lv_at hl 1 rfl) ?_
  refine g_get cx hP iw_X12_over_X12 0 rfl rfl 1 (by decide) rfl fw_X12_over_13 rfl dX12_over_37 ?_
  refine lv_bipush (v := 24) hx hb dX12_over_40 (by decide) ?_
  have hn12 : vp_in 24 26 := f_in (a := 24) (by decide) (by omega) (by omega)
  refine va_iald hx hb cx.2.1 hP 2 0 rfl rfl hn12 dX12_over_42 (lv_topi (fun v13 e13 => ?_))
  have uv13 : v13.toInt = ((sm 2) 24).toInt := congrArg Int32.toInt e13
  refine lv_imul hx hb dX12_over_43 (lv_topi (fun v14 e14 => ?_))
  refine lv_iadd hx hb dX12_over_44 (lv_topi (fun v15 e15 => ?_))
  refine lv_iload hx hb dX12_over_45 (lv_at hl 0 rfl) ?_
  refine lv_aload_n hx hb dX12_over_47 rfl (lv_at hl 1 rfl) ?_
  refine g_get cx hP iw_X12_over_X12 0 rfl rfl 1 (by decide) rfl fw_X12_over_13 rfl dX12_over_48 ?_
  refine lv_bipush (v := 25) hx hb dX12_over_51 (by decide) ?_
  have hn16 : vp_in 25 26 := f_in (a := 25) (by decide) (by omega) (by omega)
  refine va_iald hx hb cx.2.1 hP 2 0 rfl rfl hn16 dX12_over_53 (lv_topi (fun v17 e17 => ?_))
  have uv17 : v17.toInt = ((sm 2) 25).toInt := congrArg Int32.toInt e17
  refine lv_imul hx hb dX12_over_54 (lv_topi (fun v18 e18 => ?_))
  refine lv_iadd hx hb dX12_over_55 (lv_topi (fun v19 e19 => ?_))
  refine lv_aload_n hx hb dX12_over_56 rfl (lv_at hl 1 rfl) ?_
  refine g_get cx hP iw_X12_over_X12 0 rfl rfl 1 (by decide) rfl fw_X12_over_13 rfl dX12_over_57 ?_
  refine lv_bipush (v := 10) hx hb dX12_over_60 (by decide) ?_
  refine lv_iload_n hx hb dX12_over_62 rfl (lv_at hl 2 rfl) ?_
  refine lv_iadd hx hb dX12_over_63 (lv_topi (fun v20 e20 => ?_))
  have t20 : v20.toInt = 10 + p0.toInt := by rw [e20]; exact i_add (by decide) rfl (by omega) (by omega)
  have hn21 : vp_in v20 26 := f_in (a := v20.toInt) rfl (by omega) (by omega)
  refine va_iald hx hb cx.2.1 hP 2 0 rfl rfl hn21 dX12_over_64 (lv_topi (fun v22 e22 => ?_))
  refine lv_isub hx hb dX12_over_65 (lv_topi (fun v23 e23 => ?_))
  rw [hQ]
  exact x_i cx hr () hP hD hS trivial dX12_over_66
theorem fw_X12_costOf_13 : Cond.fieldLink RX12 13 "StillInAugustModel" "house" "[I" ∈ wsX12_costOf := by decide +kernel
theorem nd_X12_over : yX12_over.cls = RX12 ∧ yX12_over.cls ≠ "java/lang/invoke/MethodHandle" ∧ yX12_over.cls ≠ "java/lang/invoke/VarHandle" ∧ (parseMethodDescriptor yX12_over.desc).map (fun d => d.parameters.length) = some 4 := by decide +kernel
theorem iw_X12_costOf_X12 : ∀ w ∈ u_ws RX12 TX12 33, w ∈ wsX12_costOf := fun _ h => List.mem_cons_of_mem _ (List.mem_append_right _ h)
set_option maxHeartbeats 4000000 in
set_option maxRecDepth 100000 in
theorem c_X12_costOf (l : Launch) (D : va_G) (k : Nat → ClassId) (b : Nat → Nat) (qm : Nat → Nat) (sm : Nat → Nat → Int32) (tm : Nat → Nat → Int64) (sz : Nat) (p0 : Int32) (p1 : Int32) (p2 : Int32) (p3 : Int32) (hp0 : 0 ≤ p0.toInt ∧ p0.toInt ≤ 4) : MetI l D k b yX12_costOf wsX12_costOf ({ frames := 1, cells := 0, slots := 0, locals := 25 } : Room) [(qm 0, .inr (10, [.ref (qm 1), .ref (qm 2), .ref (qm 3), .int (sm 0 3), .int (sm 0 4), .int (sm 0 5), .int (sm 0 6), .int (sm 0 7), .int (sm 0 8), .int (sm 0 9), .int (sm 0 10), .ref (qm 4), .ref (qm 5), .int (sm 0 13), .ref (qm 6), .ref (qm 7), .ref (qm 8), .ref (qm 9), .ref (qm 10), .ref (qm 11), .ref (qm 12), .ref (qm 13), .int (sm 0 22), .int (sm 0 23), .ref (qm 14), .ref (qm 15), .int (sm 0 26), .ref (qm 16), .ref (qm 17), .long (tm 0 29), .long (tm 0 30), .long (tm 0 31), .int (sm 0 32)])), (qm 1, .inl (k 0, 26, .inl (sm 1))), (qm 2, .inl (k 0, 26, .inl (sm 2))), (qm 3, .inl (k 0, 64, .inl (sm 3))), (qm 4, .inl (k 0, 15, .inl (sm 4))), (qm 5, .inl (k 0, 5, .inl (sm 5))), (qm 6, .inl (k 1, 1000, .inr (.inl (tm 6)))), (qm 7, .inl (k 1, 1000, .inr (.inl (tm 7)))), (qm 8, .inl (k 1, 50, .inr (.inl (tm 8)))), (qm 9, .inl (k 1, 50, .inr (.inl (tm 9)))), (qm 10, .inl (k 1, 1500, .inr (.inl (tm 10)))), (qm 11, .inl (k 1, 1500, .inr (.inl (tm 11)))), (qm 12, .inl (k 0, 1500, .inl (sm 12))), (qm 13, .inl (k 0, 5, .inl (sm 13))), (qm 14, .inl (k 3, 2, .inl (sm 14))), (qm 15, .inl (k 0, 14, .inl (sm 15))), (qm 16, .inl (k 0, 5, .inl (sm 16))), (qm 17, .inl (k 0, 5, .inl (sm 17)))] sz [.ref (qm 0), .int p0, .int p1, .int p2, .int p3] (fun (r : Int32) (u : Unit) => True) (fun u => [(qm 0, .inr (10, [.ref (qm 1), .ref (qm 2), .ref (qm 3), .int (sm 0 3), .int (sm 0 4), .int (sm 0 5), .int (sm 0 6), .int (sm 0 7), .int (sm 0 8), .int (sm 0 9), .int (sm 0 10), .ref (qm 4), .ref (qm 5), .int (sm 0 13), .ref (qm 6), .ref (qm 7), .ref (qm 8), .ref (qm 9), .ref (qm 10), .ref (qm 11), .ref (qm 12), .ref (qm 13), .int (sm 0 22), .int (sm 0 23), .ref (qm 14), .ref (qm 15), .int (sm 0 26), .ref (qm 16), .ref (qm 17), .long (tm 0 29), .long (tm 0 30), .long (tm 0 31), .int (sm 0 32)])), (qm 1, .inl (k 0, 26, .inl (sm 1))), (qm 2, .inl (k 0, 26, .inl (sm 2))), (qm 3, .inl (k 0, 64, .inl (sm 3))), (qm 4, .inl (k 0, 15, .inl (sm 4))), (qm 5, .inl (k 0, 5, .inl (sm 5))), (qm 6, .inl (k 1, 1000, .inr (.inl (tm 6)))), (qm 7, .inl (k 1, 1000, .inr (.inl (tm 7)))), (qm 8, .inl (k 1, 50, .inr (.inl (tm 8)))), (qm 9, .inl (k 1, 50, .inr (.inl (tm 9)))), (qm 10, .inl (k 1, 1500, .inr (.inl (tm 10)))), (qm 11, .inl (k 1, 1500, .inr (.inl (tm 11)))), (qm 12, .inl (k 0, 1500, .inl (sm 12))), (qm 13, .inl (k 0, 5, .inl (sm 13))), (qm 14, .inl (k 3, 2, .inl (sm 14))), (qm 15, .inl (k 0, 14, .inl (sm 15))), (qm 16, .inl (k 0, 5, .inl (sm 16))), (qm 17, .inl (k 0, 5, .inl (sm 17)))]) := by
  refine g_enter (cc := cX12_costOf) (maxL := 7) (ret := (some .int)) (by decide) rfl (Nat.le_of_ble_eq_true rfl) ?_
  intro p e s m below meth c A hsz hAe cx hr hP hD hS ls hl
  rw [hAe]
  refine g_q (fun Q hQ => ?_)
  have hx := cx.1.1
  have hb := cx.1.2.1
  have bp0 := i_rng p0
  have bp1 := i_rng p1
  have bp2 := i_rng p2
  have bp3 := i_rng p3
  have hl : lv_has ls 7 [(0, .ref (qm 0)), (1, .int p0), (2, .int p1), (3, .int p2), (4, .int p3)] := hl
  obtain ⟨H, eH⟩ : ∃ H : Heap, H = s.heap := ⟨_, rfl⟩
  obtain ⟨locs, el⟩ : ∃ L : List Loc, L = [] := ⟨_, rfl⟩
  have hP : va_P D vwCl [(qm 0, .inr (10, [.ref (qm 1), .ref (qm 2), .ref (qm 3), .int (sm 0 3), .int (sm 0 4), .int (sm 0 5), .int (sm 0 6), .int (sm 0 7), .int (sm 0 8), .int (sm 0 9), .int (sm 0 10), .ref (qm 4), .ref (qm 5), .int (sm 0 13), .ref (qm 6), .ref (qm 7), .ref (qm 8), .ref (qm 9), .ref (qm 10), .ref (qm 11), .ref (qm 12), .ref (qm 13), .int (sm 0 22), .int (sm 0 23), .ref (qm 14), .ref (qm 15), .int (sm 0 26), .ref (qm 16), .ref (qm 17), .long (tm 0 29), .long (tm 0 30), .long (tm 0 31), .int (sm 0 32)])), (qm 1, .inl (k 0, 26, .inl (sm 1))), (qm 2, .inl (k 0, 26, .inl (sm 2))), (qm 3, .inl (k 0, 64, .inl (sm 3))), (qm 4, .inl (k 0, 15, .inl (sm 4))), (qm 5, .inl (k 0, 5, .inl (sm 5))), (qm 6, .inl (k 1, 1000, .inr (.inl (tm 6)))), (qm 7, .inl (k 1, 1000, .inr (.inl (tm 7)))), (qm 8, .inl (k 1, 50, .inr (.inl (tm 8)))), (qm 9, .inl (k 1, 50, .inr (.inl (tm 9)))), (qm 10, .inl (k 1, 1500, .inr (.inl (tm 10)))), (qm 11, .inl (k 1, 1500, .inr (.inl (tm 11)))), (qm 12, .inl (k 0, 1500, .inl (sm 12))), (qm 13, .inl (k 0, 5, .inl (sm 13))), (qm 14, .inl (k 3, 2, .inl (sm 14))), (qm 15, .inl (k 0, 14, .inl (sm 15))), (qm 16, .inl (k 0, 5, .inl (sm 16))), (qm 17, .inl (k 0, 5, .inl (sm 17)))] H := by rw [eH]; exact hP
  have hD : va_D A [(qm 0, .inr (10, [.ref (qm 1), .ref (qm 2), .ref (qm 3), .int (sm 0 3), .int (sm 0 4), .int (sm 0 5), .int (sm 0 6), .int (sm 0 7), .int (sm 0 8), .int (sm 0 9), .int (sm 0 10), .ref (qm 4), .ref (qm 5), .int (sm 0 13), .ref (qm 6), .ref (qm 7), .ref (qm 8), .ref (qm 9), .ref (qm 10), .ref (qm 11), .ref (qm 12), .ref (qm 13), .int (sm 0 22), .int (sm 0 23), .ref (qm 14), .ref (qm 15), .int (sm 0 26), .ref (qm 16), .ref (qm 17), .long (tm 0 29), .long (tm 0 30), .long (tm 0 31), .int (sm 0 32)])), (qm 1, .inl (k 0, 26, .inl (sm 1))), (qm 2, .inl (k 0, 26, .inl (sm 2))), (qm 3, .inl (k 0, 64, .inl (sm 3))), (qm 4, .inl (k 0, 15, .inl (sm 4))), (qm 5, .inl (k 0, 5, .inl (sm 5))), (qm 6, .inl (k 1, 1000, .inr (.inl (tm 6)))), (qm 7, .inl (k 1, 1000, .inr (.inl (tm 7)))), (qm 8, .inl (k 1, 50, .inr (.inl (tm 8)))), (qm 9, .inl (k 1, 50, .inr (.inl (tm 9)))), (qm 10, .inl (k 1, 1500, .inr (.inl (tm 10)))), (qm 11, .inl (k 1, 1500, .inr (.inl (tm 11)))), (qm 12, .inl (k 0, 1500, .inl (sm 12))), (qm 13, .inl (k 0, 5, .inl (sm 13))), (qm 14, .inl (k 3, 2, .inl (sm 14))), (qm 15, .inl (k 0, 14, .inl (sm 15))), (qm 16, .inl (k 0, 5, .inl (sm 16))), (qm 17, .inl (k 0, 5, .inl (sm 17)))] := hD
  have hS : va_S A s.heap H locs := by rw [eH, el]; exact hS
  suffices goal : W p l e ({ frames := 1, cells := 0, slots := 0, locals := 25 } : Room) s m ([.ref (qm 0), .int p0, .int p1, .int p2, .int p3] : List Value).toArray below meth c H locs 0 0 Q (F0 m 0 ls []) by rw [eH, el] at goal; exact goal
  refine lv_aload_n hx hb dX12_costOf_0 rfl (lv_at hl 0 rfl) ?_
  refine lv_iload_n hx hb dX12_costOf_1 rfl (lv_at hl 1 rfl) ?_
  refine lv_iload_n hx hb dX12_costOf_2 rfl (lv_at hl 2 rfl) ?_
  refine lv_iload_n hx hb dX12_costOf_3 rfl (lv_at hl 3 rfl) ?_
  refine lv_iload hx hb dX12_costOf_4 (lv_at hl 4 rfl) ?_
  refine g_iF (w1 := fun (_ : Unit) => [(qm 0, .inr (10, [.ref (qm 1), .ref (qm 2), .ref (qm 3), .int (sm 0 3), .int (sm 0 4), .int (sm 0 5), .int (sm 0 6), .int (sm 0 7), .int (sm 0 8), .int (sm 0 9), .int (sm 0 10), .ref (qm 4), .ref (qm 5), .int (sm 0 13), .ref (qm 6), .ref (qm 7), .ref (qm 8), .ref (qm 9), .ref (qm 10), .ref (qm 11), .ref (qm 12), .ref (qm 13), .int (sm 0 22), .int (sm 0 23), .ref (qm 14), .ref (qm 15), .int (sm 0 26), .ref (qm 16), .ref (qm 17), .long (tm 0 29), .long (tm 0 30), .long (tm 0 31), .int (sm 0 32)])), (qm 1, .inl (k 0, 26, .inl (sm 1))), (qm 2, .inl (k 0, 26, .inl (sm 2))), (qm 3, .inl (k 0, 64, .inl (sm 3))), (qm 4, .inl (k 0, 15, .inl (sm 4))), (qm 5, .inl (k 0, 5, .inl (sm 5))), (qm 6, .inl (k 1, 1000, .inr (.inl (tm 6)))), (qm 7, .inl (k 1, 1000, .inr (.inl (tm 7)))), (qm 8, .inl (k 1, 50, .inr (.inl (tm 8)))), (qm 9, .inl (k 1, 50, .inr (.inl (tm 9)))), (qm 10, .inl (k 1, 1500, .inr (.inl (tm 10)))), (qm 11, .inl (k 1, 1500, .inr (.inl (tm 11)))), (qm 12, .inl (k 0, 1500, .inl (sm 12))), (qm 13, .inl (k 0, 5, .inl (sm 13))), (qm 14, .inl (k 3, 2, .inl (sm 14))), (qm 15, .inl (k 0, 14, .inl (sm 15))), (qm 16, .inl (k 0, 5, .inl (sm 16))), (qm 17, .inl (k 0, 5, .inl (sm 17)))]) (g_runVF (ws := [(qm 0, .inr (10, [.ref (qm 1), .ref (qm 2), .ref (qm 3), .int (sm 0 3), .int (sm 0 4), .int (sm 0 5), .int (sm 0 6), .int (sm 0 7), .int (sm 0 8), .int (sm 0 9), .int (sm 0 10), .ref (qm 4), .ref (qm 5), .int (sm 0 13), .ref (qm 6), .ref (qm 7), .ref (qm 8), .ref (qm 9), .ref (qm 10), .ref (qm 11), .ref (qm 12), .ref (qm 13), .int (sm 0 22), .int (sm 0 23), .ref (qm 14), .ref (qm 15), .int (sm 0 26), .ref (qm 16), .ref (qm 17), .long (tm 0 29), .long (tm 0 30), .long (tm 0 31), .int (sm 0 32)])), (qm 1, .inl (k 0, 26, .inl (sm 1))), (qm 2, .inl (k 0, 26, .inl (sm 2))), (qm 3, .inl (k 0, 64, .inl (sm 3))), (qm 4, .inl (k 0, 15, .inl (sm 4))), (qm 5, .inl (k 0, 5, .inl (sm 5))), (qm 6, .inl (k 1, 1000, .inr (.inl (tm 6)))), (qm 7, .inl (k 1, 1000, .inr (.inl (tm 7)))), (qm 8, .inl (k 1, 50, .inr (.inl (tm 8)))), (qm 9, .inl (k 1, 50, .inr (.inl (tm 9)))), (qm 10, .inl (k 1, 1500, .inr (.inl (tm 10)))), (qm 11, .inl (k 1, 1500, .inr (.inl (tm 11)))), (qm 12, .inl (k 0, 1500, .inl (sm 12))), (qm 13, .inl (k 0, 5, .inl (sm 13))), (qm 14, .inl (k 3, 2, .inl (sm 14))), (qm 15, .inl (k 0, 14, .inl (sm 15))), (qm 16, .inl (k 0, 5, .inl (sm 16))), (qm 17, .inl (k 0, 5, .inl (sm 17)))]) (rest := []) cx hP hD hS [.int p0, .int p1, .int p2, .int p3] (c_X12_over l D k b qm sm tm H.size p0 p1 p2 p3 (show 0 ≤ p0.toInt ∧ p0.toInt ≤ 4 from by first | decide | omega)) gX12_costOf_X12_over rfl rfl rfl nd_X12_over ⟨Nat.le_of_ble_eq_true rfl, Nat.le_of_ble_eq_true rfl⟩ (ci := 10) (q0 := 0) rfl rfl rfl hl.1 rfl (Nat.le_of_ble_eq_true rfl) ⟨Nat.zero_le _, Nat.zero_le _⟩ dX12_costOf_6) cx.2.2.1 hD hS (fun r2 _ H locs hw1 hP hD hS => ?_)
  refine lv_istore (lv' := [(5, .int r2), (0, .ref (qm 0)), (1, .int p0), (2, .int p1), (3, .int p2), (4, .int p3)]) hx hb dX12_costOf_9 hl (by decide) rfl (fun ls hl => ?_)
  refine lv_aload_n hx hb dX12_costOf_11 rfl (lv_at hl 1 rfl) ?_
  refine g_get cx hP iw_X12_costOf_X12 0 rfl rfl 1 (by decide) rfl fw_X12_costOf_13 rfl dX12_costOf_12 ?_
  refine lv_iconst (v := 2) hx hb dX12_costOf_15 (by decide) ?_
  have hn3 : vp_in 2 26 := f_in (a := 2) (by decide) (by omega) (by omega)
  refine va_iald hx hb cx.2.1 hP 2 0 rfl rfl hn3 dX12_costOf_16 (lv_topi (fun v4 e4 => ?_))
  have uv4 : v4.toInt = ((sm 2) 2).toInt := congrArg Int32.toInt e4
  refine lv_iload_n hx hb dX12_costOf_17 rfl (lv_at hl 3 rfl) ?_
  refine g_ir (g_runS (wc := []) (rest := [.int v4]) cx hP hD hS [] rfl (by decide) [.int p1] (c_X12_all l D k b H.size p1) gX12_costOf_X12_all rfl rfl rfl nd_X12_all ⟨Nat.le_of_ble_eq_true rfl, Nat.le_of_ble_eq_true rfl⟩ rfl hl.1 rfl (Nat.le_of_ble_eq_true rfl) ⟨Nat.zero_le _, Nat.zero_le _⟩ dX12_costOf_18) cx.2.2.1 hP hD hS [] rfl rfl (fun r6 H locs hw5 hP hS => ?_)
  have w7 : r6 = J_X12_all p1 := hw5
  clear hw5
  refine lv_imul hx hb dX12_costOf_21 (lv_topi (fun v8 e8 => ?_))
  refine lv_iload hx hb dX12_costOf_22 (lv_at hl 0 rfl) ?_
  have hJ41 : ∀ (v13 : Int32) (H : Heap) (locs : List Loc) (ls : Array Slot), va_P D vwCl [(qm 0, .inr (10, [.ref (qm 1), .ref (qm 2), .ref (qm 3), .int (sm 0 3), .int (sm 0 4), .int (sm 0 5), .int (sm 0 6), .int (sm 0 7), .int (sm 0 8), .int (sm 0 9), .int (sm 0 10), .ref (qm 4), .ref (qm 5), .int (sm 0 13), .ref (qm 6), .ref (qm 7), .ref (qm 8), .ref (qm 9), .ref (qm 10), .ref (qm 11), .ref (qm 12), .ref (qm 13), .int (sm 0 22), .int (sm 0 23), .ref (qm 14), .ref (qm 15), .int (sm 0 26), .ref (qm 16), .ref (qm 17), .long (tm 0 29), .long (tm 0 30), .long (tm 0 31), .int (sm 0 32)])), (qm 1, .inl (k 0, 26, .inl (sm 1))), (qm 2, .inl (k 0, 26, .inl (sm 2))), (qm 3, .inl (k 0, 64, .inl (sm 3))), (qm 4, .inl (k 0, 15, .inl (sm 4))), (qm 5, .inl (k 0, 5, .inl (sm 5))), (qm 6, .inl (k 1, 1000, .inr (.inl (tm 6)))), (qm 7, .inl (k 1, 1000, .inr (.inl (tm 7)))), (qm 8, .inl (k 1, 50, .inr (.inl (tm 8)))), (qm 9, .inl (k 1, 50, .inr (.inl (tm 9)))), (qm 10, .inl (k 1, 1500, .inr (.inl (tm 10)))), (qm 11, .inl (k 1, 1500, .inr (.inl (tm 11)))), (qm 12, .inl (k 0, 1500, .inl (sm 12))), (qm 13, .inl (k 0, 5, .inl (sm 13))), (qm 14, .inl (k 3, 2, .inl (sm 14))), (qm 15, .inl (k 0, 14, .inl (sm 15))), (qm 16, .inl (k 0, 5, .inl (sm 16))), (qm 17, .inl (k 0, 5, .inl (sm 17)))] H → va_D A [(qm 0, .inr (10, [.ref (qm 1), .ref (qm 2), .ref (qm 3), .int (sm 0 3), .int (sm 0 4), .int (sm 0 5), .int (sm 0 6), .int (sm 0 7), .int (sm 0 8), .int (sm 0 9), .int (sm 0 10), .ref (qm 4), .ref (qm 5), .int (sm 0 13), .ref (qm 6), .ref (qm 7), .ref (qm 8), .ref (qm 9), .ref (qm 10), .ref (qm 11), .ref (qm 12), .ref (qm 13), .int (sm 0 22), .int (sm 0 23), .ref (qm 14), .ref (qm 15), .int (sm 0 26), .ref (qm 16), .ref (qm 17), .long (tm 0 29), .long (tm 0 30), .long (tm 0 31), .int (sm 0 32)])), (qm 1, .inl (k 0, 26, .inl (sm 1))), (qm 2, .inl (k 0, 26, .inl (sm 2))), (qm 3, .inl (k 0, 64, .inl (sm 3))), (qm 4, .inl (k 0, 15, .inl (sm 4))), (qm 5, .inl (k 0, 5, .inl (sm 5))), (qm 6, .inl (k 1, 1000, .inr (.inl (tm 6)))), (qm 7, .inl (k 1, 1000, .inr (.inl (tm 7)))), (qm 8, .inl (k 1, 50, .inr (.inl (tm 8)))), (qm 9, .inl (k 1, 50, .inr (.inl (tm 9)))), (qm 10, .inl (k 1, 1500, .inr (.inl (tm 10)))), (qm 11, .inl (k 1, 1500, .inr (.inl (tm 11)))), (qm 12, .inl (k 0, 1500, .inl (sm 12))), (qm 13, .inl (k 0, 5, .inl (sm 13))), (qm 14, .inl (k 3, 2, .inl (sm 14))), (qm 15, .inl (k 0, 14, .inl (sm 15))), (qm 16, .inl (k 0, 5, .inl (sm 16))), (qm 17, .inl (k 0, 5, .inl (sm 17)))] → va_S A s.heap H locs → lv_has ls 7 [(0, .ref (qm 0)), (3, .int p2), (4, .int p3)] → W p l e ({ frames := 1, cells := 0, slots := 0, locals := 25 } : Room) s m ([.ref (qm 0), .int p0, .int p1, .int p2, .int p3] : List Value).toArray below meth c H locs 0 0 Q (F0 m 41 ls [.int v13, .int v8]) := by
    intro v13 H locs ls  hP hD hS hl
    refine lv_iadd hx hb dX12_costOf_41 (lv_topi (fun v14 e14 => ?_))
    refine lv_iload_n hx hb dX12_costOf_42 rfl (lv_at hl 1 rfl) ?_
    refine lv_aload_n hx hb dX12_costOf_43 rfl (lv_at hl 0 rfl) ?_
    refine g_get cx hP iw_X12_costOf_X12 0 rfl rfl 1 (by decide) rfl fw_X12_costOf_13 rfl dX12_costOf_44 ?_
    refine lv_bipush (v := 6) hx hb dX12_costOf_47 (by decide) ?_
    have hn15 : vp_in 6 26 := f_in (a := 6) (by decide) (by omega) (by omega)
    refine va_iald hx hb cx.2.1 hP 2 0 rfl rfl hn15 dX12_costOf_49 (lv_topi (fun v16 e16 => ?_))
    have uv16 : v16.toInt = ((sm 2) 6).toInt := congrArg Int32.toInt e16
    refine lv_bipush (v := (-9)) hx hb dX12_costOf_50 (by decide) ?_
    have hJ66 : ∀ (v19 : Int32) (H : Heap) (locs : List Loc) (ls : Array Slot), va_P D vwCl [(qm 0, .inr (10, [.ref (qm 1), .ref (qm 2), .ref (qm 3), .int (sm 0 3), .int (sm 0 4), .int (sm 0 5), .int (sm 0 6), .int (sm 0 7), .int (sm 0 8), .int (sm 0 9), .int (sm 0 10), .ref (qm 4), .ref (qm 5), .int (sm 0 13), .ref (qm 6), .ref (qm 7), .ref (qm 8), .ref (qm 9), .ref (qm 10), .ref (qm 11), .ref (qm 12), .ref (qm 13), .int (sm 0 22), .int (sm 0 23), .ref (qm 14), .ref (qm 15), .int (sm 0 26), .ref (qm 16), .ref (qm 17), .long (tm 0 29), .long (tm 0 30), .long (tm 0 31), .int (sm 0 32)])), (qm 1, .inl (k 0, 26, .inl (sm 1))), (qm 2, .inl (k 0, 26, .inl (sm 2))), (qm 3, .inl (k 0, 64, .inl (sm 3))), (qm 4, .inl (k 0, 15, .inl (sm 4))), (qm 5, .inl (k 0, 5, .inl (sm 5))), (qm 6, .inl (k 1, 1000, .inr (.inl (tm 6)))), (qm 7, .inl (k 1, 1000, .inr (.inl (tm 7)))), (qm 8, .inl (k 1, 50, .inr (.inl (tm 8)))), (qm 9, .inl (k 1, 50, .inr (.inl (tm 9)))), (qm 10, .inl (k 1, 1500, .inr (.inl (tm 10)))), (qm 11, .inl (k 1, 1500, .inr (.inl (tm 11)))), (qm 12, .inl (k 0, 1500, .inl (sm 12))), (qm 13, .inl (k 0, 5, .inl (sm 13))), (qm 14, .inl (k 3, 2, .inl (sm 14))), (qm 15, .inl (k 0, 14, .inl (sm 15))), (qm 16, .inl (k 0, 5, .inl (sm 16))), (qm 17, .inl (k 0, 5, .inl (sm 17)))] H → va_D A [(qm 0, .inr (10, [.ref (qm 1), .ref (qm 2), .ref (qm 3), .int (sm 0 3), .int (sm 0 4), .int (sm 0 5), .int (sm 0 6), .int (sm 0 7), .int (sm 0 8), .int (sm 0 9), .int (sm 0 10), .ref (qm 4), .ref (qm 5), .int (sm 0 13), .ref (qm 6), .ref (qm 7), .ref (qm 8), .ref (qm 9), .ref (qm 10), .ref (qm 11), .ref (qm 12), .ref (qm 13), .int (sm 0 22), .int (sm 0 23), .ref (qm 14), .ref (qm 15), .int (sm 0 26), .ref (qm 16), .ref (qm 17), .long (tm 0 29), .long (tm 0 30), .long (tm 0 31), .int (sm 0 32)])), (qm 1, .inl (k 0, 26, .inl (sm 1))), (qm 2, .inl (k 0, 26, .inl (sm 2))), (qm 3, .inl (k 0, 64, .inl (sm 3))), (qm 4, .inl (k 0, 15, .inl (sm 4))), (qm 5, .inl (k 0, 5, .inl (sm 5))), (qm 6, .inl (k 1, 1000, .inr (.inl (tm 6)))), (qm 7, .inl (k 1, 1000, .inr (.inl (tm 7)))), (qm 8, .inl (k 1, 50, .inr (.inl (tm 8)))), (qm 9, .inl (k 1, 50, .inr (.inl (tm 9)))), (qm 10, .inl (k 1, 1500, .inr (.inl (tm 10)))), (qm 11, .inl (k 1, 1500, .inr (.inl (tm 11)))), (qm 12, .inl (k 0, 1500, .inl (sm 12))), (qm 13, .inl (k 0, 5, .inl (sm 13))), (qm 14, .inl (k 3, 2, .inl (sm 14))), (qm 15, .inl (k 0, 14, .inl (sm 15))), (qm 16, .inl (k 0, 5, .inl (sm 16))), (qm 17, .inl (k 0, 5, .inl (sm 17)))] → va_S A s.heap H locs → lv_has ls 7 [(0, .ref (qm 0)), (4, .int p3)] → W p l e ({ frames := 1, cells := 0, slots := 0, locals := 25 } : Room) s m ([.ref (qm 0), .int p0, .int p1, .int p2, .int p3] : List Value).toArray below meth c H locs 0 0 Q (F0 m 66 ls [.int v19, .int p2, .int v14]) := by
      intro v19 H locs ls  hP hD hS hl
      refine lv_imul hx hb dX12_costOf_66 (lv_topi (fun v20 e20 => ?_))
      refine lv_iadd hx hb dX12_costOf_67 (lv_topi (fun v21 e21 => ?_))
      refine lv_istore (lv' := [(6, .int v21), (0, .ref (qm 0)), (4, .int p3)]) hx hb dX12_costOf_68 hl (by decide) rfl (fun ls hl => ?_)
      refine lv_iload hx hb dX12_costOf_70 (lv_at hl 0 rfl) ?_
      refine lv_iload hx hb dX12_costOf_72 (lv_at hl 2 rfl) ?_
      refine lv_sipush (v := 1000) hx hb dX12_costOf_74 (by decide) ?_
      refine lv_idiv hx hb dX12_costOf_77 (by decide) (lv_topi (fun v22 e22 => ?_))
      have hJ98 : ∀ (v27 : Int32) (H : Heap) (locs : List Loc) (ls : Array Slot), va_P D vwCl [(qm 0, .inr (10, [.ref (qm 1), .ref (qm 2), .ref (qm 3), .int (sm 0 3), .int (sm 0 4), .int (sm 0 5), .int (sm 0 6), .int (sm 0 7), .int (sm 0 8), .int (sm 0 9), .int (sm 0 10), .ref (qm 4), .ref (qm 5), .int (sm 0 13), .ref (qm 6), .ref (qm 7), .ref (qm 8), .ref (qm 9), .ref (qm 10), .ref (qm 11), .ref (qm 12), .ref (qm 13), .int (sm 0 22), .int (sm 0 23), .ref (qm 14), .ref (qm 15), .int (sm 0 26), .ref (qm 16), .ref (qm 17), .long (tm 0 29), .long (tm 0 30), .long (tm 0 31), .int (sm 0 32)])), (qm 1, .inl (k 0, 26, .inl (sm 1))), (qm 2, .inl (k 0, 26, .inl (sm 2))), (qm 3, .inl (k 0, 64, .inl (sm 3))), (qm 4, .inl (k 0, 15, .inl (sm 4))), (qm 5, .inl (k 0, 5, .inl (sm 5))), (qm 6, .inl (k 1, 1000, .inr (.inl (tm 6)))), (qm 7, .inl (k 1, 1000, .inr (.inl (tm 7)))), (qm 8, .inl (k 1, 50, .inr (.inl (tm 8)))), (qm 9, .inl (k 1, 50, .inr (.inl (tm 9)))), (qm 10, .inl (k 1, 1500, .inr (.inl (tm 10)))), (qm 11, .inl (k 1, 1500, .inr (.inl (tm 11)))), (qm 12, .inl (k 0, 1500, .inl (sm 12))), (qm 13, .inl (k 0, 5, .inl (sm 13))), (qm 14, .inl (k 3, 2, .inl (sm 14))), (qm 15, .inl (k 0, 14, .inl (sm 15))), (qm 16, .inl (k 0, 5, .inl (sm 16))), (qm 17, .inl (k 0, 5, .inl (sm 17)))] H → va_D A [(qm 0, .inr (10, [.ref (qm 1), .ref (qm 2), .ref (qm 3), .int (sm 0 3), .int (sm 0 4), .int (sm 0 5), .int (sm 0 6), .int (sm 0 7), .int (sm 0 8), .int (sm 0 9), .int (sm 0 10), .ref (qm 4), .ref (qm 5), .int (sm 0 13), .ref (qm 6), .ref (qm 7), .ref (qm 8), .ref (qm 9), .ref (qm 10), .ref (qm 11), .ref (qm 12), .ref (qm 13), .int (sm 0 22), .int (sm 0 23), .ref (qm 14), .ref (qm 15), .int (sm 0 26), .ref (qm 16), .ref (qm 17), .long (tm 0 29), .long (tm 0 30), .long (tm 0 31), .int (sm 0 32)])), (qm 1, .inl (k 0, 26, .inl (sm 1))), (qm 2, .inl (k 0, 26, .inl (sm 2))), (qm 3, .inl (k 0, 64, .inl (sm 3))), (qm 4, .inl (k 0, 15, .inl (sm 4))), (qm 5, .inl (k 0, 5, .inl (sm 5))), (qm 6, .inl (k 1, 1000, .inr (.inl (tm 6)))), (qm 7, .inl (k 1, 1000, .inr (.inl (tm 7)))), (qm 8, .inl (k 1, 50, .inr (.inl (tm 8)))), (qm 9, .inl (k 1, 50, .inr (.inl (tm 9)))), (qm 10, .inl (k 1, 1500, .inr (.inl (tm 10)))), (qm 11, .inl (k 1, 1500, .inr (.inl (tm 11)))), (qm 12, .inl (k 0, 1500, .inl (sm 12))), (qm 13, .inl (k 0, 5, .inl (sm 13))), (qm 14, .inl (k 3, 2, .inl (sm 14))), (qm 15, .inl (k 0, 14, .inl (sm 15))), (qm 16, .inl (k 0, 5, .inl (sm 16))), (qm 17, .inl (k 0, 5, .inl (sm 17)))] → va_S A s.heap H locs → lv_has ls 7 [(0, .ref (qm 0)), (4, .int p3)] → W p l e ({ frames := 1, cells := 0, slots := 0, locals := 25 } : Room) s m ([.ref (qm 0), .int p0, .int p1, .int p2, .int p3] : List Value).toArray below meth c H locs 0 0 Q (F0 m 98 ls [.int v27, .int v21]) := by
        intro v27 H locs ls  hP hD hS hl
        refine lv_iadd hx hb dX12_costOf_98 (lv_topi (fun v28 e28 => ?_))
        refine lv_istore (lv' := [(6, .int v28), (0, .ref (qm 0)), (4, .int p3)]) hx hb dX12_costOf_99 hl (by decide) rfl (fun ls hl => ?_)
        refine lv_iload hx hb dX12_costOf_101 (lv_at hl 0 rfl) ?_
        refine lv_iload hx hb dX12_costOf_103 (lv_at hl 2 rfl) ?_
        refine lv_bipush (v := 10) hx hb dX12_costOf_105 (by decide) ?_
        refine lv_idiv hx hb dX12_costOf_107 (by decide) (lv_topi (fun v29 e29 => ?_))
        refine lv_bipush (v := 10) hx hb dX12_costOf_108 (by decide) ?_
        refine lv_irem hx hb dX12_costOf_110 (by decide) (lv_topi (fun v30 e30 => ?_))
        have t30 : -10 < v30.toInt ∧ v30.toInt < 10 := by rw [e30]; exact i_remb (by decide) (by decide)
        refine lv_iconst (v := 1) hx hb dX12_costOf_111 (by decide) ?_
        refine lv_icmp_ne (tgt := 124) hx hb dX12_costOf_112 (by decide) (fun c31 => ?_) (fun c31 => ?_)
        · have f31 : ¬ v30.toInt = 1 := f_ne rfl (by decide) c31
          refine lv_iconst (v := 0) hx hb dX12_costOf_124 (by decide) ?_
          refine lv_iadd hx hb dX12_costOf_125 (lv_topi (fun v32 e32 => ?_))
          rw [hQ]
          exact x_i cx hr () hP hD hS trivial dX12_costOf_126
        · have f31 : v30.toInt = 1 := f_eq rfl (by decide) c31
          refine lv_aload_n hx hb dX12_costOf_115 rfl (lv_at hl 1 rfl) ?_
          refine g_get cx hP iw_X12_costOf_X12 0 rfl rfl 1 (by decide) rfl fw_X12_costOf_13 rfl dX12_costOf_116 ?_
          refine lv_iconst (v := 5) hx hb dX12_costOf_119 (by decide) ?_
          have hn33 : vp_in 5 26 := f_in (a := 5) (by decide) (by omega) (by omega)
          refine va_iald hx hb cx.2.1 hP 2 0 rfl rfl hn33 dX12_costOf_120 (lv_topi (fun v34 e34 => ?_))
          have uv34 : v34.toInt = ((sm 2) 5).toInt := congrArg Int32.toInt e34
          refine lv_goto (tgt := 125) hx hb dX12_costOf_121 (by decide) ?_
          refine lv_iadd hx hb dX12_costOf_125 (lv_topi (fun v35 e35 => ?_))
          rw [hQ]
          exact x_i cx hr () hP hD hS trivial dX12_costOf_126
      refine lv_if_le (tgt := 97) hx hb dX12_costOf_78 (by decide) (fun c36 => ?_) (fun c36 => ?_)
      · have f36 : v22.toInt ≤ 0 := f_le rfl (by decide) c36
        refine lv_iconst (v := 0) hx hb dX12_costOf_97 (by decide) ?_
        have hlit37 : (0 : Int32).toInt = 0 := by decide
        exact hJ98 0 _ _ _  hP hD hS (lv_sub hl [1, 2] rfl)
      · have f36 : 0 < v22.toInt := f_nle rfl (by decide) c36
        refine lv_iload hx hb dX12_costOf_81 (lv_at hl 2 rfl) ?_
        refine lv_sipush (v := 1000) hx hb dX12_costOf_83 (by decide) ?_
        refine lv_idiv hx hb dX12_costOf_86 (by decide) (lv_topi (fun v38 e38 => ?_))
        refine lv_aload_n hx hb dX12_costOf_87 rfl (lv_at hl 1 rfl) ?_
        refine g_get cx hP iw_X12_costOf_X12 0 rfl rfl 1 (by decide) rfl fw_X12_costOf_13 rfl dX12_costOf_88 ?_
        refine lv_iconst (v := 4) hx hb dX12_costOf_91 (by decide) ?_
        have hn39 : vp_in 4 26 := f_in (a := 4) (by decide) (by omega) (by omega)
        refine va_iald hx hb cx.2.1 hP 2 0 rfl rfl hn39 dX12_costOf_92 (lv_topi (fun v40 e40 => ?_))
        have uv40 : v40.toInt = ((sm 2) 4).toInt := congrArg Int32.toInt e40
        refine lv_imul hx hb dX12_costOf_93 (lv_topi (fun v41 e41 => ?_))
        refine lv_goto (tgt := 98) hx hb dX12_costOf_94 (by decide) ?_
        exact hJ98 v41 _ _ _  hP hD hS (lv_sub hl [1, 2] rfl)
    refine lv_icmp_ne (tgt := 59) hx hb dX12_costOf_52 (by decide) (fun c42 => ?_) (fun c42 => ?_)
    · have f42 : ¬ v16.toInt = (-9) := f_ne rfl (by decide) c42
      refine lv_aload_n hx hb dX12_costOf_59 rfl (lv_at hl 0 rfl) ?_
      refine g_get cx hP iw_X12_costOf_X12 0 rfl rfl 1 (by decide) rfl fw_X12_costOf_13 rfl dX12_costOf_60 ?_
      refine lv_bipush (v := 6) hx hb dX12_costOf_63 (by decide) ?_
      have hn43 : vp_in 6 26 := f_in (a := 6) (by decide) (by omega) (by omega)
      refine va_iald hx hb cx.2.1 hP 2 0 rfl rfl hn43 dX12_costOf_65 (lv_topi (fun v44 e44 => ?_))
      obtain rfl : v16 = v44 := e16.trans e44.symm
      exact hJ66 v16 _ _ _  hP hD hS (lv_sub hl [0, 2] rfl)
    · have f42 : v16.toInt = (-9) := f_eq rfl (by decide) c42
      refine lv_iconst (v := 0) hx hb dX12_costOf_55 (by decide) ?_
      refine lv_goto (tgt := 66) hx hb dX12_costOf_56 (by decide) ?_
      have hlit45 : (0 : Int32).toInt = 0 := by decide
      exact hJ66 0 _ _ _  hP hD hS (lv_sub hl [0, 2] rfl)
  refine lv_if_ge (tgt := 40) hx hb dX12_costOf_24 (by decide) (fun c46 => ?_) (fun c46 => ?_)
  · have f46 : 0 ≤ r2.toInt := f_le (by decide) rfl c46
    refine lv_iconst (v := 0) hx hb dX12_costOf_40 (by decide) ?_
    have hlit47 : (0 : Int32).toInt = 0 := by decide
    exact hJ41 0 _ _ _  hP hD hS (lv_sub hl [1, 4, 5] rfl)
  · have f46 : r2.toInt < 0 := f_nle (by decide) rfl c46
    refine lv_iload hx hb dX12_costOf_27 (lv_at hl 0 rfl) ?_
    refine lv_ineg hx hb dX12_costOf_29 (lv_topi (fun v48 e48 => ?_))
    refine lv_aload_n hx hb dX12_costOf_30 rfl (lv_at hl 1 rfl) ?_
    refine g_get cx hP iw_X12_costOf_X12 0 rfl rfl 1 (by decide) rfl fw_X12_costOf_13 rfl dX12_costOf_31 ?_
    refine lv_iconst (v := 3) hx hb dX12_costOf_34 (by decide) ?_
    have hn49 : vp_in 3 26 := f_in (a := 3) (by decide) (by omega) (by omega)
    refine va_iald hx hb cx.2.1 hP 2 0 rfl rfl hn49 dX12_costOf_35 (lv_topi (fun v50 e50 => ?_))
    have uv50 : v50.toInt = ((sm 2) 3).toInt := congrArg Int32.toInt e50
    refine lv_imul hx hb dX12_costOf_36 (lv_topi (fun v51 e51 => ?_))
    refine lv_goto (tgt := 41) hx hb dX12_costOf_37 (by decide) ?_
    exact hJ41 v51 _ _ _  hP hD hS (lv_sub hl [1, 4, 5] rfl)
set_option maxHeartbeats 4000000 in
set_option maxRecDepth 100000 in
theorem c_X12_choose (l : Launch) (D : va_G) (k : Nat → ClassId) (b : Nat → Nat) (sz : Nat) (p0 : Int32) (p1 : Int32) : MetI l D k b yX12_choose wsX12_choose ({ frames := 0, cells := 0, slots := 0, locals := 0 } : Room) [] sz [.int p0, .int p1] (fun (r : Int32) (u : Unit) => True) (fun u => []) := by
  refine g_enter (cc := cX12_choose) (maxL := 4) (ret := (some .int)) (by decide) rfl (Nat.le_of_ble_eq_true rfl) ?_
  intro p e s m below meth c A hsz hAe cx hr hP hD hS ls hl
  rw [hAe]
  refine g_q (fun Q hQ => ?_)
  have hx := cx.1.1
  have hb := cx.1.2.1
  have bp0 := i_rng p0
  have bp1 := i_rng p1
  have hl : lv_has ls 4 [(0, .int p0), (1, .int p1)] := hl
  obtain ⟨H, eH⟩ : ∃ H : Heap, H = s.heap := ⟨_, rfl⟩
  obtain ⟨locs, el⟩ : ∃ L : List Loc, L = [] := ⟨_, rfl⟩
  have hP : va_P D vwCl [] H := by rw [eH]; exact hP
  have hD : va_D A [] := hD
  have hS : va_S A s.heap H locs := by rw [eH, el]; exact hS
  suffices goal : W p l e ({ frames := 0, cells := 0, slots := 0, locals := 0 } : Room) s m ([.int p0, .int p1] : List Value).toArray below meth c H locs 0 0 Q (F0 m 0 ls []) by rw [eH, el] at goal; exact goal
  refine lv_iconst (v := 1) hx hb dX12_choose_0 (by decide) ?_
  refine lv_istore_n (lv' := [(2, .int 1), (0, .int p0), (1, .int p1)]) hx hb dX12_choose_1 rfl hl (by decide) rfl (fun ls hl => ?_)
  refine lv_iconst (v := 0) hx hb dX12_choose_2 (by decide) ?_
  refine lv_istore_n (lv' := [(3, .int 0), (2, .int 1), (0, .int p0), (1, .int p1)]) hx hb dX12_choose_3 rfl hl (by decide) rfl (fun ls hl => ?_)
  have hL4 : ∀ (n8 : Nat) (v6 : Int32) (v7 : Int32) (H : Heap) (locs : List Loc) (ls : Array Slot), (p1.toInt - v6.toInt < (n8 : Int) ∧ 0 < (n8 : Int)) → (0 ≤ v6.toInt) → va_P D vwCl [] H → va_D A [] → va_S A s.heap H locs → lv_has ls 4 [(3, .int v6), (2, .int v7), (0, .int p0), (1, .int p1)] → W p l e ({ frames := 0, cells := 0, slots := 0, locals := 0 } : Room) s m ([.int p0, .int p1] : List Value).toArray below meth c H locs 0 0 Q (F0 m 4 ls []) := by
    intro n8
    induction n8 with
    | zero => intro v6 v7 H locs ls hmn8 bv6 hP hD hS hl; exact absurd hmn8 (by omega)
    | succ n8 ih4 =>
      intro v6 v7 H locs ls hmn8 bv6 hP hD hS hl
      refine lv_iload_n hx hb dX12_choose_4 rfl (lv_at hl 0 rfl) ?_
      refine lv_iload_n hx hb dX12_choose_5 rfl (lv_at hl 3 rfl) ?_
      refine lv_icmp_ge (tgt := 25) hx hb dX12_choose_6 (by decide) (fun c9 => ?_) (fun c9 => ?_)
      · have f9 : p1.toInt ≤ v6.toInt := f_le rfl rfl c9
        refine lv_iload_n hx hb dX12_choose_25 rfl (lv_at hl 1 rfl) ?_
        rw [hQ]
        exact x_i cx hr () hP hD hS trivial dX12_choose_26
      · have f9 : v6.toInt < p1.toInt := f_nle rfl rfl c9
        refine lv_iload_n hx hb dX12_choose_9 rfl (lv_at hl 1 rfl) ?_
        refine lv_iload_n hx hb dX12_choose_10 rfl (lv_at hl 2 rfl) ?_
        refine lv_iload_n hx hb dX12_choose_11 rfl (lv_at hl 0 rfl) ?_
        refine lv_isub hx hb dX12_choose_12 (lv_topi (fun v10 e10 => ?_))
        refine lv_imul hx hb dX12_choose_13 (lv_topi (fun v11 e11 => ?_))
        refine lv_iload_n hx hb dX12_choose_14 rfl (lv_at hl 0 rfl) ?_
        refine lv_iconst (v := 1) hx hb dX12_choose_15 (by decide) ?_
        refine lv_iadd hx hb dX12_choose_16 (lv_topi (fun v12 e12 => ?_))
        have t12 : v12.toInt = v6.toInt + 1 := by rw [e12]; exact i_add rfl (by decide) (by omega) (by omega)
        refine lv_idiv hx hb dX12_choose_17 (nz32 (by omega)) (lv_topi (fun v13 e13 => ?_))
        refine lv_istore_n (lv' := [(2, .int v13), (3, .int v6), (0, .int p0), (1, .int p1)]) hx hb dX12_choose_18 rfl hl (by decide) rfl (fun ls hl => ?_)
        obtain ⟨v14, e14⟩ : ∃ z : Int32, z = v6 + 1 := ⟨_, rfl⟩
        refine lv_iinc (v := v14) (lv' := [(3, .int v14), (2, .int v13), (0, .int p0), (1, .int p1)]) hx hb dX12_choose_19 hl (k := 1) rfl (by rw [e14]; rfl) (by decide) rfl (fun ls hl => ?_)
        have t14 : v14.toInt = v6.toInt + 1 := by rw [e14]; exact i_add rfl (by decide) (by omega) (by omega)
        refine lv_goto (tgt := 4) hx hb dX12_choose_22 (by decide) ?_
        exact ih4 v14 v13 _ _ _ (by omega) (by first | decide | omega) hP hD hS (lv_sub hl [0, 1, 2, 3] rfl)
  have hlit15 : (0 : Int32).toInt = 0 := by decide
  have hlit16 : (1 : Int32).toInt = 1 := by decide
  exact hL4 (Int.toNat p1.toInt + 1) 0 1 _ _ _ (by omega) (by first | decide | omega) hP hD hS (lv_sub hl [0, 1, 2, 3] rfl)
set_option maxHeartbeats 4000000 in
set_option maxRecDepth 100000 in
theorem c_X12_power (l : Launch) (D : va_G) (k : Nat → ClassId) (b : Nat → Nat) (sz : Nat) (p0 : Int32) (p1 : Int32) : MetI l D k b yX12_power wsX12_power ({ frames := 0, cells := 0, slots := 0, locals := 0 } : Room) [] sz [.int p0, .int p1] (fun (r : Int32) (u : Unit) => Imp (p0.toInt % 2 = 1) (r.toInt % 2 = 1)) (fun u => []) := by
  refine g_enter (cc := cX12_power) (maxL := 4) (ret := (some .int)) (by decide) rfl (Nat.le_of_ble_eq_true rfl) ?_
  intro p e s m below meth c A hsz hAe cx hr hP hD hS ls hl
  rw [hAe]
  refine g_q (fun Q hQ => ?_)
  have hx := cx.1.1
  have hb := cx.1.2.1
  have bp0 := i_rng p0
  have bp1 := i_rng p1
  have hl : lv_has ls 4 [(0, .int p0), (1, .int p1)] := hl
  obtain ⟨H, eH⟩ : ∃ H : Heap, H = s.heap := ⟨_, rfl⟩
  obtain ⟨locs, el⟩ : ∃ L : List Loc, L = [] := ⟨_, rfl⟩
  have hP : va_P D vwCl [] H := by rw [eH]; exact hP
  have hD : va_D A [] := hD
  have hS : va_S A s.heap H locs := by rw [eH, el]; exact hS
  suffices goal : W p l e ({ frames := 0, cells := 0, slots := 0, locals := 0 } : Room) s m ([.int p0, .int p1] : List Value).toArray below meth c H locs 0 0 Q (F0 m 0 ls []) by rw [eH, el] at goal; exact goal
  refine lv_iconst (v := 1) hx hb dX12_power_0 (by decide) ?_
  refine lv_istore_n (lv' := [(2, .int 1), (0, .int p0), (1, .int p1)]) hx hb dX12_power_1 rfl hl (by decide) rfl (fun ls hl => ?_)
  refine lv_iconst (v := 0) hx hb dX12_power_2 (by decide) ?_
  refine lv_istore_n (lv' := [(3, .int 0), (2, .int 1), (0, .int p0), (1, .int p1)]) hx hb dX12_power_3 rfl hl (by decide) rfl (fun ls hl => ?_)
  have hL4 : ∀ (n5 : Nat) (v3 : Int32) (v4 : Int32) (H : Heap) (locs : List Loc) (ls : Array Slot), (p1.toInt - v3.toInt < (n5 : Int) ∧ 0 < (n5 : Int)) → (0 ≤ v3.toInt) → (¬ p0.toInt % 2 = 1 ∨ v4.toInt % 2 = 1) → va_P D vwCl [] H → va_D A [] → va_S A s.heap H locs → lv_has ls 4 [(3, .int v3), (2, .int v4), (0, .int p0), (1, .int p1)] → W p l e ({ frames := 0, cells := 0, slots := 0, locals := 0 } : Room) s m ([.int p0, .int p1] : List Value).toArray below meth c H locs 0 0 Q (F0 m 4 ls []) := by
    intro n5
    induction n5 with
    | zero => intro v3 v4 H locs ls hmn5 bv3 qo hP hD hS hl; exact absurd hmn5 (by omega)
    | succ n5 ih4 =>
      intro v3 v4 H locs ls hmn5 bv3 qo hP hD hS hl
      refine lv_iload_n hx hb dX12_power_4 rfl (lv_at hl 0 rfl) ?_
      refine lv_iload_n hx hb dX12_power_5 rfl (lv_at hl 3 rfl) ?_
      refine lv_icmp_ge (tgt := 19) hx hb dX12_power_6 (by decide) (fun c6 => ?_) (fun c6 => ?_)
      · have f6 : p1.toInt ≤ v3.toInt := f_le rfl rfl c6
        refine lv_iload_n hx hb dX12_power_19 rfl (lv_at hl 1 rfl) ?_
        rw [hQ]
        exact x_i cx hr () hP hD hS (show Imp (p0.toInt % 2 = 1) (v4.toInt % 2 = 1) from fun h => by omega) dX12_power_20
      · have f6 : v3.toInt < p1.toInt := f_nle rfl rfl c6
        refine lv_iload_n hx hb dX12_power_9 rfl (lv_at hl 1 rfl) ?_
        refine lv_iload_n hx hb dX12_power_10 rfl (lv_at hl 2 rfl) ?_
        refine lv_imul hx hb dX12_power_11 (lv_topi (fun v7 e7 => ?_))
        have ov7 := oddm e7 (show ¬ p0.toInt % 2 = 1 ∨ v4.toInt % 2 = 1 from by omega)
        refine lv_istore_n (lv' := [(2, .int v7), (3, .int v3), (0, .int p0), (1, .int p1)]) hx hb dX12_power_12 rfl hl (by decide) rfl (fun ls hl => ?_)
        obtain ⟨v8, e8⟩ : ∃ z : Int32, z = v3 + 1 := ⟨_, rfl⟩
        refine lv_iinc (v := v8) (lv' := [(3, .int v8), (2, .int v7), (0, .int p0), (1, .int p1)]) hx hb dX12_power_13 hl (k := 1) rfl (by rw [e8]; rfl) (by decide) rfl (fun ls hl => ?_)
        have t8 : v8.toInt = v3.toInt + 1 := by rw [e8]; exact i_add rfl (by decide) (by omega) (by omega)
        refine lv_goto (tgt := 4) hx hb dX12_power_16 (by decide) ?_
        exact ih4 v8 v7 _ _ _ (by omega) (by first | decide | omega) (by first | decide | omega) hP hD hS (lv_sub hl [0, 1, 2, 3] rfl)
  have hlit9 : (0 : Int32).toInt = 0 := by decide
  have hlit10 : (1 : Int32).toInt = 1 := by decide
  exact hL4 (Int.toNat p1.toInt + 1) 0 1 _ _ _ (by omega) (by first | decide | omega) (by first | decide | omega) hP hD hS (lv_sub hl [0, 1, 2, 3] rfl)
theorem nd_X12_choose : yX12_choose.cls ≠ "java/lang/invoke/MethodHandle" ∧ yX12_choose.cls ≠ "java/lang/invoke/VarHandle" ∧ (parseMethodDescriptor yX12_choose.desc).map (fun d => d.parameters.length) = some 2 := by decide +kernel
theorem nd_X12_goes : yX12_goes.cls = RX12 ∧ yX12_goes.cls ≠ "java/lang/invoke/MethodHandle" ∧ yX12_goes.cls ≠ "java/lang/invoke/VarHandle" ∧ (parseMethodDescriptor yX12_goes.desc).map (fun d => d.parameters.length) = some 1 := by decide +kernel
theorem nd_X12_power : yX12_power.cls ≠ "java/lang/invoke/MethodHandle" ∧ yX12_power.cls ≠ "java/lang/invoke/VarHandle" ∧ (parseMethodDescriptor yX12_power.desc).map (fun d => d.parameters.length) = some 2 := by decide +kernel
set_option maxHeartbeats 4000000 in
set_option maxRecDepth 100000 in
theorem c_X12_stays (l : Launch) (D : va_G) (k : Nat → ClassId) (b : Nat → Nat) (qm : Nat → Nat) (sm : Nat → Nat → Int32) (tm : Nat → Nat → Int64) (sz : Nat) (p0 : Int32) (p1 : Int32) (p2 : Int32) (hp0 : 0 ≤ p0.toInt ∧ p0.toInt ≤ 2) : MetI l D k b yX12_stays wsX12_stays ({ frames := 1, cells := 0, slots := 0, locals := 25 } : Room) [(qm 0, .inr (10, [.ref (qm 1), .ref (qm 2), .ref (qm 3), .int (sm 0 3), .int (sm 0 4), .int (sm 0 5), .int (sm 0 6), .int (sm 0 7), .int (sm 0 8), .int (sm 0 9), .int (sm 0 10), .ref (qm 4), .ref (qm 5), .int (sm 0 13), .ref (qm 6), .ref (qm 7), .ref (qm 8), .ref (qm 9), .ref (qm 10), .ref (qm 11), .ref (qm 12), .ref (qm 13), .int (sm 0 22), .int (sm 0 23), .ref (qm 14), .ref (qm 15), .int (sm 0 26), .ref (qm 16), .ref (qm 17), .long (tm 0 29), .long (tm 0 30), .long (tm 0 31), .int (sm 0 32)])), (qm 1, .inl (k 0, 26, .inl (sm 1))), (qm 2, .inl (k 0, 26, .inl (sm 2))), (qm 3, .inl (k 0, 64, .inl (sm 3))), (qm 4, .inl (k 0, 15, .inl (sm 4))), (qm 5, .inl (k 0, 5, .inl (sm 5))), (qm 6, .inl (k 1, 1000, .inr (.inl (tm 6)))), (qm 7, .inl (k 1, 1000, .inr (.inl (tm 7)))), (qm 8, .inl (k 1, 50, .inr (.inl (tm 8)))), (qm 9, .inl (k 1, 50, .inr (.inl (tm 9)))), (qm 10, .inl (k 1, 1500, .inr (.inl (tm 10)))), (qm 11, .inl (k 1, 1500, .inr (.inl (tm 11)))), (qm 12, .inl (k 0, 1500, .inl (sm 12))), (qm 13, .inl (k 0, 5, .inl (sm 13))), (qm 14, .inl (k 3, 2, .inl (sm 14))), (qm 15, .inl (k 0, 14, .inl (sm 15))), (qm 16, .inl (k 0, 5, .inl (sm 16))), (qm 17, .inl (k 0, 5, .inl (sm 17)))] sz [.ref (qm 0), .int p0, .int p1, .int p2] (fun (r : Int32) (u : Unit) => True) (fun u => [(qm 0, .inr (10, [.ref (qm 1), .ref (qm 2), .ref (qm 3), .int (sm 0 3), .int (sm 0 4), .int (sm 0 5), .int (sm 0 6), .int (sm 0 7), .int (sm 0 8), .int (sm 0 9), .int (sm 0 10), .ref (qm 4), .ref (qm 5), .int (sm 0 13), .ref (qm 6), .ref (qm 7), .ref (qm 8), .ref (qm 9), .ref (qm 10), .ref (qm 11), .ref (qm 12), .ref (qm 13), .int (sm 0 22), .int (sm 0 23), .ref (qm 14), .ref (qm 15), .int (sm 0 26), .ref (qm 16), .ref (qm 17), .long (tm 0 29), .long (tm 0 30), .long (tm 0 31), .int (sm 0 32)])), (qm 1, .inl (k 0, 26, .inl (sm 1))), (qm 2, .inl (k 0, 26, .inl (sm 2))), (qm 3, .inl (k 0, 64, .inl (sm 3))), (qm 4, .inl (k 0, 15, .inl (sm 4))), (qm 5, .inl (k 0, 5, .inl (sm 5))), (qm 6, .inl (k 1, 1000, .inr (.inl (tm 6)))), (qm 7, .inl (k 1, 1000, .inr (.inl (tm 7)))), (qm 8, .inl (k 1, 50, .inr (.inl (tm 8)))), (qm 9, .inl (k 1, 50, .inr (.inl (tm 9)))), (qm 10, .inl (k 1, 1500, .inr (.inl (tm 10)))), (qm 11, .inl (k 1, 1500, .inr (.inl (tm 11)))), (qm 12, .inl (k 0, 1500, .inl (sm 12))), (qm 13, .inl (k 0, 5, .inl (sm 13))), (qm 14, .inl (k 3, 2, .inl (sm 14))), (qm 15, .inl (k 0, 14, .inl (sm 15))), (qm 16, .inl (k 0, 5, .inl (sm 16))), (qm 17, .inl (k 0, 5, .inl (sm 17)))]) := by
  refine g_enter (cc := cX12_stays) (maxL := 4) (ret := (some .int)) (by decide) rfl (Nat.le_of_ble_eq_true rfl) ?_
  intro p e s m below meth c A hsz hAe cx hr hP hD hS ls hl
  rw [hAe]
  refine g_q (fun Q hQ => ?_)
  have hx := cx.1.1
  have hb := cx.1.2.1
  have bp0 := i_rng p0
  have bp1 := i_rng p1
  have bp2 := i_rng p2
  have hl : lv_has ls 4 [(0, .ref (qm 0)), (1, .int p0), (2, .int p1), (3, .int p2)] := hl
  obtain ⟨H, eH⟩ : ∃ H : Heap, H = s.heap := ⟨_, rfl⟩
  obtain ⟨locs, el⟩ : ∃ L : List Loc, L = [] := ⟨_, rfl⟩
  have hP : va_P D vwCl [(qm 0, .inr (10, [.ref (qm 1), .ref (qm 2), .ref (qm 3), .int (sm 0 3), .int (sm 0 4), .int (sm 0 5), .int (sm 0 6), .int (sm 0 7), .int (sm 0 8), .int (sm 0 9), .int (sm 0 10), .ref (qm 4), .ref (qm 5), .int (sm 0 13), .ref (qm 6), .ref (qm 7), .ref (qm 8), .ref (qm 9), .ref (qm 10), .ref (qm 11), .ref (qm 12), .ref (qm 13), .int (sm 0 22), .int (sm 0 23), .ref (qm 14), .ref (qm 15), .int (sm 0 26), .ref (qm 16), .ref (qm 17), .long (tm 0 29), .long (tm 0 30), .long (tm 0 31), .int (sm 0 32)])), (qm 1, .inl (k 0, 26, .inl (sm 1))), (qm 2, .inl (k 0, 26, .inl (sm 2))), (qm 3, .inl (k 0, 64, .inl (sm 3))), (qm 4, .inl (k 0, 15, .inl (sm 4))), (qm 5, .inl (k 0, 5, .inl (sm 5))), (qm 6, .inl (k 1, 1000, .inr (.inl (tm 6)))), (qm 7, .inl (k 1, 1000, .inr (.inl (tm 7)))), (qm 8, .inl (k 1, 50, .inr (.inl (tm 8)))), (qm 9, .inl (k 1, 50, .inr (.inl (tm 9)))), (qm 10, .inl (k 1, 1500, .inr (.inl (tm 10)))), (qm 11, .inl (k 1, 1500, .inr (.inl (tm 11)))), (qm 12, .inl (k 0, 1500, .inl (sm 12))), (qm 13, .inl (k 0, 5, .inl (sm 13))), (qm 14, .inl (k 3, 2, .inl (sm 14))), (qm 15, .inl (k 0, 14, .inl (sm 15))), (qm 16, .inl (k 0, 5, .inl (sm 16))), (qm 17, .inl (k 0, 5, .inl (sm 17)))] H := by rw [eH]; exact hP
  have hD : va_D A [(qm 0, .inr (10, [.ref (qm 1), .ref (qm 2), .ref (qm 3), .int (sm 0 3), .int (sm 0 4), .int (sm 0 5), .int (sm 0 6), .int (sm 0 7), .int (sm 0 8), .int (sm 0 9), .int (sm 0 10), .ref (qm 4), .ref (qm 5), .int (sm 0 13), .ref (qm 6), .ref (qm 7), .ref (qm 8), .ref (qm 9), .ref (qm 10), .ref (qm 11), .ref (qm 12), .ref (qm 13), .int (sm 0 22), .int (sm 0 23), .ref (qm 14), .ref (qm 15), .int (sm 0 26), .ref (qm 16), .ref (qm 17), .long (tm 0 29), .long (tm 0 30), .long (tm 0 31), .int (sm 0 32)])), (qm 1, .inl (k 0, 26, .inl (sm 1))), (qm 2, .inl (k 0, 26, .inl (sm 2))), (qm 3, .inl (k 0, 64, .inl (sm 3))), (qm 4, .inl (k 0, 15, .inl (sm 4))), (qm 5, .inl (k 0, 5, .inl (sm 5))), (qm 6, .inl (k 1, 1000, .inr (.inl (tm 6)))), (qm 7, .inl (k 1, 1000, .inr (.inl (tm 7)))), (qm 8, .inl (k 1, 50, .inr (.inl (tm 8)))), (qm 9, .inl (k 1, 50, .inr (.inl (tm 9)))), (qm 10, .inl (k 1, 1500, .inr (.inl (tm 10)))), (qm 11, .inl (k 1, 1500, .inr (.inl (tm 11)))), (qm 12, .inl (k 0, 1500, .inl (sm 12))), (qm 13, .inl (k 0, 5, .inl (sm 13))), (qm 14, .inl (k 3, 2, .inl (sm 14))), (qm 15, .inl (k 0, 14, .inl (sm 15))), (qm 16, .inl (k 0, 5, .inl (sm 16))), (qm 17, .inl (k 0, 5, .inl (sm 17)))] := hD
  have hS : va_S A s.heap H locs := by rw [eH, el]; exact hS
  suffices goal : W p l e ({ frames := 1, cells := 0, slots := 0, locals := 25 } : Room) s m ([.ref (qm 0), .int p0, .int p1, .int p2] : List Value).toArray below meth c H locs 0 0 Q (F0 m 0 ls []) by rw [eH, el] at goal; exact goal
  refine lv_iload_n hx hb dX12_stays_0 rfl (lv_at hl 3 rfl) ?_
  obtain ⟨v1, e1⟩ : ∃ z : Int64, z = (p2 : Int32).toInt64 := ⟨_, rfl⟩
  refine lv_i2l (v := v1) hx hb dX12_stays_1 e1.symm ?_
  refine lv_lconst (v := 0) hx hb dX12_stays_2 (by decide) ?_
  refine lv_iload_n hx hb dX12_stays_3 rfl (lv_at hl 2 rfl) ?_
  obtain ⟨v2, e2⟩ : ∃ z : Int64, z = (p1 : Int32).toInt64 := ⟨_, rfl⟩
  refine lv_i2l (v := v2) hx hb dX12_stays_4 e2.symm ?_
  refine g_ir (g_runS (wc := []) (rest := []) cx hP hD hS [] rfl (by decide) [.long v1, .long 0, .long v2] (c_X12_in l D k b H.size v1 0 v2) gX12_stays_X12_in rfl rfl rfl nd_X12_in ⟨Nat.le_of_ble_eq_true rfl, Nat.le_of_ble_eq_true rfl⟩ rfl hl.1 rfl (Nat.le_of_ble_eq_true rfl) ⟨Nat.zero_le _, Nat.zero_le _⟩ dX12_stays_5) cx.2.2.1 hP hD hS [] rfl rfl (fun r4 H locs hw3 hP hS => ?_)
  have w5 : r4 = J_X12_in v1 (0 : Int64) v2 := hw3
  clear hw3
  have zr4 := in_b w5
  refine lv_if_eq (tgt := 43) hx hb dX12_stays_8 (by decide) (fun c6 => ?_) (fun c6 => ?_)
  · have f6 : r4.toInt = 0 := f_eq rfl (by decide) c6
    have k6 : p2.toInt < 0 ∨ p1.toInt < p2.toInt := in_f (i2l_t rfl e1) (by decide) (i2l_t rfl e2) w5 c6
    refine lv_iconst (v := 0) hx hb dX12_stays_43 (by decide) ?_
    have hlit7 : (0 : Int32).toInt = 0 := by decide
    rw [hQ]
    exact x_i cx hr () hP hD hS trivial dX12_stays_44
  · have f6 : ¬ r4.toInt = 0 := f_ne rfl (by decide) c6
    have k6 : 0 ≤ p2.toInt ∧ p2.toInt ≤ p1.toInt := in_t (i2l_t rfl e1) (by decide) (i2l_t rfl e2) w5 c6
    refine lv_iload_n hx hb dX12_stays_11 rfl (lv_at hl 2 rfl) ?_
    refine lv_iload_n hx hb dX12_stays_12 rfl (lv_at hl 3 rfl) ?_
    refine g_ir (g_runS (wc := []) (rest := []) cx hP hD hS [] rfl (by decide) [.int p1, .int p2] (c_X12_choose l D k b H.size p1 p2) gX12_stays_X12_choose rfl rfl rfl nd_X12_choose ⟨Nat.le_of_ble_eq_true rfl, Nat.le_of_ble_eq_true rfl⟩ rfl hl.1 rfl (Nat.le_of_ble_eq_true rfl) ⟨Nat.zero_le _, Nat.zero_le _⟩ dX12_stays_13) cx.2.2.1 hP hD hS [] rfl rfl (fun r9 H locs hw8 hP hS => ?_)
    refine lv_iconst (v := 5) hx hb dX12_stays_16 (by decide) ?_
    refine lv_aload_n hx hb dX12_stays_17 rfl (lv_at hl 0 rfl) ?_
    refine lv_iload_n hx hb dX12_stays_18 rfl (lv_at hl 1 rfl) ?_
    refine g_iF (w1 := fun (_ : Unit) => [(qm 0, .inr (10, [.ref (qm 1), .ref (qm 2), .ref (qm 3), .int (sm 0 3), .int (sm 0 4), .int (sm 0 5), .int (sm 0 6), .int (sm 0 7), .int (sm 0 8), .int (sm 0 9), .int (sm 0 10), .ref (qm 4), .ref (qm 5), .int (sm 0 13), .ref (qm 6), .ref (qm 7), .ref (qm 8), .ref (qm 9), .ref (qm 10), .ref (qm 11), .ref (qm 12), .ref (qm 13), .int (sm 0 22), .int (sm 0 23), .ref (qm 14), .ref (qm 15), .int (sm 0 26), .ref (qm 16), .ref (qm 17), .long (tm 0 29), .long (tm 0 30), .long (tm 0 31), .int (sm 0 32)])), (qm 1, .inl (k 0, 26, .inl (sm 1))), (qm 2, .inl (k 0, 26, .inl (sm 2))), (qm 3, .inl (k 0, 64, .inl (sm 3))), (qm 4, .inl (k 0, 15, .inl (sm 4))), (qm 5, .inl (k 0, 5, .inl (sm 5))), (qm 6, .inl (k 1, 1000, .inr (.inl (tm 6)))), (qm 7, .inl (k 1, 1000, .inr (.inl (tm 7)))), (qm 8, .inl (k 1, 50, .inr (.inl (tm 8)))), (qm 9, .inl (k 1, 50, .inr (.inl (tm 9)))), (qm 10, .inl (k 1, 1500, .inr (.inl (tm 10)))), (qm 11, .inl (k 1, 1500, .inr (.inl (tm 11)))), (qm 12, .inl (k 0, 1500, .inl (sm 12))), (qm 13, .inl (k 0, 5, .inl (sm 13))), (qm 14, .inl (k 3, 2, .inl (sm 14))), (qm 15, .inl (k 0, 14, .inl (sm 15))), (qm 16, .inl (k 0, 5, .inl (sm 16))), (qm 17, .inl (k 0, 5, .inl (sm 17)))]) (g_runVF (ws := [(qm 0, .inr (10, [.ref (qm 1), .ref (qm 2), .ref (qm 3), .int (sm 0 3), .int (sm 0 4), .int (sm 0 5), .int (sm 0 6), .int (sm 0 7), .int (sm 0 8), .int (sm 0 9), .int (sm 0 10), .ref (qm 4), .ref (qm 5), .int (sm 0 13), .ref (qm 6), .ref (qm 7), .ref (qm 8), .ref (qm 9), .ref (qm 10), .ref (qm 11), .ref (qm 12), .ref (qm 13), .int (sm 0 22), .int (sm 0 23), .ref (qm 14), .ref (qm 15), .int (sm 0 26), .ref (qm 16), .ref (qm 17), .long (tm 0 29), .long (tm 0 30), .long (tm 0 31), .int (sm 0 32)])), (qm 1, .inl (k 0, 26, .inl (sm 1))), (qm 2, .inl (k 0, 26, .inl (sm 2))), (qm 3, .inl (k 0, 64, .inl (sm 3))), (qm 4, .inl (k 0, 15, .inl (sm 4))), (qm 5, .inl (k 0, 5, .inl (sm 5))), (qm 6, .inl (k 1, 1000, .inr (.inl (tm 6)))), (qm 7, .inl (k 1, 1000, .inr (.inl (tm 7)))), (qm 8, .inl (k 1, 50, .inr (.inl (tm 8)))), (qm 9, .inl (k 1, 50, .inr (.inl (tm 9)))), (qm 10, .inl (k 1, 1500, .inr (.inl (tm 10)))), (qm 11, .inl (k 1, 1500, .inr (.inl (tm 11)))), (qm 12, .inl (k 0, 1500, .inl (sm 12))), (qm 13, .inl (k 0, 5, .inl (sm 13))), (qm 14, .inl (k 3, 2, .inl (sm 14))), (qm 15, .inl (k 0, 14, .inl (sm 15))), (qm 16, .inl (k 0, 5, .inl (sm 16))), (qm 17, .inl (k 0, 5, .inl (sm 17)))]) (rest := [.int 5, .int r9]) cx hP hD hS [.int p0] (c_X12_goes l D k b qm sm tm H.size p0 (show 0 ≤ p0.toInt ∧ p0.toInt ≤ 2 from by first | decide | omega)) gX12_stays_X12_goes rfl rfl rfl nd_X12_goes ⟨Nat.le_of_ble_eq_true rfl, Nat.le_of_ble_eq_true rfl⟩ (ci := 10) (q0 := 0) rfl rfl rfl hl.1 rfl (Nat.le_of_ble_eq_true rfl) ⟨Nat.zero_le _, Nat.zero_le _⟩ dX12_stays_19) cx.2.2.1 hD hS (fun r11 _ H locs hw10 hP hD hS => ?_)
    refine lv_isub hx hb dX12_stays_22 (lv_topi (fun v12 e12 => ?_))
    refine lv_iload_n hx hb dX12_stays_23 rfl (lv_at hl 3 rfl) ?_
    refine g_ir (g_runS (wc := []) (rest := [.int r9]) cx hP hD hS [] rfl (by decide) [.int v12, .int p2] (c_X12_power l D k b H.size v12 p2) gX12_stays_X12_power rfl rfl rfl nd_X12_power ⟨Nat.le_of_ble_eq_true rfl, Nat.le_of_ble_eq_true rfl⟩ rfl hl.1 rfl (Nat.le_of_ble_eq_true rfl) ⟨Nat.zero_le _, Nat.zero_le _⟩ dX12_stays_24) cx.2.2.1 hP hD hS [] rfl rfl (fun r14 H locs hw13 hP hS => ?_)
    have w15 : Imp (v12.toInt % 2 = 1) (r14.toInt % 2 = 1) := hw13
    clear hw13
    refine lv_imul hx hb dX12_stays_27 (lv_topi (fun v16 e16 => ?_))
    refine lv_aload_n hx hb dX12_stays_28 rfl (lv_at hl 0 rfl) ?_
    refine lv_iload_n hx hb dX12_stays_29 rfl (lv_at hl 1 rfl) ?_
    refine g_iF (w1 := fun (_ : Unit) => [(qm 0, .inr (10, [.ref (qm 1), .ref (qm 2), .ref (qm 3), .int (sm 0 3), .int (sm 0 4), .int (sm 0 5), .int (sm 0 6), .int (sm 0 7), .int (sm 0 8), .int (sm 0 9), .int (sm 0 10), .ref (qm 4), .ref (qm 5), .int (sm 0 13), .ref (qm 6), .ref (qm 7), .ref (qm 8), .ref (qm 9), .ref (qm 10), .ref (qm 11), .ref (qm 12), .ref (qm 13), .int (sm 0 22), .int (sm 0 23), .ref (qm 14), .ref (qm 15), .int (sm 0 26), .ref (qm 16), .ref (qm 17), .long (tm 0 29), .long (tm 0 30), .long (tm 0 31), .int (sm 0 32)])), (qm 1, .inl (k 0, 26, .inl (sm 1))), (qm 2, .inl (k 0, 26, .inl (sm 2))), (qm 3, .inl (k 0, 64, .inl (sm 3))), (qm 4, .inl (k 0, 15, .inl (sm 4))), (qm 5, .inl (k 0, 5, .inl (sm 5))), (qm 6, .inl (k 1, 1000, .inr (.inl (tm 6)))), (qm 7, .inl (k 1, 1000, .inr (.inl (tm 7)))), (qm 8, .inl (k 1, 50, .inr (.inl (tm 8)))), (qm 9, .inl (k 1, 50, .inr (.inl (tm 9)))), (qm 10, .inl (k 1, 1500, .inr (.inl (tm 10)))), (qm 11, .inl (k 1, 1500, .inr (.inl (tm 11)))), (qm 12, .inl (k 0, 1500, .inl (sm 12))), (qm 13, .inl (k 0, 5, .inl (sm 13))), (qm 14, .inl (k 3, 2, .inl (sm 14))), (qm 15, .inl (k 0, 14, .inl (sm 15))), (qm 16, .inl (k 0, 5, .inl (sm 16))), (qm 17, .inl (k 0, 5, .inl (sm 17)))]) (g_runVF (ws := [(qm 0, .inr (10, [.ref (qm 1), .ref (qm 2), .ref (qm 3), .int (sm 0 3), .int (sm 0 4), .int (sm 0 5), .int (sm 0 6), .int (sm 0 7), .int (sm 0 8), .int (sm 0 9), .int (sm 0 10), .ref (qm 4), .ref (qm 5), .int (sm 0 13), .ref (qm 6), .ref (qm 7), .ref (qm 8), .ref (qm 9), .ref (qm 10), .ref (qm 11), .ref (qm 12), .ref (qm 13), .int (sm 0 22), .int (sm 0 23), .ref (qm 14), .ref (qm 15), .int (sm 0 26), .ref (qm 16), .ref (qm 17), .long (tm 0 29), .long (tm 0 30), .long (tm 0 31), .int (sm 0 32)])), (qm 1, .inl (k 0, 26, .inl (sm 1))), (qm 2, .inl (k 0, 26, .inl (sm 2))), (qm 3, .inl (k 0, 64, .inl (sm 3))), (qm 4, .inl (k 0, 15, .inl (sm 4))), (qm 5, .inl (k 0, 5, .inl (sm 5))), (qm 6, .inl (k 1, 1000, .inr (.inl (tm 6)))), (qm 7, .inl (k 1, 1000, .inr (.inl (tm 7)))), (qm 8, .inl (k 1, 50, .inr (.inl (tm 8)))), (qm 9, .inl (k 1, 50, .inr (.inl (tm 9)))), (qm 10, .inl (k 1, 1500, .inr (.inl (tm 10)))), (qm 11, .inl (k 1, 1500, .inr (.inl (tm 11)))), (qm 12, .inl (k 0, 1500, .inl (sm 12))), (qm 13, .inl (k 0, 5, .inl (sm 13))), (qm 14, .inl (k 3, 2, .inl (sm 14))), (qm 15, .inl (k 0, 14, .inl (sm 15))), (qm 16, .inl (k 0, 5, .inl (sm 16))), (qm 17, .inl (k 0, 5, .inl (sm 17)))]) (rest := [.int v16]) cx hP hD hS [.int p0] (c_X12_goes l D k b qm sm tm H.size p0 (show 0 ≤ p0.toInt ∧ p0.toInt ≤ 2 from by first | decide | omega)) gX12_stays_X12_goes rfl rfl rfl nd_X12_goes ⟨Nat.le_of_ble_eq_true rfl, Nat.le_of_ble_eq_true rfl⟩ (ci := 10) (q0 := 0) rfl rfl rfl hl.1 rfl (Nat.le_of_ble_eq_true rfl) ⟨Nat.zero_le _, Nat.zero_le _⟩ dX12_stays_30) cx.2.2.1 hD hS (fun r18 _ H locs hw17 hP hD hS => ?_)
    refine lv_iload_n hx hb dX12_stays_33 rfl (lv_at hl 2 rfl) ?_
    refine lv_iload_n hx hb dX12_stays_34 rfl (lv_at hl 3 rfl) ?_
    refine lv_isub hx hb dX12_stays_35 (lv_topi (fun v19 e19 => ?_))
    refine g_ir (g_runS (wc := []) (rest := [.int v16]) cx hP hD hS [] rfl (by decide) [.int r18, .int v19] (c_X12_power l D k b H.size r18 v19) gX12_stays_X12_power rfl rfl rfl nd_X12_power ⟨Nat.le_of_ble_eq_true rfl, Nat.le_of_ble_eq_true rfl⟩ rfl hl.1 rfl (Nat.le_of_ble_eq_true rfl) ⟨Nat.zero_le _, Nat.zero_le _⟩ dX12_stays_36) cx.2.2.1 hP hD hS [] rfl rfl (fun r21 H locs hw20 hP hS => ?_)
    have w22 : Imp (r18.toInt % 2 = 1) (r21.toInt % 2 = 1) := hw20
    clear hw20
    refine lv_imul hx hb dX12_stays_39 (lv_topi (fun v23 e23 => ?_))
    refine lv_goto (tgt := 44) hx hb dX12_stays_40 (by decide) ?_
    rw [hQ]
    exact x_i cx hr () hP hD hS trivial dX12_stays_44
theorem nd_X12_stays : yX12_stays.cls = RX12 ∧ yX12_stays.cls ≠ "java/lang/invoke/MethodHandle" ∧ yX12_stays.cls ≠ "java/lang/invoke/VarHandle" ∧ (parseMethodDescriptor yX12_stays.desc).map (fun d => d.parameters.length) = some 3 := by decide +kernel
set_option maxHeartbeats 4000000 in
set_option maxRecDepth 100000 in
theorem c_X12_sundayOf (l : Launch) (D : va_G) (k : Nat → ClassId) (b : Nat → Nat) (qm : Nat → Nat) (sm : Nat → Nat → Int32) (tm : Nat → Nat → Int64) (sz : Nat) (p0 : Int32) (p1 : Int32) : MetI l D k b yX12_sundayOf wsX12_sundayOf ({ frames := 2, cells := 0, slots := 0, locals := 48 } : Room) [(qm 0, .inr (10, [.ref (qm 1), .ref (qm 2), .ref (qm 3), .int (sm 0 3), .int (sm 0 4), .int (sm 0 5), .int (sm 0 6), .int (sm 0 7), .int (sm 0 8), .int (sm 0 9), .int (sm 0 10), .ref (qm 4), .ref (qm 5), .int (sm 0 13), .ref (qm 6), .ref (qm 7), .ref (qm 8), .ref (qm 9), .ref (qm 10), .ref (qm 11), .ref (qm 12), .ref (qm 13), .int (sm 0 22), .int (sm 0 23), .ref (qm 14), .ref (qm 15), .int (sm 0 26), .ref (qm 16), .ref (qm 17), .long (tm 0 29), .long (tm 0 30), .long (tm 0 31), .int (sm 0 32)])), (qm 1, .inl (k 0, 26, .inl (sm 1))), (qm 2, .inl (k 0, 26, .inl (sm 2))), (qm 3, .inl (k 0, 64, .inl (sm 3))), (qm 4, .inl (k 0, 15, .inl (sm 4))), (qm 5, .inl (k 0, 5, .inl (sm 5))), (qm 6, .inl (k 1, 1000, .inr (.inl (tm 6)))), (qm 7, .inl (k 1, 1000, .inr (.inl (tm 7)))), (qm 8, .inl (k 1, 50, .inr (.inl (tm 8)))), (qm 9, .inl (k 1, 50, .inr (.inl (tm 9)))), (qm 10, .inl (k 1, 1500, .inr (.inl (tm 10)))), (qm 11, .inl (k 1, 1500, .inr (.inl (tm 11)))), (qm 12, .inl (k 0, 1500, .inl (sm 12))), (qm 13, .inl (k 0, 5, .inl (sm 13))), (qm 14, .inl (k 3, 2, .inl (sm 14))), (qm 15, .inl (k 0, 14, .inl (sm 15))), (qm 16, .inl (k 0, 5, .inl (sm 16))), (qm 17, .inl (k 0, 5, .inl (sm 17)))] sz [.ref (qm 0), .int p0, .int p1] (fun (r : Int32) (u : Unit) => True) (fun u => [(qm 0, .inr (10, [.ref (qm 1), .ref (qm 2), .ref (qm 3), .int (sm 0 3), .int (sm 0 4), .int (sm 0 5), .int (sm 0 6), .int (sm 0 7), .int (sm 0 8), .int (sm 0 9), .int (sm 0 10), .ref (qm 4), .ref (qm 5), .int (sm 0 13), .ref (qm 6), .ref (qm 7), .ref (qm 8), .ref (qm 9), .ref (qm 10), .ref (qm 11), .ref (qm 12), .ref (qm 13), .int (sm 0 22), .int (sm 0 23), .ref (qm 14), .ref (qm 15), .int (sm 0 26), .ref (qm 16), .ref (qm 17), .long (tm 0 29), .long (tm 0 30), .long (tm 0 31), .int (sm 0 32)])), (qm 1, .inl (k 0, 26, .inl (sm 1))), (qm 2, .inl (k 0, 26, .inl (sm 2))), (qm 3, .inl (k 0, 64, .inl (sm 3))), (qm 4, .inl (k 0, 15, .inl (sm 4))), (qm 5, .inl (k 0, 5, .inl (sm 5))), (qm 6, .inl (k 1, 1000, .inr (.inl (tm 6)))), (qm 7, .inl (k 1, 1000, .inr (.inl (tm 7)))), (qm 8, .inl (k 1, 50, .inr (.inl (tm 8)))), (qm 9, .inl (k 1, 50, .inr (.inl (tm 9)))), (qm 10, .inl (k 1, 1500, .inr (.inl (tm 10)))), (qm 11, .inl (k 1, 1500, .inr (.inl (tm 11)))), (qm 12, .inl (k 0, 1500, .inl (sm 12))), (qm 13, .inl (k 0, 5, .inl (sm 13))), (qm 14, .inl (k 3, 2, .inl (sm 14))), (qm 15, .inl (k 0, 14, .inl (sm 15))), (qm 16, .inl (k 0, 5, .inl (sm 16))), (qm 17, .inl (k 0, 5, .inl (sm 17)))]) := by
  refine g_enter (cc := cX12_sundayOf) (maxL := 8) (ret := (some .int)) (by decide) rfl (Nat.le_of_ble_eq_true rfl) ?_
  intro p e s m below meth c A hsz hAe cx hr hP hD hS ls hl
  rw [hAe]
  refine g_q (fun Q hQ => ?_)
  have hx := cx.1.1
  have hb := cx.1.2.1
  have bp0 := i_rng p0
  have bp1 := i_rng p1
  have hl : lv_has ls 8 [(0, .ref (qm 0)), (1, .int p0), (2, .int p1)] := hl
  obtain ⟨H, eH⟩ : ∃ H : Heap, H = s.heap := ⟨_, rfl⟩
  obtain ⟨locs, el⟩ : ∃ L : List Loc, L = [] := ⟨_, rfl⟩
  have hP : va_P D vwCl [(qm 0, .inr (10, [.ref (qm 1), .ref (qm 2), .ref (qm 3), .int (sm 0 3), .int (sm 0 4), .int (sm 0 5), .int (sm 0 6), .int (sm 0 7), .int (sm 0 8), .int (sm 0 9), .int (sm 0 10), .ref (qm 4), .ref (qm 5), .int (sm 0 13), .ref (qm 6), .ref (qm 7), .ref (qm 8), .ref (qm 9), .ref (qm 10), .ref (qm 11), .ref (qm 12), .ref (qm 13), .int (sm 0 22), .int (sm 0 23), .ref (qm 14), .ref (qm 15), .int (sm 0 26), .ref (qm 16), .ref (qm 17), .long (tm 0 29), .long (tm 0 30), .long (tm 0 31), .int (sm 0 32)])), (qm 1, .inl (k 0, 26, .inl (sm 1))), (qm 2, .inl (k 0, 26, .inl (sm 2))), (qm 3, .inl (k 0, 64, .inl (sm 3))), (qm 4, .inl (k 0, 15, .inl (sm 4))), (qm 5, .inl (k 0, 5, .inl (sm 5))), (qm 6, .inl (k 1, 1000, .inr (.inl (tm 6)))), (qm 7, .inl (k 1, 1000, .inr (.inl (tm 7)))), (qm 8, .inl (k 1, 50, .inr (.inl (tm 8)))), (qm 9, .inl (k 1, 50, .inr (.inl (tm 9)))), (qm 10, .inl (k 1, 1500, .inr (.inl (tm 10)))), (qm 11, .inl (k 1, 1500, .inr (.inl (tm 11)))), (qm 12, .inl (k 0, 1500, .inl (sm 12))), (qm 13, .inl (k 0, 5, .inl (sm 13))), (qm 14, .inl (k 3, 2, .inl (sm 14))), (qm 15, .inl (k 0, 14, .inl (sm 15))), (qm 16, .inl (k 0, 5, .inl (sm 16))), (qm 17, .inl (k 0, 5, .inl (sm 17)))] H := by rw [eH]; exact hP
  have hD : va_D A [(qm 0, .inr (10, [.ref (qm 1), .ref (qm 2), .ref (qm 3), .int (sm 0 3), .int (sm 0 4), .int (sm 0 5), .int (sm 0 6), .int (sm 0 7), .int (sm 0 8), .int (sm 0 9), .int (sm 0 10), .ref (qm 4), .ref (qm 5), .int (sm 0 13), .ref (qm 6), .ref (qm 7), .ref (qm 8), .ref (qm 9), .ref (qm 10), .ref (qm 11), .ref (qm 12), .ref (qm 13), .int (sm 0 22), .int (sm 0 23), .ref (qm 14), .ref (qm 15), .int (sm 0 26), .ref (qm 16), .ref (qm 17), .long (tm 0 29), .long (tm 0 30), .long (tm 0 31), .int (sm 0 32)])), (qm 1, .inl (k 0, 26, .inl (sm 1))), (qm 2, .inl (k 0, 26, .inl (sm 2))), (qm 3, .inl (k 0, 64, .inl (sm 3))), (qm 4, .inl (k 0, 15, .inl (sm 4))), (qm 5, .inl (k 0, 5, .inl (sm 5))), (qm 6, .inl (k 1, 1000, .inr (.inl (tm 6)))), (qm 7, .inl (k 1, 1000, .inr (.inl (tm 7)))), (qm 8, .inl (k 1, 50, .inr (.inl (tm 8)))), (qm 9, .inl (k 1, 50, .inr (.inl (tm 9)))), (qm 10, .inl (k 1, 1500, .inr (.inl (tm 10)))), (qm 11, .inl (k 1, 1500, .inr (.inl (tm 11)))), (qm 12, .inl (k 0, 1500, .inl (sm 12))), (qm 13, .inl (k 0, 5, .inl (sm 13))), (qm 14, .inl (k 3, 2, .inl (sm 14))), (qm 15, .inl (k 0, 14, .inl (sm 15))), (qm 16, .inl (k 0, 5, .inl (sm 16))), (qm 17, .inl (k 0, 5, .inl (sm 17)))] := hD
  have hS : va_S A s.heap H locs := by rw [eH, el]; exact hS
  suffices goal : W p l e ({ frames := 2, cells := 0, slots := 0, locals := 48 } : Room) s m ([.ref (qm 0), .int p0, .int p1] : List Value).toArray below meth c H locs 0 0 Q (F0 m 0 ls []) by rw [eH, el] at goal; exact goal
  refine lv_iconst (v := 0) hx hb dX12_sundayOf_0 (by decide) ?_
  refine lv_istore_n (lv' := [(3, .int 0), (0, .ref (qm 0)), (1, .int p0), (2, .int p1)]) hx hb dX12_sundayOf_1 rfl hl (by decide) rfl (fun ls hl => ?_)
  refine lv_iload_n hx hb dX12_sundayOf_2 rfl (lv_at hl 2 rfl) ?_
  refine lv_bipush (v := 100) hx hb dX12_sundayOf_3 (by decide) ?_
  refine lv_idiv hx hb dX12_sundayOf_5 (by decide) (lv_topi (fun v1 e1 => ?_))
  refine lv_istore (lv' := [(4, .int v1), (3, .int 0), (0, .ref (qm 0)), (1, .int p0), (2, .int p1)]) hx hb dX12_sundayOf_6 hl (by decide) rfl (fun ls hl => ?_)
  refine lv_iload_n hx hb dX12_sundayOf_8 rfl (lv_at hl 3 rfl) ?_
  refine lv_bipush (v := 10) hx hb dX12_sundayOf_9 (by decide) ?_
  refine lv_idiv hx hb dX12_sundayOf_11 (by decide) (lv_topi (fun v2 e2 => ?_))
  refine lv_bipush (v := 10) hx hb dX12_sundayOf_12 (by decide) ?_
  refine lv_irem hx hb dX12_sundayOf_14 (by decide) (lv_topi (fun v3 e3 => ?_))
  have t3 : -10 < v3.toInt ∧ v3.toInt < 10 := by rw [e3]; exact i_remb (by decide) (by decide)
  refine lv_istore (lv' := [(5, .int v3), (4, .int v1), (3, .int 0), (0, .ref (qm 0)), (1, .int p0), (2, .int p1)]) hx hb dX12_sundayOf_15 hl (by decide) rfl (fun ls hl => ?_)
  refine lv_iload_n hx hb dX12_sundayOf_17 rfl (lv_at hl 4 rfl) ?_
  refine lv_bipush (v := 10) hx hb dX12_sundayOf_18 (by decide) ?_
  refine lv_irem hx hb dX12_sundayOf_20 (by decide) (lv_topi (fun v4 e4 => ?_))
  have t4 : -10 < v4.toInt ∧ v4.toInt < 10 := by rw [e4]; exact i_remb (by decide) (by decide)
  refine lv_istore (lv' := [(6, .int v4), (5, .int v3), (4, .int v1), (3, .int 0), (0, .ref (qm 0)), (1, .int p0), (2, .int p1)]) hx hb dX12_sundayOf_21 hl (by decide) rfl (fun ls hl => ?_)
  refine lv_iconst (v := 0) hx hb dX12_sundayOf_23 (by decide) ?_
  refine lv_istore (lv' := [(7, .int 0), (6, .int v4), (5, .int v3), (4, .int v1), (3, .int 0), (0, .ref (qm 0)), (1, .int p0), (2, .int p1)]) hx hb dX12_sundayOf_24 hl (by decide) rfl (fun ls hl => ?_)
  have hL26 : ∀ (n21 : Nat) (v19 : Int32) (v20 : Int32) (H : Heap) (locs : List Loc) (ls : Array Slot), 10 - v19.toInt < (n21 : Int) → (0 ≤ v19.toInt ∧ v19.toInt ≤ 10) → va_P D vwCl [(qm 0, .inr (10, [.ref (qm 1), .ref (qm 2), .ref (qm 3), .int (sm 0 3), .int (sm 0 4), .int (sm 0 5), .int (sm 0 6), .int (sm 0 7), .int (sm 0 8), .int (sm 0 9), .int (sm 0 10), .ref (qm 4), .ref (qm 5), .int (sm 0 13), .ref (qm 6), .ref (qm 7), .ref (qm 8), .ref (qm 9), .ref (qm 10), .ref (qm 11), .ref (qm 12), .ref (qm 13), .int (sm 0 22), .int (sm 0 23), .ref (qm 14), .ref (qm 15), .int (sm 0 26), .ref (qm 16), .ref (qm 17), .long (tm 0 29), .long (tm 0 30), .long (tm 0 31), .int (sm 0 32)])), (qm 1, .inl (k 0, 26, .inl (sm 1))), (qm 2, .inl (k 0, 26, .inl (sm 2))), (qm 3, .inl (k 0, 64, .inl (sm 3))), (qm 4, .inl (k 0, 15, .inl (sm 4))), (qm 5, .inl (k 0, 5, .inl (sm 5))), (qm 6, .inl (k 1, 1000, .inr (.inl (tm 6)))), (qm 7, .inl (k 1, 1000, .inr (.inl (tm 7)))), (qm 8, .inl (k 1, 50, .inr (.inl (tm 8)))), (qm 9, .inl (k 1, 50, .inr (.inl (tm 9)))), (qm 10, .inl (k 1, 1500, .inr (.inl (tm 10)))), (qm 11, .inl (k 1, 1500, .inr (.inl (tm 11)))), (qm 12, .inl (k 0, 1500, .inl (sm 12))), (qm 13, .inl (k 0, 5, .inl (sm 13))), (qm 14, .inl (k 3, 2, .inl (sm 14))), (qm 15, .inl (k 0, 14, .inl (sm 15))), (qm 16, .inl (k 0, 5, .inl (sm 16))), (qm 17, .inl (k 0, 5, .inl (sm 17)))] H → va_D A [(qm 0, .inr (10, [.ref (qm 1), .ref (qm 2), .ref (qm 3), .int (sm 0 3), .int (sm 0 4), .int (sm 0 5), .int (sm 0 6), .int (sm 0 7), .int (sm 0 8), .int (sm 0 9), .int (sm 0 10), .ref (qm 4), .ref (qm 5), .int (sm 0 13), .ref (qm 6), .ref (qm 7), .ref (qm 8), .ref (qm 9), .ref (qm 10), .ref (qm 11), .ref (qm 12), .ref (qm 13), .int (sm 0 22), .int (sm 0 23), .ref (qm 14), .ref (qm 15), .int (sm 0 26), .ref (qm 16), .ref (qm 17), .long (tm 0 29), .long (tm 0 30), .long (tm 0 31), .int (sm 0 32)])), (qm 1, .inl (k 0, 26, .inl (sm 1))), (qm 2, .inl (k 0, 26, .inl (sm 2))), (qm 3, .inl (k 0, 64, .inl (sm 3))), (qm 4, .inl (k 0, 15, .inl (sm 4))), (qm 5, .inl (k 0, 5, .inl (sm 5))), (qm 6, .inl (k 1, 1000, .inr (.inl (tm 6)))), (qm 7, .inl (k 1, 1000, .inr (.inl (tm 7)))), (qm 8, .inl (k 1, 50, .inr (.inl (tm 8)))), (qm 9, .inl (k 1, 50, .inr (.inl (tm 9)))), (qm 10, .inl (k 1, 1500, .inr (.inl (tm 10)))), (qm 11, .inl (k 1, 1500, .inr (.inl (tm 11)))), (qm 12, .inl (k 0, 1500, .inl (sm 12))), (qm 13, .inl (k 0, 5, .inl (sm 13))), (qm 14, .inl (k 3, 2, .inl (sm 14))), (qm 15, .inl (k 0, 14, .inl (sm 15))), (qm 16, .inl (k 0, 5, .inl (sm 16))), (qm 17, .inl (k 0, 5, .inl (sm 17)))] → va_S A s.heap H locs → lv_has ls 8 [(7, .int v19), (6, .int v4), (5, .int v3), (4, .int v1), (3, .int v20), (0, .ref (qm 0)), (1, .int p0), (2, .int p1)] → W p l e ({ frames := 2, cells := 0, slots := 0, locals := 48 } : Room) s m ([.ref (qm 0), .int p0, .int p1] : List Value).toArray below meth c H locs 0 0 Q (F0 m 26 ls []) := by
    intro n21
    induction n21 with
    | zero => intro v19 v20 H locs ls hmn21 bv19 hP hD hS hl; exact absurd hmn21 (by omega)
    | succ n21 ih26 =>
      intro v19 v20 H locs ls hmn21 bv19 hP hD hS hl
      refine lv_iload hx hb dX12_sundayOf_26 (lv_at hl 0 rfl) ?_
      refine lv_iload hx hb dX12_sundayOf_28 (lv_at hl 2 rfl) ?_
      have hJ87 : ∀  (H : Heap) (locs : List Loc) (ls : Array Slot), va_P D vwCl [(qm 0, .inr (10, [.ref (qm 1), .ref (qm 2), .ref (qm 3), .int (sm 0 3), .int (sm 0 4), .int (sm 0 5), .int (sm 0 6), .int (sm 0 7), .int (sm 0 8), .int (sm 0 9), .int (sm 0 10), .ref (qm 4), .ref (qm 5), .int (sm 0 13), .ref (qm 6), .ref (qm 7), .ref (qm 8), .ref (qm 9), .ref (qm 10), .ref (qm 11), .ref (qm 12), .ref (qm 13), .int (sm 0 22), .int (sm 0 23), .ref (qm 14), .ref (qm 15), .int (sm 0 26), .ref (qm 16), .ref (qm 17), .long (tm 0 29), .long (tm 0 30), .long (tm 0 31), .int (sm 0 32)])), (qm 1, .inl (k 0, 26, .inl (sm 1))), (qm 2, .inl (k 0, 26, .inl (sm 2))), (qm 3, .inl (k 0, 64, .inl (sm 3))), (qm 4, .inl (k 0, 15, .inl (sm 4))), (qm 5, .inl (k 0, 5, .inl (sm 5))), (qm 6, .inl (k 1, 1000, .inr (.inl (tm 6)))), (qm 7, .inl (k 1, 1000, .inr (.inl (tm 7)))), (qm 8, .inl (k 1, 50, .inr (.inl (tm 8)))), (qm 9, .inl (k 1, 50, .inr (.inl (tm 9)))), (qm 10, .inl (k 1, 1500, .inr (.inl (tm 10)))), (qm 11, .inl (k 1, 1500, .inr (.inl (tm 11)))), (qm 12, .inl (k 0, 1500, .inl (sm 12))), (qm 13, .inl (k 0, 5, .inl (sm 13))), (qm 14, .inl (k 3, 2, .inl (sm 14))), (qm 15, .inl (k 0, 14, .inl (sm 15))), (qm 16, .inl (k 0, 5, .inl (sm 16))), (qm 17, .inl (k 0, 5, .inl (sm 17)))] H → va_D A [(qm 0, .inr (10, [.ref (qm 1), .ref (qm 2), .ref (qm 3), .int (sm 0 3), .int (sm 0 4), .int (sm 0 5), .int (sm 0 6), .int (sm 0 7), .int (sm 0 8), .int (sm 0 9), .int (sm 0 10), .ref (qm 4), .ref (qm 5), .int (sm 0 13), .ref (qm 6), .ref (qm 7), .ref (qm 8), .ref (qm 9), .ref (qm 10), .ref (qm 11), .ref (qm 12), .ref (qm 13), .int (sm 0 22), .int (sm 0 23), .ref (qm 14), .ref (qm 15), .int (sm 0 26), .ref (qm 16), .ref (qm 17), .long (tm 0 29), .long (tm 0 30), .long (tm 0 31), .int (sm 0 32)])), (qm 1, .inl (k 0, 26, .inl (sm 1))), (qm 2, .inl (k 0, 26, .inl (sm 2))), (qm 3, .inl (k 0, 64, .inl (sm 3))), (qm 4, .inl (k 0, 15, .inl (sm 4))), (qm 5, .inl (k 0, 5, .inl (sm 5))), (qm 6, .inl (k 1, 1000, .inr (.inl (tm 6)))), (qm 7, .inl (k 1, 1000, .inr (.inl (tm 7)))), (qm 8, .inl (k 1, 50, .inr (.inl (tm 8)))), (qm 9, .inl (k 1, 50, .inr (.inl (tm 9)))), (qm 10, .inl (k 1, 1500, .inr (.inl (tm 10)))), (qm 11, .inl (k 1, 1500, .inr (.inl (tm 11)))), (qm 12, .inl (k 0, 1500, .inl (sm 12))), (qm 13, .inl (k 0, 5, .inl (sm 13))), (qm 14, .inl (k 3, 2, .inl (sm 14))), (qm 15, .inl (k 0, 14, .inl (sm 15))), (qm 16, .inl (k 0, 5, .inl (sm 16))), (qm 17, .inl (k 0, 5, .inl (sm 17)))] → va_S A s.heap H locs → lv_has ls 8 [(3, .int v20), (1, .int p0)] → W p l e ({ frames := 2, cells := 0, slots := 0, locals := 48 } : Room) s m ([.ref (qm 0), .int p0, .int p1] : List Value).toArray below meth c H locs 0 0 Q (F0 m 87 ls []) := by
        intro  H locs ls  hP hD hS hl
        refine lv_iload_n hx hb dX12_sundayOf_87 rfl (lv_at hl 0 rfl) ?_
        refine lv_iconst (v := 5) hx hb dX12_sundayOf_88 (by decide) ?_
        refine lv_iconst (v := 4) hx hb dX12_sundayOf_89 (by decide) ?_
        refine lv_iload_n hx hb dX12_sundayOf_90 rfl (lv_at hl 1 rfl) ?_
        refine g_ir (g_runS (wc := []) (rest := [.int 4, .int 5, .int v20]) cx hP hD hS [] rfl (by decide) [.int p0] (c_X12_all l D k b H.size p0) gX12_sundayOf_X12_all rfl rfl rfl nd_X12_all ⟨Nat.le_of_ble_eq_true rfl, Nat.le_of_ble_eq_true rfl⟩ rfl hl.1 rfl (Nat.le_of_ble_eq_true rfl) ⟨Nat.zero_le _, Nat.zero_le _⟩ dX12_sundayOf_91) cx.2.2.1 hP hD hS [] rfl rfl (fun r37 H locs hw36 hP hS => ?_)
        have w38 : r37 = J_X12_all p0 := hw36
        clear hw36
        refine lv_isub hx hb dX12_sundayOf_94 (lv_topi (fun v39 e39 => ?_))
        refine g_ir (g_runS (wc := []) (rest := [.int v20]) cx hP hD hS [] rfl (by decide) [.int 5, .int v39] (c_X12_power l D k b H.size 5 v39) gX12_sundayOf_X12_power rfl rfl rfl nd_X12_power ⟨Nat.le_of_ble_eq_true rfl, Nat.le_of_ble_eq_true rfl⟩ rfl hl.1 rfl (Nat.le_of_ble_eq_true rfl) ⟨Nat.zero_le _, Nat.zero_le _⟩ dX12_sundayOf_95) cx.2.2.1 hP hD hS [] rfl rfl (fun r41 H locs hw40 hP hS => ?_)
        have w42 : Imp ((5 : Int32).toInt % 2 = 1) (r41.toInt % 2 = 1) := hw40
        clear hw40
        have or41 : r41.toInt % 2 = 1 := w42 (by decide)
        refine lv_imul hx hb dX12_sundayOf_98 (lv_topi (fun v43 e43 => ?_))
        rw [hQ]
        exact x_i cx hr () hP hD hS trivial dX12_sundayOf_99
      refine lv_icmp_gt (tgt := 87) hx hb dX12_sundayOf_30 (by decide) (fun c44 => ?_) (fun c44 => ?_)
      · have f44 : v3.toInt < v19.toInt := f_lt rfl rfl c44
        exact hJ87  _ _ _  hP hD hS (lv_sub hl [4, 6] rfl)
      · have f44 : v19.toInt ≤ v3.toInt := f_nlt rfl rfl c44
        refine lv_iload_n hx hb dX12_sundayOf_33 rfl (lv_at hl 7 rfl) ?_
        refine lv_bipush (v := 100) hx hb dX12_sundayOf_34 (by decide) ?_
        refine lv_icmp_ge (tgt := 87) hx hb dX12_sundayOf_36 (by decide) (fun c45 => ?_) (fun c45 => ?_)
        · have f45 : 100 ≤ p1.toInt := f_le (by decide) rfl c45
          exact hJ87  _ _ _  hP hD hS (lv_sub hl [4, 6] rfl)
        · have f45 : p1.toInt < 100 := f_nle (by decide) rfl c45
          refine lv_iload_n hx hb dX12_sundayOf_39 rfl (lv_at hl 4 rfl) ?_
          refine lv_aload_n hx hb dX12_sundayOf_40 rfl (lv_at hl 5 rfl) ?_
          refine lv_iconst (v := 0) hx hb dX12_sundayOf_41 (by decide) ?_
          refine lv_iload hx hb dX12_sundayOf_42 (lv_at hl 3 rfl) ?_
          refine lv_iload_n hx hb dX12_sundayOf_44 rfl (lv_at hl 7 rfl) ?_
          refine lv_bipush (v := 10) hx hb dX12_sundayOf_45 (by decide) ?_
          refine lv_idiv hx hb dX12_sundayOf_47 (by decide) (lv_topi (fun v46 e46 => ?_))
          refine lv_bipush (v := 10) hx hb dX12_sundayOf_48 (by decide) ?_
          refine lv_irem hx hb dX12_sundayOf_50 (by decide) (lv_topi (fun v47 e47 => ?_))
          have t47 : -10 < v47.toInt ∧ v47.toInt < 10 := by rw [e47]; exact i_remb (by decide) (by decide)
          refine g_iF (w1 := fun (_ : Unit) => [(qm 0, .inr (10, [.ref (qm 1), .ref (qm 2), .ref (qm 3), .int (sm 0 3), .int (sm 0 4), .int (sm 0 5), .int (sm 0 6), .int (sm 0 7), .int (sm 0 8), .int (sm 0 9), .int (sm 0 10), .ref (qm 4), .ref (qm 5), .int (sm 0 13), .ref (qm 6), .ref (qm 7), .ref (qm 8), .ref (qm 9), .ref (qm 10), .ref (qm 11), .ref (qm 12), .ref (qm 13), .int (sm 0 22), .int (sm 0 23), .ref (qm 14), .ref (qm 15), .int (sm 0 26), .ref (qm 16), .ref (qm 17), .long (tm 0 29), .long (tm 0 30), .long (tm 0 31), .int (sm 0 32)])), (qm 1, .inl (k 0, 26, .inl (sm 1))), (qm 2, .inl (k 0, 26, .inl (sm 2))), (qm 3, .inl (k 0, 64, .inl (sm 3))), (qm 4, .inl (k 0, 15, .inl (sm 4))), (qm 5, .inl (k 0, 5, .inl (sm 5))), (qm 6, .inl (k 1, 1000, .inr (.inl (tm 6)))), (qm 7, .inl (k 1, 1000, .inr (.inl (tm 7)))), (qm 8, .inl (k 1, 50, .inr (.inl (tm 8)))), (qm 9, .inl (k 1, 50, .inr (.inl (tm 9)))), (qm 10, .inl (k 1, 1500, .inr (.inl (tm 10)))), (qm 11, .inl (k 1, 1500, .inr (.inl (tm 11)))), (qm 12, .inl (k 0, 1500, .inl (sm 12))), (qm 13, .inl (k 0, 5, .inl (sm 13))), (qm 14, .inl (k 3, 2, .inl (sm 14))), (qm 15, .inl (k 0, 14, .inl (sm 15))), (qm 16, .inl (k 0, 5, .inl (sm 16))), (qm 17, .inl (k 0, 5, .inl (sm 17)))]) (g_runVF (ws := [(qm 0, .inr (10, [.ref (qm 1), .ref (qm 2), .ref (qm 3), .int (sm 0 3), .int (sm 0 4), .int (sm 0 5), .int (sm 0 6), .int (sm 0 7), .int (sm 0 8), .int (sm 0 9), .int (sm 0 10), .ref (qm 4), .ref (qm 5), .int (sm 0 13), .ref (qm 6), .ref (qm 7), .ref (qm 8), .ref (qm 9), .ref (qm 10), .ref (qm 11), .ref (qm 12), .ref (qm 13), .int (sm 0 22), .int (sm 0 23), .ref (qm 14), .ref (qm 15), .int (sm 0 26), .ref (qm 16), .ref (qm 17), .long (tm 0 29), .long (tm 0 30), .long (tm 0 31), .int (sm 0 32)])), (qm 1, .inl (k 0, 26, .inl (sm 1))), (qm 2, .inl (k 0, 26, .inl (sm 2))), (qm 3, .inl (k 0, 64, .inl (sm 3))), (qm 4, .inl (k 0, 15, .inl (sm 4))), (qm 5, .inl (k 0, 5, .inl (sm 5))), (qm 6, .inl (k 1, 1000, .inr (.inl (tm 6)))), (qm 7, .inl (k 1, 1000, .inr (.inl (tm 7)))), (qm 8, .inl (k 1, 50, .inr (.inl (tm 8)))), (qm 9, .inl (k 1, 50, .inr (.inl (tm 9)))), (qm 10, .inl (k 1, 1500, .inr (.inl (tm 10)))), (qm 11, .inl (k 1, 1500, .inr (.inl (tm 11)))), (qm 12, .inl (k 0, 1500, .inl (sm 12))), (qm 13, .inl (k 0, 5, .inl (sm 13))), (qm 14, .inl (k 3, 2, .inl (sm 14))), (qm 15, .inl (k 0, 14, .inl (sm 15))), (qm 16, .inl (k 0, 5, .inl (sm 16))), (qm 17, .inl (k 0, 5, .inl (sm 17)))]) (rest := [.int v20]) cx hP hD hS [.int 0, .int v1, .int v47] (c_X12_stays l D k b qm sm tm H.size 0 v1 v47 (show 0 ≤ (0 : Int32).toInt ∧ (0 : Int32).toInt ≤ 2 from by first | decide | omega)) gX12_sundayOf_X12_stays rfl rfl rfl nd_X12_stays ⟨Nat.le_of_ble_eq_true rfl, Nat.le_of_ble_eq_true rfl⟩ (ci := 10) (q0 := 0) rfl rfl rfl hl.1 rfl (Nat.le_of_ble_eq_true rfl) ⟨Nat.zero_le _, Nat.zero_le _⟩ dX12_sundayOf_51) cx.2.2.1 hD hS (fun r49 _ H locs hw48 hP hD hS => ?_)
          refine lv_aload_n hx hb dX12_sundayOf_54 rfl (lv_at hl 5 rfl) ?_
          refine lv_iconst (v := 1) hx hb dX12_sundayOf_55 (by decide) ?_
          refine lv_iload hx hb dX12_sundayOf_56 (lv_at hl 2 rfl) ?_
          refine lv_iload hx hb dX12_sundayOf_58 (lv_at hl 0 rfl) ?_
          refine g_iF (w1 := fun (_ : Unit) => [(qm 0, .inr (10, [.ref (qm 1), .ref (qm 2), .ref (qm 3), .int (sm 0 3), .int (sm 0 4), .int (sm 0 5), .int (sm 0 6), .int (sm 0 7), .int (sm 0 8), .int (sm 0 9), .int (sm 0 10), .ref (qm 4), .ref (qm 5), .int (sm 0 13), .ref (qm 6), .ref (qm 7), .ref (qm 8), .ref (qm 9), .ref (qm 10), .ref (qm 11), .ref (qm 12), .ref (qm 13), .int (sm 0 22), .int (sm 0 23), .ref (qm 14), .ref (qm 15), .int (sm 0 26), .ref (qm 16), .ref (qm 17), .long (tm 0 29), .long (tm 0 30), .long (tm 0 31), .int (sm 0 32)])), (qm 1, .inl (k 0, 26, .inl (sm 1))), (qm 2, .inl (k 0, 26, .inl (sm 2))), (qm 3, .inl (k 0, 64, .inl (sm 3))), (qm 4, .inl (k 0, 15, .inl (sm 4))), (qm 5, .inl (k 0, 5, .inl (sm 5))), (qm 6, .inl (k 1, 1000, .inr (.inl (tm 6)))), (qm 7, .inl (k 1, 1000, .inr (.inl (tm 7)))), (qm 8, .inl (k 1, 50, .inr (.inl (tm 8)))), (qm 9, .inl (k 1, 50, .inr (.inl (tm 9)))), (qm 10, .inl (k 1, 1500, .inr (.inl (tm 10)))), (qm 11, .inl (k 1, 1500, .inr (.inl (tm 11)))), (qm 12, .inl (k 0, 1500, .inl (sm 12))), (qm 13, .inl (k 0, 5, .inl (sm 13))), (qm 14, .inl (k 3, 2, .inl (sm 14))), (qm 15, .inl (k 0, 14, .inl (sm 15))), (qm 16, .inl (k 0, 5, .inl (sm 16))), (qm 17, .inl (k 0, 5, .inl (sm 17)))]) (g_runVF (ws := [(qm 0, .inr (10, [.ref (qm 1), .ref (qm 2), .ref (qm 3), .int (sm 0 3), .int (sm 0 4), .int (sm 0 5), .int (sm 0 6), .int (sm 0 7), .int (sm 0 8), .int (sm 0 9), .int (sm 0 10), .ref (qm 4), .ref (qm 5), .int (sm 0 13), .ref (qm 6), .ref (qm 7), .ref (qm 8), .ref (qm 9), .ref (qm 10), .ref (qm 11), .ref (qm 12), .ref (qm 13), .int (sm 0 22), .int (sm 0 23), .ref (qm 14), .ref (qm 15), .int (sm 0 26), .ref (qm 16), .ref (qm 17), .long (tm 0 29), .long (tm 0 30), .long (tm 0 31), .int (sm 0 32)])), (qm 1, .inl (k 0, 26, .inl (sm 1))), (qm 2, .inl (k 0, 26, .inl (sm 2))), (qm 3, .inl (k 0, 64, .inl (sm 3))), (qm 4, .inl (k 0, 15, .inl (sm 4))), (qm 5, .inl (k 0, 5, .inl (sm 5))), (qm 6, .inl (k 1, 1000, .inr (.inl (tm 6)))), (qm 7, .inl (k 1, 1000, .inr (.inl (tm 7)))), (qm 8, .inl (k 1, 50, .inr (.inl (tm 8)))), (qm 9, .inl (k 1, 50, .inr (.inl (tm 9)))), (qm 10, .inl (k 1, 1500, .inr (.inl (tm 10)))), (qm 11, .inl (k 1, 1500, .inr (.inl (tm 11)))), (qm 12, .inl (k 0, 1500, .inl (sm 12))), (qm 13, .inl (k 0, 5, .inl (sm 13))), (qm 14, .inl (k 3, 2, .inl (sm 14))), (qm 15, .inl (k 0, 14, .inl (sm 15))), (qm 16, .inl (k 0, 5, .inl (sm 16))), (qm 17, .inl (k 0, 5, .inl (sm 17)))]) (rest := [.int r49, .int v20]) cx hP hD hS [.int 1, .int v3, .int v19] (c_X12_stays l D k b qm sm tm H.size 1 v3 v19 (show 0 ≤ (1 : Int32).toInt ∧ (1 : Int32).toInt ≤ 2 from by first | decide | omega)) gX12_sundayOf_X12_stays rfl rfl rfl nd_X12_stays ⟨Nat.le_of_ble_eq_true rfl, Nat.le_of_ble_eq_true rfl⟩ (ci := 10) (q0 := 0) rfl rfl rfl hl.1 rfl (Nat.le_of_ble_eq_true rfl) ⟨Nat.zero_le _, Nat.zero_le _⟩ dX12_sundayOf_60) cx.2.2.1 hD hS (fun r51 _ H locs hw50 hP hD hS => ?_)
          refine lv_imul hx hb dX12_sundayOf_63 (lv_topi (fun v52 e52 => ?_))
          refine lv_aload_n hx hb dX12_sundayOf_64 rfl (lv_at hl 5 rfl) ?_
          refine lv_iconst (v := 2) hx hb dX12_sundayOf_65 (by decide) ?_
          refine lv_iload hx hb dX12_sundayOf_66 (lv_at hl 1 rfl) ?_
          refine lv_iload_n hx hb dX12_sundayOf_68 rfl (lv_at hl 7 rfl) ?_
          refine lv_bipush (v := 10) hx hb dX12_sundayOf_69 (by decide) ?_
          refine lv_irem hx hb dX12_sundayOf_71 (by decide) (lv_topi (fun v53 e53 => ?_))
          have t53 : -10 < v53.toInt ∧ v53.toInt < 10 := by rw [e53]; exact i_remb (by decide) (by decide)
          refine lv_iload hx hb dX12_sundayOf_72 (lv_at hl 0 rfl) ?_
          refine lv_isub hx hb dX12_sundayOf_74 (lv_topi (fun v54 e54 => ?_))
          have t54 : v54.toInt = v53.toInt - v19.toInt := by rw [e54]; exact i_sub rfl rfl (by omega) (by omega)
          refine g_iF (w1 := fun (_ : Unit) => [(qm 0, .inr (10, [.ref (qm 1), .ref (qm 2), .ref (qm 3), .int (sm 0 3), .int (sm 0 4), .int (sm 0 5), .int (sm 0 6), .int (sm 0 7), .int (sm 0 8), .int (sm 0 9), .int (sm 0 10), .ref (qm 4), .ref (qm 5), .int (sm 0 13), .ref (qm 6), .ref (qm 7), .ref (qm 8), .ref (qm 9), .ref (qm 10), .ref (qm 11), .ref (qm 12), .ref (qm 13), .int (sm 0 22), .int (sm 0 23), .ref (qm 14), .ref (qm 15), .int (sm 0 26), .ref (qm 16), .ref (qm 17), .long (tm 0 29), .long (tm 0 30), .long (tm 0 31), .int (sm 0 32)])), (qm 1, .inl (k 0, 26, .inl (sm 1))), (qm 2, .inl (k 0, 26, .inl (sm 2))), (qm 3, .inl (k 0, 64, .inl (sm 3))), (qm 4, .inl (k 0, 15, .inl (sm 4))), (qm 5, .inl (k 0, 5, .inl (sm 5))), (qm 6, .inl (k 1, 1000, .inr (.inl (tm 6)))), (qm 7, .inl (k 1, 1000, .inr (.inl (tm 7)))), (qm 8, .inl (k 1, 50, .inr (.inl (tm 8)))), (qm 9, .inl (k 1, 50, .inr (.inl (tm 9)))), (qm 10, .inl (k 1, 1500, .inr (.inl (tm 10)))), (qm 11, .inl (k 1, 1500, .inr (.inl (tm 11)))), (qm 12, .inl (k 0, 1500, .inl (sm 12))), (qm 13, .inl (k 0, 5, .inl (sm 13))), (qm 14, .inl (k 3, 2, .inl (sm 14))), (qm 15, .inl (k 0, 14, .inl (sm 15))), (qm 16, .inl (k 0, 5, .inl (sm 16))), (qm 17, .inl (k 0, 5, .inl (sm 17)))]) (g_runVF (ws := [(qm 0, .inr (10, [.ref (qm 1), .ref (qm 2), .ref (qm 3), .int (sm 0 3), .int (sm 0 4), .int (sm 0 5), .int (sm 0 6), .int (sm 0 7), .int (sm 0 8), .int (sm 0 9), .int (sm 0 10), .ref (qm 4), .ref (qm 5), .int (sm 0 13), .ref (qm 6), .ref (qm 7), .ref (qm 8), .ref (qm 9), .ref (qm 10), .ref (qm 11), .ref (qm 12), .ref (qm 13), .int (sm 0 22), .int (sm 0 23), .ref (qm 14), .ref (qm 15), .int (sm 0 26), .ref (qm 16), .ref (qm 17), .long (tm 0 29), .long (tm 0 30), .long (tm 0 31), .int (sm 0 32)])), (qm 1, .inl (k 0, 26, .inl (sm 1))), (qm 2, .inl (k 0, 26, .inl (sm 2))), (qm 3, .inl (k 0, 64, .inl (sm 3))), (qm 4, .inl (k 0, 15, .inl (sm 4))), (qm 5, .inl (k 0, 5, .inl (sm 5))), (qm 6, .inl (k 1, 1000, .inr (.inl (tm 6)))), (qm 7, .inl (k 1, 1000, .inr (.inl (tm 7)))), (qm 8, .inl (k 1, 50, .inr (.inl (tm 8)))), (qm 9, .inl (k 1, 50, .inr (.inl (tm 9)))), (qm 10, .inl (k 1, 1500, .inr (.inl (tm 10)))), (qm 11, .inl (k 1, 1500, .inr (.inl (tm 11)))), (qm 12, .inl (k 0, 1500, .inl (sm 12))), (qm 13, .inl (k 0, 5, .inl (sm 13))), (qm 14, .inl (k 3, 2, .inl (sm 14))), (qm 15, .inl (k 0, 14, .inl (sm 15))), (qm 16, .inl (k 0, 5, .inl (sm 16))), (qm 17, .inl (k 0, 5, .inl (sm 17)))]) (rest := [.int v52, .int v20]) cx hP hD hS [.int 2, .int v4, .int v54] (c_X12_stays l D k b qm sm tm H.size 2 v4 v54 (show 0 ≤ (2 : Int32).toInt ∧ (2 : Int32).toInt ≤ 2 from by first | decide | omega)) gX12_sundayOf_X12_stays rfl rfl rfl nd_X12_stays ⟨Nat.le_of_ble_eq_true rfl, Nat.le_of_ble_eq_true rfl⟩ (ci := 10) (q0 := 0) rfl rfl rfl hl.1 rfl (Nat.le_of_ble_eq_true rfl) ⟨Nat.zero_le _, Nat.zero_le _⟩ dX12_sundayOf_75) cx.2.2.1 hD hS (fun r56 _ H locs hw55 hP hD hS => ?_)
          refine lv_imul hx hb dX12_sundayOf_78 (lv_topi (fun v57 e57 => ?_))
          refine lv_iadd hx hb dX12_sundayOf_79 (lv_topi (fun v58 e58 => ?_))
          refine lv_istore_n (lv' := [(3, .int v58), (7, .int v19), (6, .int v4), (5, .int v3), (4, .int v1), (0, .ref (qm 0)), (1, .int p0), (2, .int p1)]) hx hb dX12_sundayOf_80 rfl hl (by decide) rfl (fun ls hl => ?_)
          obtain ⟨v59, e59⟩ : ∃ z : Int32, z = v19 + 1 := ⟨_, rfl⟩
          refine lv_iinc (v := v59) (lv' := [(7, .int v59), (3, .int v58), (6, .int v4), (5, .int v3), (4, .int v1), (0, .ref (qm 0)), (1, .int p0), (2, .int p1)]) hx hb dX12_sundayOf_81 hl (k := 1) rfl (by rw [e59]; rfl) (by decide) rfl (fun ls hl => ?_)
          have t59 : v59.toInt = v19.toInt + 1 := by rw [e59]; exact i_add rfl (by decide) (by omega) (by omega)
          refine lv_goto (tgt := 26) hx hb dX12_sundayOf_84 (by decide) ?_
          exact ih26 v59 v58 _ _ _ (by omega) (by first | decide | omega) hP hD hS (lv_sub hl [0, 2, 3, 4, 1, 5, 6, 7] rfl)
  have hlit60 : (0 : Int32).toInt = 0 := by decide
  have hlit61 : (0 : Int32).toInt = 0 := by decide
  exact hL26 (Int.toNat (10 - 0) + 1) 0 0 _ _ _ (by omega) (by first | decide | omega) hP hD hS (lv_sub hl [0, 1, 2, 3, 4, 5, 6, 7] rfl)
set_option maxHeartbeats 4000000 in
set_option maxRecDepth 100000 in
theorem c_X12_common (l : Launch) (D : va_G) (k : Nat → ClassId) (b : Nat → Nat) (sz : Nat) (p0 : Int64) (p1 : Int64) (hz : ¬ p1.toInt = 0) : MetL l D k b yX12_common wsX12_common ({ frames := 0, cells := 0, slots := 0, locals := 0 } : Room) [] sz [.long p0, .long p1] (fun (r : Int64) (u : Unit) => ¬ r.toInt = 0) (fun u => []) := by
  refine g_enter (cc := cX12_common) (maxL := 10) (ret := (some .long)) (by decide) rfl (Nat.le_of_ble_eq_true rfl) ?_
  intro p e s m below meth c A hsz hAe cx hr hP hD hS ls hl
  rw [hAe]
  refine g_q (fun Q hQ => ?_)
  have hx := cx.1.1
  have hb := cx.1.2.1
  have hl : lv_has ls 10 [(0, .long p0), (2, .long p1)] := hl
  obtain ⟨H, eH⟩ : ∃ H : Heap, H = s.heap := ⟨_, rfl⟩
  obtain ⟨locs, el⟩ : ∃ L : List Loc, L = [] := ⟨_, rfl⟩
  have hP : va_P D vwCl [] H := by rw [eH]; exact hP
  have hD : va_D A [] := hD
  have hS : va_S A s.heap H locs := by rw [eH, el]; exact hS
  suffices goal : W p l e ({ frames := 0, cells := 0, slots := 0, locals := 0 } : Room) s m ([.long p0, .long p1] : List Value).toArray below meth c H locs 0 0 Q (F0 m 0 ls []) by rw [eH, el] at goal; exact goal
  refine lv_lload_n hx hb dX12_common_0 rfl (lv_at hl 0 rfl) ?_
  refine lv_lstore (lv' := [(4, .long p0), (0, .long p0), (2, .long p1)]) hx hb dX12_common_1 hl (by decide) rfl (fun ls hl => ?_)
  refine lv_lload_n hx hb dX12_common_3 rfl (lv_at hl 2 rfl) ?_
  refine lv_lstore (lv' := [(6, .long p1), (4, .long p0), (0, .long p0), (2, .long p1)]) hx hb dX12_common_4 hl (by decide) rfl (fun ls hl => ?_)
  have hL6 : ∀ (n5 : Nat) (v3 : Int64) (v4 : Int64) (H : Heap) (locs : List Loc) (ls : Array Slot), (v3.toInt.natAbs : Int) < (n5 : Int) → (¬ v4.toInt = 0 ∨ ¬ v3.toInt = 0) → va_P D vwCl [] H → va_D A [] → va_S A s.heap H locs → lv_has ls 10 [(6, .long v3), (4, .long v4)] → W p l e ({ frames := 0, cells := 0, slots := 0, locals := 0 } : Room) s m ([.long p0, .long p1] : List Value).toArray below meth c H locs 0 0 Q (F0 m 6 ls []) := by
    intro n5
    induction n5 with
    | zero => intro v3 v4 H locs ls hmn5 nz hP hD hS hl; exact absurd hmn5 (by omega)
    | succ n5 ih6 =>
      intro v3 v4 H locs ls hmn5 nz hP hD hS hl
      refine lv_lload hx hb dX12_common_6 (lv_at hl 0 rfl) ?_
      refine lv_lconst (v := 0) hx hb dX12_common_8 (by decide) ?_
      refine W.lcmp hx hb dX12_common_9 (lv_topi (fun v6 e6 => ?_))
      refine lv_if_eq (tgt := 31) hx hb dX12_common_10 (by decide) (fun c7 => ?_) (fun c7 => ?_)
      · have f7 : v6.toInt = 0 := f_eq rfl (by decide) c7
        have y0 := lcz e6 c7
        refine lv_lload hx hb dX12_common_31 (lv_at hl 1 rfl) ?_
        rw [hQ]
        exact x_l cx hr () hP hD hS (show ¬ v4.toInt = 0 from by omega) dX12_common_33
      · have f7 : ¬ v6.toInt = 0 := f_ne rfl (by decide) c7
        have y1 := lcnz e6 c7
        refine lv_lload hx hb dX12_common_13 (lv_at hl 1 rfl) ?_
        refine lv_lload hx hb dX12_common_15 (lv_at hl 0 rfl) ?_
        refine lv_lrem hx hb dX12_common_17 (nz64 (by omega)) (lv_topl (fun v8 e8 => ?_))
        have rm := rem64 e8 y1
        refine lv_lstore (lv' := [(8, .long v8), (6, .long v3), (4, .long v4)]) hx hb dX12_common_18 hl (by decide) rfl (fun ls hl => ?_)
        refine lv_lload hx hb dX12_common_20 (lv_at hl 1 rfl) ?_
        refine lv_lstore (lv' := [(4, .long v3), (8, .long v8), (6, .long v3)]) hx hb dX12_common_22 hl (by decide) rfl (fun ls hl => ?_)
        refine lv_lload hx hb dX12_common_24 (lv_at hl 1 rfl) ?_
        refine lv_lstore (lv' := [(6, .long v8), (4, .long v3), (8, .long v8)]) hx hb dX12_common_26 hl (by decide) rfl (fun ls hl => ?_)
        refine lv_goto (tgt := 6) hx hb dX12_common_28 (by decide) ?_
        exact ih6 v8 v3 _ _ _ (by omega) (by first | decide | omega) hP hD hS (lv_sub hl [0, 1] rfl)
  exact hL6 (Int.toNat ((p1.toInt.natAbs : Int)) + 1) p1 p0 _ _ _ (by omega) (by first | decide | omega) hP hD hS (lv_sub hl [0, 1] rfl)
theorem nd_X12_common : yX12_common.cls ≠ "java/lang/invoke/MethodHandle" ∧ yX12_common.cls ≠ "java/lang/invoke/VarHandle" ∧ (parseMethodDescriptor yX12_common.desc).map (fun d => d.parameters.length) = some 2 := by decide +kernel
set_option maxHeartbeats 4000000 in
set_option maxRecDepth 100000 in
theorem c_X12_told (l : Launch) (D : va_G) (k : Nat → ClassId) (b : Nat → Nat) (sz : Nat) (p0 : Int64) (p1 : Int64) (p2 : Int32) (hz : ¬ p1.toInt = 0) : MetL l D k b yX12_told wsX12_told ({ frames := 1, cells := 0, slots := 0, locals := 29 } : Room) [] sz [.long p0, .long p1, .int p2] (fun (r : Int64) (u : Unit) => True) (fun u => []) := by
  refine g_enter (cc := cX12_told) (maxL := 7) (ret := (some .long)) (by decide) rfl (Nat.le_of_ble_eq_true rfl) ?_
  intro p e s m below meth c A hsz hAe cx hr hP hD hS ls hl
  rw [hAe]
  refine g_q (fun Q hQ => ?_)
  have hx := cx.1.1
  have hb := cx.1.2.1
  have bp2 := i_rng p2
  have hl : lv_has ls 7 [(0, .long p0), (2, .long p1), (4, .int p2)] := hl
  obtain ⟨H, eH⟩ : ∃ H : Heap, H = s.heap := ⟨_, rfl⟩
  obtain ⟨locs, el⟩ : ∃ L : List Loc, L = [] := ⟨_, rfl⟩
  have hP : va_P D vwCl [] H := by rw [eH]; exact hP
  have hD : va_D A [] := hD
  have hS : va_S A s.heap H locs := by rw [eH, el]; exact hS
  suffices goal : W p l e ({ frames := 1, cells := 0, slots := 0, locals := 29 } : Room) s m ([.long p0, .long p1, .int p2] : List Value).toArray below meth c H locs 0 0 Q (F0 m 0 ls []) by rw [eH, el] at goal; exact goal
  refine lv_lload_n hx hb dX12_told_0 rfl (lv_at hl 0 rfl) ?_
  refine lv_lload_n hx hb dX12_told_1 rfl (lv_at hl 1 rfl) ?_
  refine g_lr (g_runS (wc := []) (rest := []) cx hP hD hS [] rfl (by decide) [.long p0, .long p1] (c_X12_common l D k b H.size p0 p1 (show ¬ p1.toInt = 0 from by first | decide | omega)) gX12_told_X12_common rfl rfl rfl nd_X12_common ⟨Nat.le_of_ble_eq_true rfl, Nat.le_of_ble_eq_true rfl⟩ rfl hl.1 rfl (Nat.le_of_ble_eq_true rfl) ⟨Nat.zero_le _, Nat.zero_le _⟩ dX12_told_2) cx.2.2.1 hP hD hS [] rfl rfl (fun r2 H locs hw1 hP hS => ?_)
  have w3 : ¬ r2.toInt = 0 := hw1
  clear hw1
  refine lv_lstore (lv' := [(5, .long r2), (0, .long p0), (2, .long p1), (4, .int p2)]) hx hb dX12_told_5 hl (by decide) rfl (fun ls hl => ?_)
  refine lv_iload hx hb dX12_told_7 (lv_at hl 3 rfl) ?_
  refine lv_if_eq (tgt := 19) hx hb dX12_told_9 (by decide) (fun c4 => ?_) (fun c4 => ?_)
  · have f4 : p2.toInt = 0 := f_eq rfl (by decide) c4
    refine lv_lload_n hx hb dX12_told_19 rfl (lv_at hl 2 rfl) ?_
    refine lv_lload hx hb dX12_told_20 (lv_at hl 0 rfl) ?_
    refine lv_ldiv hx hb dX12_told_22 (nz64 (by omega)) (lv_topl (fun v5 e5 => ?_))
    rw [hQ]
    exact x_l cx hr () hP hD hS trivial dX12_told_23
  · have f4 : ¬ p2.toInt = 0 := f_ne rfl (by decide) c4
    refine lv_lload_n hx hb dX12_told_12 rfl (lv_at hl 1 rfl) ?_
    refine lv_lload hx hb dX12_told_13 (lv_at hl 0 rfl) ?_
    refine lv_ldiv hx hb dX12_told_15 (nz64 (by omega)) (lv_topl (fun v6 e6 => ?_))
    refine lv_goto (tgt := 23) hx hb dX12_told_16 (by decide) ?_
    rw [hQ]
    exact x_l cx hr () hP hD hS trivial dX12_told_23
theorem fw_X12_ruleAct_13 : Cond.fieldLink RX12 13 "StillInAugustModel" "house" "[I" ∈ wsX12_ruleAct := by decide +kernel
theorem fw_X12_ruleAct_19 : Cond.fieldLink RX12 19 "StillInAugustModel" "levels" "[I" ∈ wsX12_ruleAct := by decide +kernel
theorem iw_X12_ruleAct_X12 : ∀ w ∈ u_ws RX12 TX12 33, w ∈ wsX12_ruleAct := fun _ h => List.mem_cons_of_mem _ (List.mem_append_right _ h)
set_option maxHeartbeats 4000000 in
set_option maxRecDepth 100000 in
theorem c_X12_ruleAct (l : Launch) (D : va_G) (k : Nat → ClassId) (b : Nat → Nat) (qm : Nat → Nat) (sm : Nat → Nat → Int32) (tm : Nat → Nat → Int64) (sz : Nat) (p0 : Int32) (p1 : Int32) (p2 : Int32) (hp0 : 0 ≤ p0.toInt ∧ p0.toInt ≤ 2) (hp1 : 0 ≤ p1.toInt ∧ p1.toInt ≤ 4) : MetI l D k b yX12_ruleAct wsX12_ruleAct ({ frames := 1, cells := 0, slots := 0, locals := 20 } : Room) [(qm 0, .inr (10, [.ref (qm 1), .ref (qm 2), .ref (qm 3), .int (sm 0 3), .int (sm 0 4), .int (sm 0 5), .int (sm 0 6), .int (sm 0 7), .int (sm 0 8), .int (sm 0 9), .int (sm 0 10), .ref (qm 4), .ref (qm 5), .int (sm 0 13), .ref (qm 6), .ref (qm 7), .ref (qm 8), .ref (qm 9), .ref (qm 10), .ref (qm 11), .ref (qm 12), .ref (qm 13), .int (sm 0 22), .int (sm 0 23), .ref (qm 14), .ref (qm 15), .int (sm 0 26), .ref (qm 16), .ref (qm 17), .long (tm 0 29), .long (tm 0 30), .long (tm 0 31), .int (sm 0 32)])), (qm 1, .inl (k 0, 26, .inl (sm 1))), (qm 2, .inl (k 0, 26, .inl (sm 2))), (qm 3, .inl (k 0, 64, .inl (sm 3))), (qm 4, .inl (k 0, 15, .inl (sm 4))), (qm 5, .inl (k 0, 5, .inl (sm 5))), (qm 6, .inl (k 1, 1000, .inr (.inl (tm 6)))), (qm 7, .inl (k 1, 1000, .inr (.inl (tm 7)))), (qm 8, .inl (k 1, 50, .inr (.inl (tm 8)))), (qm 9, .inl (k 1, 50, .inr (.inl (tm 9)))), (qm 10, .inl (k 1, 1500, .inr (.inl (tm 10)))), (qm 11, .inl (k 1, 1500, .inr (.inl (tm 11)))), (qm 12, .inl (k 0, 1500, .inl (sm 12))), (qm 13, .inl (k 0, 5, .inl (sm 13))), (qm 14, .inl (k 3, 2, .inl (sm 14))), (qm 15, .inl (k 0, 14, .inl (sm 15))), (qm 16, .inl (k 0, 5, .inl (sm 16))), (qm 17, .inl (k 0, 5, .inl (sm 17)))] sz [.ref (qm 0), .int p0, .int p1, .int p2] (fun (r : Int32) (u : Unit) => True) (fun u => [(qm 0, .inr (10, [.ref (qm 1), .ref (qm 2), .ref (qm 3), .int (sm 0 3), .int (sm 0 4), .int (sm 0 5), .int (sm 0 6), .int (sm 0 7), .int (sm 0 8), .int (sm 0 9), .int (sm 0 10), .ref (qm 4), .ref (qm 5), .int (sm 0 13), .ref (qm 6), .ref (qm 7), .ref (qm 8), .ref (qm 9), .ref (qm 10), .ref (qm 11), .ref (qm 12), .ref (qm 13), .int (sm 0 22), .int (sm 0 23), .ref (qm 14), .ref (qm 15), .int (sm 0 26), .ref (qm 16), .ref (qm 17), .long (tm 0 29), .long (tm 0 30), .long (tm 0 31), .int (sm 0 32)])), (qm 1, .inl (k 0, 26, .inl (sm 1))), (qm 2, .inl (k 0, 26, .inl (sm 2))), (qm 3, .inl (k 0, 64, .inl (sm 3))), (qm 4, .inl (k 0, 15, .inl (sm 4))), (qm 5, .inl (k 0, 5, .inl (sm 5))), (qm 6, .inl (k 1, 1000, .inr (.inl (tm 6)))), (qm 7, .inl (k 1, 1000, .inr (.inl (tm 7)))), (qm 8, .inl (k 1, 50, .inr (.inl (tm 8)))), (qm 9, .inl (k 1, 50, .inr (.inl (tm 9)))), (qm 10, .inl (k 1, 1500, .inr (.inl (tm 10)))), (qm 11, .inl (k 1, 1500, .inr (.inl (tm 11)))), (qm 12, .inl (k 0, 1500, .inl (sm 12))), (qm 13, .inl (k 0, 5, .inl (sm 13))), (qm 14, .inl (k 3, 2, .inl (sm 14))), (qm 15, .inl (k 0, 14, .inl (sm 15))), (qm 16, .inl (k 0, 5, .inl (sm 16))), (qm 17, .inl (k 0, 5, .inl (sm 17)))]) := by
  refine g_enter (cc := cX12_ruleAct) (maxL := 7) (ret := (some .int)) (by decide) rfl (Nat.le_of_ble_eq_true rfl) ?_
  intro p e s m below meth c A hsz hAe cx hr hP hD hS ls hl
  rw [hAe]
  refine g_q (fun Q hQ => ?_)
  have hx := cx.1.1
  have hb := cx.1.2.1
  have bp0 := i_rng p0
  have bp1 := i_rng p1
  have bp2 := i_rng p2
  have hl : lv_has ls 7 [(0, .ref (qm 0)), (1, .int p0), (2, .int p1), (3, .int p2)] := hl
  obtain ⟨H, eH⟩ : ∃ H : Heap, H = s.heap := ⟨_, rfl⟩
  obtain ⟨locs, el⟩ : ∃ L : List Loc, L = [] := ⟨_, rfl⟩
  have hP : va_P D vwCl [(qm 0, .inr (10, [.ref (qm 1), .ref (qm 2), .ref (qm 3), .int (sm 0 3), .int (sm 0 4), .int (sm 0 5), .int (sm 0 6), .int (sm 0 7), .int (sm 0 8), .int (sm 0 9), .int (sm 0 10), .ref (qm 4), .ref (qm 5), .int (sm 0 13), .ref (qm 6), .ref (qm 7), .ref (qm 8), .ref (qm 9), .ref (qm 10), .ref (qm 11), .ref (qm 12), .ref (qm 13), .int (sm 0 22), .int (sm 0 23), .ref (qm 14), .ref (qm 15), .int (sm 0 26), .ref (qm 16), .ref (qm 17), .long (tm 0 29), .long (tm 0 30), .long (tm 0 31), .int (sm 0 32)])), (qm 1, .inl (k 0, 26, .inl (sm 1))), (qm 2, .inl (k 0, 26, .inl (sm 2))), (qm 3, .inl (k 0, 64, .inl (sm 3))), (qm 4, .inl (k 0, 15, .inl (sm 4))), (qm 5, .inl (k 0, 5, .inl (sm 5))), (qm 6, .inl (k 1, 1000, .inr (.inl (tm 6)))), (qm 7, .inl (k 1, 1000, .inr (.inl (tm 7)))), (qm 8, .inl (k 1, 50, .inr (.inl (tm 8)))), (qm 9, .inl (k 1, 50, .inr (.inl (tm 9)))), (qm 10, .inl (k 1, 1500, .inr (.inl (tm 10)))), (qm 11, .inl (k 1, 1500, .inr (.inl (tm 11)))), (qm 12, .inl (k 0, 1500, .inl (sm 12))), (qm 13, .inl (k 0, 5, .inl (sm 13))), (qm 14, .inl (k 3, 2, .inl (sm 14))), (qm 15, .inl (k 0, 14, .inl (sm 15))), (qm 16, .inl (k 0, 5, .inl (sm 16))), (qm 17, .inl (k 0, 5, .inl (sm 17)))] H := by rw [eH]; exact hP
  have hD : va_D A [(qm 0, .inr (10, [.ref (qm 1), .ref (qm 2), .ref (qm 3), .int (sm 0 3), .int (sm 0 4), .int (sm 0 5), .int (sm 0 6), .int (sm 0 7), .int (sm 0 8), .int (sm 0 9), .int (sm 0 10), .ref (qm 4), .ref (qm 5), .int (sm 0 13), .ref (qm 6), .ref (qm 7), .ref (qm 8), .ref (qm 9), .ref (qm 10), .ref (qm 11), .ref (qm 12), .ref (qm 13), .int (sm 0 22), .int (sm 0 23), .ref (qm 14), .ref (qm 15), .int (sm 0 26), .ref (qm 16), .ref (qm 17), .long (tm 0 29), .long (tm 0 30), .long (tm 0 31), .int (sm 0 32)])), (qm 1, .inl (k 0, 26, .inl (sm 1))), (qm 2, .inl (k 0, 26, .inl (sm 2))), (qm 3, .inl (k 0, 64, .inl (sm 3))), (qm 4, .inl (k 0, 15, .inl (sm 4))), (qm 5, .inl (k 0, 5, .inl (sm 5))), (qm 6, .inl (k 1, 1000, .inr (.inl (tm 6)))), (qm 7, .inl (k 1, 1000, .inr (.inl (tm 7)))), (qm 8, .inl (k 1, 50, .inr (.inl (tm 8)))), (qm 9, .inl (k 1, 50, .inr (.inl (tm 9)))), (qm 10, .inl (k 1, 1500, .inr (.inl (tm 10)))), (qm 11, .inl (k 1, 1500, .inr (.inl (tm 11)))), (qm 12, .inl (k 0, 1500, .inl (sm 12))), (qm 13, .inl (k 0, 5, .inl (sm 13))), (qm 14, .inl (k 3, 2, .inl (sm 14))), (qm 15, .inl (k 0, 14, .inl (sm 15))), (qm 16, .inl (k 0, 5, .inl (sm 16))), (qm 17, .inl (k 0, 5, .inl (sm 17)))] := hD
  have hS : va_S A s.heap H locs := by rw [eH, el]; exact hS
  suffices goal : W p l e ({ frames := 1, cells := 0, slots := 0, locals := 20 } : Room) s m ([.ref (qm 0), .int p0, .int p1, .int p2] : List Value).toArray below meth c H locs 0 0 Q (F0 m 0 ls []) by rw [eH, el] at goal; exact goal
  refine lv_aload_n hx hb dX12_ruleAct_0 rfl (lv_at hl 0 rfl) ?_
  refine g_get cx hP iw_X12_ruleAct_X12 0 rfl rfl 11 (by decide) rfl fw_X12_ruleAct_19 rfl dX12_ruleAct_1 ?_
  refine lv_iconst (v := 5) hx hb dX12_ruleAct_4 (by decide) ?_
  refine lv_iload_n hx hb dX12_ruleAct_5 rfl (lv_at hl 1 rfl) ?_
  refine lv_imul hx hb dX12_ruleAct_6 (lv_topi (fun v1 e1 => ?_))
  have t1 : v1.toInt = 5 * p0.toInt := by rw [e1]; exact i_mul (by decide) rfl (by omega) (by omega)
  refine lv_iload_n hx hb dX12_ruleAct_7 rfl (lv_at hl 2 rfl) ?_
  refine lv_iadd hx hb dX12_ruleAct_8 (lv_topi (fun v2 e2 => ?_))
  have t2 : v2.toInt = v1.toInt + p1.toInt := by rw [e2]; exact i_add rfl rfl (by omega) (by omega)
  have hn3 : vp_in v2 15 := f_in (a := v2.toInt) rfl (by omega) (by omega)
  refine va_iald hx hb cx.2.1 hP 4 0 rfl rfl hn3 dX12_ruleAct_9 (lv_topi (fun v4 e4 => ?_))
  refine lv_iload_n hx hb dX12_ruleAct_10 rfl (lv_at hl 3 rfl) ?_
  refine g_ir (g_runS (wc := []) (rest := [.int v4]) cx hP hD hS [] rfl (by decide) [.int p2] (c_X12_all l D k b H.size p2) gX12_ruleAct_X12_all rfl rfl rfl nd_X12_all ⟨Nat.le_of_ble_eq_true rfl, Nat.le_of_ble_eq_true rfl⟩ rfl hl.1 rfl (Nat.le_of_ble_eq_true rfl) ⟨Nat.zero_le _, Nat.zero_le _⟩ dX12_ruleAct_11) cx.2.2.1 hP hD hS [] rfl rfl (fun r6 H locs hw5 hP hS => ?_)
  have w7 : r6 = J_X12_all p2 := hw5
  clear hw5
  refine lv_isub hx hb dX12_ruleAct_14 (lv_topi (fun v8 e8 => ?_))
  refine lv_istore (lv' := [(4, .int v8), (0, .ref (qm 0)), (1, .int p0), (2, .int p1), (3, .int p2)]) hx hb dX12_ruleAct_15 hl (by decide) rfl (fun ls hl => ?_)
  refine lv_aload_n hx hb dX12_ruleAct_17 rfl (lv_at hl 1 rfl) ?_
  refine g_get cx hP iw_X12_ruleAct_X12 0 rfl rfl 1 (by decide) rfl fw_X12_ruleAct_13 rfl dX12_ruleAct_18 ?_
  refine lv_iconst (v := 1) hx hb dX12_ruleAct_21 (by decide) ?_
  have hn9 : vp_in 1 26 := f_in (a := 1) (by decide) (by omega) (by omega)
  refine va_iald hx hb cx.2.1 hP 2 0 rfl rfl hn9 dX12_ruleAct_22 (lv_topi (fun v10 e10 => ?_))
  have uv10 : v10.toInt = ((sm 2) 1).toInt := congrArg Int32.toInt e10
  refine lv_iload_n hx hb dX12_ruleAct_23 rfl (lv_at hl 4 rfl) ?_
  refine g_ir (g_runS (wc := []) (rest := [.int v10]) cx hP hD hS [] rfl (by decide) [.int p2] (c_X12_all l D k b H.size p2) gX12_ruleAct_X12_all rfl rfl rfl nd_X12_all ⟨Nat.le_of_ble_eq_true rfl, Nat.le_of_ble_eq_true rfl⟩ rfl hl.1 rfl (Nat.le_of_ble_eq_true rfl) ⟨Nat.zero_le _, Nat.zero_le _⟩ dX12_ruleAct_24) cx.2.2.1 hP hD hS [] rfl rfl (fun r12 H locs hw11 hP hS => ?_)
  have w13 : r12 = J_X12_all p2 := hw11
  clear hw11
  refine lv_isub hx hb dX12_ruleAct_27 (lv_topi (fun v14 e14 => ?_))
  refine lv_istore (lv' := [(5, .int v14), (4, .int v8), (0, .ref (qm 0)), (1, .int p0), (2, .int p1), (3, .int p2)]) hx hb dX12_ruleAct_28 hl (by decide) rfl (fun ls hl => ?_)
  refine lv_iload hx hb dX12_ruleAct_30 (lv_at hl 1 rfl) ?_
  refine lv_aload_n hx hb dX12_ruleAct_32 rfl (lv_at hl 2 rfl) ?_
  refine g_get cx hP iw_X12_ruleAct_X12 0 rfl rfl 1 (by decide) rfl fw_X12_ruleAct_13 rfl dX12_ruleAct_33 ?_
  refine lv_bipush (v := 15) hx hb dX12_ruleAct_36 (by decide) ?_
  refine lv_iload_n hx hb dX12_ruleAct_38 rfl (lv_at hl 4 rfl) ?_
  refine lv_iadd hx hb dX12_ruleAct_39 (lv_topi (fun v15 e15 => ?_))
  have t15 : v15.toInt = 15 + p1.toInt := by rw [e15]; exact i_add (by decide) rfl (by omega) (by omega)
  have hn16 : vp_in v15 26 := f_in (a := v15.toInt) rfl (by omega) (by omega)
  refine va_iald hx hb cx.2.1 hP 2 0 rfl rfl hn16 dX12_ruleAct_40 (lv_topi (fun v17 e17 => ?_))
  have hJ58 : ∀ (v21 : Int32) (H : Heap) (locs : List Loc) (ls : Array Slot), va_P D vwCl [(qm 0, .inr (10, [.ref (qm 1), .ref (qm 2), .ref (qm 3), .int (sm 0 3), .int (sm 0 4), .int (sm 0 5), .int (sm 0 6), .int (sm 0 7), .int (sm 0 8), .int (sm 0 9), .int (sm 0 10), .ref (qm 4), .ref (qm 5), .int (sm 0 13), .ref (qm 6), .ref (qm 7), .ref (qm 8), .ref (qm 9), .ref (qm 10), .ref (qm 11), .ref (qm 12), .ref (qm 13), .int (sm 0 22), .int (sm 0 23), .ref (qm 14), .ref (qm 15), .int (sm 0 26), .ref (qm 16), .ref (qm 17), .long (tm 0 29), .long (tm 0 30), .long (tm 0 31), .int (sm 0 32)])), (qm 1, .inl (k 0, 26, .inl (sm 1))), (qm 2, .inl (k 0, 26, .inl (sm 2))), (qm 3, .inl (k 0, 64, .inl (sm 3))), (qm 4, .inl (k 0, 15, .inl (sm 4))), (qm 5, .inl (k 0, 5, .inl (sm 5))), (qm 6, .inl (k 1, 1000, .inr (.inl (tm 6)))), (qm 7, .inl (k 1, 1000, .inr (.inl (tm 7)))), (qm 8, .inl (k 1, 50, .inr (.inl (tm 8)))), (qm 9, .inl (k 1, 50, .inr (.inl (tm 9)))), (qm 10, .inl (k 1, 1500, .inr (.inl (tm 10)))), (qm 11, .inl (k 1, 1500, .inr (.inl (tm 11)))), (qm 12, .inl (k 0, 1500, .inl (sm 12))), (qm 13, .inl (k 0, 5, .inl (sm 13))), (qm 14, .inl (k 3, 2, .inl (sm 14))), (qm 15, .inl (k 0, 14, .inl (sm 15))), (qm 16, .inl (k 0, 5, .inl (sm 16))), (qm 17, .inl (k 0, 5, .inl (sm 17)))] H → va_D A [(qm 0, .inr (10, [.ref (qm 1), .ref (qm 2), .ref (qm 3), .int (sm 0 3), .int (sm 0 4), .int (sm 0 5), .int (sm 0 6), .int (sm 0 7), .int (sm 0 8), .int (sm 0 9), .int (sm 0 10), .ref (qm 4), .ref (qm 5), .int (sm 0 13), .ref (qm 6), .ref (qm 7), .ref (qm 8), .ref (qm 9), .ref (qm 10), .ref (qm 11), .ref (qm 12), .ref (qm 13), .int (sm 0 22), .int (sm 0 23), .ref (qm 14), .ref (qm 15), .int (sm 0 26), .ref (qm 16), .ref (qm 17), .long (tm 0 29), .long (tm 0 30), .long (tm 0 31), .int (sm 0 32)])), (qm 1, .inl (k 0, 26, .inl (sm 1))), (qm 2, .inl (k 0, 26, .inl (sm 2))), (qm 3, .inl (k 0, 64, .inl (sm 3))), (qm 4, .inl (k 0, 15, .inl (sm 4))), (qm 5, .inl (k 0, 5, .inl (sm 5))), (qm 6, .inl (k 1, 1000, .inr (.inl (tm 6)))), (qm 7, .inl (k 1, 1000, .inr (.inl (tm 7)))), (qm 8, .inl (k 1, 50, .inr (.inl (tm 8)))), (qm 9, .inl (k 1, 50, .inr (.inl (tm 9)))), (qm 10, .inl (k 1, 1500, .inr (.inl (tm 10)))), (qm 11, .inl (k 1, 1500, .inr (.inl (tm 11)))), (qm 12, .inl (k 0, 1500, .inl (sm 12))), (qm 13, .inl (k 0, 5, .inl (sm 13))), (qm 14, .inl (k 3, 2, .inl (sm 14))), (qm 15, .inl (k 0, 14, .inl (sm 15))), (qm 16, .inl (k 0, 5, .inl (sm 16))), (qm 17, .inl (k 0, 5, .inl (sm 17)))] → va_S A s.heap H locs → lv_has ls 7 [(5, .int v14)] → W p l e ({ frames := 1, cells := 0, slots := 0, locals := 20 } : Room) s m ([.ref (qm 0), .int p0, .int p1, .int p2] : List Value).toArray below meth c H locs 0 0 Q (F0 m 58 ls [.int v21]) := by
    intro v21 H locs ls  hP hD hS hl
    refine lv_istore (lv' := [(6, .int v21), (5, .int v14)]) hx hb dX12_ruleAct_58 hl (by decide) rfl (fun ls hl => ?_)
    refine lv_iload hx hb dX12_ruleAct_60 (lv_at hl 0 rfl) ?_
    refine lv_iload hx hb dX12_ruleAct_62 (lv_at hl 1 rfl) ?_
    have hJ74 : ∀ (v22 : Int32) (H : Heap) (locs : List Loc) (ls : Array Slot), va_P D vwCl [(qm 0, .inr (10, [.ref (qm 1), .ref (qm 2), .ref (qm 3), .int (sm 0 3), .int (sm 0 4), .int (sm 0 5), .int (sm 0 6), .int (sm 0 7), .int (sm 0 8), .int (sm 0 9), .int (sm 0 10), .ref (qm 4), .ref (qm 5), .int (sm 0 13), .ref (qm 6), .ref (qm 7), .ref (qm 8), .ref (qm 9), .ref (qm 10), .ref (qm 11), .ref (qm 12), .ref (qm 13), .int (sm 0 22), .int (sm 0 23), .ref (qm 14), .ref (qm 15), .int (sm 0 26), .ref (qm 16), .ref (qm 17), .long (tm 0 29), .long (tm 0 30), .long (tm 0 31), .int (sm 0 32)])), (qm 1, .inl (k 0, 26, .inl (sm 1))), (qm 2, .inl (k 0, 26, .inl (sm 2))), (qm 3, .inl (k 0, 64, .inl (sm 3))), (qm 4, .inl (k 0, 15, .inl (sm 4))), (qm 5, .inl (k 0, 5, .inl (sm 5))), (qm 6, .inl (k 1, 1000, .inr (.inl (tm 6)))), (qm 7, .inl (k 1, 1000, .inr (.inl (tm 7)))), (qm 8, .inl (k 1, 50, .inr (.inl (tm 8)))), (qm 9, .inl (k 1, 50, .inr (.inl (tm 9)))), (qm 10, .inl (k 1, 1500, .inr (.inl (tm 10)))), (qm 11, .inl (k 1, 1500, .inr (.inl (tm 11)))), (qm 12, .inl (k 0, 1500, .inl (sm 12))), (qm 13, .inl (k 0, 5, .inl (sm 13))), (qm 14, .inl (k 3, 2, .inl (sm 14))), (qm 15, .inl (k 0, 14, .inl (sm 15))), (qm 16, .inl (k 0, 5, .inl (sm 16))), (qm 17, .inl (k 0, 5, .inl (sm 17)))] H → va_D A [(qm 0, .inr (10, [.ref (qm 1), .ref (qm 2), .ref (qm 3), .int (sm 0 3), .int (sm 0 4), .int (sm 0 5), .int (sm 0 6), .int (sm 0 7), .int (sm 0 8), .int (sm 0 9), .int (sm 0 10), .ref (qm 4), .ref (qm 5), .int (sm 0 13), .ref (qm 6), .ref (qm 7), .ref (qm 8), .ref (qm 9), .ref (qm 10), .ref (qm 11), .ref (qm 12), .ref (qm 13), .int (sm 0 22), .int (sm 0 23), .ref (qm 14), .ref (qm 15), .int (sm 0 26), .ref (qm 16), .ref (qm 17), .long (tm 0 29), .long (tm 0 30), .long (tm 0 31), .int (sm 0 32)])), (qm 1, .inl (k 0, 26, .inl (sm 1))), (qm 2, .inl (k 0, 26, .inl (sm 2))), (qm 3, .inl (k 0, 64, .inl (sm 3))), (qm 4, .inl (k 0, 15, .inl (sm 4))), (qm 5, .inl (k 0, 5, .inl (sm 5))), (qm 6, .inl (k 1, 1000, .inr (.inl (tm 6)))), (qm 7, .inl (k 1, 1000, .inr (.inl (tm 7)))), (qm 8, .inl (k 1, 50, .inr (.inl (tm 8)))), (qm 9, .inl (k 1, 50, .inr (.inl (tm 9)))), (qm 10, .inl (k 1, 1500, .inr (.inl (tm 10)))), (qm 11, .inl (k 1, 1500, .inr (.inl (tm 11)))), (qm 12, .inl (k 0, 1500, .inl (sm 12))), (qm 13, .inl (k 0, 5, .inl (sm 13))), (qm 14, .inl (k 3, 2, .inl (sm 14))), (qm 15, .inl (k 0, 14, .inl (sm 15))), (qm 16, .inl (k 0, 5, .inl (sm 16))), (qm 17, .inl (k 0, 5, .inl (sm 17)))] → va_S A s.heap H locs → lv_has ls 7 [] → W p l e ({ frames := 1, cells := 0, slots := 0, locals := 20 } : Room) s m ([.ref (qm 0), .int p0, .int p1, .int p2] : List Value).toArray below meth c H locs 0 0 Q (F0 m 74 ls [.int v22]) := by
      intro v22 H locs ls  hP hD hS hl
      refine lv_istore (lv' := [(6, .int v22)]) hx hb dX12_ruleAct_74 hl (by decide) rfl (fun ls hl => ?_)
      refine lv_iload hx hb dX12_ruleAct_76 (lv_at hl 0 rfl) ?_
      refine lv_if_le (tgt := 89) hx hb dX12_ruleAct_78 (by decide) (fun c23 => ?_) (fun c23 => ?_)
      · have f23 : v22.toInt ≤ 0 := f_le rfl (by decide) c23
        refine lv_iconst (v := 0) hx hb dX12_ruleAct_89 (by decide) ?_
        have hlit24 : (0 : Int32).toInt = 0 := by decide
        rw [hQ]
        exact x_i cx hr () hP hD hS trivial dX12_ruleAct_90
      · have f23 : 0 < v22.toInt := f_nle rfl (by decide) c23
        refine lv_bipush (v := 100) hx hb dX12_ruleAct_81 (by decide) ?_
        refine lv_iload hx hb dX12_ruleAct_83 (lv_at hl 0 rfl) ?_
        refine lv_imul hx hb dX12_ruleAct_85 (lv_topi (fun v25 e25 => ?_))
        refine lv_goto (tgt := 90) hx hb dX12_ruleAct_86 (by decide) ?_
        rw [hQ]
        exact x_i cx hr () hP hD hS trivial dX12_ruleAct_90
    refine lv_icmp_ge (tgt := 72) hx hb dX12_ruleAct_64 (by decide) (fun c26 => ?_) (fun c26 => ?_)
    · have f26 : v14.toInt ≤ v21.toInt := f_le rfl rfl c26
      refine lv_iload hx hb dX12_ruleAct_72 (lv_at hl 1 rfl) ?_
      exact hJ74 v14 _ _ _  hP hD hS (lv_sub hl [] rfl)
    · have f26 : v21.toInt < v14.toInt := f_nle rfl rfl c26
      refine lv_iload hx hb dX12_ruleAct_67 (lv_at hl 0 rfl) ?_
      refine lv_goto (tgt := 74) hx hb dX12_ruleAct_69 (by decide) ?_
      exact hJ74 v21 _ _ _  hP hD hS (lv_sub hl [] rfl)
  refine lv_icmp_ge (tgt := 49) hx hb dX12_ruleAct_41 (by decide) (fun c27 => ?_) (fun c27 => ?_)
  · have f27 : v17.toInt ≤ v8.toInt := f_le rfl rfl c27
    refine lv_aload_n hx hb dX12_ruleAct_49 rfl (lv_at hl 2 rfl) ?_
    refine g_get cx hP iw_X12_ruleAct_X12 0 rfl rfl 1 (by decide) rfl fw_X12_ruleAct_13 rfl dX12_ruleAct_50 ?_
    refine lv_bipush (v := 15) hx hb dX12_ruleAct_53 (by decide) ?_
    refine lv_iload_n hx hb dX12_ruleAct_55 rfl (lv_at hl 4 rfl) ?_
    refine lv_iadd hx hb dX12_ruleAct_56 (lv_topi (fun v28 e28 => ?_))
    have t28 : v28.toInt = 15 + p1.toInt := by rw [e28]; exact i_add (by decide) rfl (by omega) (by omega)
    have hn29 : vp_in v28 26 := f_in (a := v28.toInt) rfl (by omega) (by omega)
    refine va_iald hx hb cx.2.1 hP 2 0 rfl rfl hn29 dX12_ruleAct_57 (lv_topi (fun v30 e30 => ?_))
    exact hJ58 v30 _ _ _  hP hD hS (lv_sub hl [0] rfl)
  · have f27 : v8.toInt < v17.toInt := f_nle rfl rfl c27
    refine lv_iload hx hb dX12_ruleAct_44 (lv_at hl 1 rfl) ?_
    refine lv_goto (tgt := 58) hx hb dX12_ruleAct_46 (by decide) ?_
    exact hJ58 v8 _ _ _  hP hD hS (lv_sub hl [0] rfl)
theorem kJ_X12_parts_200 : Cond.constantLong RX12 200 (625) ∈ wsX12_parts := by decide +kernel
set_option maxHeartbeats 4000000 in
set_option maxRecDepth 100000 in
theorem c_X12_parts (l : Launch) (D : va_G) (k : Nat → ClassId) (b : Nat → Nat) (sz : Nat) (p0 : Int32) : MetL l D k b yX12_parts wsX12_parts ({ frames := 0, cells := 0, slots := 0, locals := 0 } : Room) [] sz [.int p0] (fun (r : Int64) (u : Unit) => r.toInt % 2 = 1) (fun u => []) := by
  refine g_enter (cc := cX12_parts) (maxL := 4) (ret := (some .long)) (by decide) rfl (Nat.le_of_ble_eq_true rfl) ?_
  intro p e s m below meth c A hsz hAe cx hr hP hD hS ls hl
  rw [hAe]
  refine g_q (fun Q hQ => ?_)
  have hx := cx.1.1
  have hb := cx.1.2.1
  have bp0 := i_rng p0
  have hl : lv_has ls 4 [(0, .int p0)] := hl
  obtain ⟨H, eH⟩ : ∃ H : Heap, H = s.heap := ⟨_, rfl⟩
  obtain ⟨locs, el⟩ : ∃ L : List Loc, L = [] := ⟨_, rfl⟩
  have hP : va_P D vwCl [] H := by rw [eH]; exact hP
  have hD : va_D A [] := hD
  have hS : va_S A s.heap H locs := by rw [eH, el]; exact hS
  suffices goal : W p l e ({ frames := 0, cells := 0, slots := 0, locals := 0 } : Room) s m ([.int p0] : List Value).toArray below meth c H locs 0 0 Q (F0 m 0 ls []) by rw [eH, el] at goal; exact goal
  refine lv_lconst (v := 1) hx hb dX12_parts_0 (by decide) ?_
  refine lv_lstore_n (lv' := [(1, .long 1), (0, .int p0)]) hx hb dX12_parts_1 rfl hl (by decide) rfl (fun ls hl => ?_)
  refine lv_iconst (v := 0) hx hb dX12_parts_2 (by decide) ?_
  refine lv_istore_n (lv' := [(3, .int 0), (1, .long 1), (0, .int p0)]) hx hb dX12_parts_3 rfl hl (by decide) rfl (fun ls hl => ?_)
  have hL4 : ∀ (n5 : Nat) (v3 : Int32) (v4 : Int64) (H : Heap) (locs : List Loc) (ls : Array Slot), (p0.toInt - v3.toInt < (n5 : Int) ∧ 0 < (n5 : Int)) → (0 ≤ v3.toInt) → (v4.toInt % 2 = 1) → va_P D vwCl [] H → va_D A [] → va_S A s.heap H locs → lv_has ls 4 [(3, .int v3), (1, .long v4), (0, .int p0)] → W p l e ({ frames := 0, cells := 0, slots := 0, locals := 0 } : Room) s m ([.int p0] : List Value).toArray below meth c H locs 0 0 Q (F0 m 4 ls []) := by
    intro n5
    induction n5 with
    | zero => intro v3 v4 H locs ls hmn5 bv3 qo hP hD hS hl; exact absurd hmn5 (by omega)
    | succ n5 ih4 =>
      intro v3 v4 H locs ls hmn5 bv3 qo hP hD hS hl
      refine lv_iload_n hx hb dX12_parts_4 rfl (lv_at hl 0 rfl) ?_
      refine lv_iload_n hx hb dX12_parts_5 rfl (lv_at hl 2 rfl) ?_
      refine lv_icmp_ge (tgt := 21) hx hb dX12_parts_6 (by decide) (fun c6 => ?_) (fun c6 => ?_)
      · have f6 : p0.toInt ≤ v3.toInt := f_le rfl rfl c6
        refine lv_lload_n hx hb dX12_parts_21 rfl (lv_at hl 1 rfl) ?_
        rw [hQ]
        exact x_l cx hr () hP hD hS (show v4.toInt % 2 = 1 from by omega) dX12_parts_22
      · have f6 : v3.toInt < p0.toInt := f_nle rfl rfl c6
        refine lv_lload_n hx hb dX12_parts_9 rfl (lv_at hl 1 rfl) ?_
        refine lv_ldc2 (v := 625) hx hb cx.1.2.2.2.1 (cx.1.2.2.2.2 _ kJ_X12_parts_200) dX12_parts_10 ?_
        refine lv_lmul hx hb dX12_parts_13 (lv_topl (fun v7 e7 => ?_))
        have ov7 : v7.toInt % 2 = 1 := by rw [e7]; exact odd64 (by omega) (by decide)
        refine lv_lstore_n (lv' := [(1, .long v7), (3, .int v3), (0, .int p0)]) hx hb dX12_parts_14 rfl hl (by decide) rfl (fun ls hl => ?_)
        obtain ⟨v8, e8⟩ : ∃ z : Int32, z = v3 + 1 := ⟨_, rfl⟩
        refine lv_iinc (v := v8) (lv' := [(3, .int v8), (1, .long v7), (0, .int p0)]) hx hb dX12_parts_15 hl (k := 1) rfl (by rw [e8]; rfl) (by decide) rfl (fun ls hl => ?_)
        have t8 : v8.toInt = v3.toInt + 1 := by rw [e8]; exact i_add rfl (by decide) (by omega) (by omega)
        refine lv_goto (tgt := 4) hx hb dX12_parts_18 (by decide) ?_
        exact ih4 v8 v7 _ _ _ (by omega) (by first | decide | omega) (by first | decide | omega) hP hD hS (lv_sub hl [0, 1, 2] rfl)
  have hlit9 : (0 : Int32).toInt = 0 := by decide
  have hlit10 : (1 : Int32).toInt = 1 := by decide
  exact hL4 (Int.toNat p0.toInt + 1) 0 1 _ _ _ (by omega) (by first | decide | omega) (by first | decide | omega) hP hD hS (lv_sub hl [0, 1, 2] rfl)
theorem fw_X12_bonus_13 : Cond.fieldLink RX12 13 "StillInAugustModel" "house" "[I" ∈ wsX12_bonus := by decide +kernel
theorem iw_X12_bonus_X12 : ∀ w ∈ u_ws RX12 TX12 33, w ∈ wsX12_bonus := fun _ h => List.mem_cons_of_mem _ (List.mem_append_right _ h)
set_option maxHeartbeats 4000000 in
set_option maxRecDepth 100000 in
theorem c_X12_bonus (l : Launch) (D : va_G) (k : Nat → ClassId) (b : Nat → Nat) (qm : Nat → Nat) (sm : Nat → Nat → Int32) (tm : Nat → Nat → Int64) (sz : Nat) (p0 : Int32) : MetI l D k b yX12_bonus wsX12_bonus ({ frames := 1, cells := 0, slots := 0, locals := 20 } : Room) [(qm 0, .inr (10, [.ref (qm 1), .ref (qm 2), .ref (qm 3), .int (sm 0 3), .int (sm 0 4), .int (sm 0 5), .int (sm 0 6), .int (sm 0 7), .int (sm 0 8), .int (sm 0 9), .int (sm 0 10), .ref (qm 4), .ref (qm 5), .int (sm 0 13), .ref (qm 6), .ref (qm 7), .ref (qm 8), .ref (qm 9), .ref (qm 10), .ref (qm 11), .ref (qm 12), .ref (qm 13), .int (sm 0 22), .int (sm 0 23), .ref (qm 14), .ref (qm 15), .int (sm 0 26), .ref (qm 16), .ref (qm 17), .long (tm 0 29), .long (tm 0 30), .long (tm 0 31), .int (sm 0 32)])), (qm 1, .inl (k 0, 26, .inl (sm 1))), (qm 2, .inl (k 0, 26, .inl (sm 2))), (qm 3, .inl (k 0, 64, .inl (sm 3))), (qm 4, .inl (k 0, 15, .inl (sm 4))), (qm 5, .inl (k 0, 5, .inl (sm 5))), (qm 6, .inl (k 1, 1000, .inr (.inl (tm 6)))), (qm 7, .inl (k 1, 1000, .inr (.inl (tm 7)))), (qm 8, .inl (k 1, 50, .inr (.inl (tm 8)))), (qm 9, .inl (k 1, 50, .inr (.inl (tm 9)))), (qm 10, .inl (k 1, 1500, .inr (.inl (tm 10)))), (qm 11, .inl (k 1, 1500, .inr (.inl (tm 11)))), (qm 12, .inl (k 0, 1500, .inl (sm 12))), (qm 13, .inl (k 0, 5, .inl (sm 13))), (qm 14, .inl (k 3, 2, .inl (sm 14))), (qm 15, .inl (k 0, 14, .inl (sm 15))), (qm 16, .inl (k 0, 5, .inl (sm 16))), (qm 17, .inl (k 0, 5, .inl (sm 17)))] sz [.ref (qm 0), .int p0] (fun (r : Int32) (u : Unit) => True) (fun u => [(qm 0, .inr (10, [.ref (qm 1), .ref (qm 2), .ref (qm 3), .int (sm 0 3), .int (sm 0 4), .int (sm 0 5), .int (sm 0 6), .int (sm 0 7), .int (sm 0 8), .int (sm 0 9), .int (sm 0 10), .ref (qm 4), .ref (qm 5), .int (sm 0 13), .ref (qm 6), .ref (qm 7), .ref (qm 8), .ref (qm 9), .ref (qm 10), .ref (qm 11), .ref (qm 12), .ref (qm 13), .int (sm 0 22), .int (sm 0 23), .ref (qm 14), .ref (qm 15), .int (sm 0 26), .ref (qm 16), .ref (qm 17), .long (tm 0 29), .long (tm 0 30), .long (tm 0 31), .int (sm 0 32)])), (qm 1, .inl (k 0, 26, .inl (sm 1))), (qm 2, .inl (k 0, 26, .inl (sm 2))), (qm 3, .inl (k 0, 64, .inl (sm 3))), (qm 4, .inl (k 0, 15, .inl (sm 4))), (qm 5, .inl (k 0, 5, .inl (sm 5))), (qm 6, .inl (k 1, 1000, .inr (.inl (tm 6)))), (qm 7, .inl (k 1, 1000, .inr (.inl (tm 7)))), (qm 8, .inl (k 1, 50, .inr (.inl (tm 8)))), (qm 9, .inl (k 1, 50, .inr (.inl (tm 9)))), (qm 10, .inl (k 1, 1500, .inr (.inl (tm 10)))), (qm 11, .inl (k 1, 1500, .inr (.inl (tm 11)))), (qm 12, .inl (k 0, 1500, .inl (sm 12))), (qm 13, .inl (k 0, 5, .inl (sm 13))), (qm 14, .inl (k 3, 2, .inl (sm 14))), (qm 15, .inl (k 0, 14, .inl (sm 15))), (qm 16, .inl (k 0, 5, .inl (sm 16))), (qm 17, .inl (k 0, 5, .inl (sm 17)))]) := by
  refine g_enter (cc := cX12_bonus) (maxL := 2) (ret := (some .int)) (by decide) rfl (Nat.le_of_ble_eq_true rfl) ?_
  intro p e s m below meth c A hsz hAe cx hr hP hD hS ls hl
  rw [hAe]
  refine g_q (fun Q hQ => ?_)
  have hx := cx.1.1
  have hb := cx.1.2.1
  have bp0 := i_rng p0
  have hl : lv_has ls 2 [(0, .ref (qm 0)), (1, .int p0)] := hl
  obtain ⟨H, eH⟩ : ∃ H : Heap, H = s.heap := ⟨_, rfl⟩
  obtain ⟨locs, el⟩ : ∃ L : List Loc, L = [] := ⟨_, rfl⟩
  have hP : va_P D vwCl [(qm 0, .inr (10, [.ref (qm 1), .ref (qm 2), .ref (qm 3), .int (sm 0 3), .int (sm 0 4), .int (sm 0 5), .int (sm 0 6), .int (sm 0 7), .int (sm 0 8), .int (sm 0 9), .int (sm 0 10), .ref (qm 4), .ref (qm 5), .int (sm 0 13), .ref (qm 6), .ref (qm 7), .ref (qm 8), .ref (qm 9), .ref (qm 10), .ref (qm 11), .ref (qm 12), .ref (qm 13), .int (sm 0 22), .int (sm 0 23), .ref (qm 14), .ref (qm 15), .int (sm 0 26), .ref (qm 16), .ref (qm 17), .long (tm 0 29), .long (tm 0 30), .long (tm 0 31), .int (sm 0 32)])), (qm 1, .inl (k 0, 26, .inl (sm 1))), (qm 2, .inl (k 0, 26, .inl (sm 2))), (qm 3, .inl (k 0, 64, .inl (sm 3))), (qm 4, .inl (k 0, 15, .inl (sm 4))), (qm 5, .inl (k 0, 5, .inl (sm 5))), (qm 6, .inl (k 1, 1000, .inr (.inl (tm 6)))), (qm 7, .inl (k 1, 1000, .inr (.inl (tm 7)))), (qm 8, .inl (k 1, 50, .inr (.inl (tm 8)))), (qm 9, .inl (k 1, 50, .inr (.inl (tm 9)))), (qm 10, .inl (k 1, 1500, .inr (.inl (tm 10)))), (qm 11, .inl (k 1, 1500, .inr (.inl (tm 11)))), (qm 12, .inl (k 0, 1500, .inl (sm 12))), (qm 13, .inl (k 0, 5, .inl (sm 13))), (qm 14, .inl (k 3, 2, .inl (sm 14))), (qm 15, .inl (k 0, 14, .inl (sm 15))), (qm 16, .inl (k 0, 5, .inl (sm 16))), (qm 17, .inl (k 0, 5, .inl (sm 17)))] H := by rw [eH]; exact hP
  have hD : va_D A [(qm 0, .inr (10, [.ref (qm 1), .ref (qm 2), .ref (qm 3), .int (sm 0 3), .int (sm 0 4), .int (sm 0 5), .int (sm 0 6), .int (sm 0 7), .int (sm 0 8), .int (sm 0 9), .int (sm 0 10), .ref (qm 4), .ref (qm 5), .int (sm 0 13), .ref (qm 6), .ref (qm 7), .ref (qm 8), .ref (qm 9), .ref (qm 10), .ref (qm 11), .ref (qm 12), .ref (qm 13), .int (sm 0 22), .int (sm 0 23), .ref (qm 14), .ref (qm 15), .int (sm 0 26), .ref (qm 16), .ref (qm 17), .long (tm 0 29), .long (tm 0 30), .long (tm 0 31), .int (sm 0 32)])), (qm 1, .inl (k 0, 26, .inl (sm 1))), (qm 2, .inl (k 0, 26, .inl (sm 2))), (qm 3, .inl (k 0, 64, .inl (sm 3))), (qm 4, .inl (k 0, 15, .inl (sm 4))), (qm 5, .inl (k 0, 5, .inl (sm 5))), (qm 6, .inl (k 1, 1000, .inr (.inl (tm 6)))), (qm 7, .inl (k 1, 1000, .inr (.inl (tm 7)))), (qm 8, .inl (k 1, 50, .inr (.inl (tm 8)))), (qm 9, .inl (k 1, 50, .inr (.inl (tm 9)))), (qm 10, .inl (k 1, 1500, .inr (.inl (tm 10)))), (qm 11, .inl (k 1, 1500, .inr (.inl (tm 11)))), (qm 12, .inl (k 0, 1500, .inl (sm 12))), (qm 13, .inl (k 0, 5, .inl (sm 13))), (qm 14, .inl (k 3, 2, .inl (sm 14))), (qm 15, .inl (k 0, 14, .inl (sm 15))), (qm 16, .inl (k 0, 5, .inl (sm 16))), (qm 17, .inl (k 0, 5, .inl (sm 17)))] := hD
  have hS : va_S A s.heap H locs := by rw [eH, el]; exact hS
  suffices goal : W p l e ({ frames := 1, cells := 0, slots := 0, locals := 20 } : Room) s m ([.ref (qm 0), .int p0] : List Value).toArray below meth c H locs 0 0 Q (F0 m 0 ls []) by rw [eH, el] at goal; exact goal
  refine lv_aload_n hx hb dX12_bonus_0 rfl (lv_at hl 0 rfl) ?_
  refine g_get cx hP iw_X12_bonus_X12 0 rfl rfl 1 (by decide) rfl fw_X12_bonus_13 rfl dX12_bonus_1 ?_
  refine lv_bipush (v := 7) hx hb dX12_bonus_4 (by decide) ?_
  have hn1 : vp_in 7 26 := f_in (a := 7) (by decide) (by omega) (by omega)
  refine va_iald hx hb cx.2.1 hP 2 0 rfl rfl hn1 dX12_bonus_6 (lv_topi (fun v2 e2 => ?_))
  have uv2 : v2.toInt = ((sm 2) 7).toInt := congrArg Int32.toInt e2
  refine lv_bipush (v := (-9)) hx hb dX12_bonus_7 (by decide) ?_
  refine lv_icmp_ne (tgt := 16) hx hb dX12_bonus_9 (by decide) (fun c3 => ?_) (fun c3 => ?_)
  · have f3 : ¬ v2.toInt = (-9) := f_ne rfl (by decide) c3
    refine lv_aload_n hx hb dX12_bonus_16 rfl (lv_at hl 0 rfl) ?_
    refine g_get cx hP iw_X12_bonus_X12 0 rfl rfl 1 (by decide) rfl fw_X12_bonus_13 rfl dX12_bonus_17 ?_
    refine lv_bipush (v := 7) hx hb dX12_bonus_20 (by decide) ?_
    have hn4 : vp_in 7 26 := f_in (a := 7) (by decide) (by omega) (by omega)
    refine va_iald hx hb cx.2.1 hP 2 0 rfl rfl hn4 dX12_bonus_22 (lv_topi (fun v5 e5 => ?_))
    obtain rfl : v2 = v5 := e2.trans e5.symm
    refine lv_iload_n hx hb dX12_bonus_23 rfl (lv_at hl 1 rfl) ?_
    refine g_ir (g_runS (wc := []) (rest := [.int v2]) cx hP hD hS [] rfl (by decide) [.int p0] (c_X12_all l D k b H.size p0) gX12_bonus_X12_all rfl rfl rfl nd_X12_all ⟨Nat.le_of_ble_eq_true rfl, Nat.le_of_ble_eq_true rfl⟩ rfl hl.1 rfl (Nat.le_of_ble_eq_true rfl) ⟨Nat.zero_le _, Nat.zero_le _⟩ dX12_bonus_24) cx.2.2.1 hP hD hS [] rfl rfl (fun r7 H locs hw6 hP hS => ?_)
    have w8 : r7 = J_X12_all p0 := hw6
    clear hw6
    refine lv_imul hx hb dX12_bonus_27 (lv_topi (fun v9 e9 => ?_))
    rw [hQ]
    exact x_i cx hr () hP hD hS trivial dX12_bonus_28
  · have f3 : v2.toInt = (-9) := f_eq rfl (by decide) c3
    refine lv_iconst (v := 0) hx hb dX12_bonus_12 (by decide) ?_
    refine lv_goto (tgt := 28) hx hb dX12_bonus_13 (by decide) ?_
    have hlit10 : (0 : Int32).toInt = 0 := by decide
    rw [hQ]
    exact x_i cx hr () hP hD hS trivial dX12_bonus_28
