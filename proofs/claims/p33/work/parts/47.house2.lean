theorem cw_X4_copy_L : Cond.methodLink RX4 70 arraycopyName ∈ wsX4_copy := by decide +kernel
theorem cw_X4_copy_N : Cond.native arraycopyName ∈ wsX4_copy := by decide +kernel
theorem cw_X4_copy_S : Cond.static arraycopyName ∈ wsX4_copy := by decide +kernel
theorem cw_X4_copy_I : Cond.initialized "java/lang/System" ∈ wsX4_copy := by decide +kernel
theorem fw_X4_copy_15 : Cond.fieldLink RX4 15 "StillInAugust$House" "offers" "[I" ∈ wsX4_copy := by decide +kernel
theorem fw_X4_copy_18 : Cond.fieldLink RX4 18 "StillInAugust$House" "goes" "[I" ∈ wsX4_copy := by decide +kernel
theorem fw_X4_copy_21 : Cond.fieldLink RX4 21 "StillInAugust$House" "does" "[I" ∈ wsX4_copy := by decide +kernel
theorem fw_X4_copy_32 : Cond.fieldLink RX4 32 "StillInAugust$House" "weeks" "I" ∈ wsX4_copy := by decide +kernel
theorem fw_X4_copy_36 : Cond.fieldLink RX4 36 "StillInAugust$House" "hooks" "I" ∈ wsX4_copy := by decide +kernel
theorem fw_X4_copy_45 : Cond.fieldLink RX4 45 "StillInAugust$House" "pay" "I" ∈ wsX4_copy := by decide +kernel
theorem fw_X4_copy_48 : Cond.fieldLink RX4 48 "StillInAugust$House" "shortPrice" "I" ∈ wsX4_copy := by decide +kernel
theorem fw_X4_copy_51 : Cond.fieldLink RX4 51 "StillInAugust$House" "letGoPrice" "I" ∈ wsX4_copy := by decide +kernel
theorem fw_X4_copy_54 : Cond.fieldLink RX4 54 "StillInAugust$House" "teachPrice" "I" ∈ wsX4_copy := by decide +kernel
theorem fw_X4_copy_57 : Cond.fieldLink RX4 57 "StillInAugust$House" "agencyPrice" "I" ∈ wsX4_copy := by decide +kernel
theorem fw_X4_copy_60 : Cond.fieldLink RX4 60 "StillInAugust$House" "bonus" "I" ∈ wsX4_copy := by decide +kernel
theorem fw_X4_copy_63 : Cond.fieldLink RX4 63 "StillInAugust$House" "fifthsLess" "I" ∈ wsX4_copy := by decide +kernel
theorem fw_X4_copy_9 : Cond.fieldLink RX4 9 "StillInAugust$House" "wants" "[I" ∈ wsX4_copy := by decide +kernel
theorem nd_X4_settle : yX4_settle.cls = RX4 ∧ yX4_settle.cls ≠ "java/lang/invoke/MethodHandle" ∧ yX4_settle.cls ≠ "java/lang/invoke/VarHandle" ∧ (parseMethodDescriptor yX4_settle.desc).map (fun d => d.parameters.length) = some 0 := by decide +kernel
theorem iw_X4_copy_X4 : ∀ w ∈ u_ws RX4 TX4 14, w ∈ wsX4_copy := fun _ h => List.mem_cons_of_mem _ (List.mem_append_right _ h)
set_option maxHeartbeats 4000000 in
set_option maxRecDepth 100000 in
theorem c_X4_copy (l : Launch) (D : va_G) (k : Nat → ClassId) (b : Nat → Nat) (qh : Nat → Nat) (sh : Nat → Nat → Int32) (qo : Nat → Nat) (so : Nat → Nat → Int32) (sz : Nat) (p0 : Int32) (h_wk : 0 ≤ (so 0 0).toInt ∧ (so 0 0).toInt ≤ 5) (h_hk : 0 ≤ (so 0 1).toInt ∧ (so 0 1).toInt ≤ 4) (h_fl : 0 ≤ (so 0 12).toInt ∧ (so 0 12).toInt ≤ 5) (h_of : ∀ j, 0 ≤ (so 2 j).toInt ∧ (so 2 j).toInt ≤ 4) (h_go : ∀ j, 0 ≤ (so 3 j).toInt ∧ (so 3 j).toInt ≤ 5) (g_of : ∀ j, 0 ≤ (sh 2 j).toInt ∧ (sh 2 j).toInt ≤ 4) (g_go : ∀ j, 0 ≤ (sh 3 j).toInt ∧ (sh 3 j).toInt ≤ 5) : MetV l D k b yX4_copy wsX4_copy ({ frames := 4, cells := 0, slots := 0, locals := 96 } : Room) [(qh 0, .inr (2, [.int (sh 0 0), .int (sh 0 1), .ref (qh 1), .ref (qh 2), .ref (qh 3), .ref (qh 4), .int (sh 0 6), .int (sh 0 7), .int (sh 0 8), .int (sh 0 9), .int (sh 0 10), .int (sh 0 11), .int (sh 0 12), .ref (qh 5)])), (qh 1, .inl (k 0, 5, .inl (sh 1))), (qh 2, .inl (k 0, 5, .inl (sh 2))), (qh 3, .inl (k 0, 3, .inl (sh 3))), (qh 4, .inl (k 0, 3, .inl (sh 4))), (qh 5, .inl (k 0, 525, .inl (sh 5))), (qo 0, .inr (2, [.int (so 0 0), .int (so 0 1), .ref (qo 1), .ref (qo 2), .ref (qo 3), .ref (qo 4), .int (so 0 6), .int (so 0 7), .int (so 0 8), .int (so 0 9), .int (so 0 10), .int (so 0 11), .int (so 0 12), .ref (qo 5)])), (qo 1, .inl (k 0, 5, .inl (so 1))), (qo 2, .inl (k 0, 5, .inl (so 2))), (qo 3, .inl (k 0, 3, .inl (so 3))), (qo 4, .inl (k 0, 3, .inl (so 4))), (qo 5, .inl (k 0, 525, .inl (so 5)))] sz [.ref (qh 0), .ref (qo 0), .int p0] (fun (u : Int32 × Int32 × (Nat → Int32) × (Nat → Int32) × (Nat → Int32) × (Nat → Int32) × Int32 × Int32 × Int32 × Int32 × Int32 × Int32 × Int32 × (Nat → Int32)) => (0 ≤ (u.1).toInt ∧ (u.1).toInt ≤ 5) ∧ (0 ≤ (u.2.1).toInt ∧ (u.2.1).toInt ≤ 4) ∧ (0 ≤ (u.2.2.2.2.2.2.2.2.2.2.2.2.1).toInt ∧ (u.2.2.2.2.2.2.2.2.2.2.2.2.1).toInt ≤ 5) ∧ (∀ j, 0 ≤ ((u.2.2.2.1) j).toInt ∧ ((u.2.2.2.1) j).toInt ≤ 4) ∧ (∀ j, 0 ≤ ((u.2.2.2.2.1) j).toInt ∧ ((u.2.2.2.2.1) j).toInt ≤ 5) ∧ (SUok (u.2.2.2.2.2.2.2.2.2.2.2.2.2)) ∧ ((u.1).toInt = (so 0 0).toInt)) (fun u => [(qh 0, .inr (2, [.int (u.1), .int (u.2.1), .ref (qh 1), .ref (qh 2), .ref (qh 3), .ref (qh 4), .int (u.2.2.2.2.2.2.1), .int (u.2.2.2.2.2.2.2.1), .int (u.2.2.2.2.2.2.2.2.1), .int (u.2.2.2.2.2.2.2.2.2.1), .int (u.2.2.2.2.2.2.2.2.2.2.1), .int (u.2.2.2.2.2.2.2.2.2.2.2.1), .int (u.2.2.2.2.2.2.2.2.2.2.2.2.1), .ref (qh 5)])), (qh 1, .inl (k 0, 5, .inl (u.2.2.1))), (qh 2, .inl (k 0, 5, .inl (u.2.2.2.1))), (qh 3, .inl (k 0, 3, .inl (u.2.2.2.2.1))), (qh 4, .inl (k 0, 3, .inl (u.2.2.2.2.2.1))), (qh 5, .inl (k 0, 525, .inl (u.2.2.2.2.2.2.2.2.2.2.2.2.2))), (qo 0, .inr (2, [.int (so 0 0), .int (so 0 1), .ref (qo 1), .ref (qo 2), .ref (qo 3), .ref (qo 4), .int (so 0 6), .int (so 0 7), .int (so 0 8), .int (so 0 9), .int (so 0 10), .int (so 0 11), .int (so 0 12), .ref (qo 5)])), (qo 1, .inl (k 0, 5, .inl (so 1))), (qo 2, .inl (k 0, 5, .inl (so 2))), (qo 3, .inl (k 0, 3, .inl (so 3))), (qo 4, .inl (k 0, 3, .inl (so 4))), (qo 5, .inl (k 0, 525, .inl (so 5)))]) := by
  refine g_enter (cc := cX4_copy) (maxL := 3) (ret := none) (by decide) rfl (Nat.le_of_ble_eq_true rfl) ?_
  intro p e s m below meth c A hsz hAe cx hr hP hD hS ls hl
  rw [hAe]
  refine g_q (fun Q hQ => ?_)
  have hx := cx.1.1
  have hb := cx.1.2.1
  have bp0 := i_rng p0
  have hl : lv_has ls 3 [(0, .ref (qh 0)), (1, .ref (qo 0)), (2, .int p0)] := hl
  obtain ⟨H, eH⟩ : ∃ H : Heap, H = s.heap := ⟨_, rfl⟩
  obtain ⟨locs, el⟩ : ∃ L : List Loc, L = [] := ⟨_, rfl⟩
  have hP : va_P D vwCl [(qh 0, .inr (2, [.int (sh 0 0), .int (sh 0 1), .ref (qh 1), .ref (qh 2), .ref (qh 3), .ref (qh 4), .int (sh 0 6), .int (sh 0 7), .int (sh 0 8), .int (sh 0 9), .int (sh 0 10), .int (sh 0 11), .int (sh 0 12), .ref (qh 5)])), (qh 1, .inl (k 0, 5, .inl (sh 1))), (qh 2, .inl (k 0, 5, .inl (sh 2))), (qh 3, .inl (k 0, 3, .inl (sh 3))), (qh 4, .inl (k 0, 3, .inl (sh 4))), (qh 5, .inl (k 0, 525, .inl (sh 5))), (qo 0, .inr (2, [.int (so 0 0), .int (so 0 1), .ref (qo 1), .ref (qo 2), .ref (qo 3), .ref (qo 4), .int (so 0 6), .int (so 0 7), .int (so 0 8), .int (so 0 9), .int (so 0 10), .int (so 0 11), .int (so 0 12), .ref (qo 5)])), (qo 1, .inl (k 0, 5, .inl (so 1))), (qo 2, .inl (k 0, 5, .inl (so 2))), (qo 3, .inl (k 0, 3, .inl (so 3))), (qo 4, .inl (k 0, 3, .inl (so 4))), (qo 5, .inl (k 0, 525, .inl (so 5)))] H := by rw [eH]; exact hP
  have hD : va_D A [(qh 0, .inr (2, [.int (sh 0 0), .int (sh 0 1), .ref (qh 1), .ref (qh 2), .ref (qh 3), .ref (qh 4), .int (sh 0 6), .int (sh 0 7), .int (sh 0 8), .int (sh 0 9), .int (sh 0 10), .int (sh 0 11), .int (sh 0 12), .ref (qh 5)])), (qh 1, .inl (k 0, 5, .inl (sh 1))), (qh 2, .inl (k 0, 5, .inl (sh 2))), (qh 3, .inl (k 0, 3, .inl (sh 3))), (qh 4, .inl (k 0, 3, .inl (sh 4))), (qh 5, .inl (k 0, 525, .inl (sh 5))), (qo 0, .inr (2, [.int (so 0 0), .int (so 0 1), .ref (qo 1), .ref (qo 2), .ref (qo 3), .ref (qo 4), .int (so 0 6), .int (so 0 7), .int (so 0 8), .int (so 0 9), .int (so 0 10), .int (so 0 11), .int (so 0 12), .ref (qo 5)])), (qo 1, .inl (k 0, 5, .inl (so 1))), (qo 2, .inl (k 0, 5, .inl (so 2))), (qo 3, .inl (k 0, 3, .inl (so 3))), (qo 4, .inl (k 0, 3, .inl (so 4))), (qo 5, .inl (k 0, 525, .inl (so 5)))] := hD
  have hS : va_S A s.heap H locs := by rw [eH, el]; exact hS
  suffices goal : W p l e ({ frames := 4, cells := 0, slots := 0, locals := 96 } : Room) s m ([.ref (qh 0), .ref (qo 0), .int p0] : List Value).toArray below meth c H locs 0 0 Q (F0 m 0 ls []) by rw [eH, el] at goal; exact goal
  refine lv_aload_n hx hb dX4_copy_0 rfl (lv_at hl 0 rfl) ?_
  refine lv_aload_n hx hb dX4_copy_1 rfl (lv_at hl 1 rfl) ?_
  refine g_get cx hP iw_X4_copy_X4 6 rfl rfl 0 (by decide) rfl fw_X4_copy_32 rfl dX4_copy_2 ?_
  refine g_pt cx hP hD hS iw_X4_copy_X4 tyX4 tyX4_ok nmX4 0 rfl rfl 0 (by decide) rfl fw_X4_copy_32 (ty := .int) rfl rfl rfl (Nat.le_of_ble_eq_true rfl) dX4_copy_5 (fun H locs hP hD hS => ?_)
  have hP : va_P D vwCl [(qh 0, .inr (2, [.int (so 0 0), .int (sh 0 1), .ref (qh 1), .ref (qh 2), .ref (qh 3), .ref (qh 4), .int (sh 0 6), .int (sh 0 7), .int (sh 0 8), .int (sh 0 9), .int (sh 0 10), .int (sh 0 11), .int (sh 0 12), .ref (qh 5)])), (qh 1, .inl (k 0, 5, .inl (sh 1))), (qh 2, .inl (k 0, 5, .inl (sh 2))), (qh 3, .inl (k 0, 3, .inl (sh 3))), (qh 4, .inl (k 0, 3, .inl (sh 4))), (qh 5, .inl (k 0, 525, .inl (sh 5))), (qo 0, .inr (2, [.int (so 0 0), .int (so 0 1), .ref (qo 1), .ref (qo 2), .ref (qo 3), .ref (qo 4), .int (so 0 6), .int (so 0 7), .int (so 0 8), .int (so 0 9), .int (so 0 10), .int (so 0 11), .int (so 0 12), .ref (qo 5)])), (qo 1, .inl (k 0, 5, .inl (so 1))), (qo 2, .inl (k 0, 5, .inl (so 2))), (qo 3, .inl (k 0, 3, .inl (so 3))), (qo 4, .inl (k 0, 3, .inl (so 4))), (qo 5, .inl (k 0, 525, .inl (so 5)))] H := hP
  have hD : va_D A [(qh 0, .inr (2, [.int (so 0 0), .int (sh 0 1), .ref (qh 1), .ref (qh 2), .ref (qh 3), .ref (qh 4), .int (sh 0 6), .int (sh 0 7), .int (sh 0 8), .int (sh 0 9), .int (sh 0 10), .int (sh 0 11), .int (sh 0 12), .ref (qh 5)])), (qh 1, .inl (k 0, 5, .inl (sh 1))), (qh 2, .inl (k 0, 5, .inl (sh 2))), (qh 3, .inl (k 0, 3, .inl (sh 3))), (qh 4, .inl (k 0, 3, .inl (sh 4))), (qh 5, .inl (k 0, 525, .inl (sh 5))), (qo 0, .inr (2, [.int (so 0 0), .int (so 0 1), .ref (qo 1), .ref (qo 2), .ref (qo 3), .ref (qo 4), .int (so 0 6), .int (so 0 7), .int (so 0 8), .int (so 0 9), .int (so 0 10), .int (so 0 11), .int (so 0 12), .ref (qo 5)])), (qo 1, .inl (k 0, 5, .inl (so 1))), (qo 2, .inl (k 0, 5, .inl (so 2))), (qo 3, .inl (k 0, 3, .inl (so 3))), (qo 4, .inl (k 0, 3, .inl (so 4))), (qo 5, .inl (k 0, 525, .inl (so 5)))] := hD
  refine lv_aload_n hx hb dX4_copy_8 rfl (lv_at hl 0 rfl) ?_
  refine lv_aload_n hx hb dX4_copy_9 rfl (lv_at hl 1 rfl) ?_
  refine g_get cx hP iw_X4_copy_X4 6 rfl rfl 1 (by decide) rfl fw_X4_copy_36 rfl dX4_copy_10 ?_
  refine g_pt cx hP hD hS iw_X4_copy_X4 tyX4 tyX4_ok nmX4 0 rfl rfl 1 (by decide) rfl fw_X4_copy_36 (ty := .int) rfl rfl rfl (Nat.le_of_ble_eq_true rfl) dX4_copy_13 (fun H locs hP hD hS => ?_)
  have hP : va_P D vwCl [(qh 0, .inr (2, [.int (so 0 0), .int (so 0 1), .ref (qh 1), .ref (qh 2), .ref (qh 3), .ref (qh 4), .int (sh 0 6), .int (sh 0 7), .int (sh 0 8), .int (sh 0 9), .int (sh 0 10), .int (sh 0 11), .int (sh 0 12), .ref (qh 5)])), (qh 1, .inl (k 0, 5, .inl (sh 1))), (qh 2, .inl (k 0, 5, .inl (sh 2))), (qh 3, .inl (k 0, 3, .inl (sh 3))), (qh 4, .inl (k 0, 3, .inl (sh 4))), (qh 5, .inl (k 0, 525, .inl (sh 5))), (qo 0, .inr (2, [.int (so 0 0), .int (so 0 1), .ref (qo 1), .ref (qo 2), .ref (qo 3), .ref (qo 4), .int (so 0 6), .int (so 0 7), .int (so 0 8), .int (so 0 9), .int (so 0 10), .int (so 0 11), .int (so 0 12), .ref (qo 5)])), (qo 1, .inl (k 0, 5, .inl (so 1))), (qo 2, .inl (k 0, 5, .inl (so 2))), (qo 3, .inl (k 0, 3, .inl (so 3))), (qo 4, .inl (k 0, 3, .inl (so 4))), (qo 5, .inl (k 0, 525, .inl (so 5)))] H := hP
  have hD : va_D A [(qh 0, .inr (2, [.int (so 0 0), .int (so 0 1), .ref (qh 1), .ref (qh 2), .ref (qh 3), .ref (qh 4), .int (sh 0 6), .int (sh 0 7), .int (sh 0 8), .int (sh 0 9), .int (sh 0 10), .int (sh 0 11), .int (sh 0 12), .ref (qh 5)])), (qh 1, .inl (k 0, 5, .inl (sh 1))), (qh 2, .inl (k 0, 5, .inl (sh 2))), (qh 3, .inl (k 0, 3, .inl (sh 3))), (qh 4, .inl (k 0, 3, .inl (sh 4))), (qh 5, .inl (k 0, 525, .inl (sh 5))), (qo 0, .inr (2, [.int (so 0 0), .int (so 0 1), .ref (qo 1), .ref (qo 2), .ref (qo 3), .ref (qo 4), .int (so 0 6), .int (so 0 7), .int (so 0 8), .int (so 0 9), .int (so 0 10), .int (so 0 11), .int (so 0 12), .ref (qo 5)])), (qo 1, .inl (k 0, 5, .inl (so 1))), (qo 2, .inl (k 0, 5, .inl (so 2))), (qo 3, .inl (k 0, 3, .inl (so 3))), (qo 4, .inl (k 0, 3, .inl (so 4))), (qo 5, .inl (k 0, 525, .inl (so 5)))] := hD
  refine lv_aload_n hx hb dX4_copy_16 rfl (lv_at hl 1 rfl) ?_
  refine g_get cx hP iw_X4_copy_X4 6 rfl rfl 2 (by decide) rfl fw_X4_copy_9 rfl dX4_copy_17 ?_
  refine lv_iconst (v := 0) hx hb dX4_copy_20 (by decide) ?_
  refine lv_aload_n hx hb dX4_copy_21 rfl (lv_at hl 0 rfl) ?_
  refine g_get cx hP iw_X4_copy_X4 0 rfl rfl 2 (by decide) rfl fw_X4_copy_9 rfl dX4_copy_22 ?_
  refine lv_iconst (v := 0) hx hb dX4_copy_25 (by decide) ?_
  refine lv_iconst (v := 5) hx hb dX4_copy_26 (by decide) ?_
  refine va_copyi hx hb (cx.1.2.2.1.trans hl.1.symm) cx.1.2.2.2.1 (cx.1.2.2.2.2 _ cw_X4_copy_L) (cx.1.2.2.2.2 _ cw_X4_copy_N) (cx.1.2.2.2.2 _ cw_X4_copy_S) (cx.1.2.2.2.2 _ cw_X4_copy_I) cx.2.1 hP hD hS 7 1 0 0 rfl rfl rfl rfl rfl (by decide) (by decide) (by decide) (by decide) (by decide) (fun _ _ => rfl) (Nat.le_of_ble_eq_true rfl) (Nat.le_of_ble_eq_true rfl) dX4_copy_27 (fun H locs hP hD hS => ?_)
  obtain ⟨g1, eg1⟩ : ∃ g : Nat → Int32, g = va_cpy (so 1) (sh 1) ((0 : Int32).toNatClampNeg) ((0 : Int32).toNatClampNeg) ((5 : Int32).toNatClampNeg) := ⟨_, rfl⟩
  rw [← eg1] at hP hD
  have hP : va_P D vwCl [(qh 0, .inr (2, [.int (so 0 0), .int (so 0 1), .ref (qh 1), .ref (qh 2), .ref (qh 3), .ref (qh 4), .int (sh 0 6), .int (sh 0 7), .int (sh 0 8), .int (sh 0 9), .int (sh 0 10), .int (sh 0 11), .int (sh 0 12), .ref (qh 5)])), (qh 1, .inl (k 0, 5, .inl g1)), (qh 2, .inl (k 0, 5, .inl (sh 2))), (qh 3, .inl (k 0, 3, .inl (sh 3))), (qh 4, .inl (k 0, 3, .inl (sh 4))), (qh 5, .inl (k 0, 525, .inl (sh 5))), (qo 0, .inr (2, [.int (so 0 0), .int (so 0 1), .ref (qo 1), .ref (qo 2), .ref (qo 3), .ref (qo 4), .int (so 0 6), .int (so 0 7), .int (so 0 8), .int (so 0 9), .int (so 0 10), .int (so 0 11), .int (so 0 12), .ref (qo 5)])), (qo 1, .inl (k 0, 5, .inl (so 1))), (qo 2, .inl (k 0, 5, .inl (so 2))), (qo 3, .inl (k 0, 3, .inl (so 3))), (qo 4, .inl (k 0, 3, .inl (so 4))), (qo 5, .inl (k 0, 525, .inl (so 5)))] H := hP
  have hD : va_D A [(qh 0, .inr (2, [.int (so 0 0), .int (so 0 1), .ref (qh 1), .ref (qh 2), .ref (qh 3), .ref (qh 4), .int (sh 0 6), .int (sh 0 7), .int (sh 0 8), .int (sh 0 9), .int (sh 0 10), .int (sh 0 11), .int (sh 0 12), .ref (qh 5)])), (qh 1, .inl (k 0, 5, .inl g1)), (qh 2, .inl (k 0, 5, .inl (sh 2))), (qh 3, .inl (k 0, 3, .inl (sh 3))), (qh 4, .inl (k 0, 3, .inl (sh 4))), (qh 5, .inl (k 0, 525, .inl (sh 5))), (qo 0, .inr (2, [.int (so 0 0), .int (so 0 1), .ref (qo 1), .ref (qo 2), .ref (qo 3), .ref (qo 4), .int (so 0 6), .int (so 0 7), .int (so 0 8), .int (so 0 9), .int (so 0 10), .int (so 0 11), .int (so 0 12), .ref (qo 5)])), (qo 1, .inl (k 0, 5, .inl (so 1))), (qo 2, .inl (k 0, 5, .inl (so 2))), (qo 3, .inl (k 0, 3, .inl (so 3))), (qo 4, .inl (k 0, 3, .inl (so 4))), (qo 5, .inl (k 0, 525, .inl (so 5)))] := hD
  refine lv_aload_n hx hb dX4_copy_30 rfl (lv_at hl 1 rfl) ?_
  refine g_get cx hP iw_X4_copy_X4 6 rfl rfl 3 (by decide) rfl fw_X4_copy_15 rfl dX4_copy_31 ?_
  refine lv_iconst (v := 0) hx hb dX4_copy_34 (by decide) ?_
  refine lv_aload_n hx hb dX4_copy_35 rfl (lv_at hl 0 rfl) ?_
  refine g_get cx hP iw_X4_copy_X4 0 rfl rfl 3 (by decide) rfl fw_X4_copy_15 rfl dX4_copy_36 ?_
  refine lv_iconst (v := 0) hx hb dX4_copy_39 (by decide) ?_
  refine lv_iconst (v := 5) hx hb dX4_copy_40 (by decide) ?_
  refine va_copyi hx hb (cx.1.2.2.1.trans hl.1.symm) cx.1.2.2.2.1 (cx.1.2.2.2.2 _ cw_X4_copy_L) (cx.1.2.2.2.2 _ cw_X4_copy_N) (cx.1.2.2.2.2 _ cw_X4_copy_S) (cx.1.2.2.2.2 _ cw_X4_copy_I) cx.2.1 hP hD hS 8 2 0 0 rfl rfl rfl rfl rfl (by decide) (by decide) (by decide) (by decide) (by decide) (fun _ _ => rfl) (Nat.le_of_ble_eq_true rfl) (Nat.le_of_ble_eq_true rfl) dX4_copy_41 (fun H locs hP hD hS => ?_)
  obtain ⟨g2, eg2⟩ : ∃ g : Nat → Int32, g = va_cpy (so 2) (sh 2) ((0 : Int32).toNatClampNeg) ((0 : Int32).toNatClampNeg) ((5 : Int32).toNatClampNeg) := ⟨_, rfl⟩
  rw [← eg2] at hP hD
  have hP : va_P D vwCl [(qh 0, .inr (2, [.int (so 0 0), .int (so 0 1), .ref (qh 1), .ref (qh 2), .ref (qh 3), .ref (qh 4), .int (sh 0 6), .int (sh 0 7), .int (sh 0 8), .int (sh 0 9), .int (sh 0 10), .int (sh 0 11), .int (sh 0 12), .ref (qh 5)])), (qh 1, .inl (k 0, 5, .inl g1)), (qh 2, .inl (k 0, 5, .inl g2)), (qh 3, .inl (k 0, 3, .inl (sh 3))), (qh 4, .inl (k 0, 3, .inl (sh 4))), (qh 5, .inl (k 0, 525, .inl (sh 5))), (qo 0, .inr (2, [.int (so 0 0), .int (so 0 1), .ref (qo 1), .ref (qo 2), .ref (qo 3), .ref (qo 4), .int (so 0 6), .int (so 0 7), .int (so 0 8), .int (so 0 9), .int (so 0 10), .int (so 0 11), .int (so 0 12), .ref (qo 5)])), (qo 1, .inl (k 0, 5, .inl (so 1))), (qo 2, .inl (k 0, 5, .inl (so 2))), (qo 3, .inl (k 0, 3, .inl (so 3))), (qo 4, .inl (k 0, 3, .inl (so 4))), (qo 5, .inl (k 0, 525, .inl (so 5)))] H := hP
  have hD : va_D A [(qh 0, .inr (2, [.int (so 0 0), .int (so 0 1), .ref (qh 1), .ref (qh 2), .ref (qh 3), .ref (qh 4), .int (sh 0 6), .int (sh 0 7), .int (sh 0 8), .int (sh 0 9), .int (sh 0 10), .int (sh 0 11), .int (sh 0 12), .ref (qh 5)])), (qh 1, .inl (k 0, 5, .inl g1)), (qh 2, .inl (k 0, 5, .inl g2)), (qh 3, .inl (k 0, 3, .inl (sh 3))), (qh 4, .inl (k 0, 3, .inl (sh 4))), (qh 5, .inl (k 0, 525, .inl (sh 5))), (qo 0, .inr (2, [.int (so 0 0), .int (so 0 1), .ref (qo 1), .ref (qo 2), .ref (qo 3), .ref (qo 4), .int (so 0 6), .int (so 0 7), .int (so 0 8), .int (so 0 9), .int (so 0 10), .int (so 0 11), .int (so 0 12), .ref (qo 5)])), (qo 1, .inl (k 0, 5, .inl (so 1))), (qo 2, .inl (k 0, 5, .inl (so 2))), (qo 3, .inl (k 0, 3, .inl (so 3))), (qo 4, .inl (k 0, 3, .inl (so 4))), (qo 5, .inl (k 0, 525, .inl (so 5)))] := hD
  have ag2 := cpy_all eg2 h_of g_of
  refine lv_aload_n hx hb dX4_copy_44 rfl (lv_at hl 1 rfl) ?_
  refine g_get cx hP iw_X4_copy_X4 6 rfl rfl 4 (by decide) rfl fw_X4_copy_18 rfl dX4_copy_45 ?_
  refine lv_iconst (v := 0) hx hb dX4_copy_48 (by decide) ?_
  refine lv_aload_n hx hb dX4_copy_49 rfl (lv_at hl 0 rfl) ?_
  refine g_get cx hP iw_X4_copy_X4 0 rfl rfl 4 (by decide) rfl fw_X4_copy_18 rfl dX4_copy_50 ?_
  refine lv_iconst (v := 0) hx hb dX4_copy_53 (by decide) ?_
  refine lv_iconst (v := 3) hx hb dX4_copy_54 (by decide) ?_
  refine va_copyi hx hb (cx.1.2.2.1.trans hl.1.symm) cx.1.2.2.2.1 (cx.1.2.2.2.2 _ cw_X4_copy_L) (cx.1.2.2.2.2 _ cw_X4_copy_N) (cx.1.2.2.2.2 _ cw_X4_copy_S) (cx.1.2.2.2.2 _ cw_X4_copy_I) cx.2.1 hP hD hS 9 3 0 0 rfl rfl rfl rfl rfl (by decide) (by decide) (by decide) (by decide) (by decide) (fun _ _ => rfl) (Nat.le_of_ble_eq_true rfl) (Nat.le_of_ble_eq_true rfl) dX4_copy_55 (fun H locs hP hD hS => ?_)
  obtain ⟨g3, eg3⟩ : ∃ g : Nat → Int32, g = va_cpy (so 3) (sh 3) ((0 : Int32).toNatClampNeg) ((0 : Int32).toNatClampNeg) ((3 : Int32).toNatClampNeg) := ⟨_, rfl⟩
  rw [← eg3] at hP hD
  have hP : va_P D vwCl [(qh 0, .inr (2, [.int (so 0 0), .int (so 0 1), .ref (qh 1), .ref (qh 2), .ref (qh 3), .ref (qh 4), .int (sh 0 6), .int (sh 0 7), .int (sh 0 8), .int (sh 0 9), .int (sh 0 10), .int (sh 0 11), .int (sh 0 12), .ref (qh 5)])), (qh 1, .inl (k 0, 5, .inl g1)), (qh 2, .inl (k 0, 5, .inl g2)), (qh 3, .inl (k 0, 3, .inl g3)), (qh 4, .inl (k 0, 3, .inl (sh 4))), (qh 5, .inl (k 0, 525, .inl (sh 5))), (qo 0, .inr (2, [.int (so 0 0), .int (so 0 1), .ref (qo 1), .ref (qo 2), .ref (qo 3), .ref (qo 4), .int (so 0 6), .int (so 0 7), .int (so 0 8), .int (so 0 9), .int (so 0 10), .int (so 0 11), .int (so 0 12), .ref (qo 5)])), (qo 1, .inl (k 0, 5, .inl (so 1))), (qo 2, .inl (k 0, 5, .inl (so 2))), (qo 3, .inl (k 0, 3, .inl (so 3))), (qo 4, .inl (k 0, 3, .inl (so 4))), (qo 5, .inl (k 0, 525, .inl (so 5)))] H := hP
  have hD : va_D A [(qh 0, .inr (2, [.int (so 0 0), .int (so 0 1), .ref (qh 1), .ref (qh 2), .ref (qh 3), .ref (qh 4), .int (sh 0 6), .int (sh 0 7), .int (sh 0 8), .int (sh 0 9), .int (sh 0 10), .int (sh 0 11), .int (sh 0 12), .ref (qh 5)])), (qh 1, .inl (k 0, 5, .inl g1)), (qh 2, .inl (k 0, 5, .inl g2)), (qh 3, .inl (k 0, 3, .inl g3)), (qh 4, .inl (k 0, 3, .inl (sh 4))), (qh 5, .inl (k 0, 525, .inl (sh 5))), (qo 0, .inr (2, [.int (so 0 0), .int (so 0 1), .ref (qo 1), .ref (qo 2), .ref (qo 3), .ref (qo 4), .int (so 0 6), .int (so 0 7), .int (so 0 8), .int (so 0 9), .int (so 0 10), .int (so 0 11), .int (so 0 12), .ref (qo 5)])), (qo 1, .inl (k 0, 5, .inl (so 1))), (qo 2, .inl (k 0, 5, .inl (so 2))), (qo 3, .inl (k 0, 3, .inl (so 3))), (qo 4, .inl (k 0, 3, .inl (so 4))), (qo 5, .inl (k 0, 525, .inl (so 5)))] := hD
  have ag3 := cpy_all eg3 h_go g_go
  refine lv_aload_n hx hb dX4_copy_58 rfl (lv_at hl 1 rfl) ?_
  refine g_get cx hP iw_X4_copy_X4 6 rfl rfl 5 (by decide) rfl fw_X4_copy_21 rfl dX4_copy_59 ?_
  refine lv_iconst (v := 0) hx hb dX4_copy_62 (by decide) ?_
  refine lv_aload_n hx hb dX4_copy_63 rfl (lv_at hl 0 rfl) ?_
  refine g_get cx hP iw_X4_copy_X4 0 rfl rfl 5 (by decide) rfl fw_X4_copy_21 rfl dX4_copy_64 ?_
  refine lv_iconst (v := 0) hx hb dX4_copy_67 (by decide) ?_
  refine lv_iconst (v := 3) hx hb dX4_copy_68 (by decide) ?_
  refine va_copyi hx hb (cx.1.2.2.1.trans hl.1.symm) cx.1.2.2.2.1 (cx.1.2.2.2.2 _ cw_X4_copy_L) (cx.1.2.2.2.2 _ cw_X4_copy_N) (cx.1.2.2.2.2 _ cw_X4_copy_S) (cx.1.2.2.2.2 _ cw_X4_copy_I) cx.2.1 hP hD hS 10 4 0 0 rfl rfl rfl rfl rfl (by decide) (by decide) (by decide) (by decide) (by decide) (fun _ _ => rfl) (Nat.le_of_ble_eq_true rfl) (Nat.le_of_ble_eq_true rfl) dX4_copy_69 (fun H locs hP hD hS => ?_)
  obtain ⟨g4, eg4⟩ : ∃ g : Nat → Int32, g = va_cpy (so 4) (sh 4) ((0 : Int32).toNatClampNeg) ((0 : Int32).toNatClampNeg) ((3 : Int32).toNatClampNeg) := ⟨_, rfl⟩
  rw [← eg4] at hP hD
  have hP : va_P D vwCl [(qh 0, .inr (2, [.int (so 0 0), .int (so 0 1), .ref (qh 1), .ref (qh 2), .ref (qh 3), .ref (qh 4), .int (sh 0 6), .int (sh 0 7), .int (sh 0 8), .int (sh 0 9), .int (sh 0 10), .int (sh 0 11), .int (sh 0 12), .ref (qh 5)])), (qh 1, .inl (k 0, 5, .inl g1)), (qh 2, .inl (k 0, 5, .inl g2)), (qh 3, .inl (k 0, 3, .inl g3)), (qh 4, .inl (k 0, 3, .inl g4)), (qh 5, .inl (k 0, 525, .inl (sh 5))), (qo 0, .inr (2, [.int (so 0 0), .int (so 0 1), .ref (qo 1), .ref (qo 2), .ref (qo 3), .ref (qo 4), .int (so 0 6), .int (so 0 7), .int (so 0 8), .int (so 0 9), .int (so 0 10), .int (so 0 11), .int (so 0 12), .ref (qo 5)])), (qo 1, .inl (k 0, 5, .inl (so 1))), (qo 2, .inl (k 0, 5, .inl (so 2))), (qo 3, .inl (k 0, 3, .inl (so 3))), (qo 4, .inl (k 0, 3, .inl (so 4))), (qo 5, .inl (k 0, 525, .inl (so 5)))] H := hP
  have hD : va_D A [(qh 0, .inr (2, [.int (so 0 0), .int (so 0 1), .ref (qh 1), .ref (qh 2), .ref (qh 3), .ref (qh 4), .int (sh 0 6), .int (sh 0 7), .int (sh 0 8), .int (sh 0 9), .int (sh 0 10), .int (sh 0 11), .int (sh 0 12), .ref (qh 5)])), (qh 1, .inl (k 0, 5, .inl g1)), (qh 2, .inl (k 0, 5, .inl g2)), (qh 3, .inl (k 0, 3, .inl g3)), (qh 4, .inl (k 0, 3, .inl g4)), (qh 5, .inl (k 0, 525, .inl (sh 5))), (qo 0, .inr (2, [.int (so 0 0), .int (so 0 1), .ref (qo 1), .ref (qo 2), .ref (qo 3), .ref (qo 4), .int (so 0 6), .int (so 0 7), .int (so 0 8), .int (so 0 9), .int (so 0 10), .int (so 0 11), .int (so 0 12), .ref (qo 5)])), (qo 1, .inl (k 0, 5, .inl (so 1))), (qo 2, .inl (k 0, 5, .inl (so 2))), (qo 3, .inl (k 0, 3, .inl (so 3))), (qo 4, .inl (k 0, 3, .inl (so 4))), (qo 5, .inl (k 0, 525, .inl (so 5)))] := hD
  refine lv_aload_n hx hb dX4_copy_72 rfl (lv_at hl 0 rfl) ?_
  refine lv_aload_n hx hb dX4_copy_73 rfl (lv_at hl 1 rfl) ?_
  refine g_get cx hP iw_X4_copy_X4 6 rfl rfl 6 (by decide) rfl fw_X4_copy_45 rfl dX4_copy_74 ?_
  refine g_pt cx hP hD hS iw_X4_copy_X4 tyX4 tyX4_ok nmX4 0 rfl rfl 6 (by decide) rfl fw_X4_copy_45 (ty := .int) rfl rfl rfl (Nat.le_of_ble_eq_true rfl) dX4_copy_77 (fun H locs hP hD hS => ?_)
  have hP : va_P D vwCl [(qh 0, .inr (2, [.int (so 0 0), .int (so 0 1), .ref (qh 1), .ref (qh 2), .ref (qh 3), .ref (qh 4), .int (so 0 6), .int (sh 0 7), .int (sh 0 8), .int (sh 0 9), .int (sh 0 10), .int (sh 0 11), .int (sh 0 12), .ref (qh 5)])), (qh 1, .inl (k 0, 5, .inl g1)), (qh 2, .inl (k 0, 5, .inl g2)), (qh 3, .inl (k 0, 3, .inl g3)), (qh 4, .inl (k 0, 3, .inl g4)), (qh 5, .inl (k 0, 525, .inl (sh 5))), (qo 0, .inr (2, [.int (so 0 0), .int (so 0 1), .ref (qo 1), .ref (qo 2), .ref (qo 3), .ref (qo 4), .int (so 0 6), .int (so 0 7), .int (so 0 8), .int (so 0 9), .int (so 0 10), .int (so 0 11), .int (so 0 12), .ref (qo 5)])), (qo 1, .inl (k 0, 5, .inl (so 1))), (qo 2, .inl (k 0, 5, .inl (so 2))), (qo 3, .inl (k 0, 3, .inl (so 3))), (qo 4, .inl (k 0, 3, .inl (so 4))), (qo 5, .inl (k 0, 525, .inl (so 5)))] H := hP
  have hD : va_D A [(qh 0, .inr (2, [.int (so 0 0), .int (so 0 1), .ref (qh 1), .ref (qh 2), .ref (qh 3), .ref (qh 4), .int (so 0 6), .int (sh 0 7), .int (sh 0 8), .int (sh 0 9), .int (sh 0 10), .int (sh 0 11), .int (sh 0 12), .ref (qh 5)])), (qh 1, .inl (k 0, 5, .inl g1)), (qh 2, .inl (k 0, 5, .inl g2)), (qh 3, .inl (k 0, 3, .inl g3)), (qh 4, .inl (k 0, 3, .inl g4)), (qh 5, .inl (k 0, 525, .inl (sh 5))), (qo 0, .inr (2, [.int (so 0 0), .int (so 0 1), .ref (qo 1), .ref (qo 2), .ref (qo 3), .ref (qo 4), .int (so 0 6), .int (so 0 7), .int (so 0 8), .int (so 0 9), .int (so 0 10), .int (so 0 11), .int (so 0 12), .ref (qo 5)])), (qo 1, .inl (k 0, 5, .inl (so 1))), (qo 2, .inl (k 0, 5, .inl (so 2))), (qo 3, .inl (k 0, 3, .inl (so 3))), (qo 4, .inl (k 0, 3, .inl (so 4))), (qo 5, .inl (k 0, 525, .inl (so 5)))] := hD
  refine lv_aload_n hx hb dX4_copy_80 rfl (lv_at hl 0 rfl) ?_
  refine lv_aload_n hx hb dX4_copy_81 rfl (lv_at hl 1 rfl) ?_
  refine g_get cx hP iw_X4_copy_X4 6 rfl rfl 7 (by decide) rfl fw_X4_copy_48 rfl dX4_copy_82 ?_
  refine g_pt cx hP hD hS iw_X4_copy_X4 tyX4 tyX4_ok nmX4 0 rfl rfl 7 (by decide) rfl fw_X4_copy_48 (ty := .int) rfl rfl rfl (Nat.le_of_ble_eq_true rfl) dX4_copy_85 (fun H locs hP hD hS => ?_)
  have hP : va_P D vwCl [(qh 0, .inr (2, [.int (so 0 0), .int (so 0 1), .ref (qh 1), .ref (qh 2), .ref (qh 3), .ref (qh 4), .int (so 0 6), .int (so 0 7), .int (sh 0 8), .int (sh 0 9), .int (sh 0 10), .int (sh 0 11), .int (sh 0 12), .ref (qh 5)])), (qh 1, .inl (k 0, 5, .inl g1)), (qh 2, .inl (k 0, 5, .inl g2)), (qh 3, .inl (k 0, 3, .inl g3)), (qh 4, .inl (k 0, 3, .inl g4)), (qh 5, .inl (k 0, 525, .inl (sh 5))), (qo 0, .inr (2, [.int (so 0 0), .int (so 0 1), .ref (qo 1), .ref (qo 2), .ref (qo 3), .ref (qo 4), .int (so 0 6), .int (so 0 7), .int (so 0 8), .int (so 0 9), .int (so 0 10), .int (so 0 11), .int (so 0 12), .ref (qo 5)])), (qo 1, .inl (k 0, 5, .inl (so 1))), (qo 2, .inl (k 0, 5, .inl (so 2))), (qo 3, .inl (k 0, 3, .inl (so 3))), (qo 4, .inl (k 0, 3, .inl (so 4))), (qo 5, .inl (k 0, 525, .inl (so 5)))] H := hP
  have hD : va_D A [(qh 0, .inr (2, [.int (so 0 0), .int (so 0 1), .ref (qh 1), .ref (qh 2), .ref (qh 3), .ref (qh 4), .int (so 0 6), .int (so 0 7), .int (sh 0 8), .int (sh 0 9), .int (sh 0 10), .int (sh 0 11), .int (sh 0 12), .ref (qh 5)])), (qh 1, .inl (k 0, 5, .inl g1)), (qh 2, .inl (k 0, 5, .inl g2)), (qh 3, .inl (k 0, 3, .inl g3)), (qh 4, .inl (k 0, 3, .inl g4)), (qh 5, .inl (k 0, 525, .inl (sh 5))), (qo 0, .inr (2, [.int (so 0 0), .int (so 0 1), .ref (qo 1), .ref (qo 2), .ref (qo 3), .ref (qo 4), .int (so 0 6), .int (so 0 7), .int (so 0 8), .int (so 0 9), .int (so 0 10), .int (so 0 11), .int (so 0 12), .ref (qo 5)])), (qo 1, .inl (k 0, 5, .inl (so 1))), (qo 2, .inl (k 0, 5, .inl (so 2))), (qo 3, .inl (k 0, 3, .inl (so 3))), (qo 4, .inl (k 0, 3, .inl (so 4))), (qo 5, .inl (k 0, 525, .inl (so 5)))] := hD
  refine lv_aload_n hx hb dX4_copy_88 rfl (lv_at hl 0 rfl) ?_
  refine lv_iload_n hx hb dX4_copy_89 rfl (lv_at hl 2 rfl) ?_
  refine lv_iconst (v := 1) hx hb dX4_copy_90 (by decide) ?_
  refine lv_iand hx hb dX4_copy_91 (lv_topi (fun v5 e5 => ?_))
  have t5 : 0 ≤ v5.toInt ∧ v5.toInt ≤ 1 := by rw [e5]; exact and_r (by decide) (by omega)
  have hJ104 : ∀ (v6 : Int32) (H : Heap) (locs : List Loc) (ls : Array Slot), va_P D vwCl [(qh 0, .inr (2, [.int (so 0 0), .int (so 0 1), .ref (qh 1), .ref (qh 2), .ref (qh 3), .ref (qh 4), .int (so 0 6), .int (so 0 7), .int (sh 0 8), .int (sh 0 9), .int (sh 0 10), .int (sh 0 11), .int (sh 0 12), .ref (qh 5)])), (qh 1, .inl (k 0, 5, .inl g1)), (qh 2, .inl (k 0, 5, .inl g2)), (qh 3, .inl (k 0, 3, .inl g3)), (qh 4, .inl (k 0, 3, .inl g4)), (qh 5, .inl (k 0, 525, .inl (sh 5))), (qo 0, .inr (2, [.int (so 0 0), .int (so 0 1), .ref (qo 1), .ref (qo 2), .ref (qo 3), .ref (qo 4), .int (so 0 6), .int (so 0 7), .int (so 0 8), .int (so 0 9), .int (so 0 10), .int (so 0 11), .int (so 0 12), .ref (qo 5)])), (qo 1, .inl (k 0, 5, .inl (so 1))), (qo 2, .inl (k 0, 5, .inl (so 2))), (qo 3, .inl (k 0, 3, .inl (so 3))), (qo 4, .inl (k 0, 3, .inl (so 4))), (qo 5, .inl (k 0, 525, .inl (so 5)))] H → va_D A [(qh 0, .inr (2, [.int (so 0 0), .int (so 0 1), .ref (qh 1), .ref (qh 2), .ref (qh 3), .ref (qh 4), .int (so 0 6), .int (so 0 7), .int (sh 0 8), .int (sh 0 9), .int (sh 0 10), .int (sh 0 11), .int (sh 0 12), .ref (qh 5)])), (qh 1, .inl (k 0, 5, .inl g1)), (qh 2, .inl (k 0, 5, .inl g2)), (qh 3, .inl (k 0, 3, .inl g3)), (qh 4, .inl (k 0, 3, .inl g4)), (qh 5, .inl (k 0, 525, .inl (sh 5))), (qo 0, .inr (2, [.int (so 0 0), .int (so 0 1), .ref (qo 1), .ref (qo 2), .ref (qo 3), .ref (qo 4), .int (so 0 6), .int (so 0 7), .int (so 0 8), .int (so 0 9), .int (so 0 10), .int (so 0 11), .int (so 0 12), .ref (qo 5)])), (qo 1, .inl (k 0, 5, .inl (so 1))), (qo 2, .inl (k 0, 5, .inl (so 2))), (qo 3, .inl (k 0, 3, .inl (so 3))), (qo 4, .inl (k 0, 3, .inl (so 4))), (qo 5, .inl (k 0, 525, .inl (so 5)))] → va_S A s.heap H locs → lv_has ls 3 [(0, .ref (qh 0)), (1, .ref (qo 0)), (2, .int p0)] → W p l e ({ frames := 4, cells := 0, slots := 0, locals := 96 } : Room) s m ([.ref (qh 0), .ref (qo 0), .int p0] : List Value).toArray below meth c H locs 0 0 Q (F0 m 104 ls [.int v6, .ref (qh 0)]) := by
    intro v6 H locs ls  hP hD hS hl
    refine g_pt cx hP hD hS iw_X4_copy_X4 tyX4 tyX4_ok nmX4 0 rfl rfl 8 (by decide) rfl fw_X4_copy_51 (ty := .int) rfl rfl rfl (Nat.le_of_ble_eq_true rfl) dX4_copy_104 (fun H locs hP hD hS => ?_)
    have hP : va_P D vwCl [(qh 0, .inr (2, [.int (so 0 0), .int (so 0 1), .ref (qh 1), .ref (qh 2), .ref (qh 3), .ref (qh 4), .int (so 0 6), .int (so 0 7), .int v6, .int (sh 0 9), .int (sh 0 10), .int (sh 0 11), .int (sh 0 12), .ref (qh 5)])), (qh 1, .inl (k 0, 5, .inl g1)), (qh 2, .inl (k 0, 5, .inl g2)), (qh 3, .inl (k 0, 3, .inl g3)), (qh 4, .inl (k 0, 3, .inl g4)), (qh 5, .inl (k 0, 525, .inl (sh 5))), (qo 0, .inr (2, [.int (so 0 0), .int (so 0 1), .ref (qo 1), .ref (qo 2), .ref (qo 3), .ref (qo 4), .int (so 0 6), .int (so 0 7), .int (so 0 8), .int (so 0 9), .int (so 0 10), .int (so 0 11), .int (so 0 12), .ref (qo 5)])), (qo 1, .inl (k 0, 5, .inl (so 1))), (qo 2, .inl (k 0, 5, .inl (so 2))), (qo 3, .inl (k 0, 3, .inl (so 3))), (qo 4, .inl (k 0, 3, .inl (so 4))), (qo 5, .inl (k 0, 525, .inl (so 5)))] H := hP
    have hD : va_D A [(qh 0, .inr (2, [.int (so 0 0), .int (so 0 1), .ref (qh 1), .ref (qh 2), .ref (qh 3), .ref (qh 4), .int (so 0 6), .int (so 0 7), .int v6, .int (sh 0 9), .int (sh 0 10), .int (sh 0 11), .int (sh 0 12), .ref (qh 5)])), (qh 1, .inl (k 0, 5, .inl g1)), (qh 2, .inl (k 0, 5, .inl g2)), (qh 3, .inl (k 0, 3, .inl g3)), (qh 4, .inl (k 0, 3, .inl g4)), (qh 5, .inl (k 0, 525, .inl (sh 5))), (qo 0, .inr (2, [.int (so 0 0), .int (so 0 1), .ref (qo 1), .ref (qo 2), .ref (qo 3), .ref (qo 4), .int (so 0 6), .int (so 0 7), .int (so 0 8), .int (so 0 9), .int (so 0 10), .int (so 0 11), .int (so 0 12), .ref (qo 5)])), (qo 1, .inl (k 0, 5, .inl (so 1))), (qo 2, .inl (k 0, 5, .inl (so 2))), (qo 3, .inl (k 0, 3, .inl (so 3))), (qo 4, .inl (k 0, 3, .inl (so 4))), (qo 5, .inl (k 0, 525, .inl (so 5)))] := hD
    refine lv_aload_n hx hb dX4_copy_107 rfl (lv_at hl 0 rfl) ?_
    refine lv_iload_n hx hb dX4_copy_108 rfl (lv_at hl 2 rfl) ?_
    refine lv_iconst (v := 2) hx hb dX4_copy_109 (by decide) ?_
    refine lv_iand hx hb dX4_copy_110 (lv_topi (fun v7 e7 => ?_))
    have t7 : 0 ≤ v7.toInt ∧ v7.toInt ≤ 2 := by rw [e7]; exact and_r (by decide) (by omega)
    have hJ123 : ∀ (v8 : Int32) (H : Heap) (locs : List Loc) (ls : Array Slot), va_P D vwCl [(qh 0, .inr (2, [.int (so 0 0), .int (so 0 1), .ref (qh 1), .ref (qh 2), .ref (qh 3), .ref (qh 4), .int (so 0 6), .int (so 0 7), .int v6, .int (sh 0 9), .int (sh 0 10), .int (sh 0 11), .int (sh 0 12), .ref (qh 5)])), (qh 1, .inl (k 0, 5, .inl g1)), (qh 2, .inl (k 0, 5, .inl g2)), (qh 3, .inl (k 0, 3, .inl g3)), (qh 4, .inl (k 0, 3, .inl g4)), (qh 5, .inl (k 0, 525, .inl (sh 5))), (qo 0, .inr (2, [.int (so 0 0), .int (so 0 1), .ref (qo 1), .ref (qo 2), .ref (qo 3), .ref (qo 4), .int (so 0 6), .int (so 0 7), .int (so 0 8), .int (so 0 9), .int (so 0 10), .int (so 0 11), .int (so 0 12), .ref (qo 5)])), (qo 1, .inl (k 0, 5, .inl (so 1))), (qo 2, .inl (k 0, 5, .inl (so 2))), (qo 3, .inl (k 0, 3, .inl (so 3))), (qo 4, .inl (k 0, 3, .inl (so 4))), (qo 5, .inl (k 0, 525, .inl (so 5)))] H → va_D A [(qh 0, .inr (2, [.int (so 0 0), .int (so 0 1), .ref (qh 1), .ref (qh 2), .ref (qh 3), .ref (qh 4), .int (so 0 6), .int (so 0 7), .int v6, .int (sh 0 9), .int (sh 0 10), .int (sh 0 11), .int (sh 0 12), .ref (qh 5)])), (qh 1, .inl (k 0, 5, .inl g1)), (qh 2, .inl (k 0, 5, .inl g2)), (qh 3, .inl (k 0, 3, .inl g3)), (qh 4, .inl (k 0, 3, .inl g4)), (qh 5, .inl (k 0, 525, .inl (sh 5))), (qo 0, .inr (2, [.int (so 0 0), .int (so 0 1), .ref (qo 1), .ref (qo 2), .ref (qo 3), .ref (qo 4), .int (so 0 6), .int (so 0 7), .int (so 0 8), .int (so 0 9), .int (so 0 10), .int (so 0 11), .int (so 0 12), .ref (qo 5)])), (qo 1, .inl (k 0, 5, .inl (so 1))), (qo 2, .inl (k 0, 5, .inl (so 2))), (qo 3, .inl (k 0, 3, .inl (so 3))), (qo 4, .inl (k 0, 3, .inl (so 4))), (qo 5, .inl (k 0, 525, .inl (so 5)))] → va_S A s.heap H locs → lv_has ls 3 [(0, .ref (qh 0)), (1, .ref (qo 0)), (2, .int p0)] → W p l e ({ frames := 4, cells := 0, slots := 0, locals := 96 } : Room) s m ([.ref (qh 0), .ref (qo 0), .int p0] : List Value).toArray below meth c H locs 0 0 Q (F0 m 123 ls [.int v8, .ref (qh 0)]) := by
      intro v8 H locs ls  hP hD hS hl
      refine g_pt cx hP hD hS iw_X4_copy_X4 tyX4 tyX4_ok nmX4 0 rfl rfl 9 (by decide) rfl fw_X4_copy_54 (ty := .int) rfl rfl rfl (Nat.le_of_ble_eq_true rfl) dX4_copy_123 (fun H locs hP hD hS => ?_)
      have hP : va_P D vwCl [(qh 0, .inr (2, [.int (so 0 0), .int (so 0 1), .ref (qh 1), .ref (qh 2), .ref (qh 3), .ref (qh 4), .int (so 0 6), .int (so 0 7), .int v6, .int v8, .int (sh 0 10), .int (sh 0 11), .int (sh 0 12), .ref (qh 5)])), (qh 1, .inl (k 0, 5, .inl g1)), (qh 2, .inl (k 0, 5, .inl g2)), (qh 3, .inl (k 0, 3, .inl g3)), (qh 4, .inl (k 0, 3, .inl g4)), (qh 5, .inl (k 0, 525, .inl (sh 5))), (qo 0, .inr (2, [.int (so 0 0), .int (so 0 1), .ref (qo 1), .ref (qo 2), .ref (qo 3), .ref (qo 4), .int (so 0 6), .int (so 0 7), .int (so 0 8), .int (so 0 9), .int (so 0 10), .int (so 0 11), .int (so 0 12), .ref (qo 5)])), (qo 1, .inl (k 0, 5, .inl (so 1))), (qo 2, .inl (k 0, 5, .inl (so 2))), (qo 3, .inl (k 0, 3, .inl (so 3))), (qo 4, .inl (k 0, 3, .inl (so 4))), (qo 5, .inl (k 0, 525, .inl (so 5)))] H := hP
      have hD : va_D A [(qh 0, .inr (2, [.int (so 0 0), .int (so 0 1), .ref (qh 1), .ref (qh 2), .ref (qh 3), .ref (qh 4), .int (so 0 6), .int (so 0 7), .int v6, .int v8, .int (sh 0 10), .int (sh 0 11), .int (sh 0 12), .ref (qh 5)])), (qh 1, .inl (k 0, 5, .inl g1)), (qh 2, .inl (k 0, 5, .inl g2)), (qh 3, .inl (k 0, 3, .inl g3)), (qh 4, .inl (k 0, 3, .inl g4)), (qh 5, .inl (k 0, 525, .inl (sh 5))), (qo 0, .inr (2, [.int (so 0 0), .int (so 0 1), .ref (qo 1), .ref (qo 2), .ref (qo 3), .ref (qo 4), .int (so 0 6), .int (so 0 7), .int (so 0 8), .int (so 0 9), .int (so 0 10), .int (so 0 11), .int (so 0 12), .ref (qo 5)])), (qo 1, .inl (k 0, 5, .inl (so 1))), (qo 2, .inl (k 0, 5, .inl (so 2))), (qo 3, .inl (k 0, 3, .inl (so 3))), (qo 4, .inl (k 0, 3, .inl (so 4))), (qo 5, .inl (k 0, 525, .inl (so 5)))] := hD
      refine lv_aload_n hx hb dX4_copy_126 rfl (lv_at hl 0 rfl) ?_
      refine lv_iload_n hx hb dX4_copy_127 rfl (lv_at hl 2 rfl) ?_
      refine lv_iconst (v := 4) hx hb dX4_copy_128 (by decide) ?_
      refine lv_iand hx hb dX4_copy_129 (lv_topi (fun v9 e9 => ?_))
      have t9 : 0 ≤ v9.toInt ∧ v9.toInt ≤ 4 := by rw [e9]; exact and_r (by decide) (by omega)
      have hJ142 : ∀ (v10 : Int32) (H : Heap) (locs : List Loc) (ls : Array Slot), va_P D vwCl [(qh 0, .inr (2, [.int (so 0 0), .int (so 0 1), .ref (qh 1), .ref (qh 2), .ref (qh 3), .ref (qh 4), .int (so 0 6), .int (so 0 7), .int v6, .int v8, .int (sh 0 10), .int (sh 0 11), .int (sh 0 12), .ref (qh 5)])), (qh 1, .inl (k 0, 5, .inl g1)), (qh 2, .inl (k 0, 5, .inl g2)), (qh 3, .inl (k 0, 3, .inl g3)), (qh 4, .inl (k 0, 3, .inl g4)), (qh 5, .inl (k 0, 525, .inl (sh 5))), (qo 0, .inr (2, [.int (so 0 0), .int (so 0 1), .ref (qo 1), .ref (qo 2), .ref (qo 3), .ref (qo 4), .int (so 0 6), .int (so 0 7), .int (so 0 8), .int (so 0 9), .int (so 0 10), .int (so 0 11), .int (so 0 12), .ref (qo 5)])), (qo 1, .inl (k 0, 5, .inl (so 1))), (qo 2, .inl (k 0, 5, .inl (so 2))), (qo 3, .inl (k 0, 3, .inl (so 3))), (qo 4, .inl (k 0, 3, .inl (so 4))), (qo 5, .inl (k 0, 525, .inl (so 5)))] H → va_D A [(qh 0, .inr (2, [.int (so 0 0), .int (so 0 1), .ref (qh 1), .ref (qh 2), .ref (qh 3), .ref (qh 4), .int (so 0 6), .int (so 0 7), .int v6, .int v8, .int (sh 0 10), .int (sh 0 11), .int (sh 0 12), .ref (qh 5)])), (qh 1, .inl (k 0, 5, .inl g1)), (qh 2, .inl (k 0, 5, .inl g2)), (qh 3, .inl (k 0, 3, .inl g3)), (qh 4, .inl (k 0, 3, .inl g4)), (qh 5, .inl (k 0, 525, .inl (sh 5))), (qo 0, .inr (2, [.int (so 0 0), .int (so 0 1), .ref (qo 1), .ref (qo 2), .ref (qo 3), .ref (qo 4), .int (so 0 6), .int (so 0 7), .int (so 0 8), .int (so 0 9), .int (so 0 10), .int (so 0 11), .int (so 0 12), .ref (qo 5)])), (qo 1, .inl (k 0, 5, .inl (so 1))), (qo 2, .inl (k 0, 5, .inl (so 2))), (qo 3, .inl (k 0, 3, .inl (so 3))), (qo 4, .inl (k 0, 3, .inl (so 4))), (qo 5, .inl (k 0, 525, .inl (so 5)))] → va_S A s.heap H locs → lv_has ls 3 [(0, .ref (qh 0)), (1, .ref (qo 0)), (2, .int p0)] → W p l e ({ frames := 4, cells := 0, slots := 0, locals := 96 } : Room) s m ([.ref (qh 0), .ref (qo 0), .int p0] : List Value).toArray below meth c H locs 0 0 Q (F0 m 142 ls [.int v10, .ref (qh 0)]) := by
        intro v10 H locs ls  hP hD hS hl
        refine g_pt cx hP hD hS iw_X4_copy_X4 tyX4 tyX4_ok nmX4 0 rfl rfl 10 (by decide) rfl fw_X4_copy_57 (ty := .int) rfl rfl rfl (Nat.le_of_ble_eq_true rfl) dX4_copy_142 (fun H locs hP hD hS => ?_)
        have hP : va_P D vwCl [(qh 0, .inr (2, [.int (so 0 0), .int (so 0 1), .ref (qh 1), .ref (qh 2), .ref (qh 3), .ref (qh 4), .int (so 0 6), .int (so 0 7), .int v6, .int v8, .int v10, .int (sh 0 11), .int (sh 0 12), .ref (qh 5)])), (qh 1, .inl (k 0, 5, .inl g1)), (qh 2, .inl (k 0, 5, .inl g2)), (qh 3, .inl (k 0, 3, .inl g3)), (qh 4, .inl (k 0, 3, .inl g4)), (qh 5, .inl (k 0, 525, .inl (sh 5))), (qo 0, .inr (2, [.int (so 0 0), .int (so 0 1), .ref (qo 1), .ref (qo 2), .ref (qo 3), .ref (qo 4), .int (so 0 6), .int (so 0 7), .int (so 0 8), .int (so 0 9), .int (so 0 10), .int (so 0 11), .int (so 0 12), .ref (qo 5)])), (qo 1, .inl (k 0, 5, .inl (so 1))), (qo 2, .inl (k 0, 5, .inl (so 2))), (qo 3, .inl (k 0, 3, .inl (so 3))), (qo 4, .inl (k 0, 3, .inl (so 4))), (qo 5, .inl (k 0, 525, .inl (so 5)))] H := hP
        have hD : va_D A [(qh 0, .inr (2, [.int (so 0 0), .int (so 0 1), .ref (qh 1), .ref (qh 2), .ref (qh 3), .ref (qh 4), .int (so 0 6), .int (so 0 7), .int v6, .int v8, .int v10, .int (sh 0 11), .int (sh 0 12), .ref (qh 5)])), (qh 1, .inl (k 0, 5, .inl g1)), (qh 2, .inl (k 0, 5, .inl g2)), (qh 3, .inl (k 0, 3, .inl g3)), (qh 4, .inl (k 0, 3, .inl g4)), (qh 5, .inl (k 0, 525, .inl (sh 5))), (qo 0, .inr (2, [.int (so 0 0), .int (so 0 1), .ref (qo 1), .ref (qo 2), .ref (qo 3), .ref (qo 4), .int (so 0 6), .int (so 0 7), .int (so 0 8), .int (so 0 9), .int (so 0 10), .int (so 0 11), .int (so 0 12), .ref (qo 5)])), (qo 1, .inl (k 0, 5, .inl (so 1))), (qo 2, .inl (k 0, 5, .inl (so 2))), (qo 3, .inl (k 0, 3, .inl (so 3))), (qo 4, .inl (k 0, 3, .inl (so 4))), (qo 5, .inl (k 0, 525, .inl (so 5)))] := hD
        refine lv_aload_n hx hb dX4_copy_145 rfl (lv_at hl 0 rfl) ?_
        refine lv_iload_n hx hb dX4_copy_146 rfl (lv_at hl 2 rfl) ?_
        refine lv_bipush (v := 8) hx hb dX4_copy_147 (by decide) ?_
        refine lv_iand hx hb dX4_copy_149 (lv_topi (fun v11 e11 => ?_))
        have t11 : 0 ≤ v11.toInt ∧ v11.toInt ≤ 8 := by rw [e11]; exact and_r (by decide) (by omega)
        have hJ162 : ∀ (v12 : Int32) (H : Heap) (locs : List Loc) (ls : Array Slot), va_P D vwCl [(qh 0, .inr (2, [.int (so 0 0), .int (so 0 1), .ref (qh 1), .ref (qh 2), .ref (qh 3), .ref (qh 4), .int (so 0 6), .int (so 0 7), .int v6, .int v8, .int v10, .int (sh 0 11), .int (sh 0 12), .ref (qh 5)])), (qh 1, .inl (k 0, 5, .inl g1)), (qh 2, .inl (k 0, 5, .inl g2)), (qh 3, .inl (k 0, 3, .inl g3)), (qh 4, .inl (k 0, 3, .inl g4)), (qh 5, .inl (k 0, 525, .inl (sh 5))), (qo 0, .inr (2, [.int (so 0 0), .int (so 0 1), .ref (qo 1), .ref (qo 2), .ref (qo 3), .ref (qo 4), .int (so 0 6), .int (so 0 7), .int (so 0 8), .int (so 0 9), .int (so 0 10), .int (so 0 11), .int (so 0 12), .ref (qo 5)])), (qo 1, .inl (k 0, 5, .inl (so 1))), (qo 2, .inl (k 0, 5, .inl (so 2))), (qo 3, .inl (k 0, 3, .inl (so 3))), (qo 4, .inl (k 0, 3, .inl (so 4))), (qo 5, .inl (k 0, 525, .inl (so 5)))] H → va_D A [(qh 0, .inr (2, [.int (so 0 0), .int (so 0 1), .ref (qh 1), .ref (qh 2), .ref (qh 3), .ref (qh 4), .int (so 0 6), .int (so 0 7), .int v6, .int v8, .int v10, .int (sh 0 11), .int (sh 0 12), .ref (qh 5)])), (qh 1, .inl (k 0, 5, .inl g1)), (qh 2, .inl (k 0, 5, .inl g2)), (qh 3, .inl (k 0, 3, .inl g3)), (qh 4, .inl (k 0, 3, .inl g4)), (qh 5, .inl (k 0, 525, .inl (sh 5))), (qo 0, .inr (2, [.int (so 0 0), .int (so 0 1), .ref (qo 1), .ref (qo 2), .ref (qo 3), .ref (qo 4), .int (so 0 6), .int (so 0 7), .int (so 0 8), .int (so 0 9), .int (so 0 10), .int (so 0 11), .int (so 0 12), .ref (qo 5)])), (qo 1, .inl (k 0, 5, .inl (so 1))), (qo 2, .inl (k 0, 5, .inl (so 2))), (qo 3, .inl (k 0, 3, .inl (so 3))), (qo 4, .inl (k 0, 3, .inl (so 4))), (qo 5, .inl (k 0, 525, .inl (so 5)))] → va_S A s.heap H locs → lv_has ls 3 [(0, .ref (qh 0)), (1, .ref (qo 0)), (2, .int p0)] → W p l e ({ frames := 4, cells := 0, slots := 0, locals := 96 } : Room) s m ([.ref (qh 0), .ref (qo 0), .int p0] : List Value).toArray below meth c H locs 0 0 Q (F0 m 162 ls [.int v12, .ref (qh 0)]) := by
          intro v12 H locs ls  hP hD hS hl
          refine g_pt cx hP hD hS iw_X4_copy_X4 tyX4 tyX4_ok nmX4 0 rfl rfl 11 (by decide) rfl fw_X4_copy_60 (ty := .int) rfl rfl rfl (Nat.le_of_ble_eq_true rfl) dX4_copy_162 (fun H locs hP hD hS => ?_)
          have hP : va_P D vwCl [(qh 0, .inr (2, [.int (so 0 0), .int (so 0 1), .ref (qh 1), .ref (qh 2), .ref (qh 3), .ref (qh 4), .int (so 0 6), .int (so 0 7), .int v6, .int v8, .int v10, .int v12, .int (sh 0 12), .ref (qh 5)])), (qh 1, .inl (k 0, 5, .inl g1)), (qh 2, .inl (k 0, 5, .inl g2)), (qh 3, .inl (k 0, 3, .inl g3)), (qh 4, .inl (k 0, 3, .inl g4)), (qh 5, .inl (k 0, 525, .inl (sh 5))), (qo 0, .inr (2, [.int (so 0 0), .int (so 0 1), .ref (qo 1), .ref (qo 2), .ref (qo 3), .ref (qo 4), .int (so 0 6), .int (so 0 7), .int (so 0 8), .int (so 0 9), .int (so 0 10), .int (so 0 11), .int (so 0 12), .ref (qo 5)])), (qo 1, .inl (k 0, 5, .inl (so 1))), (qo 2, .inl (k 0, 5, .inl (so 2))), (qo 3, .inl (k 0, 3, .inl (so 3))), (qo 4, .inl (k 0, 3, .inl (so 4))), (qo 5, .inl (k 0, 525, .inl (so 5)))] H := hP
          have hD : va_D A [(qh 0, .inr (2, [.int (so 0 0), .int (so 0 1), .ref (qh 1), .ref (qh 2), .ref (qh 3), .ref (qh 4), .int (so 0 6), .int (so 0 7), .int v6, .int v8, .int v10, .int v12, .int (sh 0 12), .ref (qh 5)])), (qh 1, .inl (k 0, 5, .inl g1)), (qh 2, .inl (k 0, 5, .inl g2)), (qh 3, .inl (k 0, 3, .inl g3)), (qh 4, .inl (k 0, 3, .inl g4)), (qh 5, .inl (k 0, 525, .inl (sh 5))), (qo 0, .inr (2, [.int (so 0 0), .int (so 0 1), .ref (qo 1), .ref (qo 2), .ref (qo 3), .ref (qo 4), .int (so 0 6), .int (so 0 7), .int (so 0 8), .int (so 0 9), .int (so 0 10), .int (so 0 11), .int (so 0 12), .ref (qo 5)])), (qo 1, .inl (k 0, 5, .inl (so 1))), (qo 2, .inl (k 0, 5, .inl (so 2))), (qo 3, .inl (k 0, 3, .inl (so 3))), (qo 4, .inl (k 0, 3, .inl (so 4))), (qo 5, .inl (k 0, 525, .inl (so 5)))] := hD
          refine lv_aload_n hx hb dX4_copy_165 rfl (lv_at hl 0 rfl) ?_
          refine lv_iload_n hx hb dX4_copy_166 rfl (lv_at hl 2 rfl) ?_
          refine lv_bipush (v := 8) hx hb dX4_copy_167 (by decide) ?_
          refine lv_iand hx hb dX4_copy_169 (lv_topi (fun v13 e13 => ?_))
          have t13 : 0 ≤ v13.toInt ∧ v13.toInt ≤ 8 := by rw [e13]; exact and_r (by decide) (by omega)
          have hJ181 : ∀ (v14 : Int32) (H : Heap) (locs : List Loc) (ls : Array Slot), (0 ≤ v14.toInt ∧ v14.toInt ≤ 5) → va_P D vwCl [(qh 0, .inr (2, [.int (so 0 0), .int (so 0 1), .ref (qh 1), .ref (qh 2), .ref (qh 3), .ref (qh 4), .int (so 0 6), .int (so 0 7), .int v6, .int v8, .int v10, .int v12, .int (sh 0 12), .ref (qh 5)])), (qh 1, .inl (k 0, 5, .inl g1)), (qh 2, .inl (k 0, 5, .inl g2)), (qh 3, .inl (k 0, 3, .inl g3)), (qh 4, .inl (k 0, 3, .inl g4)), (qh 5, .inl (k 0, 525, .inl (sh 5))), (qo 0, .inr (2, [.int (so 0 0), .int (so 0 1), .ref (qo 1), .ref (qo 2), .ref (qo 3), .ref (qo 4), .int (so 0 6), .int (so 0 7), .int (so 0 8), .int (so 0 9), .int (so 0 10), .int (so 0 11), .int (so 0 12), .ref (qo 5)])), (qo 1, .inl (k 0, 5, .inl (so 1))), (qo 2, .inl (k 0, 5, .inl (so 2))), (qo 3, .inl (k 0, 3, .inl (so 3))), (qo 4, .inl (k 0, 3, .inl (so 4))), (qo 5, .inl (k 0, 525, .inl (so 5)))] H → va_D A [(qh 0, .inr (2, [.int (so 0 0), .int (so 0 1), .ref (qh 1), .ref (qh 2), .ref (qh 3), .ref (qh 4), .int (so 0 6), .int (so 0 7), .int v6, .int v8, .int v10, .int v12, .int (sh 0 12), .ref (qh 5)])), (qh 1, .inl (k 0, 5, .inl g1)), (qh 2, .inl (k 0, 5, .inl g2)), (qh 3, .inl (k 0, 3, .inl g3)), (qh 4, .inl (k 0, 3, .inl g4)), (qh 5, .inl (k 0, 525, .inl (sh 5))), (qo 0, .inr (2, [.int (so 0 0), .int (so 0 1), .ref (qo 1), .ref (qo 2), .ref (qo 3), .ref (qo 4), .int (so 0 6), .int (so 0 7), .int (so 0 8), .int (so 0 9), .int (so 0 10), .int (so 0 11), .int (so 0 12), .ref (qo 5)])), (qo 1, .inl (k 0, 5, .inl (so 1))), (qo 2, .inl (k 0, 5, .inl (so 2))), (qo 3, .inl (k 0, 3, .inl (so 3))), (qo 4, .inl (k 0, 3, .inl (so 4))), (qo 5, .inl (k 0, 525, .inl (so 5)))] → va_S A s.heap H locs → lv_has ls 3 [(0, .ref (qh 0))] → W p l e ({ frames := 4, cells := 0, slots := 0, locals := 96 } : Room) s m ([.ref (qh 0), .ref (qo 0), .int p0] : List Value).toArray below meth c H locs 0 0 Q (F0 m 181 ls [.int v14, .ref (qh 0)]) := by
            intro v14 H locs ls bv14 hP hD hS hl
            refine g_pt cx hP hD hS iw_X4_copy_X4 tyX4 tyX4_ok nmX4 0 rfl rfl 12 (by decide) rfl fw_X4_copy_63 (ty := .int) rfl rfl rfl (Nat.le_of_ble_eq_true rfl) dX4_copy_181 (fun H locs hP hD hS => ?_)
            have hP : va_P D vwCl [(qh 0, .inr (2, [.int (so 0 0), .int (so 0 1), .ref (qh 1), .ref (qh 2), .ref (qh 3), .ref (qh 4), .int (so 0 6), .int (so 0 7), .int v6, .int v8, .int v10, .int v12, .int v14, .ref (qh 5)])), (qh 1, .inl (k 0, 5, .inl g1)), (qh 2, .inl (k 0, 5, .inl g2)), (qh 3, .inl (k 0, 3, .inl g3)), (qh 4, .inl (k 0, 3, .inl g4)), (qh 5, .inl (k 0, 525, .inl (sh 5))), (qo 0, .inr (2, [.int (so 0 0), .int (so 0 1), .ref (qo 1), .ref (qo 2), .ref (qo 3), .ref (qo 4), .int (so 0 6), .int (so 0 7), .int (so 0 8), .int (so 0 9), .int (so 0 10), .int (so 0 11), .int (so 0 12), .ref (qo 5)])), (qo 1, .inl (k 0, 5, .inl (so 1))), (qo 2, .inl (k 0, 5, .inl (so 2))), (qo 3, .inl (k 0, 3, .inl (so 3))), (qo 4, .inl (k 0, 3, .inl (so 4))), (qo 5, .inl (k 0, 525, .inl (so 5)))] H := hP
            have hD : va_D A [(qh 0, .inr (2, [.int (so 0 0), .int (so 0 1), .ref (qh 1), .ref (qh 2), .ref (qh 3), .ref (qh 4), .int (so 0 6), .int (so 0 7), .int v6, .int v8, .int v10, .int v12, .int v14, .ref (qh 5)])), (qh 1, .inl (k 0, 5, .inl g1)), (qh 2, .inl (k 0, 5, .inl g2)), (qh 3, .inl (k 0, 3, .inl g3)), (qh 4, .inl (k 0, 3, .inl g4)), (qh 5, .inl (k 0, 525, .inl (sh 5))), (qo 0, .inr (2, [.int (so 0 0), .int (so 0 1), .ref (qo 1), .ref (qo 2), .ref (qo 3), .ref (qo 4), .int (so 0 6), .int (so 0 7), .int (so 0 8), .int (so 0 9), .int (so 0 10), .int (so 0 11), .int (so 0 12), .ref (qo 5)])), (qo 1, .inl (k 0, 5, .inl (so 1))), (qo 2, .inl (k 0, 5, .inl (so 2))), (qo 3, .inl (k 0, 3, .inl (so 3))), (qo 4, .inl (k 0, 3, .inl (so 4))), (qo 5, .inl (k 0, 525, .inl (so 5)))] := hD
            refine lv_aload_n hx hb dX4_copy_184 rfl (lv_at hl 0 rfl) ?_
            refine g_v (w1 := fun (u : (Nat → Int32)) => [(qh 0, .inr (2, [.int (so 0 0), .int (so 0 1), .ref (qh 1), .ref (qh 2), .ref (qh 3), .ref (qh 4), .int (so 0 6), .int (so 0 7), .int v6, .int v8, .int v10, .int v12, .int v14, .ref (qh 5)])), (qh 1, .inl (k 0, 5, .inl g1)), (qh 2, .inl (k 0, 5, .inl g2)), (qh 3, .inl (k 0, 3, .inl g3)), (qh 4, .inl (k 0, 3, .inl g4)), (qh 5, .inl (k 0, 525, .inl u))]) (g_runV (wc := [(qh 0, .inr (2, [.int (so 0 0), .int (so 0 1), .ref (qh 1), .ref (qh 2), .ref (qh 3), .ref (qh 4), .int (so 0 6), .int (so 0 7), .int v6, .int v8, .int v10, .int v12, .int v14, .ref (qh 5)])), (qh 1, .inl (k 0, 5, .inl g1)), (qh 2, .inl (k 0, 5, .inl g2)), (qh 3, .inl (k 0, 3, .inl g3)), (qh 4, .inl (k 0, 3, .inl g4)), (qh 5, .inl (k 0, 525, .inl (sh 5)))]) (rest := []) cx hP hD hS [0, 1, 2, 3, 4, 5] rfl (by decide) [] (c_X4_settle l D k b qh (up2 (up2 (up2 (up2 (up2 sh 0 (upd (upd (upd (upd (upd (upd (upd (upd (upd (sh 0) 0 (so 0 0)) 1 (so 0 1)) 6 (so 0 6)) 7 (so 0 7)) 8 v6) 9 v8) 10 v10) 11 v12) 12 v14)) 1 g1) 2 g2) 3 g3) 4 g4) H.size (show 0 ≤ v14.toInt ∧ v14.toInt ≤ 5 from by first | decide | omega) ag3) gX4_copy_X4_settle rfl rfl rfl nd_X4_settle ⟨Nat.le_of_ble_eq_true rfl, Nat.le_of_ble_eq_true rfl⟩ (ci := 2) (q0 := 0) rfl rfl rfl hl.1 rfl (Nat.le_of_ble_eq_true rfl) ⟨Nat.zero_le _, Nat.zero_le _⟩ dX4_copy_185) cx.2.2.1 hP hD hS [0, 1, 2, 3, 4, 5] rfl (fun _ => rfl) (fun u16 H locs hw15 hP hD hS => ?_)
            obtain ⟨m17, rfl⟩ : ∃ z, z = u16 := ⟨_, rfl⟩
            have hP : va_P D vwCl [(qh 0, .inr (2, [.int (so 0 0), .int (so 0 1), .ref (qh 1), .ref (qh 2), .ref (qh 3), .ref (qh 4), .int (so 0 6), .int (so 0 7), .int v6, .int v8, .int v10, .int v12, .int v14, .ref (qh 5)])), (qh 1, .inl (k 0, 5, .inl g1)), (qh 2, .inl (k 0, 5, .inl g2)), (qh 3, .inl (k 0, 3, .inl g3)), (qh 4, .inl (k 0, 3, .inl g4)), (qh 5, .inl (k 0, 525, .inl m17)), (qo 0, .inr (2, [.int (so 0 0), .int (so 0 1), .ref (qo 1), .ref (qo 2), .ref (qo 3), .ref (qo 4), .int (so 0 6), .int (so 0 7), .int (so 0 8), .int (so 0 9), .int (so 0 10), .int (so 0 11), .int (so 0 12), .ref (qo 5)])), (qo 1, .inl (k 0, 5, .inl (so 1))), (qo 2, .inl (k 0, 5, .inl (so 2))), (qo 3, .inl (k 0, 3, .inl (so 3))), (qo 4, .inl (k 0, 3, .inl (so 4))), (qo 5, .inl (k 0, 525, .inl (so 5)))] H := hP
            have hD : va_D A [(qh 0, .inr (2, [.int (so 0 0), .int (so 0 1), .ref (qh 1), .ref (qh 2), .ref (qh 3), .ref (qh 4), .int (so 0 6), .int (so 0 7), .int v6, .int v8, .int v10, .int v12, .int v14, .ref (qh 5)])), (qh 1, .inl (k 0, 5, .inl g1)), (qh 2, .inl (k 0, 5, .inl g2)), (qh 3, .inl (k 0, 3, .inl g3)), (qh 4, .inl (k 0, 3, .inl g4)), (qh 5, .inl (k 0, 525, .inl m17)), (qo 0, .inr (2, [.int (so 0 0), .int (so 0 1), .ref (qo 1), .ref (qo 2), .ref (qo 3), .ref (qo 4), .int (so 0 6), .int (so 0 7), .int (so 0 8), .int (so 0 9), .int (so 0 10), .int (so 0 11), .int (so 0 12), .ref (qo 5)])), (qo 1, .inl (k 0, 5, .inl (so 1))), (qo 2, .inl (k 0, 5, .inl (so 2))), (qo 3, .inl (k 0, 3, .inl (so 3))), (qo 4, .inl (k 0, 3, .inl (so 4))), (qo 5, .inl (k 0, 525, .inl (so 5)))] := hD
            have w18 : SUok m17 := hw15
            clear hw15
            rw [hQ]
            exact x_v cx hr ((so 0 0), (so 0 1), g1, g2, g3, g4, (so 0 6), (so 0 7), v6, v8, v10, v12, v14, m17) hP hD hS ⟨(show 0 ≤ (so 0 0).toInt ∧ (so 0 0).toInt ≤ 5 from by omega), (show 0 ≤ (so 0 1).toInt ∧ (so 0 1).toInt ≤ 4 from by omega), (show 0 ≤ v14.toInt ∧ v14.toInt ≤ 5 from by omega), ag2, ag3, (show SUok m17 from by assumption), (show (so 0 0).toInt = (so 0 0).toInt from by omega)⟩ dX4_copy_188
          refine lv_if_eq (tgt := 177) hx hb dX4_copy_170 (by decide) (fun c19 => ?_) (fun c19 => ?_)
          · have f19 : v13.toInt = 0 := f_eq rfl (by decide) c19
            refine lv_aload_n hx hb dX4_copy_177 rfl (lv_at hl 1 rfl) ?_
            refine g_get cx hP iw_X4_copy_X4 6 rfl rfl 12 (by decide) rfl fw_X4_copy_63 rfl dX4_copy_178 ?_
            exact hJ181 (so 0 12) _ _ _ (by first | decide | omega) hP hD hS (lv_sub hl [0] rfl)
          · have f19 : ¬ v13.toInt = 0 := f_ne rfl (by decide) c19
            refine lv_iconst (v := 0) hx hb dX4_copy_173 (by decide) ?_
            refine lv_goto (tgt := 181) hx hb dX4_copy_174 (by decide) ?_
            have hlit20 : (0 : Int32).toInt = 0 := by decide
            exact hJ181 0 _ _ _ (by first | decide | omega) hP hD hS (lv_sub hl [0] rfl)
        refine lv_if_eq (tgt := 158) hx hb dX4_copy_150 (by decide) (fun c21 => ?_) (fun c21 => ?_)
        · have f21 : v11.toInt = 0 := f_eq rfl (by decide) c21
          refine lv_aload_n hx hb dX4_copy_158 rfl (lv_at hl 1 rfl) ?_
          refine g_get cx hP iw_X4_copy_X4 6 rfl rfl 11 (by decide) rfl fw_X4_copy_60 rfl dX4_copy_159 ?_
          exact hJ162 (so 0 11) _ _ _  hP hD hS (lv_sub hl [0, 1, 2] rfl)
        · have f21 : ¬ v11.toInt = 0 := f_ne rfl (by decide) c21
          refine lv_bipush (v := (-9)) hx hb dX4_copy_153 (by decide) ?_
          refine lv_goto (tgt := 162) hx hb dX4_copy_155 (by decide) ?_
          have hlit22 : (-9 : Int32).toInt = -9 := by decide
          exact hJ162 (-9) _ _ _  hP hD hS (lv_sub hl [0, 1, 2] rfl)
      refine lv_if_eq (tgt := 138) hx hb dX4_copy_130 (by decide) (fun c23 => ?_) (fun c23 => ?_)
      · have f23 : v9.toInt = 0 := f_eq rfl (by decide) c23
        refine lv_aload_n hx hb dX4_copy_138 rfl (lv_at hl 1 rfl) ?_
        refine g_get cx hP iw_X4_copy_X4 6 rfl rfl 10 (by decide) rfl fw_X4_copy_57 rfl dX4_copy_139 ?_
        exact hJ142 (so 0 10) _ _ _  hP hD hS (lv_sub hl [0, 1, 2] rfl)
      · have f23 : ¬ v9.toInt = 0 := f_ne rfl (by decide) c23
        refine lv_bipush (v := (-9)) hx hb dX4_copy_133 (by decide) ?_
        refine lv_goto (tgt := 142) hx hb dX4_copy_135 (by decide) ?_
        have hlit24 : (-9 : Int32).toInt = -9 := by decide
        exact hJ142 (-9) _ _ _  hP hD hS (lv_sub hl [0, 1, 2] rfl)
    refine lv_if_eq (tgt := 119) hx hb dX4_copy_111 (by decide) (fun c25 => ?_) (fun c25 => ?_)
    · have f25 : v7.toInt = 0 := f_eq rfl (by decide) c25
      refine lv_aload_n hx hb dX4_copy_119 rfl (lv_at hl 1 rfl) ?_
      refine g_get cx hP iw_X4_copy_X4 6 rfl rfl 9 (by decide) rfl fw_X4_copy_54 rfl dX4_copy_120 ?_
      exact hJ123 (so 0 9) _ _ _  hP hD hS (lv_sub hl [0, 1, 2] rfl)
    · have f25 : ¬ v7.toInt = 0 := f_ne rfl (by decide) c25
      refine lv_bipush (v := (-9)) hx hb dX4_copy_114 (by decide) ?_
      refine lv_goto (tgt := 123) hx hb dX4_copy_116 (by decide) ?_
      have hlit26 : (-9 : Int32).toInt = -9 := by decide
      exact hJ123 (-9) _ _ _  hP hD hS (lv_sub hl [0, 1, 2] rfl)
  refine lv_if_eq (tgt := 100) hx hb dX4_copy_92 (by decide) (fun c27 => ?_) (fun c27 => ?_)
  · have f27 : v5.toInt = 0 := f_eq rfl (by decide) c27
    refine lv_aload_n hx hb dX4_copy_100 rfl (lv_at hl 1 rfl) ?_
    refine g_get cx hP iw_X4_copy_X4 6 rfl rfl 8 (by decide) rfl fw_X4_copy_51 rfl dX4_copy_101 ?_
    exact hJ104 (so 0 8) _ _ _  hP hD hS (lv_sub hl [0, 1, 2] rfl)
  · have f27 : ¬ v5.toInt = 0 := f_ne rfl (by decide) c27
    refine lv_bipush (v := (-9)) hx hb dX4_copy_95 (by decide) ?_
    refine lv_goto (tgt := 104) hx hb dX4_copy_97 (by decide) ?_
    have hlit28 : (-9 : Int32).toInt = -9 := by decide
    exact hJ104 (-9) _ _ _  hP hD hS (lv_sub hl [0, 1, 2] rfl)
theorem fw_X4_partsTo_26 : Cond.fieldLink RX4 26 "StillInAugust$House" "sundays" "[I" ∈ wsX4_partsTo := by decide +kernel
theorem iw_X4_partsTo_X4 : ∀ w ∈ u_ws RX4 TX4 14, w ∈ wsX4_partsTo := fun _ h => List.mem_cons_of_mem _ (List.mem_append_right _ h)
set_option maxHeartbeats 4000000 in
set_option maxRecDepth 100000 in
theorem c_X4_partsTo (l : Launch) (D : va_G) (k : Nat → ClassId) (b : Nat → Nat) (qh : Nat → Nat) (sh : Nat → Nat → Int32) (sz : Nat) (p0 : Int32) (p1 : Int32) (h_su : SUok (sh 5)) (hp0 : 0 ≤ p0.toInt ∧ p0.toInt ≤ 34) (hp1 : 0 ≤ p1.toInt ∧ p1.toInt ≤ 14) : MetI l D k b yX4_partsTo wsX4_partsTo ({ frames := 0, cells := 0, slots := 0, locals := 0 } : Room) [(qh 0, .inr (2, [.int (sh 0 0), .int (sh 0 1), .ref (qh 1), .ref (qh 2), .ref (qh 3), .ref (qh 4), .int (sh 0 6), .int (sh 0 7), .int (sh 0 8), .int (sh 0 9), .int (sh 0 10), .int (sh 0 11), .int (sh 0 12), .ref (qh 5)])), (qh 1, .inl (k 0, 5, .inl (sh 1))), (qh 2, .inl (k 0, 5, .inl (sh 2))), (qh 3, .inl (k 0, 3, .inl (sh 3))), (qh 4, .inl (k 0, 3, .inl (sh 4))), (qh 5, .inl (k 0, 525, .inl (sh 5)))] sz [.ref (qh 0), .int p0, .int p1] (fun (r : Int32) (u : Unit) => r = 0 ∨ totN p1.toNatClampNeg ≤ totN p0.toNatClampNeg) (fun u => [(qh 0, .inr (2, [.int (sh 0 0), .int (sh 0 1), .ref (qh 1), .ref (qh 2), .ref (qh 3), .ref (qh 4), .int (sh 0 6), .int (sh 0 7), .int (sh 0 8), .int (sh 0 9), .int (sh 0 10), .int (sh 0 11), .int (sh 0 12), .ref (qh 5)])), (qh 1, .inl (k 0, 5, .inl (sh 1))), (qh 2, .inl (k 0, 5, .inl (sh 2))), (qh 3, .inl (k 0, 3, .inl (sh 3))), (qh 4, .inl (k 0, 3, .inl (sh 4))), (qh 5, .inl (k 0, 525, .inl (sh 5)))]) := by
  refine g_enter (cc := cX4_partsTo) (maxL := 3) (ret := (some .int)) (by decide) rfl (Nat.le_of_ble_eq_true rfl) ?_
  intro p e s m below meth c A hsz hAe cx hr hP hD hS ls hl
  rw [hAe]
  refine g_q (fun Q hQ => ?_)
  have hx := cx.1.1
  have hb := cx.1.2.1
  have bp0 := i_rng p0
  have bp1 := i_rng p1
  have hl : lv_has ls 3 [(0, .ref (qh 0)), (1, .int p0), (2, .int p1)] := hl
  obtain ⟨H, eH⟩ : ∃ H : Heap, H = s.heap := ⟨_, rfl⟩
  obtain ⟨locs, el⟩ : ∃ L : List Loc, L = [] := ⟨_, rfl⟩
  have hP : va_P D vwCl [(qh 0, .inr (2, [.int (sh 0 0), .int (sh 0 1), .ref (qh 1), .ref (qh 2), .ref (qh 3), .ref (qh 4), .int (sh 0 6), .int (sh 0 7), .int (sh 0 8), .int (sh 0 9), .int (sh 0 10), .int (sh 0 11), .int (sh 0 12), .ref (qh 5)])), (qh 1, .inl (k 0, 5, .inl (sh 1))), (qh 2, .inl (k 0, 5, .inl (sh 2))), (qh 3, .inl (k 0, 3, .inl (sh 3))), (qh 4, .inl (k 0, 3, .inl (sh 4))), (qh 5, .inl (k 0, 525, .inl (sh 5)))] H := by rw [eH]; exact hP
  have hD : va_D A [(qh 0, .inr (2, [.int (sh 0 0), .int (sh 0 1), .ref (qh 1), .ref (qh 2), .ref (qh 3), .ref (qh 4), .int (sh 0 6), .int (sh 0 7), .int (sh 0 8), .int (sh 0 9), .int (sh 0 10), .int (sh 0 11), .int (sh 0 12), .ref (qh 5)])), (qh 1, .inl (k 0, 5, .inl (sh 1))), (qh 2, .inl (k 0, 5, .inl (sh 2))), (qh 3, .inl (k 0, 3, .inl (sh 3))), (qh 4, .inl (k 0, 3, .inl (sh 4))), (qh 5, .inl (k 0, 525, .inl (sh 5)))] := hD
  have hS : va_S A s.heap H locs := by rw [eH, el]; exact hS
  suffices goal : W p l e ({ frames := 0, cells := 0, slots := 0, locals := 0 } : Room) s m ([.ref (qh 0), .int p0, .int p1] : List Value).toArray below meth c H locs 0 0 Q (F0 m 0 ls []) by rw [eH, el] at goal; exact goal
  refine lv_aload_n hx hb dX4_partsTo_0 rfl (lv_at hl 0 rfl) ?_
  refine g_get cx hP iw_X4_partsTo_X4 0 rfl rfl 13 (by decide) rfl fw_X4_partsTo_26 rfl dX4_partsTo_1 ?_
  refine lv_iload_n hx hb dX4_partsTo_4 rfl (lv_at hl 1 rfl) ?_
  refine lv_bipush (v := 15) hx hb dX4_partsTo_5 (by decide) ?_
  refine lv_imul hx hb dX4_partsTo_7 (lv_topi (fun v1 e1 => ?_))
  have t1 : v1.toInt = p0.toInt * 15 := by rw [e1]; exact i_mul rfl (by decide) (by omega) (by omega)
  refine lv_iload_n hx hb dX4_partsTo_8 rfl (lv_at hl 2 rfl) ?_
  refine lv_iadd hx hb dX4_partsTo_9 (lv_topi (fun v2 e2 => ?_))
  have t2 : v2.toInt = v1.toInt + p1.toInt := by rw [e2]; exact i_add rfl rfl (by omega) (by omega)
  have hn3 : vp_in v2 525 := f_in (a := v2.toInt) rfl (by omega) (by omega)
  refine va_iald hx hb cx.2.1 hP 5 0 rfl rfl hn3 dX4_partsTo_10 (lv_topi (fun v4 e4 => ?_))
  have su0 := SU_get (k := p0) (b := p1) e4 h_su (by omega) ⟨by omega, by omega⟩ ⟨by omega, by omega⟩
  rw [hQ]
  exact x_i cx hr () hP hD hS (show v4 = 0 ∨ totN p1.toNatClampNeg ≤ totN p0.toNatClampNeg from su0) dX4_partsTo_11
theorem nd_X3_areAtMost : yX3_areAtMost.cls ≠ "java/lang/invoke/MethodHandle" ∧ yX3_areAtMost.cls ≠ "java/lang/invoke/VarHandle" ∧ (parseMethodDescriptor yX3_areAtMost.desc).map (fun d => d.parameters.length) = some 2 := by decide +kernel
theorem nd_X4_partsTo : yX4_partsTo.cls = RX4 ∧ yX4_partsTo.cls ≠ "java/lang/invoke/MethodHandle" ∧ yX4_partsTo.cls ≠ "java/lang/invoke/VarHandle" ∧ (parseMethodDescriptor yX4_partsTo.desc).map (fun d => d.parameters.length) = some 2 := by decide +kernel
set_option maxHeartbeats 4000000 in
set_option maxRecDepth 100000 in
theorem c_X4_becomes (l : Launch) (D : va_G) (k : Nat → ClassId) (b : Nat → Nat) (qh : Nat → Nat) (sh : Nat → Nat → Int32) (sz : Nat) (p0 : Int32) (p1 : Int32) (h_su : SUok (sh 5)) (hv : 0 ≤ p0.toInt ∧ p0.toInt ≤ 400 ∧ tot p0 ≤ 4) : MetI l D k b yX4_becomes wsX4_becomes ({ frames := 2, cells := 0, slots := 0, locals := 41 } : Room) [(qh 0, .inr (2, [.int (sh 0 0), .int (sh 0 1), .ref (qh 1), .ref (qh 2), .ref (qh 3), .ref (qh 4), .int (sh 0 6), .int (sh 0 7), .int (sh 0 8), .int (sh 0 9), .int (sh 0 10), .int (sh 0 11), .int (sh 0 12), .ref (qh 5)])), (qh 1, .inl (k 0, 5, .inl (sh 1))), (qh 2, .inl (k 0, 5, .inl (sh 2))), (qh 3, .inl (k 0, 3, .inl (sh 3))), (qh 4, .inl (k 0, 3, .inl (sh 4))), (qh 5, .inl (k 0, 525, .inl (sh 5)))] sz [.ref (qh 0), .int p0, .int p1] (fun (r : Int32) (u : Unit) => True) (fun u => [(qh 0, .inr (2, [.int (sh 0 0), .int (sh 0 1), .ref (qh 1), .ref (qh 2), .ref (qh 3), .ref (qh 4), .int (sh 0 6), .int (sh 0 7), .int (sh 0 8), .int (sh 0 9), .int (sh 0 10), .int (sh 0 11), .int (sh 0 12), .ref (qh 5)])), (qh 1, .inl (k 0, 5, .inl (sh 1))), (qh 2, .inl (k 0, 5, .inl (sh 2))), (qh 3, .inl (k 0, 3, .inl (sh 3))), (qh 4, .inl (k 0, 3, .inl (sh 4))), (qh 5, .inl (k 0, 525, .inl (sh 5)))]) := by
  refine g_enter (cc := cX4_becomes) (maxL := 3) (ret := (some .int)) (by decide) rfl (Nat.le_of_ble_eq_true rfl) ?_
  intro p e s m below meth c A hsz hAe cx hr hP hD hS ls hl
  rw [hAe]
  refine g_q (fun Q hQ => ?_)
  have hx := cx.1.1
  have hb := cx.1.2.1
  have bp0 := i_rng p0
  have bp1 := i_rng p1
  have hl : lv_has ls 3 [(0, .ref (qh 0)), (1, .int p0), (2, .int p1)] := hl
  obtain ⟨H, eH⟩ : ∃ H : Heap, H = s.heap := ⟨_, rfl⟩
  obtain ⟨locs, el⟩ : ∃ L : List Loc, L = [] := ⟨_, rfl⟩
  have hP : va_P D vwCl [(qh 0, .inr (2, [.int (sh 0 0), .int (sh 0 1), .ref (qh 1), .ref (qh 2), .ref (qh 3), .ref (qh 4), .int (sh 0 6), .int (sh 0 7), .int (sh 0 8), .int (sh 0 9), .int (sh 0 10), .int (sh 0 11), .int (sh 0 12), .ref (qh 5)])), (qh 1, .inl (k 0, 5, .inl (sh 1))), (qh 2, .inl (k 0, 5, .inl (sh 2))), (qh 3, .inl (k 0, 3, .inl (sh 3))), (qh 4, .inl (k 0, 3, .inl (sh 4))), (qh 5, .inl (k 0, 525, .inl (sh 5)))] H := by rw [eH]; exact hP
  have hD : va_D A [(qh 0, .inr (2, [.int (sh 0 0), .int (sh 0 1), .ref (qh 1), .ref (qh 2), .ref (qh 3), .ref (qh 4), .int (sh 0 6), .int (sh 0 7), .int (sh 0 8), .int (sh 0 9), .int (sh 0 10), .int (sh 0 11), .int (sh 0 12), .ref (qh 5)])), (qh 1, .inl (k 0, 5, .inl (sh 1))), (qh 2, .inl (k 0, 5, .inl (sh 2))), (qh 3, .inl (k 0, 3, .inl (sh 3))), (qh 4, .inl (k 0, 3, .inl (sh 4))), (qh 5, .inl (k 0, 525, .inl (sh 5)))] := hD
  have hS : va_S A s.heap H locs := by rw [eH, el]; exact hS
  suffices goal : W p l e ({ frames := 2, cells := 0, slots := 0, locals := 41 } : Room) s m ([.ref (qh 0), .int p0, .int p1] : List Value).toArray below meth c H locs 0 0 Q (F0 m 0 ls []) by rw [eH, el] at goal; exact goal
  refine lv_iload_n hx hb dX4_becomes_0 rfl (lv_at hl 2 rfl) ?_
  refine lv_iconst (v := 4) hx hb dX4_becomes_1 (by decide) ?_
  have hlit1 : (4 : Int32).toInt = 4 := by decide
  refine g_ir (g_runS (wc := []) (rest := []) cx hP hD hS [] rfl (by decide) [.int p1, .int 4] (c_X3_areAtMost l D k b H.size p1 4) gX4_becomes_X3_areAtMost rfl rfl rfl nd_X3_areAtMost ⟨Nat.le_of_ble_eq_true rfl, Nat.le_of_ble_eq_true rfl⟩ rfl hl.1 rfl (Nat.le_of_ble_eq_true rfl) ⟨Nat.zero_le _, Nat.zero_le _⟩ dX4_becomes_2) cx.2.2.1 hP hD hS [] rfl rfl (fun r3 H locs hw2 hP hS => ?_)
  have w4 : r3 = J_X3_areAtMost p1 (4 : Int32) := hw2
  clear hw2
  have hq4_ : (4 : Int32).toInt = 4 := by decide
  have zr3 := atm_b w4
  refine lv_if_eq (tgt := 14) hx hb dX4_becomes_5 (by decide) (fun c5 => ?_) (fun c5 => ?_)
  · have f5 : r3.toInt = 0 := f_eq rfl (by decide) c5
    refine lv_iconst (v := 0) hx hb dX4_becomes_14 (by decide) ?_
    have hlit6 : (0 : Int32).toInt = 0 := by decide
    rw [hQ]
    exact x_i cx hr () hP hD hS trivial dX4_becomes_15
  · have f5 : ¬ r3.toInt = 0 := f_ne rfl (by decide) c5
    have k5 : (0 ≤ p1.toInt ∧ p1.toInt ≤ 400 ∧ tot p1 ≤ 4) ∧ tot p1 ≤ (4 : Int32).toInt := atm_v w4 c5 (by decide)
    refine lv_iload_n hx hb dX4_becomes_8 rfl (lv_at hl 2 rfl) ?_
    refine lv_bipush (v := 100) hx hb dX4_becomes_9 (by decide) ?_
    refine lv_icmp_lt (tgt := 16) hx hb dX4_becomes_11 (by decide) (fun c7 => ?_) (fun c7 => ?_)
    · have f7 : p1.toInt < 100 := f_lt rfl (by decide) c7
      refine lv_aload_n hx hb dX4_becomes_16 rfl (lv_at hl 0 rfl) ?_
      refine lv_iload_n hx hb dX4_becomes_17 rfl (lv_at hl 1 rfl) ?_
      refine g_ir (g_runS (wc := []) (rest := [.ref (qh 0)]) cx hP hD hS [] rfl (by decide) [.int p0] (c_X3_kind l D k b H.size p0 ⟨by first | decide | omega, by first | decide | omega, (show tot p0 ≤ 4 from by first | decide | omega)⟩) gX4_becomes_X3_kind rfl rfl rfl nd_X3_kind ⟨Nat.le_of_ble_eq_true rfl, Nat.le_of_ble_eq_true rfl⟩ rfl hl.1 rfl (Nat.le_of_ble_eq_true rfl) ⟨Nat.zero_le _, Nat.zero_le _⟩ dX4_becomes_18) cx.2.2.1 hP hD hS [] rfl rfl (fun r9 H locs hw8 hP hS => ?_)
      have w10 : r9 = J_X3_kind p0 := hw8
      clear hw8
      have zr9 := kind_t w10 ⟨by first | decide | omega, by first | decide | omega, (show tot p0 ≤ 4 from by first | decide | omega)⟩
      refine lv_iload_n hx hb dX4_becomes_21 rfl (lv_at hl 2 rfl) ?_
      refine g_ir (g_runS (wc := []) (rest := [.int r9, .ref (qh 0)]) cx hP hD hS [] rfl (by decide) [.int p1] (c_X3_kind l D k b H.size p1 ⟨by first | decide | omega, by first | decide | omega, (show tot p1 ≤ 4 from by first | decide | omega)⟩) gX4_becomes_X3_kind rfl rfl rfl nd_X3_kind ⟨Nat.le_of_ble_eq_true rfl, Nat.le_of_ble_eq_true rfl⟩ rfl hl.1 rfl (Nat.le_of_ble_eq_true rfl) ⟨Nat.zero_le _, Nat.zero_le _⟩ dX4_becomes_22) cx.2.2.1 hP hD hS [] rfl rfl (fun r12 H locs hw11 hP hS => ?_)
      have w13 : r12 = J_X3_kind p1 := hw11
      clear hw11
      have zr12 := kind_t w13 ⟨by first | decide | omega, by first | decide | omega, (show tot p1 ≤ 4 from by first | decide | omega)⟩
      refine g_iF (w1 := fun (_ : Unit) => [(qh 0, .inr (2, [.int (sh 0 0), .int (sh 0 1), .ref (qh 1), .ref (qh 2), .ref (qh 3), .ref (qh 4), .int (sh 0 6), .int (sh 0 7), .int (sh 0 8), .int (sh 0 9), .int (sh 0 10), .int (sh 0 11), .int (sh 0 12), .ref (qh 5)])), (qh 1, .inl (k 0, 5, .inl (sh 1))), (qh 2, .inl (k 0, 5, .inl (sh 2))), (qh 3, .inl (k 0, 3, .inl (sh 3))), (qh 4, .inl (k 0, 3, .inl (sh 4))), (qh 5, .inl (k 0, 525, .inl (sh 5)))]) (g_runVF (ws := [(qh 0, .inr (2, [.int (sh 0 0), .int (sh 0 1), .ref (qh 1), .ref (qh 2), .ref (qh 3), .ref (qh 4), .int (sh 0 6), .int (sh 0 7), .int (sh 0 8), .int (sh 0 9), .int (sh 0 10), .int (sh 0 11), .int (sh 0 12), .ref (qh 5)])), (qh 1, .inl (k 0, 5, .inl (sh 1))), (qh 2, .inl (k 0, 5, .inl (sh 2))), (qh 3, .inl (k 0, 3, .inl (sh 3))), (qh 4, .inl (k 0, 3, .inl (sh 4))), (qh 5, .inl (k 0, 525, .inl (sh 5)))]) (rest := []) cx hP hD hS [.int r9, .int r12] (c_X4_partsTo l D k b qh sh H.size r9 r12 (show SUok (sh 5) from by assumption) (show 0 ≤ r9.toInt ∧ r9.toInt ≤ 34 from by first | decide | omega) (show 0 ≤ r12.toInt ∧ r12.toInt ≤ 14 from by first | decide | omega)) gX4_becomes_X4_partsTo rfl rfl rfl nd_X4_partsTo ⟨Nat.le_of_ble_eq_true rfl, Nat.le_of_ble_eq_true rfl⟩ (ci := 2) (q0 := 0) rfl rfl rfl hl.1 rfl (Nat.le_of_ble_eq_true rfl) ⟨Nat.zero_le _, Nat.zero_le _⟩ dX4_becomes_25) cx.2.2.1 hD hS (fun r15 _ H locs hw14 hP hD hS => ?_)
      have w16 : r15 = 0 ∨ totN r12.toNatClampNeg ≤ totN r9.toNatClampNeg := hw14
      clear hw14
      rw [hQ]
      exact x_i cx hr () hP hD hS trivial dX4_becomes_28
    · have f7 : 100 ≤ p1.toInt := f_nlt rfl (by decide) c7
      refine lv_iconst (v := 0) hx hb dX4_becomes_14 (by decide) ?_
      have hlit17 : (0 : Int32).toInt = 0 := by decide
      rw [hQ]
      exact x_i cx hr () hP hD hS trivial dX4_becomes_15
theorem fw_X4_mostComing_57 : Cond.fieldLink RX4 57 "StillInAugust$House" "agencyPrice" "I" ∈ wsX4_mostComing := by decide +kernel
theorem iw_X4_mostComing_X4 : ∀ w ∈ u_ws RX4 TX4 14, w ∈ wsX4_mostComing := fun _ h => List.mem_cons_of_mem _ (List.mem_append_right _ h)
set_option maxHeartbeats 4000000 in
set_option maxRecDepth 100000 in
theorem c_X4_mostComing (l : Launch) (D : va_G) (k : Nat → ClassId) (b : Nat → Nat) (qh : Nat → Nat) (sh : Nat → Nat → Int32) (sz : Nat) : MetI l D k b yX4_mostComing wsX4_mostComing ({ frames := 0, cells := 0, slots := 0, locals := 0 } : Room) [(qh 0, .inr (2, [.int (sh 0 0), .int (sh 0 1), .ref (qh 1), .ref (qh 2), .ref (qh 3), .ref (qh 4), .int (sh 0 6), .int (sh 0 7), .int (sh 0 8), .int (sh 0 9), .int (sh 0 10), .int (sh 0 11), .int (sh 0 12), .ref (qh 5)])), (qh 1, .inl (k 0, 5, .inl (sh 1))), (qh 2, .inl (k 0, 5, .inl (sh 2))), (qh 3, .inl (k 0, 3, .inl (sh 3))), (qh 4, .inl (k 0, 3, .inl (sh 4))), (qh 5, .inl (k 0, 525, .inl (sh 5)))] sz [.ref (qh 0)] (fun (r : Int32) (u : Unit) => r.toInt = 0 ∨ r.toInt = 2) (fun u => [(qh 0, .inr (2, [.int (sh 0 0), .int (sh 0 1), .ref (qh 1), .ref (qh 2), .ref (qh 3), .ref (qh 4), .int (sh 0 6), .int (sh 0 7), .int (sh 0 8), .int (sh 0 9), .int (sh 0 10), .int (sh 0 11), .int (sh 0 12), .ref (qh 5)])), (qh 1, .inl (k 0, 5, .inl (sh 1))), (qh 2, .inl (k 0, 5, .inl (sh 2))), (qh 3, .inl (k 0, 3, .inl (sh 3))), (qh 4, .inl (k 0, 3, .inl (sh 4))), (qh 5, .inl (k 0, 525, .inl (sh 5)))]) := by
  refine g_enter (cc := cX4_mostComing) (maxL := 1) (ret := (some .int)) (by decide) rfl (Nat.le_of_ble_eq_true rfl) ?_
  intro p e s m below meth c A hsz hAe cx hr hP hD hS ls hl
  rw [hAe]
  refine g_q (fun Q hQ => ?_)
  have hx := cx.1.1
  have hb := cx.1.2.1
  have hl : lv_has ls 1 [(0, .ref (qh 0))] := hl
  obtain ⟨H, eH⟩ : ∃ H : Heap, H = s.heap := ⟨_, rfl⟩
  obtain ⟨locs, el⟩ : ∃ L : List Loc, L = [] := ⟨_, rfl⟩
  have hP : va_P D vwCl [(qh 0, .inr (2, [.int (sh 0 0), .int (sh 0 1), .ref (qh 1), .ref (qh 2), .ref (qh 3), .ref (qh 4), .int (sh 0 6), .int (sh 0 7), .int (sh 0 8), .int (sh 0 9), .int (sh 0 10), .int (sh 0 11), .int (sh 0 12), .ref (qh 5)])), (qh 1, .inl (k 0, 5, .inl (sh 1))), (qh 2, .inl (k 0, 5, .inl (sh 2))), (qh 3, .inl (k 0, 3, .inl (sh 3))), (qh 4, .inl (k 0, 3, .inl (sh 4))), (qh 5, .inl (k 0, 525, .inl (sh 5)))] H := by rw [eH]; exact hP
  have hD : va_D A [(qh 0, .inr (2, [.int (sh 0 0), .int (sh 0 1), .ref (qh 1), .ref (qh 2), .ref (qh 3), .ref (qh 4), .int (sh 0 6), .int (sh 0 7), .int (sh 0 8), .int (sh 0 9), .int (sh 0 10), .int (sh 0 11), .int (sh 0 12), .ref (qh 5)])), (qh 1, .inl (k 0, 5, .inl (sh 1))), (qh 2, .inl (k 0, 5, .inl (sh 2))), (qh 3, .inl (k 0, 3, .inl (sh 3))), (qh 4, .inl (k 0, 3, .inl (sh 4))), (qh 5, .inl (k 0, 525, .inl (sh 5)))] := hD
  have hS : va_S A s.heap H locs := by rw [eH, el]; exact hS
  suffices goal : W p l e ({ frames := 0, cells := 0, slots := 0, locals := 0 } : Room) s m ([.ref (qh 0)] : List Value).toArray below meth c H locs 0 0 Q (F0 m 0 ls []) by rw [eH, el] at goal; exact goal
  refine lv_aload_n hx hb dX4_mostComing_0 rfl (lv_at hl 0 rfl) ?_
  refine g_get cx hP iw_X4_mostComing_X4 0 rfl rfl 10 (by decide) rfl fw_X4_mostComing_57 rfl dX4_mostComing_1 ?_
  refine lv_bipush (v := (-9)) hx hb dX4_mostComing_4 (by decide) ?_
  refine lv_icmp_ne (tgt := 13) hx hb dX4_mostComing_6 (by decide) (fun c1 => ?_) (fun c1 => ?_)
  · have f1 : ¬ (sh 0 10).toInt = (-9) := f_ne rfl (by decide) c1
    refine lv_iconst (v := 2) hx hb dX4_mostComing_13 (by decide) ?_
    have hlit2 : (2 : Int32).toInt = 2 := by decide
    rw [hQ]
    exact x_i cx hr () hP hD hS (show (2 : Int32).toInt = 0 ∨ (2 : Int32).toInt = 2 from by omega) dX4_mostComing_14
  · have f1 : (sh 0 10).toInt = (-9) := f_eq rfl (by decide) c1
    refine lv_iconst (v := 0) hx hb dX4_mostComing_9 (by decide) ?_
    refine lv_goto (tgt := 14) hx hb dX4_mostComing_10 (by decide) ?_
    have hlit3 : (0 : Int32).toInt = 0 := by decide
    rw [hQ]
    exact x_i cx hr () hP hD hS (show (0 : Int32).toInt = 0 ∨ (0 : Int32).toInt = 2 from by omega) dX4_mostComing_14
theorem fw_X4_mostOrdered_32 : Cond.fieldLink RX4 32 "StillInAugust$House" "weeks" "I" ∈ wsX4_mostOrdered := by decide +kernel
theorem nd_X4_mostComing : yX4_mostComing.cls = RX4 ∧ yX4_mostComing.cls ≠ "java/lang/invoke/MethodHandle" ∧ yX4_mostComing.cls ≠ "java/lang/invoke/VarHandle" ∧ (parseMethodDescriptor yX4_mostComing.desc).map (fun d => d.parameters.length) = some 0 := by decide +kernel
theorem iw_X4_mostOrdered_X4 : ∀ w ∈ u_ws RX4 TX4 14, w ∈ wsX4_mostOrdered := fun _ h => List.mem_cons_of_mem _ (List.mem_append_right _ h)
set_option maxHeartbeats 4000000 in
set_option maxRecDepth 100000 in
theorem c_X4_mostOrdered (l : Launch) (D : va_G) (k : Nat → ClassId) (b : Nat → Nat) (qh : Nat → Nat) (sh : Nat → Nat → Int32) (sz : Nat) (p0 : Int32) (h_wk : 0 ≤ (sh 0 0).toInt ∧ (sh 0 0).toInt ≤ 5) : MetI l D k b yX4_mostOrdered wsX4_mostOrdered ({ frames := 1, cells := 0, slots := 0, locals := 20 } : Room) [(qh 0, .inr (2, [.int (sh 0 0), .int (sh 0 1), .ref (qh 1), .ref (qh 2), .ref (qh 3), .ref (qh 4), .int (sh 0 6), .int (sh 0 7), .int (sh 0 8), .int (sh 0 9), .int (sh 0 10), .int (sh 0 11), .int (sh 0 12), .ref (qh 5)])), (qh 1, .inl (k 0, 5, .inl (sh 1))), (qh 2, .inl (k 0, 5, .inl (sh 2))), (qh 3, .inl (k 0, 3, .inl (sh 3))), (qh 4, .inl (k 0, 3, .inl (sh 4))), (qh 5, .inl (k 0, 525, .inl (sh 5)))] sz [.ref (qh 0), .int p0] (fun (r : Int32) (u : Unit) => 0 ≤ r.toInt ∧ r.toInt ≤ 2) (fun u => [(qh 0, .inr (2, [.int (sh 0 0), .int (sh 0 1), .ref (qh 1), .ref (qh 2), .ref (qh 3), .ref (qh 4), .int (sh 0 6), .int (sh 0 7), .int (sh 0 8), .int (sh 0 9), .int (sh 0 10), .int (sh 0 11), .int (sh 0 12), .ref (qh 5)])), (qh 1, .inl (k 0, 5, .inl (sh 1))), (qh 2, .inl (k 0, 5, .inl (sh 2))), (qh 3, .inl (k 0, 3, .inl (sh 3))), (qh 4, .inl (k 0, 3, .inl (sh 4))), (qh 5, .inl (k 0, 525, .inl (sh 5)))]) := by
  refine g_enter (cc := cX4_mostOrdered) (maxL := 2) (ret := (some .int)) (by decide) rfl (Nat.le_of_ble_eq_true rfl) ?_
  intro p e s m below meth c A hsz hAe cx hr hP hD hS ls hl
  rw [hAe]
  refine g_q (fun Q hQ => ?_)
  have hx := cx.1.1
  have hb := cx.1.2.1
  have bp0 := i_rng p0
  have hl : lv_has ls 2 [(0, .ref (qh 0)), (1, .int p0)] := hl
  obtain ⟨H, eH⟩ : ∃ H : Heap, H = s.heap := ⟨_, rfl⟩
  obtain ⟨locs, el⟩ : ∃ L : List Loc, L = [] := ⟨_, rfl⟩
  have hP : va_P D vwCl [(qh 0, .inr (2, [.int (sh 0 0), .int (sh 0 1), .ref (qh 1), .ref (qh 2), .ref (qh 3), .ref (qh 4), .int (sh 0 6), .int (sh 0 7), .int (sh 0 8), .int (sh 0 9), .int (sh 0 10), .int (sh 0 11), .int (sh 0 12), .ref (qh 5)])), (qh 1, .inl (k 0, 5, .inl (sh 1))), (qh 2, .inl (k 0, 5, .inl (sh 2))), (qh 3, .inl (k 0, 3, .inl (sh 3))), (qh 4, .inl (k 0, 3, .inl (sh 4))), (qh 5, .inl (k 0, 525, .inl (sh 5)))] H := by rw [eH]; exact hP
  have hD : va_D A [(qh 0, .inr (2, [.int (sh 0 0), .int (sh 0 1), .ref (qh 1), .ref (qh 2), .ref (qh 3), .ref (qh 4), .int (sh 0 6), .int (sh 0 7), .int (sh 0 8), .int (sh 0 9), .int (sh 0 10), .int (sh 0 11), .int (sh 0 12), .ref (qh 5)])), (qh 1, .inl (k 0, 5, .inl (sh 1))), (qh 2, .inl (k 0, 5, .inl (sh 2))), (qh 3, .inl (k 0, 3, .inl (sh 3))), (qh 4, .inl (k 0, 3, .inl (sh 4))), (qh 5, .inl (k 0, 525, .inl (sh 5)))] := hD
  have hS : va_S A s.heap H locs := by rw [eH, el]; exact hS
  suffices goal : W p l e ({ frames := 1, cells := 0, slots := 0, locals := 20 } : Room) s m ([.ref (qh 0), .int p0] : List Value).toArray below meth c H locs 0 0 Q (F0 m 0 ls []) by rw [eH, el] at goal; exact goal
  refine lv_iload_n hx hb dX4_mostOrdered_0 rfl (lv_at hl 1 rfl) ?_
  refine lv_aload_n hx hb dX4_mostOrdered_1 rfl (lv_at hl 0 rfl) ?_
  refine g_get cx hP iw_X4_mostOrdered_X4 0 rfl rfl 0 (by decide) rfl fw_X4_mostOrdered_32 rfl dX4_mostOrdered_2 ?_
  refine lv_iconst (v := 1) hx hb dX4_mostOrdered_5 (by decide) ?_
  refine lv_isub hx hb dX4_mostOrdered_6 (lv_topi (fun v1 e1 => ?_))
  have t1 : v1.toInt = (sh 0 0).toInt - 1 := by rw [e1]; exact i_sub rfl (by decide) (by omega) (by omega)
  refine lv_icmp_ne (tgt := 14) hx hb dX4_mostOrdered_7 (by decide) (fun c2 => ?_) (fun c2 => ?_)
  · have f2 : ¬ p0.toInt = v1.toInt := f_ne rfl rfl c2
    refine lv_aload_n hx hb dX4_mostOrdered_14 rfl (lv_at hl 0 rfl) ?_
    refine g_iF (w1 := fun (_ : Unit) => [(qh 0, .inr (2, [.int (sh 0 0), .int (sh 0 1), .ref (qh 1), .ref (qh 2), .ref (qh 3), .ref (qh 4), .int (sh 0 6), .int (sh 0 7), .int (sh 0 8), .int (sh 0 9), .int (sh 0 10), .int (sh 0 11), .int (sh 0 12), .ref (qh 5)])), (qh 1, .inl (k 0, 5, .inl (sh 1))), (qh 2, .inl (k 0, 5, .inl (sh 2))), (qh 3, .inl (k 0, 3, .inl (sh 3))), (qh 4, .inl (k 0, 3, .inl (sh 4))), (qh 5, .inl (k 0, 525, .inl (sh 5)))]) (g_runVF (ws := [(qh 0, .inr (2, [.int (sh 0 0), .int (sh 0 1), .ref (qh 1), .ref (qh 2), .ref (qh 3), .ref (qh 4), .int (sh 0 6), .int (sh 0 7), .int (sh 0 8), .int (sh 0 9), .int (sh 0 10), .int (sh 0 11), .int (sh 0 12), .ref (qh 5)])), (qh 1, .inl (k 0, 5, .inl (sh 1))), (qh 2, .inl (k 0, 5, .inl (sh 2))), (qh 3, .inl (k 0, 3, .inl (sh 3))), (qh 4, .inl (k 0, 3, .inl (sh 4))), (qh 5, .inl (k 0, 525, .inl (sh 5)))]) (rest := []) cx hP hD hS [] (c_X4_mostComing l D k b qh sh H.size) gX4_mostOrdered_X4_mostComing rfl rfl rfl nd_X4_mostComing ⟨Nat.le_of_ble_eq_true rfl, Nat.le_of_ble_eq_true rfl⟩ (ci := 2) (q0 := 0) rfl rfl rfl hl.1 rfl (Nat.le_of_ble_eq_true rfl) ⟨Nat.zero_le _, Nat.zero_le _⟩ dX4_mostOrdered_15) cx.2.2.1 hD hS (fun r4 _ H locs hw3 hP hD hS => ?_)
    have w5 : r4.toInt = 0 ∨ r4.toInt = 2 := hw3
    clear hw3
    rw [hQ]
    exact x_i cx hr () hP hD hS (show 0 ≤ r4.toInt ∧ r4.toInt ≤ 2 from by omega) dX4_mostOrdered_18
  · have f2 : p0.toInt = v1.toInt := f_eq rfl rfl c2
    refine lv_iconst (v := 0) hx hb dX4_mostOrdered_10 (by decide) ?_
    refine lv_goto (tgt := 18) hx hb dX4_mostOrdered_11 (by decide) ?_
    have hlit6 : (0 : Int32).toInt = 0 := by decide
    rw [hQ]
    exact x_i cx hr () hP hD hS (show 0 ≤ (0 : Int32).toInt ∧ (0 : Int32).toInt ≤ 2 from by omega) dX4_mostOrdered_18
theorem fw_X4_mostLetGo_51 : Cond.fieldLink RX4 51 "StillInAugust$House" "letGoPrice" "I" ∈ wsX4_mostLetGo := by decide +kernel
theorem iw_X4_mostLetGo_X4 : ∀ w ∈ u_ws RX4 TX4 14, w ∈ wsX4_mostLetGo := fun _ h => List.mem_cons_of_mem _ (List.mem_append_right _ h)
set_option maxHeartbeats 4000000 in
set_option maxRecDepth 100000 in
theorem c_X4_mostLetGo (l : Launch) (D : va_G) (k : Nat → ClassId) (b : Nat → Nat) (qh : Nat → Nat) (sh : Nat → Nat → Int32) (sz : Nat) (p0 : Int32) (hv : 0 ≤ p0.toInt ∧ p0.toInt ≤ 400 ∧ tot p0 ≤ 4) : MetI l D k b yX4_mostLetGo wsX4_mostLetGo ({ frames := 1, cells := 0, slots := 0, locals := 20 } : Room) [(qh 0, .inr (2, [.int (sh 0 0), .int (sh 0 1), .ref (qh 1), .ref (qh 2), .ref (qh 3), .ref (qh 4), .int (sh 0 6), .int (sh 0 7), .int (sh 0 8), .int (sh 0 9), .int (sh 0 10), .int (sh 0 11), .int (sh 0 12), .ref (qh 5)])), (qh 1, .inl (k 0, 5, .inl (sh 1))), (qh 2, .inl (k 0, 5, .inl (sh 2))), (qh 3, .inl (k 0, 3, .inl (sh 3))), (qh 4, .inl (k 0, 3, .inl (sh 4))), (qh 5, .inl (k 0, 525, .inl (sh 5)))] sz [.ref (qh 0), .int p0] (fun (r : Int32) (u : Unit) => 0 ≤ r.toInt ∧ r.toInt ≤ tot p0) (fun u => [(qh 0, .inr (2, [.int (sh 0 0), .int (sh 0 1), .ref (qh 1), .ref (qh 2), .ref (qh 3), .ref (qh 4), .int (sh 0 6), .int (sh 0 7), .int (sh 0 8), .int (sh 0 9), .int (sh 0 10), .int (sh 0 11), .int (sh 0 12), .ref (qh 5)])), (qh 1, .inl (k 0, 5, .inl (sh 1))), (qh 2, .inl (k 0, 5, .inl (sh 2))), (qh 3, .inl (k 0, 3, .inl (sh 3))), (qh 4, .inl (k 0, 3, .inl (sh 4))), (qh 5, .inl (k 0, 525, .inl (sh 5)))]) := by
  refine g_enter (cc := cX4_mostLetGo) (maxL := 2) (ret := (some .int)) (by decide) rfl (Nat.le_of_ble_eq_true rfl) ?_
  intro p e s m below meth c A hsz hAe cx hr hP hD hS ls hl
  rw [hAe]
  refine g_q (fun Q hQ => ?_)
  have hx := cx.1.1
  have hb := cx.1.2.1
  have bp0 := i_rng p0
  have hl : lv_has ls 2 [(0, .ref (qh 0)), (1, .int p0)] := hl
  obtain ⟨H, eH⟩ : ∃ H : Heap, H = s.heap := ⟨_, rfl⟩
  obtain ⟨locs, el⟩ : ∃ L : List Loc, L = [] := ⟨_, rfl⟩
  have hP : va_P D vwCl [(qh 0, .inr (2, [.int (sh 0 0), .int (sh 0 1), .ref (qh 1), .ref (qh 2), .ref (qh 3), .ref (qh 4), .int (sh 0 6), .int (sh 0 7), .int (sh 0 8), .int (sh 0 9), .int (sh 0 10), .int (sh 0 11), .int (sh 0 12), .ref (qh 5)])), (qh 1, .inl (k 0, 5, .inl (sh 1))), (qh 2, .inl (k 0, 5, .inl (sh 2))), (qh 3, .inl (k 0, 3, .inl (sh 3))), (qh 4, .inl (k 0, 3, .inl (sh 4))), (qh 5, .inl (k 0, 525, .inl (sh 5)))] H := by rw [eH]; exact hP
  have hD : va_D A [(qh 0, .inr (2, [.int (sh 0 0), .int (sh 0 1), .ref (qh 1), .ref (qh 2), .ref (qh 3), .ref (qh 4), .int (sh 0 6), .int (sh 0 7), .int (sh 0 8), .int (sh 0 9), .int (sh 0 10), .int (sh 0 11), .int (sh 0 12), .ref (qh 5)])), (qh 1, .inl (k 0, 5, .inl (sh 1))), (qh 2, .inl (k 0, 5, .inl (sh 2))), (qh 3, .inl (k 0, 3, .inl (sh 3))), (qh 4, .inl (k 0, 3, .inl (sh 4))), (qh 5, .inl (k 0, 525, .inl (sh 5)))] := hD
  have hS : va_S A s.heap H locs := by rw [eH, el]; exact hS
  suffices goal : W p l e ({ frames := 1, cells := 0, slots := 0, locals := 20 } : Room) s m ([.ref (qh 0), .int p0] : List Value).toArray below meth c H locs 0 0 Q (F0 m 0 ls []) by rw [eH, el] at goal; exact goal
  have y0 := tot_0 (x := p0) hv.1
  refine lv_aload_n hx hb dX4_mostLetGo_0 rfl (lv_at hl 0 rfl) ?_
  refine g_get cx hP iw_X4_mostLetGo_X4 0 rfl rfl 8 (by decide) rfl fw_X4_mostLetGo_51 rfl dX4_mostLetGo_1 ?_
  refine lv_bipush (v := (-9)) hx hb dX4_mostLetGo_4 (by decide) ?_
  refine lv_icmp_ne (tgt := 13) hx hb dX4_mostLetGo_6 (by decide) (fun c1 => ?_) (fun c1 => ?_)
  · have f1 : ¬ (sh 0 8).toInt = (-9) := f_ne rfl (by decide) c1
    refine lv_iload_n hx hb dX4_mostLetGo_13 rfl (lv_at hl 1 rfl) ?_
    refine g_ir (g_runS (wc := []) (rest := []) cx hP hD hS [] rfl (by decide) [.int p0] (c_X3_total l D k b H.size p0) gX4_mostLetGo_X3_total rfl rfl rfl nd_X3_total ⟨Nat.le_of_ble_eq_true rfl, Nat.le_of_ble_eq_true rfl⟩ rfl hl.1 rfl (Nat.le_of_ble_eq_true rfl) ⟨Nat.zero_le _, Nat.zero_le _⟩ dX4_mostLetGo_14) cx.2.2.1 hP hD hS [] rfl rfl (fun r3 H locs hw2 hP hS => ?_)
    have w4 : r3 = J_X3_total p0 := hw2
    clear hw2
    have zr3 : r3.toInt = tot p0 := tot3 w4 (show 0 ≤ p0.toInt from by first | decide | omega)
    have yr3 := tot_0 (x := p0) (by first | decide | omega)
    rw [hQ]
    exact x_i cx hr () hP hD hS (show 0 ≤ r3.toInt ∧ r3.toInt ≤ tot p0 from by omega) dX4_mostLetGo_17
  · have f1 : (sh 0 8).toInt = (-9) := f_eq rfl (by decide) c1
    refine lv_iconst (v := 0) hx hb dX4_mostLetGo_9 (by decide) ?_
    refine lv_goto (tgt := 17) hx hb dX4_mostLetGo_10 (by decide) ?_
    have hlit5 : (0 : Int32).toInt = 0 := by decide
    rw [hQ]
    exact x_i cx hr () hP hD hS (show 0 ≤ (0 : Int32).toInt ∧ (0 : Int32).toInt ≤ tot p0 from by omega) dX4_mostLetGo_17
theorem mw_X4_mostTaken_minL127 : Cond.methodLink RX4 127 Lib.Math.min.name ∈ wsX4_mostTaken := by decide +kernel
theorem mw_X4_mostTaken_minS : Cond.static Lib.Math.min.name ∈ wsX4_mostTaken := by decide +kernel
theorem mw_X4_mostTaken_minI : Cond.initialized "java/lang/Math" ∈ wsX4_mostTaken := by decide +kernel
theorem mw_X4_mostTaken_minC : Cond.code Lib.Math.min.name Lib.Math.min.code 2 (some .int) ∈ wsX4_mostTaken := by decide +kernel
theorem fw_X4_mostTaken_15 : Cond.fieldLink RX4 15 "StillInAugust$House" "offers" "[I" ∈ wsX4_mostTaken := by decide +kernel
theorem fw_X4_mostTaken_36 : Cond.fieldLink RX4 36 "StillInAugust$House" "hooks" "I" ∈ wsX4_mostTaken := by decide +kernel
theorem iw_X4_mostTaken_X4 : ∀ w ∈ u_ws RX4 TX4 14, w ∈ wsX4_mostTaken := fun _ h => List.mem_cons_of_mem _ (List.mem_append_right _ h)
set_option maxHeartbeats 4000000 in
set_option maxRecDepth 100000 in
theorem c_X4_mostTaken (l : Launch) (D : va_G) (k : Nat → ClassId) (b : Nat → Nat) (qh : Nat → Nat) (sh : Nat → Nat → Int32) (sz : Nat) (p0 : Int32) (p1 : Int32) (h_hk : 0 ≤ (sh 0 1).toInt ∧ (sh 0 1).toInt ≤ 4) (h_of : ∀ j, 0 ≤ (sh 2 j).toInt ∧ (sh 2 j).toInt ≤ 4) (hv : 0 ≤ p1.toInt ∧ p1.toInt ≤ 400 ∧ tot p1 ≤ 4) (hp0 : 0 ≤ p0.toInt ∧ p0.toInt ≤ 4) : MetI l D k b yX4_mostTaken wsX4_mostTaken ({ frames := 1, cells := 0, slots := 0, locals := 21 } : Room) [(qh 0, .inr (2, [.int (sh 0 0), .int (sh 0 1), .ref (qh 1), .ref (qh 2), .ref (qh 3), .ref (qh 4), .int (sh 0 6), .int (sh 0 7), .int (sh 0 8), .int (sh 0 9), .int (sh 0 10), .int (sh 0 11), .int (sh 0 12), .ref (qh 5)])), (qh 1, .inl (k 0, 5, .inl (sh 1))), (qh 2, .inl (k 0, 5, .inl (sh 2))), (qh 3, .inl (k 0, 3, .inl (sh 3))), (qh 4, .inl (k 0, 3, .inl (sh 4))), (qh 5, .inl (k 0, 525, .inl (sh 5)))] sz [.ref (qh 0), .int p0, .int p1] (fun (r : Int32) (u : Unit) => (-4 ≤ r.toInt ∧ r.toInt ≤ 4 ∧ r.toInt ≤ (sh 0 1).toInt - (tot p1)) ∧ ((sh 0 1).toInt < tot p1 ∨ 0 ≤ r.toInt)) (fun u => [(qh 0, .inr (2, [.int (sh 0 0), .int (sh 0 1), .ref (qh 1), .ref (qh 2), .ref (qh 3), .ref (qh 4), .int (sh 0 6), .int (sh 0 7), .int (sh 0 8), .int (sh 0 9), .int (sh 0 10), .int (sh 0 11), .int (sh 0 12), .ref (qh 5)])), (qh 1, .inl (k 0, 5, .inl (sh 1))), (qh 2, .inl (k 0, 5, .inl (sh 2))), (qh 3, .inl (k 0, 3, .inl (sh 3))), (qh 4, .inl (k 0, 3, .inl (sh 4))), (qh 5, .inl (k 0, 525, .inl (sh 5)))]) := by
  refine g_enter (cc := cX4_mostTaken) (maxL := 3) (ret := (some .int)) (by decide) rfl (Nat.le_of_ble_eq_true rfl) ?_
  intro p e s m below meth c A hsz hAe cx hr hP hD hS ls hl
  rw [hAe]
  refine g_q (fun Q hQ => ?_)
  have hx := cx.1.1
  have hb := cx.1.2.1
  have bp0 := i_rng p0
  have bp1 := i_rng p1
  have hl : lv_has ls 3 [(0, .ref (qh 0)), (1, .int p0), (2, .int p1)] := hl
  obtain ⟨H, eH⟩ : ∃ H : Heap, H = s.heap := ⟨_, rfl⟩
  obtain ⟨locs, el⟩ : ∃ L : List Loc, L = [] := ⟨_, rfl⟩
  have hP : va_P D vwCl [(qh 0, .inr (2, [.int (sh 0 0), .int (sh 0 1), .ref (qh 1), .ref (qh 2), .ref (qh 3), .ref (qh 4), .int (sh 0 6), .int (sh 0 7), .int (sh 0 8), .int (sh 0 9), .int (sh 0 10), .int (sh 0 11), .int (sh 0 12), .ref (qh 5)])), (qh 1, .inl (k 0, 5, .inl (sh 1))), (qh 2, .inl (k 0, 5, .inl (sh 2))), (qh 3, .inl (k 0, 3, .inl (sh 3))), (qh 4, .inl (k 0, 3, .inl (sh 4))), (qh 5, .inl (k 0, 525, .inl (sh 5)))] H := by rw [eH]; exact hP
  have hD : va_D A [(qh 0, .inr (2, [.int (sh 0 0), .int (sh 0 1), .ref (qh 1), .ref (qh 2), .ref (qh 3), .ref (qh 4), .int (sh 0 6), .int (sh 0 7), .int (sh 0 8), .int (sh 0 9), .int (sh 0 10), .int (sh 0 11), .int (sh 0 12), .ref (qh 5)])), (qh 1, .inl (k 0, 5, .inl (sh 1))), (qh 2, .inl (k 0, 5, .inl (sh 2))), (qh 3, .inl (k 0, 3, .inl (sh 3))), (qh 4, .inl (k 0, 3, .inl (sh 4))), (qh 5, .inl (k 0, 525, .inl (sh 5)))] := hD
  have hS : va_S A s.heap H locs := by rw [eH, el]; exact hS
  suffices goal : W p l e ({ frames := 1, cells := 0, slots := 0, locals := 21 } : Room) s m ([.ref (qh 0), .int p0, .int p1] : List Value).toArray below meth c H locs 0 0 Q (F0 m 0 ls []) by rw [eH, el] at goal; exact goal
  refine lv_aload_n hx hb dX4_mostTaken_0 rfl (lv_at hl 0 rfl) ?_
  refine g_get cx hP iw_X4_mostTaken_X4 0 rfl rfl 3 (by decide) rfl fw_X4_mostTaken_15 rfl dX4_mostTaken_1 ?_
  refine lv_iload_n hx hb dX4_mostTaken_4 rfl (lv_at hl 1 rfl) ?_
  have hn1 : vp_in p0 5 := f_in (a := p0.toInt) rfl (by omega) (by omega)
  refine va_iald hx hb cx.2.1 hP 2 0 rfl rfl hn1 dX4_mostTaken_5 (lv_topi (fun v2 e2 => ?_))
  have t2 : 0 ≤ v2.toInt ∧ v2.toInt ≤ 4 := by rw [e2]; exact h_of _
  refine lv_aload_n hx hb dX4_mostTaken_6 rfl (lv_at hl 0 rfl) ?_
  refine g_get cx hP iw_X4_mostTaken_X4 0 rfl rfl 1 (by decide) rfl fw_X4_mostTaken_36 rfl dX4_mostTaken_7 ?_
  refine lv_iload_n hx hb dX4_mostTaken_10 rfl (lv_at hl 2 rfl) ?_
  refine g_ir (g_runS (wc := []) (rest := [.int (sh 0 1), .int v2]) cx hP hD hS [] rfl (by decide) [.int p1] (c_X3_total l D k b H.size p1) gX4_mostTaken_X3_total rfl rfl rfl nd_X3_total ⟨Nat.le_of_ble_eq_true rfl, Nat.le_of_ble_eq_true rfl⟩ rfl hl.1 rfl (Nat.le_of_ble_eq_true rfl) ⟨Nat.zero_le _, Nat.zero_le _⟩ dX4_mostTaken_11) cx.2.2.1 hP hD hS [] rfl rfl (fun r4 H locs hw3 hP hS => ?_)
  have w5 : r4 = J_X3_total p1 := hw3
  clear hw3
  have zr4 : r4.toInt = tot p1 := tot3 w5 (show 0 ≤ p1.toInt from by first | decide | omega)
  have yr4 := tot_0 (x := p1) (by first | decide | omega)
  refine lv_isub hx hb dX4_mostTaken_14 (lv_topi (fun v6 e6 => ?_))
  have t6 : v6.toInt = (sh 0 1).toInt - r4.toInt := by rw [e6]; exact i_sub rfl rfl (by omega) (by omega)
  refine va_mmin hx hb (cx.1.2.2.1.trans hl.1.symm) cx.1.2.2.2.1 (cx.1.2.2.2.2 _ mw_X4_mostTaken_minL127) (cx.1.2.2.2.2 _ mw_X4_mostTaken_minS) (cx.1.2.2.2.2 _ mw_X4_mostTaken_minI) (cx.1.2.2.2.2 _ mw_X4_mostTaken_minC) (Nat.le_of_ble_eq_true rfl) (Nat.le_of_ble_eq_true rfl) (Nat.zero_le _) (Nat.zero_le _) dX4_mostTaken_15 (lv_topi (fun v7 e7 => ?_))
  have t7 := i_min rfl rfl (a := v2.toInt) (b := v6.toInt) e7
  rw [hQ]
  exact x_i cx hr () hP hD hS ⟨(show -4 ≤ v7.toInt ∧ v7.toInt ≤ 4 ∧ v7.toInt ≤ (sh 0 1).toInt - (tot p1) from by omega), (show (sh 0 1).toInt < tot p1 ∨ 0 ≤ v7.toInt from by omega)⟩ dX4_mostTaken_18
theorem fw_X4_mostTaught_54 : Cond.fieldLink RX4 54 "StillInAugust$House" "teachPrice" "I" ∈ wsX4_mostTaught := by decide +kernel
theorem iw_X4_mostTaught_X4 : ∀ w ∈ u_ws RX4 TX4 14, w ∈ wsX4_mostTaught := fun _ h => List.mem_cons_of_mem _ (List.mem_append_right _ h)
set_option maxHeartbeats 4000000 in
set_option maxRecDepth 100000 in
theorem c_X4_mostTaught (l : Launch) (D : va_G) (k : Nat → ClassId) (b : Nat → Nat) (qh : Nat → Nat) (sh : Nat → Nat → Int32) (sz : Nat) (p0 : Int32) (hp0 : 0 ≤ p0.toInt ∧ p0.toInt ≤ 9999) : MetI l D k b yX4_mostTaught wsX4_mostTaught ({ frames := 1, cells := 0, slots := 0, locals := 21 } : Room) [(qh 0, .inr (2, [.int (sh 0 0), .int (sh 0 1), .ref (qh 1), .ref (qh 2), .ref (qh 3), .ref (qh 4), .int (sh 0 6), .int (sh 0 7), .int (sh 0 8), .int (sh 0 9), .int (sh 0 10), .int (sh 0 11), .int (sh 0 12), .ref (qh 5)])), (qh 1, .inl (k 0, 5, .inl (sh 1))), (qh 2, .inl (k 0, 5, .inl (sh 2))), (qh 3, .inl (k 0, 3, .inl (sh 3))), (qh 4, .inl (k 0, 3, .inl (sh 4))), (qh 5, .inl (k 0, 525, .inl (sh 5)))] sz [.ref (qh 0), .int p0] (fun (r : Int32) (u : Unit) => r.toInt = 0 ∨ (r.toInt = 1 ∧ 0 < p0.toInt / 100)) (fun u => [(qh 0, .inr (2, [.int (sh 0 0), .int (sh 0 1), .ref (qh 1), .ref (qh 2), .ref (qh 3), .ref (qh 4), .int (sh 0 6), .int (sh 0 7), .int (sh 0 8), .int (sh 0 9), .int (sh 0 10), .int (sh 0 11), .int (sh 0 12), .ref (qh 5)])), (qh 1, .inl (k 0, 5, .inl (sh 1))), (qh 2, .inl (k 0, 5, .inl (sh 2))), (qh 3, .inl (k 0, 3, .inl (sh 3))), (qh 4, .inl (k 0, 3, .inl (sh 4))), (qh 5, .inl (k 0, 525, .inl (sh 5)))]) := by
  refine g_enter (cc := cX4_mostTaught) (maxL := 2) (ret := (some .int)) (by decide) rfl (Nat.le_of_ble_eq_true rfl) ?_
  intro p e s m below meth c A hsz hAe cx hr hP hD hS ls hl
  rw [hAe]
  refine g_q (fun Q hQ => ?_)
  have hx := cx.1.1
  have hb := cx.1.2.1
  have bp0 := i_rng p0
  have hl : lv_has ls 2 [(0, .ref (qh 0)), (1, .int p0)] := hl
  obtain ⟨H, eH⟩ : ∃ H : Heap, H = s.heap := ⟨_, rfl⟩
  obtain ⟨locs, el⟩ : ∃ L : List Loc, L = [] := ⟨_, rfl⟩
  have hP : va_P D vwCl [(qh 0, .inr (2, [.int (sh 0 0), .int (sh 0 1), .ref (qh 1), .ref (qh 2), .ref (qh 3), .ref (qh 4), .int (sh 0 6), .int (sh 0 7), .int (sh 0 8), .int (sh 0 9), .int (sh 0 10), .int (sh 0 11), .int (sh 0 12), .ref (qh 5)])), (qh 1, .inl (k 0, 5, .inl (sh 1))), (qh 2, .inl (k 0, 5, .inl (sh 2))), (qh 3, .inl (k 0, 3, .inl (sh 3))), (qh 4, .inl (k 0, 3, .inl (sh 4))), (qh 5, .inl (k 0, 525, .inl (sh 5)))] H := by rw [eH]; exact hP
  have hD : va_D A [(qh 0, .inr (2, [.int (sh 0 0), .int (sh 0 1), .ref (qh 1), .ref (qh 2), .ref (qh 3), .ref (qh 4), .int (sh 0 6), .int (sh 0 7), .int (sh 0 8), .int (sh 0 9), .int (sh 0 10), .int (sh 0 11), .int (sh 0 12), .ref (qh 5)])), (qh 1, .inl (k 0, 5, .inl (sh 1))), (qh 2, .inl (k 0, 5, .inl (sh 2))), (qh 3, .inl (k 0, 3, .inl (sh 3))), (qh 4, .inl (k 0, 3, .inl (sh 4))), (qh 5, .inl (k 0, 525, .inl (sh 5)))] := hD
  have hS : va_S A s.heap H locs := by rw [eH, el]; exact hS
  suffices goal : W p l e ({ frames := 1, cells := 0, slots := 0, locals := 21 } : Room) s m ([.ref (qh 0), .int p0] : List Value).toArray below meth c H locs 0 0 Q (F0 m 0 ls []) by rw [eH, el] at goal; exact goal
  refine lv_aload_n hx hb dX4_mostTaught_0 rfl (lv_at hl 0 rfl) ?_
  refine g_get cx hP iw_X4_mostTaught_X4 0 rfl rfl 9 (by decide) rfl fw_X4_mostTaught_54 rfl dX4_mostTaught_1 ?_
  refine lv_bipush (v := (-9)) hx hb dX4_mostTaught_4 (by decide) ?_
  refine lv_icmp_eq (tgt := 29) hx hb dX4_mostTaught_6 (by decide) (fun c1 => ?_) (fun c1 => ?_)
  · have f1 : (sh 0 9).toInt = (-9) := f_eq rfl (by decide) c1
    refine lv_iconst (v := 0) hx hb dX4_mostTaught_29 (by decide) ?_
    have hlit2 : (0 : Int32).toInt = 0 := by decide
    rw [hQ]
    exact x_i cx hr () hP hD hS (show (0 : Int32).toInt = 0 ∨ ((0 : Int32).toInt = 1 ∧ 0 < p0.toInt / 100) from by omega) dX4_mostTaught_30
  · have f1 : ¬ (sh 0 9).toInt = (-9) := f_ne rfl (by decide) c1
    refine lv_iload_n hx hb dX4_mostTaught_9 rfl (lv_at hl 1 rfl) ?_
    refine lv_iconst (v := 0) hx hb dX4_mostTaught_10 (by decide) ?_
    have hlit3 : (0 : Int32).toInt = 0 := by decide
    refine g_ir (g_runS (wc := []) (rest := []) cx hP hD hS [] rfl (by decide) [.int p0, .int 0] (c_X3_ofAge l D k b H.size p0 0) gX4_mostTaught_X3_ofAge rfl rfl rfl nd_X3_ofAge ⟨Nat.le_of_ble_eq_true rfl, Nat.le_of_ble_eq_true rfl⟩ rfl hl.1 rfl (Nat.le_of_ble_eq_true rfl) ⟨Nat.zero_le _, Nat.zero_le _⟩ dX4_mostTaught_11) cx.2.2.1 hP hD hS [] rfl rfl (fun r5 H locs hw4 hP hS => ?_)
    have w6 : r5 = J_X3_ofAge p0 (0 : Int32) := hw4
    clear hw4
    have zr5 : r5.toInt = p0.toInt / 100 := (agep w6 (by omega)).1 (by decide)
    refine lv_if_le (tgt := 29) hx hb dX4_mostTaught_14 (by decide) (fun c7 => ?_) (fun c7 => ?_)
    · have f7 : r5.toInt ≤ 0 := f_le rfl (by decide) c7
      refine lv_iconst (v := 0) hx hb dX4_mostTaught_29 (by decide) ?_
      have hlit8 : (0 : Int32).toInt = 0 := by decide
      rw [hQ]
      exact x_i cx hr () hP hD hS (show (0 : Int32).toInt = 0 ∨ ((0 : Int32).toInt = 1 ∧ 0 < p0.toInt / 100) from by omega) dX4_mostTaught_30
    · have f7 : 0 < r5.toInt := f_nle rfl (by decide) c7
      refine lv_iload_n hx hb dX4_mostTaught_17 rfl (lv_at hl 1 rfl) ?_
      refine lv_iconst (v := 2) hx hb dX4_mostTaught_18 (by decide) ?_
      have hlit9 : (2 : Int32).toInt = 2 := by decide
      refine g_ir (g_runS (wc := []) (rest := []) cx hP hD hS [] rfl (by decide) [.int p0, .int 2] (c_X3_ofAge l D k b H.size p0 2) gX4_mostTaught_X3_ofAge rfl rfl rfl nd_X3_ofAge ⟨Nat.le_of_ble_eq_true rfl, Nat.le_of_ble_eq_true rfl⟩ rfl hl.1 rfl (Nat.le_of_ble_eq_true rfl) ⟨Nat.zero_le _, Nat.zero_le _⟩ dX4_mostTaught_19) cx.2.2.1 hP hD hS [] rfl rfl (fun r11 H locs hw10 hP hS => ?_)
      have w12 : r11 = J_X3_ofAge p0 (2 : Int32) := hw10
      clear hw10
      refine lv_if_le (tgt := 29) hx hb dX4_mostTaught_22 (by decide) (fun c13 => ?_) (fun c13 => ?_)
      · have f13 : r11.toInt ≤ 0 := f_le rfl (by decide) c13
        refine lv_iconst (v := 0) hx hb dX4_mostTaught_29 (by decide) ?_
        have hlit14 : (0 : Int32).toInt = 0 := by decide
        rw [hQ]
        exact x_i cx hr () hP hD hS (show (0 : Int32).toInt = 0 ∨ ((0 : Int32).toInt = 1 ∧ 0 < p0.toInt / 100) from by omega) dX4_mostTaught_30
      · have f13 : 0 < r11.toInt := f_nle rfl (by decide) c13
        refine lv_iconst (v := 1) hx hb dX4_mostTaught_25 (by decide) ?_
        refine lv_goto (tgt := 30) hx hb dX4_mostTaught_26 (by decide) ?_
        have hlit15 : (1 : Int32).toInt = 1 := by decide
        rw [hQ]
        exact x_i cx hr () hP hD hS (show (1 : Int32).toInt = 0 ∨ ((1 : Int32).toInt = 1 ∧ 0 < p0.toInt / 100) from by omega) dX4_mostTaught_30
theorem nd_X0_ordered : yX0_ordered.cls ≠ "java/lang/invoke/MethodHandle" ∧ yX0_ordered.cls ≠ "java/lang/invoke/VarHandle" ∧ (parseMethodDescriptor yX0_ordered.desc).map (fun d => d.parameters.length) = some 1 := by decide +kernel
theorem nd_X4_mostLetGo : yX4_mostLetGo.cls = RX4 ∧ yX4_mostLetGo.cls ≠ "java/lang/invoke/MethodHandle" ∧ yX4_mostLetGo.cls ≠ "java/lang/invoke/VarHandle" ∧ (parseMethodDescriptor yX4_mostLetGo.desc).map (fun d => d.parameters.length) = some 1 := by decide +kernel
theorem nd_X4_mostOrdered : yX4_mostOrdered.cls = RX4 ∧ yX4_mostOrdered.cls ≠ "java/lang/invoke/MethodHandle" ∧ yX4_mostOrdered.cls ≠ "java/lang/invoke/VarHandle" ∧ (parseMethodDescriptor yX4_mostOrdered.desc).map (fun d => d.parameters.length) = some 1 := by decide +kernel
theorem nd_X4_mostTaken : yX4_mostTaken.cls = RX4 ∧ yX4_mostTaken.cls ≠ "java/lang/invoke/MethodHandle" ∧ yX4_mostTaken.cls ≠ "java/lang/invoke/VarHandle" ∧ (parseMethodDescriptor yX4_mostTaken.desc).map (fun d => d.parameters.length) = some 2 := by decide +kernel
theorem nd_X4_mostTaught : yX4_mostTaught.cls = RX4 ∧ yX4_mostTaught.cls ≠ "java/lang/invoke/MethodHandle" ∧ yX4_mostTaught.cls ≠ "java/lang/invoke/VarHandle" ∧ (parseMethodDescriptor yX4_mostTaught.desc).map (fun d => d.parameters.length) = some 1 := by decide +kernel
set_option maxHeartbeats 4000000 in
set_option maxRecDepth 100000 in
theorem c_X4_allows (l : Launch) (D : va_G) (k : Nat → ClassId) (b : Nat → Nat) (qh : Nat → Nat) (sh : Nat → Nat → Int32) (sz : Nat) (p0 : Int32) (p1 : Int32) (p2 : Int32) (h_wk : 0 ≤ (sh 0 0).toInt ∧ (sh 0 0).toInt ≤ 5) (h_hk : 0 ≤ (sh 0 1).toInt ∧ (sh 0 1).toInt ≤ 4) (h_fl : 0 ≤ (sh 0 12).toInt ∧ (sh 0 12).toInt ≤ 5) (h_of : ∀ j, 0 ≤ (sh 2 j).toInt ∧ (sh 2 j).toInt ≤ 4) (h_go : ∀ j, 0 ≤ (sh 3 j).toInt ∧ (sh 3 j).toInt ≤ 5) (hv : 0 ≤ p1.toInt ∧ p1.toInt ≤ 400 ∧ tot p1 ≤ 4) (ha : 0 ≤ p2.toInt) (hp0 : 0 ≤ p0.toInt ∧ p0.toInt ≤ 4) : MetI l D k b yX4_allows wsX4_allows ({ frames := 2, cells := 0, slots := 0, locals := 44 } : Room) [(qh 0, .inr (2, [.int (sh 0 0), .int (sh 0 1), .ref (qh 1), .ref (qh 2), .ref (qh 3), .ref (qh 4), .int (sh 0 6), .int (sh 0 7), .int (sh 0 8), .int (sh 0 9), .int (sh 0 10), .int (sh 0 11), .int (sh 0 12), .ref (qh 5)])), (qh 1, .inl (k 0, 5, .inl (sh 1))), (qh 2, .inl (k 0, 5, .inl (sh 2))), (qh 3, .inl (k 0, 3, .inl (sh 3))), (qh 4, .inl (k 0, 3, .inl (sh 4))), (qh 5, .inl (k 0, 525, .inl (sh 5)))] sz [.ref (qh 0), .int p0, .int p1, .int p2] (fun (r : Int32) (u : Unit) => (0 ≤ r.toInt ∧ r.toInt ≤ 1) ∧ (Imp (r.toInt = 1) (0 ≤ (J_X0_done p1 p2).toInt ∧ (J_X0_done p1 p2).toInt ≤ 400 ∧ tot (J_X0_done p1 p2) ≤ 4))) (fun u => [(qh 0, .inr (2, [.int (sh 0 0), .int (sh 0 1), .ref (qh 1), .ref (qh 2), .ref (qh 3), .ref (qh 4), .int (sh 0 6), .int (sh 0 7), .int (sh 0 8), .int (sh 0 9), .int (sh 0 10), .int (sh 0 11), .int (sh 0 12), .ref (qh 5)])), (qh 1, .inl (k 0, 5, .inl (sh 1))), (qh 2, .inl (k 0, 5, .inl (sh 2))), (qh 3, .inl (k 0, 3, .inl (sh 3))), (qh 4, .inl (k 0, 3, .inl (sh 4))), (qh 5, .inl (k 0, 525, .inl (sh 5)))]) := by
  refine g_enter (cc := cX4_allows) (maxL := 5) (ret := (some .boolean)) (by decide) rfl (Nat.le_of_ble_eq_true rfl) ?_
  intro p e s m below meth c A hsz hAe cx hr hP hD hS ls hl
  rw [hAe]
  refine g_q (fun Q hQ => ?_)
  have hx := cx.1.1
  have hb := cx.1.2.1
  have bp0 := i_rng p0
  have bp1 := i_rng p1
  have bp2 := i_rng p2
  have hl : lv_has ls 5 [(0, .ref (qh 0)), (1, .int p0), (2, .int p1), (3, .int p2)] := hl
  obtain ⟨H, eH⟩ : ∃ H : Heap, H = s.heap := ⟨_, rfl⟩
  obtain ⟨locs, el⟩ : ∃ L : List Loc, L = [] := ⟨_, rfl⟩
  have hP : va_P D vwCl [(qh 0, .inr (2, [.int (sh 0 0), .int (sh 0 1), .ref (qh 1), .ref (qh 2), .ref (qh 3), .ref (qh 4), .int (sh 0 6), .int (sh 0 7), .int (sh 0 8), .int (sh 0 9), .int (sh 0 10), .int (sh 0 11), .int (sh 0 12), .ref (qh 5)])), (qh 1, .inl (k 0, 5, .inl (sh 1))), (qh 2, .inl (k 0, 5, .inl (sh 2))), (qh 3, .inl (k 0, 3, .inl (sh 3))), (qh 4, .inl (k 0, 3, .inl (sh 4))), (qh 5, .inl (k 0, 525, .inl (sh 5)))] H := by rw [eH]; exact hP
  have hD : va_D A [(qh 0, .inr (2, [.int (sh 0 0), .int (sh 0 1), .ref (qh 1), .ref (qh 2), .ref (qh 3), .ref (qh 4), .int (sh 0 6), .int (sh 0 7), .int (sh 0 8), .int (sh 0 9), .int (sh 0 10), .int (sh 0 11), .int (sh 0 12), .ref (qh 5)])), (qh 1, .inl (k 0, 5, .inl (sh 1))), (qh 2, .inl (k 0, 5, .inl (sh 2))), (qh 3, .inl (k 0, 3, .inl (sh 3))), (qh 4, .inl (k 0, 3, .inl (sh 4))), (qh 5, .inl (k 0, 525, .inl (sh 5)))] := hD
  have hS : va_S A s.heap H locs := by rw [eH, el]; exact hS
  suffices goal : W p l e ({ frames := 2, cells := 0, slots := 0, locals := 44 } : Room) s m ([.ref (qh 0), .int p0, .int p1, .int p2] : List Value).toArray below meth c H locs 0 0 Q (F0 m 0 ls []) by rw [eH, el] at goal; exact goal
  refine lv_iload_n hx hb dX4_allows_0 rfl (lv_at hl 3 rfl) ?_
  refine g_ir (g_runS (wc := []) (rest := []) cx hP hD hS [] rfl (by decide) [.int p2] (c_X0_letGo l D k b H.size p2) gX4_allows_X0_letGo rfl rfl rfl nd_X0_letGo ⟨Nat.le_of_ble_eq_true rfl, Nat.le_of_ble_eq_true rfl⟩ rfl hl.1 rfl (Nat.le_of_ble_eq_true rfl) ⟨Nat.zero_le _, Nat.zero_le _⟩ dX4_allows_1) cx.2.2.1 hP hD hS [] rfl rfl (fun r2 H locs hw1 hP hS => ?_)
  have w3 : r2 = J_X0_letGo p2 := hw1
  clear hw1
  have zr2 := lg_b w3 (show 0 ≤ p2.toInt from by omega)
  have g1w := w3
  refine lv_aload_n hx hb dX4_allows_4 rfl (lv_at hl 0 rfl) ?_
  refine lv_iload_n hx hb dX4_allows_5 rfl (lv_at hl 2 rfl) ?_
  refine g_iF (w1 := fun (_ : Unit) => [(qh 0, .inr (2, [.int (sh 0 0), .int (sh 0 1), .ref (qh 1), .ref (qh 2), .ref (qh 3), .ref (qh 4), .int (sh 0 6), .int (sh 0 7), .int (sh 0 8), .int (sh 0 9), .int (sh 0 10), .int (sh 0 11), .int (sh 0 12), .ref (qh 5)])), (qh 1, .inl (k 0, 5, .inl (sh 1))), (qh 2, .inl (k 0, 5, .inl (sh 2))), (qh 3, .inl (k 0, 3, .inl (sh 3))), (qh 4, .inl (k 0, 3, .inl (sh 4))), (qh 5, .inl (k 0, 525, .inl (sh 5)))]) (g_runVF (ws := [(qh 0, .inr (2, [.int (sh 0 0), .int (sh 0 1), .ref (qh 1), .ref (qh 2), .ref (qh 3), .ref (qh 4), .int (sh 0 6), .int (sh 0 7), .int (sh 0 8), .int (sh 0 9), .int (sh 0 10), .int (sh 0 11), .int (sh 0 12), .ref (qh 5)])), (qh 1, .inl (k 0, 5, .inl (sh 1))), (qh 2, .inl (k 0, 5, .inl (sh 2))), (qh 3, .inl (k 0, 3, .inl (sh 3))), (qh 4, .inl (k 0, 3, .inl (sh 4))), (qh 5, .inl (k 0, 525, .inl (sh 5)))]) (rest := [.int r2]) cx hP hD hS [.int p1] (c_X4_mostLetGo l D k b qh sh H.size p1 (show 0 ≤ p1.toInt ∧ p1.toInt ≤ 400 ∧ tot p1 ≤ 4 from by first | decide | omega)) gX4_allows_X4_mostLetGo rfl rfl rfl nd_X4_mostLetGo ⟨Nat.le_of_ble_eq_true rfl, Nat.le_of_ble_eq_true rfl⟩ (ci := 2) (q0 := 0) rfl rfl rfl hl.1 rfl (Nat.le_of_ble_eq_true rfl) ⟨Nat.zero_le _, Nat.zero_le _⟩ dX4_allows_6) cx.2.2.1 hD hS (fun r5 _ H locs hw4 hP hD hS => ?_)
  have w6 : 0 ≤ r5.toInt ∧ r5.toInt ≤ tot p1 := hw4
  clear hw4
  refine lv_icmp_le (tgt := 14) hx hb dX4_allows_9 (by decide) (fun c7 => ?_) (fun c7 => ?_)
  · have f7 : r2.toInt ≤ r5.toInt := f_le rfl rfl c7
    refine lv_iload_n hx hb dX4_allows_14 rfl (lv_at hl 2 rfl) ?_
    refine lv_iload_n hx hb dX4_allows_15 rfl (lv_at hl 3 rfl) ?_
    refine g_ir (g_runS (wc := []) (rest := [.int p1]) cx hP hD hS [] rfl (by decide) [.int p2] (c_X0_letGo l D k b H.size p2) gX4_allows_X0_letGo rfl rfl rfl nd_X0_letGo ⟨Nat.le_of_ble_eq_true rfl, Nat.le_of_ble_eq_true rfl⟩ rfl hl.1 rfl (Nat.le_of_ble_eq_true rfl) ⟨Nat.zero_le _, Nat.zero_le _⟩ dX4_allows_16) cx.2.2.1 hP hD hS [] rfl rfl (fun r9 H locs hw8 hP hS => ?_)
    have w10 : r9 = J_X0_letGo p2 := hw8
    clear hw8
    have zr9 := lg_b w10 (show 0 ≤ p2.toInt from by omega)
    have g2w := w10
    have g2e : r9.toInt = r2.toInt := by rw [g1w, g2w]
    refine g_ir (g_runS (wc := []) (rest := []) cx hP hD hS [] rfl (by decide) [.int p1, .int r9] (c_X3_lessYoungestFirst l D k b H.size p1 r9) gX4_allows_X3_lessYoungestFirst rfl rfl rfl nd_X3_lessYoungestFirst ⟨Nat.le_of_ble_eq_true rfl, Nat.le_of_ble_eq_true rfl⟩ rfl hl.1 rfl (Nat.le_of_ble_eq_true rfl) ⟨Nat.zero_le _, Nat.zero_le _⟩ dX4_allows_19) cx.2.2.1 hP hD hS [] rfl rfl (fun r12 H locs hw11 hP hS => ?_)
    have w13 : r12 = J_X3_lessYoungestFirst p1 r9 := hw11
    clear hw11
    have lw := w13
    have lt := less_t w13 hv ⟨by omega, by omega⟩
    refine lv_istore (lv' := [(4, .int r12), (0, .ref (qh 0)), (1, .int p0), (2, .int p1), (3, .int p2)]) hx hb dX4_allows_22 hl (by decide) rfl (fun ls hl => ?_)
    refine lv_iload_n hx hb dX4_allows_24 rfl (lv_at hl 4 rfl) ?_
    refine g_ir (g_runS (wc := []) (rest := []) cx hP hD hS [] rfl (by decide) [.int p2] (c_X0_taken l D k b H.size p2) gX4_allows_X0_taken rfl rfl rfl nd_X0_taken ⟨Nat.le_of_ble_eq_true rfl, Nat.le_of_ble_eq_true rfl⟩ rfl hl.1 rfl (Nat.le_of_ble_eq_true rfl) ⟨Nat.zero_le _, Nat.zero_le _⟩ dX4_allows_25) cx.2.2.1 hP hD hS [] rfl rfl (fun r15 H locs hw14 hP hS => ?_)
    have w16 : r15 = J_X0_taken p2 := hw14
    clear hw14
    have zr15 := tk_b w16 (show 0 ≤ p2.toInt from by omega)
    have t1w := w16
    refine lv_aload_n hx hb dX4_allows_28 rfl (lv_at hl 1 rfl) ?_
    refine lv_iload_n hx hb dX4_allows_29 rfl (lv_at hl 2 rfl) ?_
    refine lv_iload hx hb dX4_allows_30 (lv_at hl 0 rfl) ?_
    refine g_iF (w1 := fun (_ : Unit) => [(qh 0, .inr (2, [.int (sh 0 0), .int (sh 0 1), .ref (qh 1), .ref (qh 2), .ref (qh 3), .ref (qh 4), .int (sh 0 6), .int (sh 0 7), .int (sh 0 8), .int (sh 0 9), .int (sh 0 10), .int (sh 0 11), .int (sh 0 12), .ref (qh 5)])), (qh 1, .inl (k 0, 5, .inl (sh 1))), (qh 2, .inl (k 0, 5, .inl (sh 2))), (qh 3, .inl (k 0, 3, .inl (sh 3))), (qh 4, .inl (k 0, 3, .inl (sh 4))), (qh 5, .inl (k 0, 525, .inl (sh 5)))]) (g_runVF (ws := [(qh 0, .inr (2, [.int (sh 0 0), .int (sh 0 1), .ref (qh 1), .ref (qh 2), .ref (qh 3), .ref (qh 4), .int (sh 0 6), .int (sh 0 7), .int (sh 0 8), .int (sh 0 9), .int (sh 0 10), .int (sh 0 11), .int (sh 0 12), .ref (qh 5)])), (qh 1, .inl (k 0, 5, .inl (sh 1))), (qh 2, .inl (k 0, 5, .inl (sh 2))), (qh 3, .inl (k 0, 3, .inl (sh 3))), (qh 4, .inl (k 0, 3, .inl (sh 4))), (qh 5, .inl (k 0, 525, .inl (sh 5)))]) (rest := [.int r15]) cx hP hD hS [.int p0, .int r12] (c_X4_mostTaken l D k b qh sh H.size p0 r12 (show 0 ≤ (sh 0 1).toInt ∧ (sh 0 1).toInt ≤ 4 from by first | decide | omega) h_of (show 0 ≤ r12.toInt ∧ r12.toInt ≤ 400 ∧ tot r12 ≤ 4 from by first | decide | omega) (show 0 ≤ p0.toInt ∧ p0.toInt ≤ 4 from by first | decide | omega)) gX4_allows_X4_mostTaken rfl rfl rfl nd_X4_mostTaken ⟨Nat.le_of_ble_eq_true rfl, Nat.le_of_ble_eq_true rfl⟩ (ci := 2) (q0 := 0) rfl rfl rfl hl.1 rfl (Nat.le_of_ble_eq_true rfl) ⟨Nat.zero_le _, Nat.zero_le _⟩ dX4_allows_32) cx.2.2.1 hD hS (fun r18 _ H locs hw17 hP hD hS => ?_)
    replace hw17 : (-4 ≤ r18.toInt ∧ r18.toInt ≤ 4 ∧ r18.toInt ≤ (sh 0 1).toInt - (tot r12)) ∧ ((sh 0 1).toInt < tot r12 ∨ 0 ≤ r18.toInt) := hw17
    obtain ⟨w19, w20⟩ := hw17
    refine lv_icmp_le (tgt := 40) hx hb dX4_allows_35 (by decide) (fun c21 => ?_) (fun c21 => ?_)
    · have f21 : r15.toInt ≤ r18.toInt := f_le rfl rfl c21
      refine lv_iload_n hx hb dX4_allows_40 rfl (lv_at hl 4 rfl) ?_
      refine g_ir (g_runS (wc := []) (rest := []) cx hP hD hS [] rfl (by decide) [.int p2] (c_X0_taught l D k b H.size p2) gX4_allows_X0_taught rfl rfl rfl nd_X0_taught ⟨Nat.le_of_ble_eq_true rfl, Nat.le_of_ble_eq_true rfl⟩ rfl hl.1 rfl (Nat.le_of_ble_eq_true rfl) ⟨Nat.zero_le _, Nat.zero_le _⟩ dX4_allows_41) cx.2.2.1 hP hD hS [] rfl rfl (fun r23 H locs hw22 hP hS => ?_)
      have w24 : r23 = J_X0_taught p2 := hw22
      clear hw22
      have zr23 := tg_b w24 (show 0 ≤ p2.toInt from by omega)
      have tgw := w24
      refine lv_aload_n hx hb dX4_allows_44 rfl (lv_at hl 1 rfl) ?_
      refine lv_iload hx hb dX4_allows_45 (lv_at hl 0 rfl) ?_
      refine lv_bipush (v := 100) hx hb dX4_allows_47 (by decide) ?_
      refine lv_iload_n hx hb dX4_allows_49 rfl (lv_at hl 4 rfl) ?_
      refine g_ir (g_runS (wc := []) (rest := [.int 100, .int r12, .ref (qh 0), .int r23]) cx hP hD hS [] rfl (by decide) [.int p2] (c_X0_taken l D k b H.size p2) gX4_allows_X0_taken rfl rfl rfl nd_X0_taken ⟨Nat.le_of_ble_eq_true rfl, Nat.le_of_ble_eq_true rfl⟩ rfl hl.1 rfl (Nat.le_of_ble_eq_true rfl) ⟨Nat.zero_le _, Nat.zero_le _⟩ dX4_allows_50) cx.2.2.1 hP hD hS [] rfl rfl (fun r26 H locs hw25 hP hS => ?_)
      have w27 : r26 = J_X0_taken p2 := hw25
      clear hw25
      have zr26 := tk_b w27 (show 0 ≤ p2.toInt from by omega)
      have t2e : r26.toInt = r15.toInt := by rw [t1w, w27]
      refine lv_imul hx hb dX4_allows_53 (lv_topi (fun v28 e28 => ?_))
      have t28 : v28.toInt = 100 * r26.toInt := by rw [e28]; exact i_mul (by decide) rfl (by omega) (by omega)
      refine lv_iadd hx hb dX4_allows_54 (lv_topi (fun v29 e29 => ?_))
      have t29 : v29.toInt = r12.toInt + v28.toInt := by rw [e29]; exact i_add rfl rfl (by omega) (by omega)
      refine g_iF (w1 := fun (_ : Unit) => [(qh 0, .inr (2, [.int (sh 0 0), .int (sh 0 1), .ref (qh 1), .ref (qh 2), .ref (qh 3), .ref (qh 4), .int (sh 0 6), .int (sh 0 7), .int (sh 0 8), .int (sh 0 9), .int (sh 0 10), .int (sh 0 11), .int (sh 0 12), .ref (qh 5)])), (qh 1, .inl (k 0, 5, .inl (sh 1))), (qh 2, .inl (k 0, 5, .inl (sh 2))), (qh 3, .inl (k 0, 3, .inl (sh 3))), (qh 4, .inl (k 0, 3, .inl (sh 4))), (qh 5, .inl (k 0, 525, .inl (sh 5)))]) (g_runVF (ws := [(qh 0, .inr (2, [.int (sh 0 0), .int (sh 0 1), .ref (qh 1), .ref (qh 2), .ref (qh 3), .ref (qh 4), .int (sh 0 6), .int (sh 0 7), .int (sh 0 8), .int (sh 0 9), .int (sh 0 10), .int (sh 0 11), .int (sh 0 12), .ref (qh 5)])), (qh 1, .inl (k 0, 5, .inl (sh 1))), (qh 2, .inl (k 0, 5, .inl (sh 2))), (qh 3, .inl (k 0, 3, .inl (sh 3))), (qh 4, .inl (k 0, 3, .inl (sh 4))), (qh 5, .inl (k 0, 525, .inl (sh 5)))]) (rest := [.int r23]) cx hP hD hS [.int v29] (c_X4_mostTaught l D k b qh sh H.size v29 (show 0 ≤ v29.toInt ∧ v29.toInt ≤ 9999 from by first | decide | omega)) gX4_allows_X4_mostTaught rfl rfl rfl nd_X4_mostTaught ⟨Nat.le_of_ble_eq_true rfl, Nat.le_of_ble_eq_true rfl⟩ (ci := 2) (q0 := 0) rfl rfl rfl hl.1 rfl (Nat.le_of_ble_eq_true rfl) ⟨Nat.zero_le _, Nat.zero_le _⟩ dX4_allows_55) cx.2.2.1 hD hS (fun r31 _ H locs hw30 hP hD hS => ?_)
      have w32 : r31.toInt = 0 ∨ (r31.toInt = 1 ∧ 0 < v29.toInt / 100) := hw30
      clear hw30
      refine lv_icmp_gt (tgt := 77) hx hb dX4_allows_58 (by decide) (fun c33 => ?_) (fun c33 => ?_)
      · have f33 : r31.toInt < r23.toInt := f_lt rfl rfl c33
        refine lv_iconst (v := 0) hx hb dX4_allows_77 (by decide) ?_
        have hlit34 : (0 : Int32).toInt = 0 := by decide
        rw [hQ]
        exact x_z cx hr (by decide) () hP hD hS ⟨(show 0 ≤ (0 : Int32).toInt ∧ (0 : Int32).toInt ≤ 1 from by omega), (show Imp ((0 : Int32).toInt = 1) (0 ≤ (J_X0_done p1 p2).toInt ∧ (J_X0_done p1 p2).toInt ≤ 400 ∧ tot (J_X0_done p1 p2) ≤ 4) from fun h => by first | exact absurd h (by decide) | exact dn.1)⟩ dX4_allows_78
      · have f33 : r23.toInt ≤ r31.toInt := f_nlt rfl rfl c33
        refine lv_iload_n hx hb dX4_allows_61 rfl (lv_at hl 4 rfl) ?_
        refine g_ir (g_runS (wc := []) (rest := []) cx hP hD hS [] rfl (by decide) [.int p2] (c_X0_ordered l D k b H.size p2) gX4_allows_X0_ordered rfl rfl rfl nd_X0_ordered ⟨Nat.le_of_ble_eq_true rfl, Nat.le_of_ble_eq_true rfl⟩ rfl hl.1 rfl (Nat.le_of_ble_eq_true rfl) ⟨Nat.zero_le _, Nat.zero_le _⟩ dX4_allows_62) cx.2.2.1 hP hD hS [] rfl rfl (fun r36 H locs hw35 hP hS => ?_)
        have w37 : r36 = J_X0_ordered p2 := hw35
        clear hw35
        have zr36 := or_b w37 (show 0 ≤ p2.toInt from by omega)
        refine lv_aload_n hx hb dX4_allows_65 rfl (lv_at hl 1 rfl) ?_
        refine lv_iload_n hx hb dX4_allows_66 rfl (lv_at hl 2 rfl) ?_
        refine g_iF (w1 := fun (_ : Unit) => [(qh 0, .inr (2, [.int (sh 0 0), .int (sh 0 1), .ref (qh 1), .ref (qh 2), .ref (qh 3), .ref (qh 4), .int (sh 0 6), .int (sh 0 7), .int (sh 0 8), .int (sh 0 9), .int (sh 0 10), .int (sh 0 11), .int (sh 0 12), .ref (qh 5)])), (qh 1, .inl (k 0, 5, .inl (sh 1))), (qh 2, .inl (k 0, 5, .inl (sh 2))), (qh 3, .inl (k 0, 3, .inl (sh 3))), (qh 4, .inl (k 0, 3, .inl (sh 4))), (qh 5, .inl (k 0, 525, .inl (sh 5)))]) (g_runVF (ws := [(qh 0, .inr (2, [.int (sh 0 0), .int (sh 0 1), .ref (qh 1), .ref (qh 2), .ref (qh 3), .ref (qh 4), .int (sh 0 6), .int (sh 0 7), .int (sh 0 8), .int (sh 0 9), .int (sh 0 10), .int (sh 0 11), .int (sh 0 12), .ref (qh 5)])), (qh 1, .inl (k 0, 5, .inl (sh 1))), (qh 2, .inl (k 0, 5, .inl (sh 2))), (qh 3, .inl (k 0, 3, .inl (sh 3))), (qh 4, .inl (k 0, 3, .inl (sh 4))), (qh 5, .inl (k 0, 525, .inl (sh 5)))]) (rest := [.int r36]) cx hP hD hS [.int p0] (c_X4_mostOrdered l D k b qh sh H.size p0 (show 0 ≤ (sh 0 0).toInt ∧ (sh 0 0).toInt ≤ 5 from by first | decide | omega)) gX4_allows_X4_mostOrdered rfl rfl rfl nd_X4_mostOrdered ⟨Nat.le_of_ble_eq_true rfl, Nat.le_of_ble_eq_true rfl⟩ (ci := 2) (q0 := 0) rfl rfl rfl hl.1 rfl (Nat.le_of_ble_eq_true rfl) ⟨Nat.zero_le _, Nat.zero_le _⟩ dX4_allows_67) cx.2.2.1 hD hS (fun r39 _ H locs hw38 hP hD hS => ?_)
        have w40 : 0 ≤ r39.toInt ∧ r39.toInt ≤ 2 := hw38
        clear hw38
        refine lv_icmp_gt (tgt := 77) hx hb dX4_allows_70 (by decide) (fun c41 => ?_) (fun c41 => ?_)
        · have f41 : r39.toInt < r36.toInt := f_lt rfl rfl c41
          refine lv_iconst (v := 0) hx hb dX4_allows_77 (by decide) ?_
          have hlit42 : (0 : Int32).toInt = 0 := by decide
          rw [hQ]
          exact x_z cx hr (by decide) () hP hD hS ⟨(show 0 ≤ (0 : Int32).toInt ∧ (0 : Int32).toInt ≤ 1 from by omega), (show Imp ((0 : Int32).toInt = 1) (0 ≤ (J_X0_done p1 p2).toInt ∧ (J_X0_done p1 p2).toInt ≤ 400 ∧ tot (J_X0_done p1 p2) ≤ 4) from fun h => by first | exact absurd h (by decide) | exact dn.1)⟩ dX4_allows_78
        · have f41 : r36.toInt ≤ r39.toInt := f_nlt rfl rfl c41
          have dn := done_t (X := v29.toInt) (hook := (sh 0 1).toInt) hv g2w t1w tgw lw (by omega) (by omega) (by omega) (by omega) (by omega) (by omega) (by omega) (Eq.refl (J_X0_done p1 p2))
          refine lv_iconst (v := 1) hx hb dX4_allows_73 (by decide) ?_
          refine lv_goto (tgt := 78) hx hb dX4_allows_74 (by decide) ?_
          have hlit43 : (1 : Int32).toInt = 1 := by decide
          rw [hQ]
          exact x_z cx hr (by decide) () hP hD hS ⟨(show 0 ≤ (1 : Int32).toInt ∧ (1 : Int32).toInt ≤ 1 from by omega), (show Imp ((1 : Int32).toInt = 1) (0 ≤ (J_X0_done p1 p2).toInt ∧ (J_X0_done p1 p2).toInt ≤ 400 ∧ tot (J_X0_done p1 p2) ≤ 4) from fun h => by first | exact absurd h (by decide) | exact dn.1)⟩ dX4_allows_78
    · have f21 : r18.toInt < r15.toInt := f_nle rfl rfl c21
      refine lv_iconst (v := 0) hx hb dX4_allows_38 (by decide) ?_
      have hlit44 : (0 : Int32).toInt = 0 := by decide
      rw [hQ]
      exact x_z cx hr (by decide) () hP hD hS ⟨(show 0 ≤ (0 : Int32).toInt ∧ (0 : Int32).toInt ≤ 1 from by omega), (show Imp ((0 : Int32).toInt = 1) (0 ≤ (J_X0_done p1 p2).toInt ∧ (J_X0_done p1 p2).toInt ≤ 400 ∧ tot (J_X0_done p1 p2) ≤ 4) from fun h => absurd h (by decide))⟩ dX4_allows_39
  · have f7 : r5.toInt < r2.toInt := f_nle rfl rfl c7
    refine lv_iconst (v := 0) hx hb dX4_allows_12 (by decide) ?_
    have hlit45 : (0 : Int32).toInt = 0 := by decide
    rw [hQ]
    exact x_z cx hr (by decide) () hP hD hS ⟨(show 0 ≤ (0 : Int32).toInt ∧ (0 : Int32).toInt ≤ 1 from by omega), (show Imp ((0 : Int32).toInt = 1) (0 ≤ (J_X0_done p1 p2).toInt ∧ (J_X0_done p1 p2).toInt ≤ 400 ∧ tot (J_X0_done p1 p2) ≤ 4) from fun h => absurd h (by decide))⟩ dX4_allows_13
theorem mw_X4_takenByLevel_maxL97 : Cond.methodLink RX4 97 Lib.Math.max.name ∈ wsX4_takenByLevel := by decide +kernel
theorem mw_X4_takenByLevel_maxS : Cond.static Lib.Math.max.name ∈ wsX4_takenByLevel := by decide +kernel
theorem mw_X4_takenByLevel_maxI : Cond.initialized "java/lang/Math" ∈ wsX4_takenByLevel := by decide +kernel
theorem mw_X4_takenByLevel_maxC : Cond.code Lib.Math.max.name Lib.Math.max.code 2 (some .int) ∈ wsX4_takenByLevel := by decide +kernel
theorem mw_X4_takenByLevel_minL127 : Cond.methodLink RX4 127 Lib.Math.min.name ∈ wsX4_takenByLevel := by decide +kernel
theorem mw_X4_takenByLevel_minS : Cond.static Lib.Math.min.name ∈ wsX4_takenByLevel := by decide +kernel
theorem mw_X4_takenByLevel_minI : Cond.initialized "java/lang/Math" ∈ wsX4_takenByLevel := by decide +kernel
theorem mw_X4_takenByLevel_minC : Cond.code Lib.Math.min.name Lib.Math.min.code 2 (some .int) ∈ wsX4_takenByLevel := by decide +kernel
set_option maxHeartbeats 4000000 in
set_option maxRecDepth 100000 in
theorem c_X4_takenByLevel (l : Launch) (D : va_G) (k : Nat → ClassId) (b : Nat → Nat) (qh : Nat → Nat) (sh : Nat → Nat → Int32) (sz : Nat) (p0 : Int32) (p1 : Int32) (p2 : Int32) (h_hk : 0 ≤ (sh 0 1).toInt ∧ (sh 0 1).toInt ≤ 4) (h_of : ∀ j, 0 ≤ (sh 2 j).toInt ∧ (sh 2 j).toInt ≤ 4) (hv : 0 ≤ p1.toInt ∧ p1.toInt ≤ 400 ∧ tot p1 ≤ 4) (ht : tot p1 ≤ (sh 0 1).toInt) (hp0 : 0 ≤ p0.toInt ∧ p0.toInt ≤ 4) : MetI l D k b yX4_takenByLevel wsX4_takenByLevel ({ frames := 2, cells := 0, slots := 0, locals := 43 } : Room) [(qh 0, .inr (2, [.int (sh 0 0), .int (sh 0 1), .ref (qh 1), .ref (qh 2), .ref (qh 3), .ref (qh 4), .int (sh 0 6), .int (sh 0 7), .int (sh 0 8), .int (sh 0 9), .int (sh 0 10), .int (sh 0 11), .int (sh 0 12), .ref (qh 5)])), (qh 1, .inl (k 0, 5, .inl (sh 1))), (qh 2, .inl (k 0, 5, .inl (sh 2))), (qh 3, .inl (k 0, 3, .inl (sh 3))), (qh 4, .inl (k 0, 3, .inl (sh 4))), (qh 5, .inl (k 0, 525, .inl (sh 5)))] sz [.ref (qh 0), .int p0, .int p1, .int p2] (fun (r : Int32) (u : Unit) => 0 ≤ r.toInt ∧ r.toInt ≤ 4 ∧ r.toInt ≤ (sh 0 1).toInt - (tot p1)) (fun u => [(qh 0, .inr (2, [.int (sh 0 0), .int (sh 0 1), .ref (qh 1), .ref (qh 2), .ref (qh 3), .ref (qh 4), .int (sh 0 6), .int (sh 0 7), .int (sh 0 8), .int (sh 0 9), .int (sh 0 10), .int (sh 0 11), .int (sh 0 12), .ref (qh 5)])), (qh 1, .inl (k 0, 5, .inl (sh 1))), (qh 2, .inl (k 0, 5, .inl (sh 2))), (qh 3, .inl (k 0, 3, .inl (sh 3))), (qh 4, .inl (k 0, 3, .inl (sh 4))), (qh 5, .inl (k 0, 525, .inl (sh 5)))]) := by
  refine g_enter (cc := cX4_takenByLevel) (maxL := 4) (ret := (some .int)) (by decide) rfl (Nat.le_of_ble_eq_true rfl) ?_
  intro p e s m below meth c A hsz hAe cx hr hP hD hS ls hl
  rw [hAe]
  refine g_q (fun Q hQ => ?_)
  have hx := cx.1.1
  have hb := cx.1.2.1
  have bp0 := i_rng p0
  have bp1 := i_rng p1
  have bp2 := i_rng p2
  have hl : lv_has ls 4 [(0, .ref (qh 0)), (1, .int p0), (2, .int p1), (3, .int p2)] := hl
  obtain ⟨H, eH⟩ : ∃ H : Heap, H = s.heap := ⟨_, rfl⟩
  obtain ⟨locs, el⟩ : ∃ L : List Loc, L = [] := ⟨_, rfl⟩
  have hP : va_P D vwCl [(qh 0, .inr (2, [.int (sh 0 0), .int (sh 0 1), .ref (qh 1), .ref (qh 2), .ref (qh 3), .ref (qh 4), .int (sh 0 6), .int (sh 0 7), .int (sh 0 8), .int (sh 0 9), .int (sh 0 10), .int (sh 0 11), .int (sh 0 12), .ref (qh 5)])), (qh 1, .inl (k 0, 5, .inl (sh 1))), (qh 2, .inl (k 0, 5, .inl (sh 2))), (qh 3, .inl (k 0, 3, .inl (sh 3))), (qh 4, .inl (k 0, 3, .inl (sh 4))), (qh 5, .inl (k 0, 525, .inl (sh 5)))] H := by rw [eH]; exact hP
  have hD : va_D A [(qh 0, .inr (2, [.int (sh 0 0), .int (sh 0 1), .ref (qh 1), .ref (qh 2), .ref (qh 3), .ref (qh 4), .int (sh 0 6), .int (sh 0 7), .int (sh 0 8), .int (sh 0 9), .int (sh 0 10), .int (sh 0 11), .int (sh 0 12), .ref (qh 5)])), (qh 1, .inl (k 0, 5, .inl (sh 1))), (qh 2, .inl (k 0, 5, .inl (sh 2))), (qh 3, .inl (k 0, 3, .inl (sh 3))), (qh 4, .inl (k 0, 3, .inl (sh 4))), (qh 5, .inl (k 0, 525, .inl (sh 5)))] := hD
  have hS : va_S A s.heap H locs := by rw [eH, el]; exact hS
  suffices goal : W p l e ({ frames := 2, cells := 0, slots := 0, locals := 43 } : Room) s m ([.ref (qh 0), .int p0, .int p1, .int p2] : List Value).toArray below meth c H locs 0 0 Q (F0 m 0 ls []) by rw [eH, el] at goal; exact goal
  refine lv_aload_n hx hb dX4_takenByLevel_0 rfl (lv_at hl 0 rfl) ?_
  refine lv_iload_n hx hb dX4_takenByLevel_1 rfl (lv_at hl 1 rfl) ?_
  refine lv_iload_n hx hb dX4_takenByLevel_2 rfl (lv_at hl 2 rfl) ?_
  refine g_iF (w1 := fun (_ : Unit) => [(qh 0, .inr (2, [.int (sh 0 0), .int (sh 0 1), .ref (qh 1), .ref (qh 2), .ref (qh 3), .ref (qh 4), .int (sh 0 6), .int (sh 0 7), .int (sh 0 8), .int (sh 0 9), .int (sh 0 10), .int (sh 0 11), .int (sh 0 12), .ref (qh 5)])), (qh 1, .inl (k 0, 5, .inl (sh 1))), (qh 2, .inl (k 0, 5, .inl (sh 2))), (qh 3, .inl (k 0, 3, .inl (sh 3))), (qh 4, .inl (k 0, 3, .inl (sh 4))), (qh 5, .inl (k 0, 525, .inl (sh 5)))]) (g_runVF (ws := [(qh 0, .inr (2, [.int (sh 0 0), .int (sh 0 1), .ref (qh 1), .ref (qh 2), .ref (qh 3), .ref (qh 4), .int (sh 0 6), .int (sh 0 7), .int (sh 0 8), .int (sh 0 9), .int (sh 0 10), .int (sh 0 11), .int (sh 0 12), .ref (qh 5)])), (qh 1, .inl (k 0, 5, .inl (sh 1))), (qh 2, .inl (k 0, 5, .inl (sh 2))), (qh 3, .inl (k 0, 3, .inl (sh 3))), (qh 4, .inl (k 0, 3, .inl (sh 4))), (qh 5, .inl (k 0, 525, .inl (sh 5)))]) (rest := []) cx hP hD hS [.int p0, .int p1] (c_X4_mostTaken l D k b qh sh H.size p0 p1 (show 0 ≤ (sh 0 1).toInt ∧ (sh 0 1).toInt ≤ 4 from by first | decide | omega) h_of (show 0 ≤ p1.toInt ∧ p1.toInt ≤ 400 ∧ tot p1 ≤ 4 from by first | decide | omega) (show 0 ≤ p0.toInt ∧ p0.toInt ≤ 4 from by first | decide | omega)) gX4_takenByLevel_X4_mostTaken rfl rfl rfl nd_X4_mostTaken ⟨Nat.le_of_ble_eq_true rfl, Nat.le_of_ble_eq_true rfl⟩ (ci := 2) (q0 := 0) rfl rfl rfl hl.1 rfl (Nat.le_of_ble_eq_true rfl) ⟨Nat.zero_le _, Nat.zero_le _⟩ dX4_takenByLevel_3) cx.2.2.1 hD hS (fun r2 _ H locs hw1 hP hD hS => ?_)
  replace hw1 : (-4 ≤ r2.toInt ∧ r2.toInt ≤ 4 ∧ r2.toInt ≤ (sh 0 1).toInt - (tot p1)) ∧ ((sh 0 1).toInt < tot p1 ∨ 0 ≤ r2.toInt) := hw1
  obtain ⟨w3, w4⟩ := hw1
  refine lv_iconst (v := 0) hx hb dX4_takenByLevel_6 (by decide) ?_
  refine lv_iload_n hx hb dX4_takenByLevel_7 rfl (lv_at hl 3 rfl) ?_
  refine lv_iload_n hx hb dX4_takenByLevel_8 rfl (lv_at hl 2 rfl) ?_
  refine g_ir (g_runS (wc := []) (rest := [.int p2, .int 0, .int r2]) cx hP hD hS [] rfl (by decide) [.int p1] (c_X3_total l D k b H.size p1) gX4_takenByLevel_X3_total rfl rfl rfl nd_X3_total ⟨Nat.le_of_ble_eq_true rfl, Nat.le_of_ble_eq_true rfl⟩ rfl hl.1 rfl (Nat.le_of_ble_eq_true rfl) ⟨Nat.zero_le _, Nat.zero_le _⟩ dX4_takenByLevel_9) cx.2.2.1 hP hD hS [] rfl rfl (fun r6 H locs hw5 hP hS => ?_)
  have w7 : r6 = J_X3_total p1 := hw5
  clear hw5
  have zr6 : r6.toInt = tot p1 := tot3 w7 (show 0 ≤ p1.toInt from by first | decide | omega)
  have yr6 := tot_0 (x := p1) (by first | decide | omega)
  refine lv_isub hx hb dX4_takenByLevel_12 (lv_topi (fun v8 e8 => ?_))
  refine va_mmax hx hb (cx.1.2.2.1.trans hl.1.symm) cx.1.2.2.2.1 (cx.1.2.2.2.2 _ mw_X4_takenByLevel_maxL97) (cx.1.2.2.2.2 _ mw_X4_takenByLevel_maxS) (cx.1.2.2.2.2 _ mw_X4_takenByLevel_maxI) (cx.1.2.2.2.2 _ mw_X4_takenByLevel_maxC) (Nat.le_of_ble_eq_true rfl) (Nat.le_of_ble_eq_true rfl) (Nat.zero_le _) (Nat.zero_le _) dX4_takenByLevel_13 (lv_topi (fun v9 e9 => ?_))
  have t9 := i_max (by decide) rfl (a := 0) (b := v8.toInt) e9
  refine va_mmin hx hb (cx.1.2.2.1.trans hl.1.symm) cx.1.2.2.2.1 (cx.1.2.2.2.2 _ mw_X4_takenByLevel_minL127) (cx.1.2.2.2.2 _ mw_X4_takenByLevel_minS) (cx.1.2.2.2.2 _ mw_X4_takenByLevel_minI) (cx.1.2.2.2.2 _ mw_X4_takenByLevel_minC) (Nat.le_of_ble_eq_true rfl) (Nat.le_of_ble_eq_true rfl) (Nat.zero_le _) (Nat.zero_le _) dX4_takenByLevel_16 (lv_topi (fun v10 e10 => ?_))
  have t10 := i_min rfl rfl (a := r2.toInt) (b := v9.toInt) e10
  rw [hQ]
  exact x_i cx hr () hP hD hS (show 0 ≤ v10.toInt ∧ v10.toInt ≤ 4 ∧ v10.toInt ≤ (sh 0 1).toInt - (tot p1) from by omega) dX4_takenByLevel_19
theorem fw_X4_lack_21 : Cond.fieldLink RX4 21 "StillInAugust$House" "does" "[I" ∈ wsX4_lack := by decide +kernel
theorem fw_X4_lack_9 : Cond.fieldLink RX4 9 "StillInAugust$House" "wants" "[I" ∈ wsX4_lack := by decide +kernel
theorem iw_X4_lack_X4 : ∀ w ∈ u_ws RX4 TX4 14, w ∈ wsX4_lack := fun _ h => List.mem_cons_of_mem _ (List.mem_append_right _ h)
set_option maxHeartbeats 4000000 in
set_option maxRecDepth 100000 in
theorem c_X4_lack (l : Launch) (D : va_G) (k : Nat → ClassId) (b : Nat → Nat) (qh : Nat → Nat) (sh : Nat → Nat → Int32) (sz : Nat) (p0 : Int32) (p1 : Int32) (p2 : Int32) (p3 : Int32) (hp0 : 0 ≤ p0.toInt ∧ p0.toInt ≤ 4) : MetI l D k b yX4_lack wsX4_lack ({ frames := 0, cells := 0, slots := 0, locals := 0 } : Room) [(qh 0, .inr (2, [.int (sh 0 0), .int (sh 0 1), .ref (qh 1), .ref (qh 2), .ref (qh 3), .ref (qh 4), .int (sh 0 6), .int (sh 0 7), .int (sh 0 8), .int (sh 0 9), .int (sh 0 10), .int (sh 0 11), .int (sh 0 12), .ref (qh 5)])), (qh 1, .inl (k 0, 5, .inl (sh 1))), (qh 2, .inl (k 0, 5, .inl (sh 2))), (qh 3, .inl (k 0, 3, .inl (sh 3))), (qh 4, .inl (k 0, 3, .inl (sh 4))), (qh 5, .inl (k 0, 525, .inl (sh 5)))] sz [.ref (qh 0), .int p0, .int p1, .int p2, .int p3] (fun (r : Int32) (u : Unit) => True) (fun u => [(qh 0, .inr (2, [.int (sh 0 0), .int (sh 0 1), .ref (qh 1), .ref (qh 2), .ref (qh 3), .ref (qh 4), .int (sh 0 6), .int (sh 0 7), .int (sh 0 8), .int (sh 0 9), .int (sh 0 10), .int (sh 0 11), .int (sh 0 12), .ref (qh 5)])), (qh 1, .inl (k 0, 5, .inl (sh 1))), (qh 2, .inl (k 0, 5, .inl (sh 2))), (qh 3, .inl (k 0, 3, .inl (sh 3))), (qh 4, .inl (k 0, 3, .inl (sh 4))), (qh 5, .inl (k 0, 525, .inl (sh 5)))]) := by
  refine g_enter (cc := cX4_lack) (maxL := 6) (ret := (some .int)) (by decide) rfl (Nat.le_of_ble_eq_true rfl) ?_
  intro p e s m below meth c A hsz hAe cx hr hP hD hS ls hl
  rw [hAe]
  refine g_q (fun Q hQ => ?_)
  have hx := cx.1.1
  have hb := cx.1.2.1
  have bp0 := i_rng p0
  have bp1 := i_rng p1
  have bp2 := i_rng p2
  have bp3 := i_rng p3
  have hl : lv_has ls 6 [(0, .ref (qh 0)), (1, .int p0), (2, .int p1), (3, .int p2), (4, .int p3)] := hl
  obtain ⟨H, eH⟩ : ∃ H : Heap, H = s.heap := ⟨_, rfl⟩
  obtain ⟨locs, el⟩ : ∃ L : List Loc, L = [] := ⟨_, rfl⟩
  have hP : va_P D vwCl [(qh 0, .inr (2, [.int (sh 0 0), .int (sh 0 1), .ref (qh 1), .ref (qh 2), .ref (qh 3), .ref (qh 4), .int (sh 0 6), .int (sh 0 7), .int (sh 0 8), .int (sh 0 9), .int (sh 0 10), .int (sh 0 11), .int (sh 0 12), .ref (qh 5)])), (qh 1, .inl (k 0, 5, .inl (sh 1))), (qh 2, .inl (k 0, 5, .inl (sh 2))), (qh 3, .inl (k 0, 3, .inl (sh 3))), (qh 4, .inl (k 0, 3, .inl (sh 4))), (qh 5, .inl (k 0, 525, .inl (sh 5)))] H := by rw [eH]; exact hP
  have hD : va_D A [(qh 0, .inr (2, [.int (sh 0 0), .int (sh 0 1), .ref (qh 1), .ref (qh 2), .ref (qh 3), .ref (qh 4), .int (sh 0 6), .int (sh 0 7), .int (sh 0 8), .int (sh 0 9), .int (sh 0 10), .int (sh 0 11), .int (sh 0 12), .ref (qh 5)])), (qh 1, .inl (k 0, 5, .inl (sh 1))), (qh 2, .inl (k 0, 5, .inl (sh 2))), (qh 3, .inl (k 0, 3, .inl (sh 3))), (qh 4, .inl (k 0, 3, .inl (sh 4))), (qh 5, .inl (k 0, 525, .inl (sh 5)))] := hD
  have hS : va_S A s.heap H locs := by rw [eH, el]; exact hS
  suffices goal : W p l e ({ frames := 0, cells := 0, slots := 0, locals := 0 } : Room) s m ([.ref (qh 0), .int p0, .int p1, .int p2, .int p3] : List Value).toArray below meth c H locs 0 0 Q (F0 m 0 ls []) by rw [eH, el] at goal; exact goal
  refine lv_iload_n hx hb dX4_lack_0 rfl (lv_at hl 2 rfl) ?_
  refine lv_bipush (v := 10) hx hb dX4_lack_1 (by decide) ?_
  refine lv_irem hx hb dX4_lack_3 (by decide) (lv_topi (fun v1 e1 => ?_))
  have t1 : -10 < v1.toInt ∧ v1.toInt < 10 := by rw [e1]; exact i_remb (by decide) (by decide)
  refine lv_iload_n hx hb dX4_lack_4 rfl (lv_at hl 3 rfl) ?_
  refine lv_iadd hx hb dX4_lack_5 (lv_topi (fun v2 e2 => ?_))
  refine lv_iload hx hb dX4_lack_6 (lv_at hl 4 rfl) ?_
  refine lv_isub hx hb dX4_lack_8 (lv_topi (fun v3 e3 => ?_))
  refine lv_istore (lv' := [(5, .int v3), (0, .ref (qh 0)), (1, .int p0), (2, .int p1), (3, .int p2), (4, .int p3)]) hx hb dX4_lack_9 hl (by decide) rfl (fun ls hl => ?_)
  refine lv_aload_n hx hb dX4_lack_11 rfl (lv_at hl 1 rfl) ?_
  refine g_get cx hP iw_X4_lack_X4 0 rfl rfl 2 (by decide) rfl fw_X4_lack_9 rfl dX4_lack_12 ?_
  refine lv_iload_n hx hb dX4_lack_15 rfl (lv_at hl 2 rfl) ?_
  have hn4 : vp_in p0 5 := f_in (a := p0.toInt) rfl (by omega) (by omega)
  refine va_iald hx hb cx.2.1 hP 1 0 rfl rfl hn4 dX4_lack_16 (lv_topi (fun v5 e5 => ?_))
  refine lv_aload_n hx hb dX4_lack_17 rfl (lv_at hl 1 rfl) ?_
  refine g_get cx hP iw_X4_lack_X4 0 rfl rfl 5 (by decide) rfl fw_X4_lack_21 rfl dX4_lack_18 ?_
  refine lv_iconst (v := 0) hx hb dX4_lack_21 (by decide) ?_
  have hn6 : vp_in 0 3 := f_in (a := 0) (by decide) (by omega) (by omega)
  refine va_iald hx hb cx.2.1 hP 4 0 rfl rfl hn6 dX4_lack_22 (lv_topi (fun v7 e7 => ?_))
  have uv7 : v7.toInt = ((sh 4) 0).toInt := congrArg Int32.toInt e7
  refine lv_iload_n hx hb dX4_lack_23 rfl (lv_at hl 3 rfl) ?_
  refine lv_bipush (v := 100) hx hb dX4_lack_24 (by decide) ?_
  refine lv_idiv hx hb dX4_lack_26 (by decide) (lv_topi (fun v8 e8 => ?_))
  refine lv_imul hx hb dX4_lack_27 (lv_topi (fun v9 e9 => ?_))
  refine lv_isub hx hb dX4_lack_28 (lv_topi (fun v10 e10 => ?_))
  refine lv_aload_n hx hb dX4_lack_29 rfl (lv_at hl 1 rfl) ?_
  refine g_get cx hP iw_X4_lack_X4 0 rfl rfl 5 (by decide) rfl fw_X4_lack_21 rfl dX4_lack_30 ?_
  refine lv_iconst (v := 1) hx hb dX4_lack_33 (by decide) ?_
  have hn11 : vp_in 1 3 := f_in (a := 1) (by decide) (by omega) (by omega)
  refine va_iald hx hb cx.2.1 hP 4 0 rfl rfl hn11 dX4_lack_34 (lv_topi (fun v12 e12 => ?_))
  have uv12 : v12.toInt = ((sh 4) 1).toInt := congrArg Int32.toInt e12
  refine lv_iload_n hx hb dX4_lack_35 rfl (lv_at hl 3 rfl) ?_
  refine lv_bipush (v := 10) hx hb dX4_lack_36 (by decide) ?_
  refine lv_idiv hx hb dX4_lack_38 (by decide) (lv_topi (fun v13 e13 => ?_))
  refine lv_bipush (v := 10) hx hb dX4_lack_39 (by decide) ?_
  refine lv_irem hx hb dX4_lack_41 (by decide) (lv_topi (fun v14 e14 => ?_))
  have t14 : -10 < v14.toInt ∧ v14.toInt < 10 := by rw [e14]; exact i_remb (by decide) (by decide)
  refine lv_imul hx hb dX4_lack_42 (lv_topi (fun v15 e15 => ?_))
  refine lv_isub hx hb dX4_lack_43 (lv_topi (fun v16 e16 => ?_))
  refine lv_aload_n hx hb dX4_lack_44 rfl (lv_at hl 1 rfl) ?_
  refine g_get cx hP iw_X4_lack_X4 0 rfl rfl 5 (by decide) rfl fw_X4_lack_21 rfl dX4_lack_45 ?_
  refine lv_iconst (v := 2) hx hb dX4_lack_48 (by decide) ?_
  have hn17 : vp_in 2 3 := f_in (a := 2) (by decide) (by omega) (by omega)
  refine va_iald hx hb cx.2.1 hP 4 0 rfl rfl hn17 dX4_lack_49 (lv_topi (fun v18 e18 => ?_))
  have uv18 : v18.toInt = ((sh 4) 2).toInt := congrArg Int32.toInt e18
  refine lv_iload hx hb dX4_lack_50 (lv_at hl 0 rfl) ?_
  refine lv_imul hx hb dX4_lack_52 (lv_topi (fun v19 e19 => ?_))
  refine lv_isub hx hb dX4_lack_53 (lv_topi (fun v20 e20 => ?_))
  rw [hQ]
  exact x_i cx hr () hP hD hS trivial dX4_lack_54
theorem mw_X4_weekCost_maxL97 : Cond.methodLink RX4 97 Lib.Math.max.name ∈ wsX4_weekCost := by decide +kernel
theorem mw_X4_weekCost_maxS : Cond.static Lib.Math.max.name ∈ wsX4_weekCost := by decide +kernel
theorem mw_X4_weekCost_maxI : Cond.initialized "java/lang/Math" ∈ wsX4_weekCost := by decide +kernel
theorem mw_X4_weekCost_maxC : Cond.code Lib.Math.max.name Lib.Math.max.code 2 (some .int) ∈ wsX4_weekCost := by decide +kernel
theorem fw_X4_weekCost_45 : Cond.fieldLink RX4 45 "StillInAugust$House" "pay" "I" ∈ wsX4_weekCost := by decide +kernel
theorem fw_X4_weekCost_48 : Cond.fieldLink RX4 48 "StillInAugust$House" "shortPrice" "I" ∈ wsX4_weekCost := by decide +kernel
theorem fw_X4_weekCost_51 : Cond.fieldLink RX4 51 "StillInAugust$House" "letGoPrice" "I" ∈ wsX4_weekCost := by decide +kernel
theorem fw_X4_weekCost_54 : Cond.fieldLink RX4 54 "StillInAugust$House" "teachPrice" "I" ∈ wsX4_weekCost := by decide +kernel
theorem fw_X4_weekCost_57 : Cond.fieldLink RX4 57 "StillInAugust$House" "agencyPrice" "I" ∈ wsX4_weekCost := by decide +kernel
theorem nd_X4_lack : yX4_lack.cls = RX4 ∧ yX4_lack.cls ≠ "java/lang/invoke/MethodHandle" ∧ yX4_lack.cls ≠ "java/lang/invoke/VarHandle" ∧ (parseMethodDescriptor yX4_lack.desc).map (fun d => d.parameters.length) = some 4 := by decide +kernel
theorem iw_X4_weekCost_X4 : ∀ w ∈ u_ws RX4 TX4 14, w ∈ wsX4_weekCost := fun _ h => List.mem_cons_of_mem _ (List.mem_append_right _ h)
set_option maxHeartbeats 4000000 in
set_option maxRecDepth 100000 in
theorem c_X4_weekCost (l : Launch) (D : va_G) (k : Nat → ClassId) (b : Nat → Nat) (qh : Nat → Nat) (sh : Nat → Nat → Int32) (sz : Nat) (p0 : Int32) (p1 : Int32) (p2 : Int32) (p3 : Int32) (hp0 : 0 ≤ p0.toInt ∧ p0.toInt ≤ 4) : MetI l D k b yX4_weekCost wsX4_weekCost ({ frames := 1, cells := 0, slots := 0, locals := 25 } : Room) [(qh 0, .inr (2, [.int (sh 0 0), .int (sh 0 1), .ref (qh 1), .ref (qh 2), .ref (qh 3), .ref (qh 4), .int (sh 0 6), .int (sh 0 7), .int (sh 0 8), .int (sh 0 9), .int (sh 0 10), .int (sh 0 11), .int (sh 0 12), .ref (qh 5)])), (qh 1, .inl (k 0, 5, .inl (sh 1))), (qh 2, .inl (k 0, 5, .inl (sh 2))), (qh 3, .inl (k 0, 3, .inl (sh 3))), (qh 4, .inl (k 0, 3, .inl (sh 4))), (qh 5, .inl (k 0, 525, .inl (sh 5)))] sz [.ref (qh 0), .int p0, .int p1, .int p2, .int p3] (fun (r : Int32) (u : Unit) => True) (fun u => [(qh 0, .inr (2, [.int (sh 0 0), .int (sh 0 1), .ref (qh 1), .ref (qh 2), .ref (qh 3), .ref (qh 4), .int (sh 0 6), .int (sh 0 7), .int (sh 0 8), .int (sh 0 9), .int (sh 0 10), .int (sh 0 11), .int (sh 0 12), .ref (qh 5)])), (qh 1, .inl (k 0, 5, .inl (sh 1))), (qh 2, .inl (k 0, 5, .inl (sh 2))), (qh 3, .inl (k 0, 3, .inl (sh 3))), (qh 4, .inl (k 0, 3, .inl (sh 4))), (qh 5, .inl (k 0, 525, .inl (sh 5)))]) := by
  refine g_enter (cc := cX4_weekCost) (maxL := 7) (ret := (some .int)) (by decide) rfl (Nat.le_of_ble_eq_true rfl) ?_
  intro p e s m below meth c A hsz hAe cx hr hP hD hS ls hl
  rw [hAe]
  refine g_q (fun Q hQ => ?_)
  have hx := cx.1.1
  have hb := cx.1.2.1
  have bp0 := i_rng p0
  have bp1 := i_rng p1
  have bp2 := i_rng p2
  have bp3 := i_rng p3
  have hl : lv_has ls 7 [(0, .ref (qh 0)), (1, .int p0), (2, .int p1), (3, .int p2), (4, .int p3)] := hl
  obtain ⟨H, eH⟩ : ∃ H : Heap, H = s.heap := ⟨_, rfl⟩
  obtain ⟨locs, el⟩ : ∃ L : List Loc, L = [] := ⟨_, rfl⟩
  have hP : va_P D vwCl [(qh 0, .inr (2, [.int (sh 0 0), .int (sh 0 1), .ref (qh 1), .ref (qh 2), .ref (qh 3), .ref (qh 4), .int (sh 0 6), .int (sh 0 7), .int (sh 0 8), .int (sh 0 9), .int (sh 0 10), .int (sh 0 11), .int (sh 0 12), .ref (qh 5)])), (qh 1, .inl (k 0, 5, .inl (sh 1))), (qh 2, .inl (k 0, 5, .inl (sh 2))), (qh 3, .inl (k 0, 3, .inl (sh 3))), (qh 4, .inl (k 0, 3, .inl (sh 4))), (qh 5, .inl (k 0, 525, .inl (sh 5)))] H := by rw [eH]; exact hP
  have hD : va_D A [(qh 0, .inr (2, [.int (sh 0 0), .int (sh 0 1), .ref (qh 1), .ref (qh 2), .ref (qh 3), .ref (qh 4), .int (sh 0 6), .int (sh 0 7), .int (sh 0 8), .int (sh 0 9), .int (sh 0 10), .int (sh 0 11), .int (sh 0 12), .ref (qh 5)])), (qh 1, .inl (k 0, 5, .inl (sh 1))), (qh 2, .inl (k 0, 5, .inl (sh 2))), (qh 3, .inl (k 0, 3, .inl (sh 3))), (qh 4, .inl (k 0, 3, .inl (sh 4))), (qh 5, .inl (k 0, 525, .inl (sh 5)))] := hD
  have hS : va_S A s.heap H locs := by rw [eH, el]; exact hS
  suffices goal : W p l e ({ frames := 1, cells := 0, slots := 0, locals := 25 } : Room) s m ([.ref (qh 0), .int p0, .int p1, .int p2, .int p3] : List Value).toArray below meth c H locs 0 0 Q (F0 m 0 ls []) by rw [eH, el] at goal; exact goal
  refine lv_iload hx hb dX4_weekCost_0 (lv_at hl 4 rfl) ?_
  refine g_ir (g_runS (wc := []) (rest := []) cx hP hD hS [] rfl (by decide) [.int p3] (c_X0_taught l D k b H.size p3) gX4_weekCost_X0_taught rfl rfl rfl nd_X0_taught ⟨Nat.le_of_ble_eq_true rfl, Nat.le_of_ble_eq_true rfl⟩ rfl hl.1 rfl (Nat.le_of_ble_eq_true rfl) ⟨Nat.zero_le _, Nat.zero_le _⟩ dX4_weekCost_2) cx.2.2.1 hP hD hS [] rfl rfl (fun r2 H locs hw1 hP hS => ?_)
  have w3 : r2 = J_X0_taught p3 := hw1
  clear hw1
  refine lv_istore (lv' := [(5, .int r2), (0, .ref (qh 0)), (1, .int p0), (2, .int p1), (3, .int p2), (4, .int p3)]) hx hb dX4_weekCost_5 hl (by decide) rfl (fun ls hl => ?_)
  refine lv_aload_n hx hb dX4_weekCost_7 rfl (lv_at hl 1 rfl) ?_
  refine g_get cx hP iw_X4_weekCost_X4 0 rfl rfl 6 (by decide) rfl fw_X4_weekCost_45 rfl dX4_weekCost_8 ?_
  refine lv_iload_n hx hb dX4_weekCost_11 rfl (lv_at hl 3 rfl) ?_
  refine g_ir (g_runS (wc := []) (rest := [.int (sh 0 6)]) cx hP hD hS [] rfl (by decide) [.int p1] (c_X3_total l D k b H.size p1) gX4_weekCost_X3_total rfl rfl rfl nd_X3_total ⟨Nat.le_of_ble_eq_true rfl, Nat.le_of_ble_eq_true rfl⟩ rfl hl.1 rfl (Nat.le_of_ble_eq_true rfl) ⟨Nat.zero_le _, Nat.zero_le _⟩ dX4_weekCost_12) cx.2.2.1 hP hD hS [] rfl rfl (fun r5 H locs hw4 hP hS => ?_)
  have w6 : r5 = J_X3_total p1 := hw4
  clear hw4
  refine lv_imul hx hb dX4_weekCost_15 (lv_topi (fun v7 e7 => ?_))
  refine lv_aload_n hx hb dX4_weekCost_16 rfl (lv_at hl 1 rfl) ?_
  refine g_get cx hP iw_X4_weekCost_X4 0 rfl rfl 7 (by decide) rfl fw_X4_weekCost_48 rfl dX4_weekCost_17 ?_
  refine lv_iconst (v := 0) hx hb dX4_weekCost_20 (by decide) ?_
  refine lv_aload_n hx hb dX4_weekCost_21 rfl (lv_at hl 1 rfl) ?_
  refine lv_iload_n hx hb dX4_weekCost_22 rfl (lv_at hl 2 rfl) ?_
  refine lv_iload_n hx hb dX4_weekCost_23 rfl (lv_at hl 3 rfl) ?_
  refine lv_iload_n hx hb dX4_weekCost_24 rfl (lv_at hl 4 rfl) ?_
  refine lv_iload hx hb dX4_weekCost_25 (lv_at hl 0 rfl) ?_
  refine g_iF (w1 := fun (_ : Unit) => [(qh 0, .inr (2, [.int (sh 0 0), .int (sh 0 1), .ref (qh 1), .ref (qh 2), .ref (qh 3), .ref (qh 4), .int (sh 0 6), .int (sh 0 7), .int (sh 0 8), .int (sh 0 9), .int (sh 0 10), .int (sh 0 11), .int (sh 0 12), .ref (qh 5)])), (qh 1, .inl (k 0, 5, .inl (sh 1))), (qh 2, .inl (k 0, 5, .inl (sh 2))), (qh 3, .inl (k 0, 3, .inl (sh 3))), (qh 4, .inl (k 0, 3, .inl (sh 4))), (qh 5, .inl (k 0, 525, .inl (sh 5)))]) (g_runVF (ws := [(qh 0, .inr (2, [.int (sh 0 0), .int (sh 0 1), .ref (qh 1), .ref (qh 2), .ref (qh 3), .ref (qh 4), .int (sh 0 6), .int (sh 0 7), .int (sh 0 8), .int (sh 0 9), .int (sh 0 10), .int (sh 0 11), .int (sh 0 12), .ref (qh 5)])), (qh 1, .inl (k 0, 5, .inl (sh 1))), (qh 2, .inl (k 0, 5, .inl (sh 2))), (qh 3, .inl (k 0, 3, .inl (sh 3))), (qh 4, .inl (k 0, 3, .inl (sh 4))), (qh 5, .inl (k 0, 525, .inl (sh 5)))]) (rest := [.int 0, .int (sh 0 7), .int v7]) cx hP hD hS [.int p0, .int p1, .int p2, .int r2] (c_X4_lack l D k b qh sh H.size p0 p1 p2 r2 (show 0 ≤ p0.toInt ∧ p0.toInt ≤ 4 from by first | decide | omega)) gX4_weekCost_X4_lack rfl rfl rfl nd_X4_lack ⟨Nat.le_of_ble_eq_true rfl, Nat.le_of_ble_eq_true rfl⟩ (ci := 2) (q0 := 0) rfl rfl rfl hl.1 rfl (Nat.le_of_ble_eq_true rfl) ⟨Nat.zero_le _, Nat.zero_le _⟩ dX4_weekCost_27) cx.2.2.1 hD hS (fun r9 _ H locs hw8 hP hD hS => ?_)
  clear hw8
  refine va_mmax hx hb (cx.1.2.2.1.trans hl.1.symm) cx.1.2.2.2.1 (cx.1.2.2.2.2 _ mw_X4_weekCost_maxL97) (cx.1.2.2.2.2 _ mw_X4_weekCost_maxS) (cx.1.2.2.2.2 _ mw_X4_weekCost_maxI) (cx.1.2.2.2.2 _ mw_X4_weekCost_maxC) (Nat.le_of_ble_eq_true rfl) (Nat.le_of_ble_eq_true rfl) (Nat.zero_le _) (Nat.zero_le _) dX4_weekCost_30 (lv_topi (fun v10 e10 => ?_))
  have t10 := i_max (by decide) rfl (a := 0) (b := r9.toInt) e10
  refine lv_imul hx hb dX4_weekCost_33 (lv_topi (fun v11 e11 => ?_))
  refine lv_iadd hx hb dX4_weekCost_34 (lv_topi (fun v12 e12 => ?_))
  refine lv_istore (lv' := [(6, .int v12), (5, .int r2), (0, .ref (qh 0)), (1, .int p0), (2, .int p1), (3, .int p2), (4, .int p3)]) hx hb dX4_weekCost_35 hl (by decide) rfl (fun ls hl => ?_)
  refine lv_aload_n hx hb dX4_weekCost_37 rfl (lv_at hl 2 rfl) ?_
  refine g_get cx hP iw_X4_weekCost_X4 0 rfl rfl 8 (by decide) rfl fw_X4_weekCost_51 rfl dX4_weekCost_38 ?_
  refine lv_bipush (v := (-9)) hx hb dX4_weekCost_41 (by decide) ?_
  have hJ61 : ∀ (v18 : Int32) (H : Heap) (locs : List Loc) (ls : Array Slot), va_P D vwCl [(qh 0, .inr (2, [.int (sh 0 0), .int (sh 0 1), .ref (qh 1), .ref (qh 2), .ref (qh 3), .ref (qh 4), .int (sh 0 6), .int (sh 0 7), .int (sh 0 8), .int (sh 0 9), .int (sh 0 10), .int (sh 0 11), .int (sh 0 12), .ref (qh 5)])), (qh 1, .inl (k 0, 5, .inl (sh 1))), (qh 2, .inl (k 0, 5, .inl (sh 2))), (qh 3, .inl (k 0, 3, .inl (sh 3))), (qh 4, .inl (k 0, 3, .inl (sh 4))), (qh 5, .inl (k 0, 525, .inl (sh 5)))] H → va_D A [(qh 0, .inr (2, [.int (sh 0 0), .int (sh 0 1), .ref (qh 1), .ref (qh 2), .ref (qh 3), .ref (qh 4), .int (sh 0 6), .int (sh 0 7), .int (sh 0 8), .int (sh 0 9), .int (sh 0 10), .int (sh 0 11), .int (sh 0 12), .ref (qh 5)])), (qh 1, .inl (k 0, 5, .inl (sh 1))), (qh 2, .inl (k 0, 5, .inl (sh 2))), (qh 3, .inl (k 0, 3, .inl (sh 3))), (qh 4, .inl (k 0, 3, .inl (sh 4))), (qh 5, .inl (k 0, 525, .inl (sh 5)))] → va_S A s.heap H locs → lv_has ls 7 [(6, .int v18), (5, .int r2), (0, .ref (qh 0)), (3, .int p2)] → W p l e ({ frames := 1, cells := 0, slots := 0, locals := 25 } : Room) s m ([.ref (qh 0), .int p0, .int p1, .int p2, .int p3] : List Value).toArray below meth c H locs 0 0 Q (F0 m 61 ls []) := by
    intro v18 H locs ls  hP hD hS hl
    refine lv_aload_n hx hb dX4_weekCost_61 rfl (lv_at hl 2 rfl) ?_
    refine g_get cx hP iw_X4_weekCost_X4 0 rfl rfl 9 (by decide) rfl fw_X4_weekCost_54 rfl dX4_weekCost_62 ?_
    refine lv_bipush (v := (-9)) hx hb dX4_weekCost_65 (by decide) ?_
    have hJ82 : ∀ (v21 : Int32) (H : Heap) (locs : List Loc) (ls : Array Slot), va_P D vwCl [(qh 0, .inr (2, [.int (sh 0 0), .int (sh 0 1), .ref (qh 1), .ref (qh 2), .ref (qh 3), .ref (qh 4), .int (sh 0 6), .int (sh 0 7), .int (sh 0 8), .int (sh 0 9), .int (sh 0 10), .int (sh 0 11), .int (sh 0 12), .ref (qh 5)])), (qh 1, .inl (k 0, 5, .inl (sh 1))), (qh 2, .inl (k 0, 5, .inl (sh 2))), (qh 3, .inl (k 0, 3, .inl (sh 3))), (qh 4, .inl (k 0, 3, .inl (sh 4))), (qh 5, .inl (k 0, 525, .inl (sh 5)))] H → va_D A [(qh 0, .inr (2, [.int (sh 0 0), .int (sh 0 1), .ref (qh 1), .ref (qh 2), .ref (qh 3), .ref (qh 4), .int (sh 0 6), .int (sh 0 7), .int (sh 0 8), .int (sh 0 9), .int (sh 0 10), .int (sh 0 11), .int (sh 0 12), .ref (qh 5)])), (qh 1, .inl (k 0, 5, .inl (sh 1))), (qh 2, .inl (k 0, 5, .inl (sh 2))), (qh 3, .inl (k 0, 3, .inl (sh 3))), (qh 4, .inl (k 0, 3, .inl (sh 4))), (qh 5, .inl (k 0, 525, .inl (sh 5)))] → va_S A s.heap H locs → lv_has ls 7 [(6, .int v21), (0, .ref (qh 0)), (3, .int p2)] → W p l e ({ frames := 1, cells := 0, slots := 0, locals := 25 } : Room) s m ([.ref (qh 0), .int p0, .int p1, .int p2, .int p3] : List Value).toArray below meth c H locs 0 0 Q (F0 m 82 ls []) := by
      intro v21 H locs ls  hP hD hS hl
      refine lv_aload_n hx hb dX4_weekCost_82 rfl (lv_at hl 1 rfl) ?_
      refine g_get cx hP iw_X4_weekCost_X4 0 rfl rfl 10 (by decide) rfl fw_X4_weekCost_57 rfl dX4_weekCost_83 ?_
      refine lv_bipush (v := (-9)) hx hb dX4_weekCost_86 (by decide) ?_
      refine lv_icmp_eq (tgt := 102) hx hb dX4_weekCost_88 (by decide) (fun c22 => ?_) (fun c22 => ?_)
      · have f22 : (sh 0 10).toInt = (-9) := f_eq rfl (by decide) c22
        refine lv_iload hx hb dX4_weekCost_102 (lv_at hl 0 rfl) ?_
        rw [hQ]
        exact x_i cx hr () hP hD hS trivial dX4_weekCost_104
      · have f22 : ¬ (sh 0 10).toInt = (-9) := f_ne rfl (by decide) c22
        refine lv_iload hx hb dX4_weekCost_91 (lv_at hl 0 rfl) ?_
        refine lv_aload_n hx hb dX4_weekCost_93 rfl (lv_at hl 1 rfl) ?_
        refine g_get cx hP iw_X4_weekCost_X4 0 rfl rfl 10 (by decide) rfl fw_X4_weekCost_57 rfl dX4_weekCost_94 ?_
        refine lv_iload_n hx hb dX4_weekCost_97 rfl (lv_at hl 2 rfl) ?_
        refine lv_imul hx hb dX4_weekCost_98 (lv_topi (fun v23 e23 => ?_))
        refine lv_iadd hx hb dX4_weekCost_99 (lv_topi (fun v24 e24 => ?_))
        refine lv_istore (lv' := [(6, .int v24), (0, .ref (qh 0)), (3, .int p2)]) hx hb dX4_weekCost_100 hl (by decide) rfl (fun ls hl => ?_)
        refine lv_iload hx hb dX4_weekCost_102 (lv_at hl 0 rfl) ?_
        rw [hQ]
        exact x_i cx hr () hP hD hS trivial dX4_weekCost_104
    refine lv_icmp_eq (tgt := 82) hx hb dX4_weekCost_67 (by decide) (fun c25 => ?_) (fun c25 => ?_)
    · have f25 : (sh 0 9).toInt = (-9) := f_eq rfl (by decide) c25
      exact hJ82 v18 _ _ _  hP hD hS (lv_sub hl [0, 2, 3] rfl)
    · have f25 : ¬ (sh 0 9).toInt = (-9) := f_ne rfl (by decide) c25
      refine lv_iload hx hb dX4_weekCost_70 (lv_at hl 0 rfl) ?_
      refine lv_aload_n hx hb dX4_weekCost_72 rfl (lv_at hl 2 rfl) ?_
      refine g_get cx hP iw_X4_weekCost_X4 0 rfl rfl 9 (by decide) rfl fw_X4_weekCost_54 rfl dX4_weekCost_73 ?_
      refine lv_iload hx hb dX4_weekCost_76 (lv_at hl 1 rfl) ?_
      refine lv_imul hx hb dX4_weekCost_78 (lv_topi (fun v26 e26 => ?_))
      refine lv_iadd hx hb dX4_weekCost_79 (lv_topi (fun v27 e27 => ?_))
      refine lv_istore (lv' := [(6, .int v27), (5, .int r2), (0, .ref (qh 0)), (3, .int p2)]) hx hb dX4_weekCost_80 hl (by decide) rfl (fun ls hl => ?_)
      exact hJ82 v27 _ _ _  hP hD hS (lv_sub hl [0, 2, 3] rfl)
  refine lv_icmp_eq (tgt := 61) hx hb dX4_weekCost_43 (by decide) (fun c28 => ?_) (fun c28 => ?_)
  · have f28 : (sh 0 8).toInt = (-9) := f_eq rfl (by decide) c28
    exact hJ61 v12 _ _ _  hP hD hS (lv_sub hl [0, 1, 2, 5] rfl)
  · have f28 : ¬ (sh 0 8).toInt = (-9) := f_ne rfl (by decide) c28
    refine lv_iload hx hb dX4_weekCost_46 (lv_at hl 0 rfl) ?_
    refine lv_aload_n hx hb dX4_weekCost_48 rfl (lv_at hl 2 rfl) ?_
    refine g_get cx hP iw_X4_weekCost_X4 0 rfl rfl 8 (by decide) rfl fw_X4_weekCost_51 rfl dX4_weekCost_49 ?_
    refine lv_iload hx hb dX4_weekCost_52 (lv_at hl 6 rfl) ?_
    refine g_ir (g_runS (wc := []) (rest := [.int (sh 0 8), .int v12]) cx hP hD hS [] rfl (by decide) [.int p3] (c_X0_letGo l D k b H.size p3) gX4_weekCost_X0_letGo rfl rfl rfl nd_X0_letGo ⟨Nat.le_of_ble_eq_true rfl, Nat.le_of_ble_eq_true rfl⟩ rfl hl.1 rfl (Nat.le_of_ble_eq_true rfl) ⟨Nat.zero_le _, Nat.zero_le _⟩ dX4_weekCost_54) cx.2.2.1 hP hD hS [] rfl rfl (fun r30 H locs hw29 hP hS => ?_)
    have w31 : r30 = J_X0_letGo p3 := hw29
    clear hw29
    refine lv_imul hx hb dX4_weekCost_57 (lv_topi (fun v32 e32 => ?_))
    refine lv_iadd hx hb dX4_weekCost_58 (lv_topi (fun v33 e33 => ?_))
    refine lv_istore (lv' := [(6, .int v33), (5, .int r2), (0, .ref (qh 0)), (1, .int p0), (2, .int p1), (3, .int p2), (4, .int p3)]) hx hb dX4_weekCost_59 hl (by decide) rfl (fun ls hl => ?_)
    exact hJ61 v33 _ _ _  hP hD hS (lv_sub hl [0, 1, 2, 5] rfl)
theorem fw_X4_bonusFor_60 : Cond.fieldLink RX4 60 "StillInAugust$House" "bonus" "I" ∈ wsX4_bonusFor := by decide +kernel
theorem iw_X4_bonusFor_X4 : ∀ w ∈ u_ws RX4 TX4 14, w ∈ wsX4_bonusFor := fun _ h => List.mem_cons_of_mem _ (List.mem_append_right _ h)
set_option maxHeartbeats 4000000 in
set_option maxRecDepth 100000 in
theorem c_X4_bonusFor (l : Launch) (D : va_G) (k : Nat → ClassId) (b : Nat → Nat) (qh : Nat → Nat) (sh : Nat → Nat → Int32) (sz : Nat) (p0 : Int32) : MetI l D k b yX4_bonusFor wsX4_bonusFor ({ frames := 1, cells := 0, slots := 0, locals := 20 } : Room) [(qh 0, .inr (2, [.int (sh 0 0), .int (sh 0 1), .ref (qh 1), .ref (qh 2), .ref (qh 3), .ref (qh 4), .int (sh 0 6), .int (sh 0 7), .int (sh 0 8), .int (sh 0 9), .int (sh 0 10), .int (sh 0 11), .int (sh 0 12), .ref (qh 5)])), (qh 1, .inl (k 0, 5, .inl (sh 1))), (qh 2, .inl (k 0, 5, .inl (sh 2))), (qh 3, .inl (k 0, 3, .inl (sh 3))), (qh 4, .inl (k 0, 3, .inl (sh 4))), (qh 5, .inl (k 0, 525, .inl (sh 5)))] sz [.ref (qh 0), .int p0] (fun (r : Int32) (u : Unit) => True) (fun u => [(qh 0, .inr (2, [.int (sh 0 0), .int (sh 0 1), .ref (qh 1), .ref (qh 2), .ref (qh 3), .ref (qh 4), .int (sh 0 6), .int (sh 0 7), .int (sh 0 8), .int (sh 0 9), .int (sh 0 10), .int (sh 0 11), .int (sh 0 12), .ref (qh 5)])), (qh 1, .inl (k 0, 5, .inl (sh 1))), (qh 2, .inl (k 0, 5, .inl (sh 2))), (qh 3, .inl (k 0, 3, .inl (sh 3))), (qh 4, .inl (k 0, 3, .inl (sh 4))), (qh 5, .inl (k 0, 525, .inl (sh 5)))]) := by
  refine g_enter (cc := cX4_bonusFor) (maxL := 2) (ret := (some .int)) (by decide) rfl (Nat.le_of_ble_eq_true rfl) ?_
  intro p e s m below meth c A hsz hAe cx hr hP hD hS ls hl
  rw [hAe]
  refine g_q (fun Q hQ => ?_)
  have hx := cx.1.1
  have hb := cx.1.2.1
  have bp0 := i_rng p0
  have hl : lv_has ls 2 [(0, .ref (qh 0)), (1, .int p0)] := hl
  obtain ⟨H, eH⟩ : ∃ H : Heap, H = s.heap := ⟨_, rfl⟩
  obtain ⟨locs, el⟩ : ∃ L : List Loc, L = [] := ⟨_, rfl⟩
  have hP : va_P D vwCl [(qh 0, .inr (2, [.int (sh 0 0), .int (sh 0 1), .ref (qh 1), .ref (qh 2), .ref (qh 3), .ref (qh 4), .int (sh 0 6), .int (sh 0 7), .int (sh 0 8), .int (sh 0 9), .int (sh 0 10), .int (sh 0 11), .int (sh 0 12), .ref (qh 5)])), (qh 1, .inl (k 0, 5, .inl (sh 1))), (qh 2, .inl (k 0, 5, .inl (sh 2))), (qh 3, .inl (k 0, 3, .inl (sh 3))), (qh 4, .inl (k 0, 3, .inl (sh 4))), (qh 5, .inl (k 0, 525, .inl (sh 5)))] H := by rw [eH]; exact hP
  have hD : va_D A [(qh 0, .inr (2, [.int (sh 0 0), .int (sh 0 1), .ref (qh 1), .ref (qh 2), .ref (qh 3), .ref (qh 4), .int (sh 0 6), .int (sh 0 7), .int (sh 0 8), .int (sh 0 9), .int (sh 0 10), .int (sh 0 11), .int (sh 0 12), .ref (qh 5)])), (qh 1, .inl (k 0, 5, .inl (sh 1))), (qh 2, .inl (k 0, 5, .inl (sh 2))), (qh 3, .inl (k 0, 3, .inl (sh 3))), (qh 4, .inl (k 0, 3, .inl (sh 4))), (qh 5, .inl (k 0, 525, .inl (sh 5)))] := hD
  have hS : va_S A s.heap H locs := by rw [eH, el]; exact hS
  suffices goal : W p l e ({ frames := 1, cells := 0, slots := 0, locals := 20 } : Room) s m ([.ref (qh 0), .int p0] : List Value).toArray below meth c H locs 0 0 Q (F0 m 0 ls []) by rw [eH, el] at goal; exact goal
  refine lv_aload_n hx hb dX4_bonusFor_0 rfl (lv_at hl 0 rfl) ?_
  refine g_get cx hP iw_X4_bonusFor_X4 0 rfl rfl 11 (by decide) rfl fw_X4_bonusFor_60 rfl dX4_bonusFor_1 ?_
  refine lv_bipush (v := (-9)) hx hb dX4_bonusFor_4 (by decide) ?_
  refine lv_icmp_ne (tgt := 13) hx hb dX4_bonusFor_6 (by decide) (fun c1 => ?_) (fun c1 => ?_)
  · have f1 : ¬ (sh 0 11).toInt = (-9) := f_ne rfl (by decide) c1
    refine lv_aload_n hx hb dX4_bonusFor_13 rfl (lv_at hl 0 rfl) ?_
    refine g_get cx hP iw_X4_bonusFor_X4 0 rfl rfl 11 (by decide) rfl fw_X4_bonusFor_60 rfl dX4_bonusFor_14 ?_
    refine lv_iload_n hx hb dX4_bonusFor_17 rfl (lv_at hl 1 rfl) ?_
    refine g_ir (g_runS (wc := []) (rest := [.int (sh 0 11)]) cx hP hD hS [] rfl (by decide) [.int p0] (c_X3_total l D k b H.size p0) gX4_bonusFor_X3_total rfl rfl rfl nd_X3_total ⟨Nat.le_of_ble_eq_true rfl, Nat.le_of_ble_eq_true rfl⟩ rfl hl.1 rfl (Nat.le_of_ble_eq_true rfl) ⟨Nat.zero_le _, Nat.zero_le _⟩ dX4_bonusFor_18) cx.2.2.1 hP hD hS [] rfl rfl (fun r3 H locs hw2 hP hS => ?_)
    have w4 : r3 = J_X3_total p0 := hw2
    clear hw2
    refine lv_imul hx hb dX4_bonusFor_21 (lv_topi (fun v5 e5 => ?_))
    rw [hQ]
    exact x_i cx hr () hP hD hS trivial dX4_bonusFor_22
  · have f1 : (sh 0 11).toInt = (-9) := f_eq rfl (by decide) c1
    refine lv_iconst (v := 0) hx hb dX4_bonusFor_9 (by decide) ?_
    refine lv_goto (tgt := 22) hx hb dX4_bonusFor_10 (by decide) ?_
    have hlit6 : (0 : Int32).toInt = 0 := by decide
    rw [hQ]
    exact x_i cx hr () hP hD hS trivial dX4_bonusFor_22
theorem fw_X4_sumOf_1_32 : Cond.fieldLink RX4 32 "StillInAugust$House" "weeks" "I" ∈ wsX4_sumOf := by decide +kernel
theorem iw_X4_sumOf_1_X4 : ∀ w ∈ u_ws RX4 TX4 14, w ∈ wsX4_sumOf := fun _ h => List.mem_cons_of_mem _ (List.mem_append_right _ h)
set_option maxHeartbeats 4000000 in
set_option maxRecDepth 100000 in
theorem c_X4_sumOf_1 (l : Launch) (D : va_G) (k : Nat → ClassId) (b : Nat → Nat) (qh : Nat → Nat) (sh : Nat → Nat → Int32) (sz : Nat) (h_wk : 0 ≤ (sh 0 0).toInt ∧ (sh 0 0).toInt ≤ 5) : MetI l D k b yX4_sumOf wsX4_sumOf ({ frames := 0, cells := 0, slots := 0, locals := 0 } : Room) [(qh 0, .inr (2, [.int (sh 0 0), .int (sh 0 1), .ref (qh 1), .ref (qh 2), .ref (qh 3), .ref (qh 4), .int (sh 0 6), .int (sh 0 7), .int (sh 0 8), .int (sh 0 9), .int (sh 0 10), .int (sh 0 11), .int (sh 0 12), .ref (qh 5)])), (qh 1, .inl (k 0, 5, .inl (sh 1))), (qh 2, .inl (k 0, 5, .inl (sh 2))), (qh 3, .inl (k 0, 3, .inl (sh 3))), (qh 4, .inl (k 0, 3, .inl (sh 4))), (qh 5, .inl (k 0, 525, .inl (sh 5)))] sz [.ref (qh 0), .ref (qh 1)] (fun (r : Int32) (u : Unit) => True) (fun u => [(qh 0, .inr (2, [.int (sh 0 0), .int (sh 0 1), .ref (qh 1), .ref (qh 2), .ref (qh 3), .ref (qh 4), .int (sh 0 6), .int (sh 0 7), .int (sh 0 8), .int (sh 0 9), .int (sh 0 10), .int (sh 0 11), .int (sh 0 12), .ref (qh 5)])), (qh 1, .inl (k 0, 5, .inl (sh 1))), (qh 2, .inl (k 0, 5, .inl (sh 2))), (qh 3, .inl (k 0, 3, .inl (sh 3))), (qh 4, .inl (k 0, 3, .inl (sh 4))), (qh 5, .inl (k 0, 525, .inl (sh 5)))]) := by
  refine g_enter (cc := cX4_sumOf) (maxL := 4) (ret := (some .int)) (by decide) rfl (Nat.le_of_ble_eq_true rfl) ?_
  intro p e s m below meth c A hsz hAe cx hr hP hD hS ls hl
  rw [hAe]
  refine g_q (fun Q hQ => ?_)
  have hx := cx.1.1
  have hb := cx.1.2.1
  have hl : lv_has ls 4 [(0, .ref (qh 0)), (1, .ref (qh 1))] := hl
  obtain ⟨H, eH⟩ : ∃ H : Heap, H = s.heap := ⟨_, rfl⟩
  obtain ⟨locs, el⟩ : ∃ L : List Loc, L = [] := ⟨_, rfl⟩
  have hP : va_P D vwCl [(qh 0, .inr (2, [.int (sh 0 0), .int (sh 0 1), .ref (qh 1), .ref (qh 2), .ref (qh 3), .ref (qh 4), .int (sh 0 6), .int (sh 0 7), .int (sh 0 8), .int (sh 0 9), .int (sh 0 10), .int (sh 0 11), .int (sh 0 12), .ref (qh 5)])), (qh 1, .inl (k 0, 5, .inl (sh 1))), (qh 2, .inl (k 0, 5, .inl (sh 2))), (qh 3, .inl (k 0, 3, .inl (sh 3))), (qh 4, .inl (k 0, 3, .inl (sh 4))), (qh 5, .inl (k 0, 525, .inl (sh 5)))] H := by rw [eH]; exact hP
  have hD : va_D A [(qh 0, .inr (2, [.int (sh 0 0), .int (sh 0 1), .ref (qh 1), .ref (qh 2), .ref (qh 3), .ref (qh 4), .int (sh 0 6), .int (sh 0 7), .int (sh 0 8), .int (sh 0 9), .int (sh 0 10), .int (sh 0 11), .int (sh 0 12), .ref (qh 5)])), (qh 1, .inl (k 0, 5, .inl (sh 1))), (qh 2, .inl (k 0, 5, .inl (sh 2))), (qh 3, .inl (k 0, 3, .inl (sh 3))), (qh 4, .inl (k 0, 3, .inl (sh 4))), (qh 5, .inl (k 0, 525, .inl (sh 5)))] := hD
  have hS : va_S A s.heap H locs := by rw [eH, el]; exact hS
  suffices goal : W p l e ({ frames := 0, cells := 0, slots := 0, locals := 0 } : Room) s m ([.ref (qh 0), .ref (qh 1)] : List Value).toArray below meth c H locs 0 0 Q (F0 m 0 ls []) by rw [eH, el] at goal; exact goal
  refine lv_iconst (v := 0) hx hb dX4_sumOf_0 (by decide) ?_
  refine lv_istore_n (lv' := [(2, .int 0), (0, .ref (qh 0)), (1, .ref (qh 1))]) hx hb dX4_sumOf_1 rfl hl (by decide) rfl (fun ls hl => ?_)
  refine lv_iconst (v := 0) hx hb dX4_sumOf_2 (by decide) ?_
  refine lv_istore_n (lv' := [(3, .int 0), (2, .int 0), (0, .ref (qh 0)), (1, .ref (qh 1))]) hx hb dX4_sumOf_3 rfl hl (by decide) rfl (fun ls hl => ?_)
  have hL4 : ∀ (n7 : Nat) (v5 : Int32) (v6 : Int32) (H : Heap) (locs : List Loc) (ls : Array Slot), 5 - v5.toInt < (n7 : Int) → (0 ≤ v5.toInt ∧ v5.toInt ≤ 5) → va_P D vwCl [(qh 0, .inr (2, [.int (sh 0 0), .int (sh 0 1), .ref (qh 1), .ref (qh 2), .ref (qh 3), .ref (qh 4), .int (sh 0 6), .int (sh 0 7), .int (sh 0 8), .int (sh 0 9), .int (sh 0 10), .int (sh 0 11), .int (sh 0 12), .ref (qh 5)])), (qh 1, .inl (k 0, 5, .inl (sh 1))), (qh 2, .inl (k 0, 5, .inl (sh 2))), (qh 3, .inl (k 0, 3, .inl (sh 3))), (qh 4, .inl (k 0, 3, .inl (sh 4))), (qh 5, .inl (k 0, 525, .inl (sh 5)))] H → va_D A [(qh 0, .inr (2, [.int (sh 0 0), .int (sh 0 1), .ref (qh 1), .ref (qh 2), .ref (qh 3), .ref (qh 4), .int (sh 0 6), .int (sh 0 7), .int (sh 0 8), .int (sh 0 9), .int (sh 0 10), .int (sh 0 11), .int (sh 0 12), .ref (qh 5)])), (qh 1, .inl (k 0, 5, .inl (sh 1))), (qh 2, .inl (k 0, 5, .inl (sh 2))), (qh 3, .inl (k 0, 3, .inl (sh 3))), (qh 4, .inl (k 0, 3, .inl (sh 4))), (qh 5, .inl (k 0, 525, .inl (sh 5)))] → va_S A s.heap H locs → lv_has ls 4 [(3, .int v5), (2, .int v6), (0, .ref (qh 0)), (1, .ref (qh 1))] → W p l e ({ frames := 0, cells := 0, slots := 0, locals := 0 } : Room) s m ([.ref (qh 0), .ref (qh 1)] : List Value).toArray below meth c H locs 0 0 Q (F0 m 4 ls []) := by
    intro n7
    induction n7 with
    | zero => intro v5 v6 H locs ls hmn7 bv5 hP hD hS hl; exact absurd hmn7 (by omega)
    | succ n7 ih4 =>
      intro v5 v6 H locs ls hmn7 bv5 hP hD hS hl
      refine lv_iload_n hx hb dX4_sumOf_4 rfl (lv_at hl 0 rfl) ?_
      refine lv_aload_n hx hb dX4_sumOf_5 rfl (lv_at hl 2 rfl) ?_
      refine g_get cx hP iw_X4_sumOf_1_X4 0 rfl rfl 0 (by decide) rfl fw_X4_sumOf_1_32 rfl dX4_sumOf_6 ?_
      refine lv_icmp_ge (tgt := 30) hx hb dX4_sumOf_9 (by decide) (fun c8 => ?_) (fun c8 => ?_)
      · have f8 : (sh 0 0).toInt ≤ v5.toInt := f_le rfl rfl c8
        refine lv_iload_n hx hb dX4_sumOf_30 rfl (lv_at hl 1 rfl) ?_
        rw [hQ]
        exact x_i cx hr () hP hD hS trivial dX4_sumOf_31
      · have f8 : v5.toInt < (sh 0 0).toInt := f_nle rfl rfl c8
        refine lv_iload_n hx hb dX4_sumOf_12 rfl (lv_at hl 0 rfl) ?_
        refine lv_aload_n hx hb dX4_sumOf_13 rfl (lv_at hl 3 rfl) ?_
        refine va_alen hx hb cx.2.1 hP 1 0 rfl rfl (v := 5) (show Int32.ofNat 5 = 5 from by decide) dX4_sumOf_14 ?_
        refine lv_icmp_ge (tgt := 30) hx hb dX4_sumOf_15 (by decide) (fun c9 => ?_) (fun c9 => ?_)
        · have f9 : 5 ≤ v5.toInt := f_le (by decide) rfl c9
          refine lv_iload_n hx hb dX4_sumOf_30 rfl (lv_at hl 1 rfl) ?_
          rw [hQ]
          exact x_i cx hr () hP hD hS trivial dX4_sumOf_31
        · have f9 : v5.toInt < 5 := f_nle (by decide) rfl c9
          refine lv_iload_n hx hb dX4_sumOf_18 rfl (lv_at hl 1 rfl) ?_
          refine lv_aload_n hx hb dX4_sumOf_19 rfl (lv_at hl 3 rfl) ?_
          refine lv_iload_n hx hb dX4_sumOf_20 rfl (lv_at hl 0 rfl) ?_
          have hn10 : vp_in v5 5 := f_in (a := v5.toInt) rfl (by omega) (by omega)
          refine va_iald hx hb cx.2.1 hP 1 0 rfl rfl hn10 dX4_sumOf_21 (lv_topi (fun v11 e11 => ?_))
          refine lv_iadd hx hb dX4_sumOf_22 (lv_topi (fun v12 e12 => ?_))
          refine lv_istore_n (lv' := [(2, .int v12), (3, .int v5), (0, .ref (qh 0)), (1, .ref (qh 1))]) hx hb dX4_sumOf_23 rfl hl (by decide) rfl (fun ls hl => ?_)
          obtain ⟨v13, e13⟩ : ∃ z : Int32, z = v5 + 1 := ⟨_, rfl⟩
          refine lv_iinc (v := v13) (lv' := [(3, .int v13), (2, .int v12), (0, .ref (qh 0)), (1, .ref (qh 1))]) hx hb dX4_sumOf_24 hl (k := 1) rfl (by rw [e13]; rfl) (by decide) rfl (fun ls hl => ?_)
          have t13 : v13.toInt = v5.toInt + 1 := by rw [e13]; exact i_add rfl (by decide) (by omega) (by omega)
          refine lv_goto (tgt := 4) hx hb dX4_sumOf_27 (by decide) ?_
          exact ih4 v13 v12 _ _ _ (by omega) (by first | decide | omega) hP hD hS (lv_sub hl [0, 1, 2, 3] rfl)
  have hlit14 : (0 : Int32).toInt = 0 := by decide
  have hlit15 : (0 : Int32).toInt = 0 := by decide
  exact hL4 (Int.toNat (5 - 0) + 1) 0 0 _ _ _ (by omega) (by first | decide | omega) hP hD hS (lv_sub hl [0, 1, 2, 3] rfl)
theorem fw_X4_sumOf_2_32 : Cond.fieldLink RX4 32 "StillInAugust$House" "weeks" "I" ∈ wsX4_sumOf := by decide +kernel
theorem iw_X4_sumOf_2_X4 : ∀ w ∈ u_ws RX4 TX4 14, w ∈ wsX4_sumOf := fun _ h => List.mem_cons_of_mem _ (List.mem_append_right _ h)
set_option maxHeartbeats 4000000 in
set_option maxRecDepth 100000 in
theorem c_X4_sumOf_2 (l : Launch) (D : va_G) (k : Nat → ClassId) (b : Nat → Nat) (qh : Nat → Nat) (sh : Nat → Nat → Int32) (sz : Nat) (h_wk : 0 ≤ (sh 0 0).toInt ∧ (sh 0 0).toInt ≤ 5) : MetI l D k b yX4_sumOf wsX4_sumOf ({ frames := 0, cells := 0, slots := 0, locals := 0 } : Room) [(qh 0, .inr (2, [.int (sh 0 0), .int (sh 0 1), .ref (qh 1), .ref (qh 2), .ref (qh 3), .ref (qh 4), .int (sh 0 6), .int (sh 0 7), .int (sh 0 8), .int (sh 0 9), .int (sh 0 10), .int (sh 0 11), .int (sh 0 12), .ref (qh 5)])), (qh 1, .inl (k 0, 5, .inl (sh 1))), (qh 2, .inl (k 0, 5, .inl (sh 2))), (qh 3, .inl (k 0, 3, .inl (sh 3))), (qh 4, .inl (k 0, 3, .inl (sh 4))), (qh 5, .inl (k 0, 525, .inl (sh 5)))] sz [.ref (qh 0), .ref (qh 2)] (fun (r : Int32) (u : Unit) => True) (fun u => [(qh 0, .inr (2, [.int (sh 0 0), .int (sh 0 1), .ref (qh 1), .ref (qh 2), .ref (qh 3), .ref (qh 4), .int (sh 0 6), .int (sh 0 7), .int (sh 0 8), .int (sh 0 9), .int (sh 0 10), .int (sh 0 11), .int (sh 0 12), .ref (qh 5)])), (qh 1, .inl (k 0, 5, .inl (sh 1))), (qh 2, .inl (k 0, 5, .inl (sh 2))), (qh 3, .inl (k 0, 3, .inl (sh 3))), (qh 4, .inl (k 0, 3, .inl (sh 4))), (qh 5, .inl (k 0, 525, .inl (sh 5)))]) := by
  refine g_enter (cc := cX4_sumOf) (maxL := 4) (ret := (some .int)) (by decide) rfl (Nat.le_of_ble_eq_true rfl) ?_
  intro p e s m below meth c A hsz hAe cx hr hP hD hS ls hl
  rw [hAe]
  refine g_q (fun Q hQ => ?_)
  have hx := cx.1.1
  have hb := cx.1.2.1
  have hl : lv_has ls 4 [(0, .ref (qh 0)), (1, .ref (qh 2))] := hl
  obtain ⟨H, eH⟩ : ∃ H : Heap, H = s.heap := ⟨_, rfl⟩
  obtain ⟨locs, el⟩ : ∃ L : List Loc, L = [] := ⟨_, rfl⟩
  have hP : va_P D vwCl [(qh 0, .inr (2, [.int (sh 0 0), .int (sh 0 1), .ref (qh 1), .ref (qh 2), .ref (qh 3), .ref (qh 4), .int (sh 0 6), .int (sh 0 7), .int (sh 0 8), .int (sh 0 9), .int (sh 0 10), .int (sh 0 11), .int (sh 0 12), .ref (qh 5)])), (qh 1, .inl (k 0, 5, .inl (sh 1))), (qh 2, .inl (k 0, 5, .inl (sh 2))), (qh 3, .inl (k 0, 3, .inl (sh 3))), (qh 4, .inl (k 0, 3, .inl (sh 4))), (qh 5, .inl (k 0, 525, .inl (sh 5)))] H := by rw [eH]; exact hP
  have hD : va_D A [(qh 0, .inr (2, [.int (sh 0 0), .int (sh 0 1), .ref (qh 1), .ref (qh 2), .ref (qh 3), .ref (qh 4), .int (sh 0 6), .int (sh 0 7), .int (sh 0 8), .int (sh 0 9), .int (sh 0 10), .int (sh 0 11), .int (sh 0 12), .ref (qh 5)])), (qh 1, .inl (k 0, 5, .inl (sh 1))), (qh 2, .inl (k 0, 5, .inl (sh 2))), (qh 3, .inl (k 0, 3, .inl (sh 3))), (qh 4, .inl (k 0, 3, .inl (sh 4))), (qh 5, .inl (k 0, 525, .inl (sh 5)))] := hD
  have hS : va_S A s.heap H locs := by rw [eH, el]; exact hS
  suffices goal : W p l e ({ frames := 0, cells := 0, slots := 0, locals := 0 } : Room) s m ([.ref (qh 0), .ref (qh 2)] : List Value).toArray below meth c H locs 0 0 Q (F0 m 0 ls []) by rw [eH, el] at goal; exact goal
  refine lv_iconst (v := 0) hx hb dX4_sumOf_0 (by decide) ?_
  refine lv_istore_n (lv' := [(2, .int 0), (0, .ref (qh 0)), (1, .ref (qh 2))]) hx hb dX4_sumOf_1 rfl hl (by decide) rfl (fun ls hl => ?_)
  refine lv_iconst (v := 0) hx hb dX4_sumOf_2 (by decide) ?_
  refine lv_istore_n (lv' := [(3, .int 0), (2, .int 0), (0, .ref (qh 0)), (1, .ref (qh 2))]) hx hb dX4_sumOf_3 rfl hl (by decide) rfl (fun ls hl => ?_)
  have hL4 : ∀ (n7 : Nat) (v5 : Int32) (v6 : Int32) (H : Heap) (locs : List Loc) (ls : Array Slot), 5 - v5.toInt < (n7 : Int) → (0 ≤ v5.toInt ∧ v5.toInt ≤ 5) → va_P D vwCl [(qh 0, .inr (2, [.int (sh 0 0), .int (sh 0 1), .ref (qh 1), .ref (qh 2), .ref (qh 3), .ref (qh 4), .int (sh 0 6), .int (sh 0 7), .int (sh 0 8), .int (sh 0 9), .int (sh 0 10), .int (sh 0 11), .int (sh 0 12), .ref (qh 5)])), (qh 1, .inl (k 0, 5, .inl (sh 1))), (qh 2, .inl (k 0, 5, .inl (sh 2))), (qh 3, .inl (k 0, 3, .inl (sh 3))), (qh 4, .inl (k 0, 3, .inl (sh 4))), (qh 5, .inl (k 0, 525, .inl (sh 5)))] H → va_D A [(qh 0, .inr (2, [.int (sh 0 0), .int (sh 0 1), .ref (qh 1), .ref (qh 2), .ref (qh 3), .ref (qh 4), .int (sh 0 6), .int (sh 0 7), .int (sh 0 8), .int (sh 0 9), .int (sh 0 10), .int (sh 0 11), .int (sh 0 12), .ref (qh 5)])), (qh 1, .inl (k 0, 5, .inl (sh 1))), (qh 2, .inl (k 0, 5, .inl (sh 2))), (qh 3, .inl (k 0, 3, .inl (sh 3))), (qh 4, .inl (k 0, 3, .inl (sh 4))), (qh 5, .inl (k 0, 525, .inl (sh 5)))] → va_S A s.heap H locs → lv_has ls 4 [(3, .int v5), (2, .int v6), (0, .ref (qh 0)), (1, .ref (qh 2))] → W p l e ({ frames := 0, cells := 0, slots := 0, locals := 0 } : Room) s m ([.ref (qh 0), .ref (qh 2)] : List Value).toArray below meth c H locs 0 0 Q (F0 m 4 ls []) := by
    intro n7
    induction n7 with
    | zero => intro v5 v6 H locs ls hmn7 bv5 hP hD hS hl; exact absurd hmn7 (by omega)
    | succ n7 ih4 =>
      intro v5 v6 H locs ls hmn7 bv5 hP hD hS hl
      refine lv_iload_n hx hb dX4_sumOf_4 rfl (lv_at hl 0 rfl) ?_
      refine lv_aload_n hx hb dX4_sumOf_5 rfl (lv_at hl 2 rfl) ?_
      refine g_get cx hP iw_X4_sumOf_2_X4 0 rfl rfl 0 (by decide) rfl fw_X4_sumOf_2_32 rfl dX4_sumOf_6 ?_
      refine lv_icmp_ge (tgt := 30) hx hb dX4_sumOf_9 (by decide) (fun c8 => ?_) (fun c8 => ?_)
      · have f8 : (sh 0 0).toInt ≤ v5.toInt := f_le rfl rfl c8
        refine lv_iload_n hx hb dX4_sumOf_30 rfl (lv_at hl 1 rfl) ?_
        rw [hQ]
        exact x_i cx hr () hP hD hS trivial dX4_sumOf_31
      · have f8 : v5.toInt < (sh 0 0).toInt := f_nle rfl rfl c8
        refine lv_iload_n hx hb dX4_sumOf_12 rfl (lv_at hl 0 rfl) ?_
        refine lv_aload_n hx hb dX4_sumOf_13 rfl (lv_at hl 3 rfl) ?_
        refine va_alen hx hb cx.2.1 hP 2 0 rfl rfl (v := 5) (show Int32.ofNat 5 = 5 from by decide) dX4_sumOf_14 ?_
        refine lv_icmp_ge (tgt := 30) hx hb dX4_sumOf_15 (by decide) (fun c9 => ?_) (fun c9 => ?_)
        · have f9 : 5 ≤ v5.toInt := f_le (by decide) rfl c9
          refine lv_iload_n hx hb dX4_sumOf_30 rfl (lv_at hl 1 rfl) ?_
          rw [hQ]
          exact x_i cx hr () hP hD hS trivial dX4_sumOf_31
        · have f9 : v5.toInt < 5 := f_nle (by decide) rfl c9
          refine lv_iload_n hx hb dX4_sumOf_18 rfl (lv_at hl 1 rfl) ?_
          refine lv_aload_n hx hb dX4_sumOf_19 rfl (lv_at hl 3 rfl) ?_
          refine lv_iload_n hx hb dX4_sumOf_20 rfl (lv_at hl 0 rfl) ?_
          have hn10 : vp_in v5 5 := f_in (a := v5.toInt) rfl (by omega) (by omega)
          refine va_iald hx hb cx.2.1 hP 2 0 rfl rfl hn10 dX4_sumOf_21 (lv_topi (fun v11 e11 => ?_))
          refine lv_iadd hx hb dX4_sumOf_22 (lv_topi (fun v12 e12 => ?_))
          refine lv_istore_n (lv' := [(2, .int v12), (3, .int v5), (0, .ref (qh 0)), (1, .ref (qh 2))]) hx hb dX4_sumOf_23 rfl hl (by decide) rfl (fun ls hl => ?_)
          obtain ⟨v13, e13⟩ : ∃ z : Int32, z = v5 + 1 := ⟨_, rfl⟩
          refine lv_iinc (v := v13) (lv' := [(3, .int v13), (2, .int v12), (0, .ref (qh 0)), (1, .ref (qh 2))]) hx hb dX4_sumOf_24 hl (k := 1) rfl (by rw [e13]; rfl) (by decide) rfl (fun ls hl => ?_)
          have t13 : v13.toInt = v5.toInt + 1 := by rw [e13]; exact i_add rfl (by decide) (by omega) (by omega)
          refine lv_goto (tgt := 4) hx hb dX4_sumOf_27 (by decide) ?_
          exact ih4 v13 v12 _ _ _ (by omega) (by first | decide | omega) hP hD hS (lv_sub hl [0, 1, 2, 3] rfl)
  have hlit14 : (0 : Int32).toInt = 0 := by decide
  have hlit15 : (0 : Int32).toInt = 0 := by decide
  exact hL4 (Int.toNat (5 - 0) + 1) 0 0 _ _ _ (by omega) (by first | decide | omega) hP hD hS (lv_sub hl [0, 1, 2, 3] rfl)
