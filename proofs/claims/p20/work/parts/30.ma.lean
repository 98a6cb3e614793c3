theorem fw_X12_blank_7 : Cond.fieldLink RX12 7 "StillInAugustModel" "read" "[I" ∈ wsX12_blank := by decide +kernel
theorem fw_X12_blank_85 : Cond.fieldLink RX12 85 "StillInAugustModel" "letters" "I" ∈ wsX12_blank := by decide +kernel
theorem fw_X12_blank_89 : Cond.fieldLink RX12 89 "StillInAugustModel" "wantsTold" "I" ∈ wsX12_blank := by decide +kernel
theorem fw_X12_blank_92 : Cond.fieldLink RX12 92 "StillInAugustModel" "offersTold" "I" ∈ wsX12_blank := by decide +kernel
theorem fw_X12_blank_95 : Cond.fieldLink RX12 95 "StillInAugustModel" "goesTold" "I" ∈ wsX12_blank := by decide +kernel
theorem fw_X12_blank_98 : Cond.fieldLink RX12 98 "StillInAugustModel" "doesTold" "I" ∈ wsX12_blank := by decide +kernel
theorem kJ_X12_blank_69 : Cond.constantLong RX12 69 (4) ∈ wsX12_blank := by decide +kernel
theorem kJ_X12_blank_71 : Cond.constantLong RX12 71 (7) ∈ wsX12_blank := by decide +kernel
theorem kJ_X12_blank_77 : Cond.constantLong RX12 77 (15) ∈ wsX12_blank := by decide +kernel
theorem kJ_X12_blank_79 : Cond.constantLong RX12 79 (22) ∈ wsX12_blank := by decide +kernel
theorem kJ_X12_blank_81 : Cond.constantLong RX12 81 (23) ∈ wsX12_blank := by decide +kernel
theorem kJ_X12_blank_83 : Cond.constantLong RX12 83 (25) ∈ wsX12_blank := by decide +kernel
theorem nd_X12_in : yX12_in.cls ≠ "java/lang/invoke/MethodHandle" ∧ yX12_in.cls ≠ "java/lang/invoke/VarHandle" ∧ (parseMethodDescriptor yX12_in.desc).map (fun d => d.parameters.length) = some 3 := by decide +kernel
theorem iw_X12_blank_X12 : ∀ w ∈ u_ws RX12 TX12 33, w ∈ wsX12_blank := fun _ h => List.mem_cons_of_mem _ (List.mem_append_right _ h)
set_option maxHeartbeats 4000000 in
set_option maxRecDepth 100000 in
theorem c_X12_blank (l : Launch) (D : va_G) (k : Nat → ClassId) (b : Nat → Nat) (qm : Nat → Nat) (sm : Nat → Nat → Int32) (tm : Nat → Nat → Int64) (sz : Nat) : MetV l D k b yX12_blank wsX12_blank ({ frames := 1, cells := 0, slots := 0, locals := 25 } : Room) [cell22_ qm sm tm, cell5_ k qm sm, cell13_ k qm sm, cell8_ k qm sm, cell6_ k qm sm, cell15_ k qm sm, cell14_ k qm tm, cell12_ k qm tm, cell18_ k qm tm, cell17_ k qm tm, cell19_ k qm tm, cell21_ k qm tm, cell20_ k qm sm, cell16_ k qm sm, cell11_ k qm sm, cell10_ k qm sm, cell9_ k qm sm, cell7_ k qm sm] sz [.ref (qm 0)] (fun (u : (Nat → Int32) × Int32 × Int32 × Int32 × Int32 × Int32) => (0 ≤ ((u.1) 0).toInt ∧ ((u.1) 0).toInt ≤ 5) ∧ (0 ≤ ((u.1) 1).toInt ∧ ((u.1) 1).toInt ≤ 4) ∧ (((u.1), (u.2.1), (u.2.2.1), (u.2.2.2.1), (u.2.2.2.2.1), (u.2.2.2.2.2)) = J_X12_blank sm tm)) (fun u => [cell166_ qm sm tm (u.2.1) (u.2.2.1) (u.2.2.2.1) (u.2.2.2.2.1) (u.2.2.2.2.2), cell107_ k qm (u.1), cell13_ k qm sm, cell8_ k qm sm, cell6_ k qm sm, cell15_ k qm sm, cell14_ k qm tm, cell12_ k qm tm, cell18_ k qm tm, cell17_ k qm tm, cell19_ k qm tm, cell21_ k qm tm, cell20_ k qm sm, cell16_ k qm sm, cell11_ k qm sm, cell10_ k qm sm, cell9_ k qm sm, cell7_ k qm sm]) := by
  refine g_enter (cc := cX12_blank) (maxL := 2) (ret := none) (by decide) rfl (Nat.le_of_ble_eq_true rfl) ?_
  intro p e s m below meth c A hsz hAe cx hr hP hD hS ls hl
  rw [hAe]
  refine g_q (fun Q hQ => ?_)
  have hx := cx.1.1
  have hb := cx.1.2.1
  have hl : lv_has ls 2 [(0, .ref (qm 0))] := hl
  obtain ⟨H, eH⟩ : ∃ H : Heap, H = s.heap := ⟨_, rfl⟩
  obtain ⟨locs, el⟩ : ∃ L : List Loc, L = [] := ⟨_, rfl⟩
  have hP : va_P D vwCl [cell22_ qm sm tm, cell5_ k qm sm, cell13_ k qm sm, cell8_ k qm sm, cell6_ k qm sm, cell15_ k qm sm, cell14_ k qm tm, cell12_ k qm tm, cell18_ k qm tm, cell17_ k qm tm, cell19_ k qm tm, cell21_ k qm tm, cell20_ k qm sm, cell16_ k qm sm, cell11_ k qm sm, cell10_ k qm sm, cell9_ k qm sm, cell7_ k qm sm] H := by rw [eH]; exact hP
  have hD : va_D A [cell22_ qm sm tm, cell5_ k qm sm, cell13_ k qm sm, cell8_ k qm sm, cell6_ k qm sm, cell15_ k qm sm, cell14_ k qm tm, cell12_ k qm tm, cell18_ k qm tm, cell17_ k qm tm, cell19_ k qm tm, cell21_ k qm tm, cell20_ k qm sm, cell16_ k qm sm, cell11_ k qm sm, cell10_ k qm sm, cell9_ k qm sm, cell7_ k qm sm] := hD
  have hS : va_S A s.heap H locs := by rw [eH, el]; exact hS
  suffices goal : W p l e ({ frames := 1, cells := 0, slots := 0, locals := 25 } : Room) s m ([.ref (qm 0)] : List Value).toArray below meth c H locs 0 0 Q (F0 m 0 ls []) by rw [eH, el] at goal; exact goal
  refine lv_iconst (v := 0) hx hb dX12_blank_0 (by decide) ?_
  refine lv_istore_n (lv' := [(1, .int 0), (0, .ref (qm 0))]) hx hb dX12_blank_1 rfl hl (by decide) rfl (fun ls hl => ?_)
  have hL2 : ∀ (n20 : Nat) (v18 : Int32) (g19 : Nat → Int32) (H : Heap) (locs : List Loc) (ls : Array Slot), 26 - v18.toInt < (n20 : Int) → (0 ≤ v18.toInt ∧ v18.toInt ≤ 26) → (v18.toInt ≤ 0 ∨ (0 ≤ (g19 0).toInt ∧ (g19 0).toInt ≤ 4)) → (v18.toInt ≤ 1 ∨ (0 ≤ (g19 1).toInt ∧ (g19 1).toInt ≤ 4)) → (g19 = PFn bvN (Int.toNat v18.toInt) (sm 1)) → va_P D vwCl [cell22_ qm sm tm, (qm 1, .inl (k 0, 26, .inl g19)), cell13_ k qm sm, cell8_ k qm sm, cell6_ k qm sm, cell15_ k qm sm, cell14_ k qm tm, cell12_ k qm tm, cell18_ k qm tm, cell17_ k qm tm, cell19_ k qm tm, cell21_ k qm tm, cell20_ k qm sm, cell16_ k qm sm, cell11_ k qm sm, cell10_ k qm sm, cell9_ k qm sm, cell7_ k qm sm] H → va_D A [cell22_ qm sm tm, (qm 1, .inl (k 0, 26, .inl g19)), cell13_ k qm sm, cell8_ k qm sm, cell6_ k qm sm, cell15_ k qm sm, cell14_ k qm tm, cell12_ k qm tm, cell18_ k qm tm, cell17_ k qm tm, cell19_ k qm tm, cell21_ k qm tm, cell20_ k qm sm, cell16_ k qm sm, cell11_ k qm sm, cell10_ k qm sm, cell9_ k qm sm, cell7_ k qm sm] → va_S A s.heap H locs → lv_has ls 2 [(1, .int v18), (0, .ref (qm 0))] → W p l e ({ frames := 1, cells := 0, slots := 0, locals := 25 } : Room) s m ([.ref (qm 0)] : List Value).toArray below meth c H locs 0 0 Q (F0 m 2 ls []) := by
    intro n20
    induction n20 with
    | zero => intro v18 g19 H locs ls hmn20 bv18 q0 q1 qB hP hD hS hl; exact absurd hmn20 (by omega)
    | succ n20 ih2 =>
      intro v18 g19 H locs ls hmn20 bv18 q0 q1 qB hP hD hS hl
      refine lv_iload_n hx hb dX12_blank_2 rfl (lv_at hl 0 rfl) ?_
      refine lv_bipush (v := 26) hx hb dX12_blank_3 (by decide) ?_
      refine lv_icmp_ge (tgt := 99) hx hb dX12_blank_5 (by decide) (fun c21 => ?_) (fun c21 => ?_)
      · have f21 : 26 ≤ v18.toInt := f_le (by decide) rfl c21
        refine lv_aload_n hx hb dX12_blank_99 rfl (lv_at hl 1 rfl) ?_
        refine lv_iconst (v := 0) hx hb dX12_blank_100 (by decide) ?_
        refine g_pt cx hP hD hS iw_X12_blank_X12 tyX12 tyX12_ok nmX12 0 rfl rfl 6 (by decide) rfl fw_X12_blank_85 (ty := .int) rfl rfl rfl (Nat.le_of_ble_eq_true rfl) dX12_blank_101 (fun H locs hP hD hS => ?_)
        have hP : va_P D vwCl [(qm 0, .inr (10, [.ref (qm 1), .ref (qm 2), .ref (qm 3), .int (sm 0 3), .int (sm 0 4), .int (sm 0 5), .int 0, .int (sm 0 7), .int (sm 0 8), .int (sm 0 9), .int (sm 0 10), .ref (qm 4), .ref (qm 5), .int (sm 0 13), .ref (qm 6), .ref (qm 7), .ref (qm 8), .ref (qm 9), .ref (qm 10), .ref (qm 11), .ref (qm 12), .ref (qm 13), .int (sm 0 22), .int (sm 0 23), .ref (qm 14), .ref (qm 15), .int (sm 0 26), .ref (qm 16), .ref (qm 17), .long (tm 0 29), .long (tm 0 30), .long (tm 0 31), .int (sm 0 32)])), (qm 1, .inl (k 0, 26, .inl g19)), cell13_ k qm sm, cell8_ k qm sm, cell6_ k qm sm, cell15_ k qm sm, cell14_ k qm tm, cell12_ k qm tm, cell18_ k qm tm, cell17_ k qm tm, cell19_ k qm tm, cell21_ k qm tm, cell20_ k qm sm, cell16_ k qm sm, cell11_ k qm sm, cell10_ k qm sm, cell9_ k qm sm, cell7_ k qm sm] H := hP
        have hD : va_D A [(qm 0, .inr (10, [.ref (qm 1), .ref (qm 2), .ref (qm 3), .int (sm 0 3), .int (sm 0 4), .int (sm 0 5), .int 0, .int (sm 0 7), .int (sm 0 8), .int (sm 0 9), .int (sm 0 10), .ref (qm 4), .ref (qm 5), .int (sm 0 13), .ref (qm 6), .ref (qm 7), .ref (qm 8), .ref (qm 9), .ref (qm 10), .ref (qm 11), .ref (qm 12), .ref (qm 13), .int (sm 0 22), .int (sm 0 23), .ref (qm 14), .ref (qm 15), .int (sm 0 26), .ref (qm 16), .ref (qm 17), .long (tm 0 29), .long (tm 0 30), .long (tm 0 31), .int (sm 0 32)])), (qm 1, .inl (k 0, 26, .inl g19)), cell13_ k qm sm, cell8_ k qm sm, cell6_ k qm sm, cell15_ k qm sm, cell14_ k qm tm, cell12_ k qm tm, cell18_ k qm tm, cell17_ k qm tm, cell19_ k qm tm, cell21_ k qm tm, cell20_ k qm sm, cell16_ k qm sm, cell11_ k qm sm, cell10_ k qm sm, cell9_ k qm sm, cell7_ k qm sm] := hD
        have hlit22 : (0 : Int32).toInt = 0 := by decide
        refine lv_aload_n hx hb dX12_blank_104 rfl (lv_at hl 1 rfl) ?_
        refine lv_iconst (v := 0) hx hb dX12_blank_105 (by decide) ?_
        refine g_pt cx hP hD hS iw_X12_blank_X12 tyX12 tyX12_ok nmX12 0 rfl rfl 7 (by decide) rfl fw_X12_blank_89 (ty := .int) rfl rfl rfl (Nat.le_of_ble_eq_true rfl) dX12_blank_106 (fun H locs hP hD hS => ?_)
        have hP : va_P D vwCl [(qm 0, .inr (10, [.ref (qm 1), .ref (qm 2), .ref (qm 3), .int (sm 0 3), .int (sm 0 4), .int (sm 0 5), .int 0, .int 0, .int (sm 0 8), .int (sm 0 9), .int (sm 0 10), .ref (qm 4), .ref (qm 5), .int (sm 0 13), .ref (qm 6), .ref (qm 7), .ref (qm 8), .ref (qm 9), .ref (qm 10), .ref (qm 11), .ref (qm 12), .ref (qm 13), .int (sm 0 22), .int (sm 0 23), .ref (qm 14), .ref (qm 15), .int (sm 0 26), .ref (qm 16), .ref (qm 17), .long (tm 0 29), .long (tm 0 30), .long (tm 0 31), .int (sm 0 32)])), (qm 1, .inl (k 0, 26, .inl g19)), cell13_ k qm sm, cell8_ k qm sm, cell6_ k qm sm, cell15_ k qm sm, cell14_ k qm tm, cell12_ k qm tm, cell18_ k qm tm, cell17_ k qm tm, cell19_ k qm tm, cell21_ k qm tm, cell20_ k qm sm, cell16_ k qm sm, cell11_ k qm sm, cell10_ k qm sm, cell9_ k qm sm, cell7_ k qm sm] H := hP
        have hD : va_D A [(qm 0, .inr (10, [.ref (qm 1), .ref (qm 2), .ref (qm 3), .int (sm 0 3), .int (sm 0 4), .int (sm 0 5), .int 0, .int 0, .int (sm 0 8), .int (sm 0 9), .int (sm 0 10), .ref (qm 4), .ref (qm 5), .int (sm 0 13), .ref (qm 6), .ref (qm 7), .ref (qm 8), .ref (qm 9), .ref (qm 10), .ref (qm 11), .ref (qm 12), .ref (qm 13), .int (sm 0 22), .int (sm 0 23), .ref (qm 14), .ref (qm 15), .int (sm 0 26), .ref (qm 16), .ref (qm 17), .long (tm 0 29), .long (tm 0 30), .long (tm 0 31), .int (sm 0 32)])), (qm 1, .inl (k 0, 26, .inl g19)), cell13_ k qm sm, cell8_ k qm sm, cell6_ k qm sm, cell15_ k qm sm, cell14_ k qm tm, cell12_ k qm tm, cell18_ k qm tm, cell17_ k qm tm, cell19_ k qm tm, cell21_ k qm tm, cell20_ k qm sm, cell16_ k qm sm, cell11_ k qm sm, cell10_ k qm sm, cell9_ k qm sm, cell7_ k qm sm] := hD
        have hlit23 : (0 : Int32).toInt = 0 := by decide
        refine lv_aload_n hx hb dX12_blank_109 rfl (lv_at hl 1 rfl) ?_
        refine lv_iconst (v := 0) hx hb dX12_blank_110 (by decide) ?_
        refine g_pt cx hP hD hS iw_X12_blank_X12 tyX12 tyX12_ok nmX12 0 rfl rfl 8 (by decide) rfl fw_X12_blank_92 (ty := .int) rfl rfl rfl (Nat.le_of_ble_eq_true rfl) dX12_blank_111 (fun H locs hP hD hS => ?_)
        have hP : va_P D vwCl [(qm 0, .inr (10, [.ref (qm 1), .ref (qm 2), .ref (qm 3), .int (sm 0 3), .int (sm 0 4), .int (sm 0 5), .int 0, .int 0, .int 0, .int (sm 0 9), .int (sm 0 10), .ref (qm 4), .ref (qm 5), .int (sm 0 13), .ref (qm 6), .ref (qm 7), .ref (qm 8), .ref (qm 9), .ref (qm 10), .ref (qm 11), .ref (qm 12), .ref (qm 13), .int (sm 0 22), .int (sm 0 23), .ref (qm 14), .ref (qm 15), .int (sm 0 26), .ref (qm 16), .ref (qm 17), .long (tm 0 29), .long (tm 0 30), .long (tm 0 31), .int (sm 0 32)])), (qm 1, .inl (k 0, 26, .inl g19)), cell13_ k qm sm, cell8_ k qm sm, cell6_ k qm sm, cell15_ k qm sm, cell14_ k qm tm, cell12_ k qm tm, cell18_ k qm tm, cell17_ k qm tm, cell19_ k qm tm, cell21_ k qm tm, cell20_ k qm sm, cell16_ k qm sm, cell11_ k qm sm, cell10_ k qm sm, cell9_ k qm sm, cell7_ k qm sm] H := hP
        have hD : va_D A [(qm 0, .inr (10, [.ref (qm 1), .ref (qm 2), .ref (qm 3), .int (sm 0 3), .int (sm 0 4), .int (sm 0 5), .int 0, .int 0, .int 0, .int (sm 0 9), .int (sm 0 10), .ref (qm 4), .ref (qm 5), .int (sm 0 13), .ref (qm 6), .ref (qm 7), .ref (qm 8), .ref (qm 9), .ref (qm 10), .ref (qm 11), .ref (qm 12), .ref (qm 13), .int (sm 0 22), .int (sm 0 23), .ref (qm 14), .ref (qm 15), .int (sm 0 26), .ref (qm 16), .ref (qm 17), .long (tm 0 29), .long (tm 0 30), .long (tm 0 31), .int (sm 0 32)])), (qm 1, .inl (k 0, 26, .inl g19)), cell13_ k qm sm, cell8_ k qm sm, cell6_ k qm sm, cell15_ k qm sm, cell14_ k qm tm, cell12_ k qm tm, cell18_ k qm tm, cell17_ k qm tm, cell19_ k qm tm, cell21_ k qm tm, cell20_ k qm sm, cell16_ k qm sm, cell11_ k qm sm, cell10_ k qm sm, cell9_ k qm sm, cell7_ k qm sm] := hD
        have hlit24 : (0 : Int32).toInt = 0 := by decide
        refine lv_aload_n hx hb dX12_blank_114 rfl (lv_at hl 1 rfl) ?_
        refine lv_iconst (v := 0) hx hb dX12_blank_115 (by decide) ?_
        refine g_pt cx hP hD hS iw_X12_blank_X12 tyX12 tyX12_ok nmX12 0 rfl rfl 9 (by decide) rfl fw_X12_blank_95 (ty := .int) rfl rfl rfl (Nat.le_of_ble_eq_true rfl) dX12_blank_116 (fun H locs hP hD hS => ?_)
        have hP : va_P D vwCl [(qm 0, .inr (10, [.ref (qm 1), .ref (qm 2), .ref (qm 3), .int (sm 0 3), .int (sm 0 4), .int (sm 0 5), .int 0, .int 0, .int 0, .int 0, .int (sm 0 10), .ref (qm 4), .ref (qm 5), .int (sm 0 13), .ref (qm 6), .ref (qm 7), .ref (qm 8), .ref (qm 9), .ref (qm 10), .ref (qm 11), .ref (qm 12), .ref (qm 13), .int (sm 0 22), .int (sm 0 23), .ref (qm 14), .ref (qm 15), .int (sm 0 26), .ref (qm 16), .ref (qm 17), .long (tm 0 29), .long (tm 0 30), .long (tm 0 31), .int (sm 0 32)])), (qm 1, .inl (k 0, 26, .inl g19)), cell13_ k qm sm, cell8_ k qm sm, cell6_ k qm sm, cell15_ k qm sm, cell14_ k qm tm, cell12_ k qm tm, cell18_ k qm tm, cell17_ k qm tm, cell19_ k qm tm, cell21_ k qm tm, cell20_ k qm sm, cell16_ k qm sm, cell11_ k qm sm, cell10_ k qm sm, cell9_ k qm sm, cell7_ k qm sm] H := hP
        have hD : va_D A [(qm 0, .inr (10, [.ref (qm 1), .ref (qm 2), .ref (qm 3), .int (sm 0 3), .int (sm 0 4), .int (sm 0 5), .int 0, .int 0, .int 0, .int 0, .int (sm 0 10), .ref (qm 4), .ref (qm 5), .int (sm 0 13), .ref (qm 6), .ref (qm 7), .ref (qm 8), .ref (qm 9), .ref (qm 10), .ref (qm 11), .ref (qm 12), .ref (qm 13), .int (sm 0 22), .int (sm 0 23), .ref (qm 14), .ref (qm 15), .int (sm 0 26), .ref (qm 16), .ref (qm 17), .long (tm 0 29), .long (tm 0 30), .long (tm 0 31), .int (sm 0 32)])), (qm 1, .inl (k 0, 26, .inl g19)), cell13_ k qm sm, cell8_ k qm sm, cell6_ k qm sm, cell15_ k qm sm, cell14_ k qm tm, cell12_ k qm tm, cell18_ k qm tm, cell17_ k qm tm, cell19_ k qm tm, cell21_ k qm tm, cell20_ k qm sm, cell16_ k qm sm, cell11_ k qm sm, cell10_ k qm sm, cell9_ k qm sm, cell7_ k qm sm] := hD
        have hlit25 : (0 : Int32).toInt = 0 := by decide
        refine lv_aload_n hx hb dX12_blank_119 rfl (lv_at hl 1 rfl) ?_
        refine lv_iconst (v := 0) hx hb dX12_blank_120 (by decide) ?_
        refine g_pt cx hP hD hS iw_X12_blank_X12 tyX12 tyX12_ok nmX12 0 rfl rfl 10 (by decide) rfl fw_X12_blank_98 (ty := .int) rfl rfl rfl (Nat.le_of_ble_eq_true rfl) dX12_blank_121 (fun H locs hP hD hS => ?_)
        have hP : va_P D vwCl [cell166_ qm sm tm 0 0 0 0 0, (qm 1, .inl (k 0, 26, .inl g19)), cell13_ k qm sm, cell8_ k qm sm, cell6_ k qm sm, cell15_ k qm sm, cell14_ k qm tm, cell12_ k qm tm, cell18_ k qm tm, cell17_ k qm tm, cell19_ k qm tm, cell21_ k qm tm, cell20_ k qm sm, cell16_ k qm sm, cell11_ k qm sm, cell10_ k qm sm, cell9_ k qm sm, cell7_ k qm sm] H := hP
        have hD : va_D A [cell166_ qm sm tm 0 0 0 0 0, (qm 1, .inl (k 0, 26, .inl g19)), cell13_ k qm sm, cell8_ k qm sm, cell6_ k qm sm, cell15_ k qm sm, cell14_ k qm tm, cell12_ k qm tm, cell18_ k qm tm, cell17_ k qm tm, cell19_ k qm tm, cell21_ k qm tm, cell20_ k qm sm, cell16_ k qm sm, cell11_ k qm sm, cell10_ k qm sm, cell9_ k qm sm, cell7_ k qm sm] := hD
        have hlit26 : (0 : Int32).toInt = 0 := by decide
        have hlit27 : (0 : Int32).toInt = 0 := by decide
        have hlit28 : (0 : Int32).toInt = 0 := by decide
        have hlit29 : (0 : Int32).toInt = 0 := by decide
        have hlit30 : (0 : Int32).toInt = 0 := by decide
        have hlit31 : (0 : Int32).toInt = 0 := by decide
        rw [hQ]
        exact x_v cx hr (g19, 0, 0, 0, 0, 0) hP hD hS ⟨(show 0 ≤ (g19 0).toInt ∧ (g19 0).toInt ≤ 5 from by omega), (show 0 ≤ (g19 1).toInt ∧ (g19 1).toInt ≤ 4 from by omega), (show (g19, (0 : Int32), (0 : Int32), (0 : Int32), (0 : Int32), (0 : Int32)) = J_X12_blank sm tm from by have q : Int.toNat v18.toInt = 26 := (by omega); rw [q] at qB; rw [qB]; rfl)⟩ dX12_blank_124
      · have f21 : v18.toInt < 26 := f_nle (by decide) rfl c21
        refine lv_aload_n hx hb dX12_blank_8 rfl (lv_at hl 1 rfl) ?_
        refine g_get cx hP iw_X12_blank_X12 0 rfl rfl 0 (by decide) rfl fw_X12_blank_7 rfl dX12_blank_9 ?_
        refine lv_iload_n hx hb dX12_blank_12 rfl (lv_at hl 0 rfl) ?_
        refine lv_iload_n hx hb dX12_blank_13 rfl (lv_at hl 0 rfl) ?_
        refine lv_iconst (v := 1) hx hb dX12_blank_14 (by decide) ?_
        have hJ92 : ∀ (v44 : Int32) (H : Heap) (locs : List Loc) (ls : Array Slot), (-9 ≤ v44.toInt ∧ v44.toInt ≤ 4) → (4 ≤ v18.toInt ∨ 0 ≤ v44.toInt) → (v44 = bvI v18.toInt) → va_P D vwCl [cell22_ qm sm tm, (qm 1, .inl (k 0, 26, .inl g19)), cell13_ k qm sm, cell8_ k qm sm, cell6_ k qm sm, cell15_ k qm sm, cell14_ k qm tm, cell12_ k qm tm, cell18_ k qm tm, cell17_ k qm tm, cell19_ k qm tm, cell21_ k qm tm, cell20_ k qm sm, cell16_ k qm sm, cell11_ k qm sm, cell10_ k qm sm, cell9_ k qm sm, cell7_ k qm sm] H → va_D A [cell22_ qm sm tm, (qm 1, .inl (k 0, 26, .inl g19)), cell13_ k qm sm, cell8_ k qm sm, cell6_ k qm sm, cell15_ k qm sm, cell14_ k qm tm, cell12_ k qm tm, cell18_ k qm tm, cell17_ k qm tm, cell19_ k qm tm, cell21_ k qm tm, cell20_ k qm sm, cell16_ k qm sm, cell11_ k qm sm, cell10_ k qm sm, cell9_ k qm sm, cell7_ k qm sm] → va_S A s.heap H locs → lv_has ls 2 [(1, .int v18), (0, .ref (qm 0))] → W p l e ({ frames := 1, cells := 0, slots := 0, locals := 25 } : Room) s m ([.ref (qm 0)] : List Value).toArray below meth c H locs 0 0 Q (F0 m 92 ls [.int v44, .int v18, .ref (qm 1)]) := by
          intro v44 H locs ls bv44 qv qw hP hD hS hl
          have hn45 : vp_in v18 26 := f_in (a := v18.toInt) rfl (by omega) (by omega)
          refine va_iast hx hb cx.2.1 hP hD hS 1 0 rfl rfl hn45 dX12_blank_92 (fun H locs hP hD hS => ?_)
          obtain ⟨g46, eg46⟩ : ∃ g : Nat → Int32, g = upd g19 (v18).toNatClampNeg v44 := ⟨_, rfl⟩
          rw [← eg46] at hP hD
          have hP : va_P D vwCl [cell22_ qm sm tm, (qm 1, .inl (k 0, 26, .inl g46)), cell13_ k qm sm, cell8_ k qm sm, cell6_ k qm sm, cell15_ k qm sm, cell14_ k qm tm, cell12_ k qm tm, cell18_ k qm tm, cell17_ k qm tm, cell19_ k qm tm, cell21_ k qm tm, cell20_ k qm sm, cell16_ k qm sm, cell11_ k qm sm, cell10_ k qm sm, cell9_ k qm sm, cell7_ k qm sm] H := hP
          have hD : va_D A [cell22_ qm sm tm, (qm 1, .inl (k 0, 26, .inl g46)), cell13_ k qm sm, cell8_ k qm sm, cell6_ k qm sm, cell15_ k qm sm, cell14_ k qm tm, cell12_ k qm tm, cell18_ k qm tm, cell17_ k qm tm, cell19_ k qm tm, cell21_ k qm tm, cell20_ k qm sm, cell16_ k qm sm, cell11_ k qm sm, cell10_ k qm sm, cell9_ k qm sm, cell7_ k qm sm] := hD
          have s47 := updI eg46 rfl (show 0 ≤ v18.toInt from by omega) 0
          have s48 := updI eg46 rfl (show 0 ≤ v18.toInt from by omega) 1
          have flq := PF_st (P := bvN) eg46 (k := Int.toNat v18.toInt) (show v18.toInt = ((Int.toNat v18.toInt : Nat) : Int) from by omega) (bv_of qw (show v18.toInt = ((Int.toNat v18.toInt : Nat) : Int) from by omega)) qB
          obtain ⟨v49, e49⟩ : ∃ z : Int32, z = v18 + 1 := ⟨_, rfl⟩
          refine lv_iinc (v := v49) (lv' := [(1, .int v49), (0, .ref (qm 0))]) hx hb dX12_blank_93 hl (k := 0) rfl (by rw [e49]; rfl) (by decide) rfl (fun ls hl => ?_)
          have t49 : v49.toInt = v18.toInt + 1 := by rw [e49]; exact i_add rfl (by decide) (by omega) (by omega)
          refine lv_goto (tgt := 2) hx hb dX12_blank_96 (by decide) ?_
          exact ih2 v49 g46 _ _ _ (by omega) (by first | decide | omega) (by first | decide | omega) (by first | decide | omega) (flq.trans (congrArg (fun n => PFn bvN n (sm 1)) (by omega))) hP hD hS (lv_sub hl [0, 1] rfl)
        refine lv_icmp_ne (tgt := 22) hx hb dX12_blank_15 (by decide) (fun c50 => ?_) (fun c50 => ?_)
        · have f50 : ¬ v18.toInt = 1 := f_ne rfl (by decide) c50
          refine lv_iload_n hx hb dX12_blank_22 rfl (lv_at hl 0 rfl) ?_
          refine lv_iconst (v := 2) hx hb dX12_blank_23 (by decide) ?_
          have hJ32 : ∀  (H : Heap) (locs : List Loc) (ls : Array Slot), (v18.toInt = 2 ∨ v18.toInt = 3) → va_P D vwCl [cell22_ qm sm tm, (qm 1, .inl (k 0, 26, .inl g19)), cell13_ k qm sm, cell8_ k qm sm, cell6_ k qm sm, cell15_ k qm sm, cell14_ k qm tm, cell12_ k qm tm, cell18_ k qm tm, cell17_ k qm tm, cell19_ k qm tm, cell21_ k qm tm, cell20_ k qm sm, cell16_ k qm sm, cell11_ k qm sm, cell10_ k qm sm, cell9_ k qm sm, cell7_ k qm sm] H → va_D A [cell22_ qm sm tm, (qm 1, .inl (k 0, 26, .inl g19)), cell13_ k qm sm, cell8_ k qm sm, cell6_ k qm sm, cell15_ k qm sm, cell14_ k qm tm, cell12_ k qm tm, cell18_ k qm tm, cell17_ k qm tm, cell19_ k qm tm, cell21_ k qm tm, cell20_ k qm sm, cell16_ k qm sm, cell11_ k qm sm, cell10_ k qm sm, cell9_ k qm sm, cell7_ k qm sm] → va_S A s.heap H locs → lv_has ls 2 [(1, .int v18), (0, .ref (qm 0))] → W p l e ({ frames := 1, cells := 0, slots := 0, locals := 25 } : Room) s m ([.ref (qm 0)] : List Value).toArray below meth c H locs 0 0 Q (F0 m 32 ls [.int v18, .ref (qm 1)]) := by
            intro  H locs ls q32 hP hD hS hl
            refine lv_iconst (v := 1) hx hb dX12_blank_32 (by decide) ?_
            refine lv_goto (tgt := 92) hx hb dX12_blank_33 (by decide) ?_
            have hlit63 : (1 : Int32).toInt = 1 := by decide
            exact hJ92 1 _ _ _ (by first | decide | omega) (by first | decide | omega) (by unfold bvI; (repeat' split) <;> first | rfl | (exfalso; omega)) hP hD hS (lv_sub hl [0, 1] rfl)
          refine lv_icmp_eq (tgt := 32) hx hb dX12_blank_24 (by decide) (fun c64 => ?_) (fun c64 => ?_)
          · have f64 : v18.toInt = 2 := f_eq rfl (by decide) c64
            exact hJ32  _ _ _ (by first | decide | omega) hP hD hS (lv_sub hl [0, 1] rfl)
          · have f64 : ¬ v18.toInt = 2 := f_ne rfl (by decide) c64
            refine lv_iload_n hx hb dX12_blank_27 rfl (lv_at hl 0 rfl) ?_
            refine lv_iconst (v := 3) hx hb dX12_blank_28 (by decide) ?_
            refine lv_icmp_ne (tgt := 36) hx hb dX12_blank_29 (by decide) (fun c65 => ?_) (fun c65 => ?_)
            · have f65 : ¬ v18.toInt = 3 := f_ne rfl (by decide) c65
              refine lv_iload_n hx hb dX12_blank_36 rfl (lv_at hl 0 rfl) ?_
              obtain ⟨v66, e66⟩ : ∃ z : Int64, z = (v18 : Int32).toInt64 := ⟨_, rfl⟩
              refine lv_i2l (v := v66) hx hb dX12_blank_37 e66.symm ?_
              refine lv_ldc2 (v := 4) hx hb cx.1.2.2.2.1 (cx.1.2.2.2.2 _ kJ_X12_blank_69) dX12_blank_38 ?_
              refine lv_ldc2 (v := 7) hx hb cx.1.2.2.2.1 (cx.1.2.2.2.2 _ kJ_X12_blank_71) dX12_blank_41 ?_
              refine g_ir (g_runS (wc := []) (rest := [.int v18, .ref (qm 1)]) cx hP hD hS [] rfl (by decide) [.long v66, .long 4, .long 7] (c_X12_in l D k b H.size v66 4 7) gX12_blank_X12_in rfl rfl rfl nd_X12_in ⟨Nat.le_of_ble_eq_true rfl, Nat.le_of_ble_eq_true rfl⟩ rfl hl.1 rfl (Nat.le_of_ble_eq_true rfl) ⟨Nat.zero_le _, Nat.zero_le _⟩ dX12_blank_44) cx.2.2.1 hP hD hS [] rfl rfl (fun r68 H locs hw67 hP hS => ?_)
              have w69 : r68 = J_X12_in v66 (4 : Int64) (7 : Int64) := hw67
              clear hw67
              have zr68 := in_b w69
              refine lv_if_eq (tgt := 55) hx hb dX12_blank_47 (by decide) (fun c70 => ?_) (fun c70 => ?_)
              · have f70 : r68.toInt = 0 := f_eq rfl (by decide) c70
                have k70 : v18.toInt < 4 ∨ 7 < v18.toInt := in_f (i2l_t rfl e66) (by decide) (by decide) w69 c70
                refine lv_iload_n hx hb dX12_blank_55 rfl (lv_at hl 0 rfl) ?_
                obtain ⟨v71, e71⟩ : ∃ z : Int64, z = (v18 : Int32).toInt64 := ⟨_, rfl⟩
                refine lv_i2l (v := v71) hx hb dX12_blank_56 e71.symm ?_
                refine lv_ldc2 (v := 15) hx hb cx.1.2.2.2.1 (cx.1.2.2.2.2 _ kJ_X12_blank_77) dX12_blank_57 ?_
                refine lv_ldc2 (v := 22) hx hb cx.1.2.2.2.1 (cx.1.2.2.2.2 _ kJ_X12_blank_79) dX12_blank_60 ?_
                refine g_ir (g_runS (wc := []) (rest := [.int v18, .ref (qm 1)]) cx hP hD hS [] rfl (by decide) [.long v71, .long 15, .long 22] (c_X12_in l D k b H.size v71 15 22) gX12_blank_X12_in rfl rfl rfl nd_X12_in ⟨Nat.le_of_ble_eq_true rfl, Nat.le_of_ble_eq_true rfl⟩ rfl hl.1 rfl (Nat.le_of_ble_eq_true rfl) ⟨Nat.zero_le _, Nat.zero_le _⟩ dX12_blank_63) cx.2.2.1 hP hD hS [] rfl rfl (fun r73 H locs hw72 hP hS => ?_)
                have w74 : r73 = J_X12_in v71 (15 : Int64) (22 : Int64) := hw72
                clear hw72
                have zr73 := in_b w74
                refine lv_if_eq (tgt := 73) hx hb dX12_blank_66 (by decide) (fun c75 => ?_) (fun c75 => ?_)
                · have f75 : r73.toInt = 0 := f_eq rfl (by decide) c75
                  have k75 : v18.toInt < 15 ∨ 22 < v18.toInt := in_f (i2l_t rfl e71) (by decide) (by decide) w74 c75
                  refine lv_iload_n hx hb dX12_blank_73 rfl (lv_at hl 0 rfl) ?_
                  obtain ⟨v76, e76⟩ : ∃ z : Int64, z = (v18 : Int32).toInt64 := ⟨_, rfl⟩
                  refine lv_i2l (v := v76) hx hb dX12_blank_74 e76.symm ?_
                  refine lv_ldc2 (v := 23) hx hb cx.1.2.2.2.1 (cx.1.2.2.2.2 _ kJ_X12_blank_81) dX12_blank_75 ?_
                  refine lv_ldc2 (v := 25) hx hb cx.1.2.2.2.1 (cx.1.2.2.2.2 _ kJ_X12_blank_83) dX12_blank_78 ?_
                  refine g_ir (g_runS (wc := []) (rest := [.int v18, .ref (qm 1)]) cx hP hD hS [] rfl (by decide) [.long v76, .long 23, .long 25] (c_X12_in l D k b H.size v76 23 25) gX12_blank_X12_in rfl rfl rfl nd_X12_in ⟨Nat.le_of_ble_eq_true rfl, Nat.le_of_ble_eq_true rfl⟩ rfl hl.1 rfl (Nat.le_of_ble_eq_true rfl) ⟨Nat.zero_le _, Nat.zero_le _⟩ dX12_blank_81) cx.2.2.1 hP hD hS [] rfl rfl (fun r78 H locs hw77 hP hS => ?_)
                  have w79 : r78 = J_X12_in v76 (23 : Int64) (25 : Int64) := hw77
                  clear hw77
                  have zr78 := in_b w79
                  refine lv_if_eq (tgt := 91) hx hb dX12_blank_84 (by decide) (fun c80 => ?_) (fun c80 => ?_)
                  · have f80 : r78.toInt = 0 := f_eq rfl (by decide) c80
                    have k80 : v18.toInt < 23 ∨ 25 < v18.toInt := in_f (i2l_t rfl e76) (by decide) (by decide) w79 c80
                    refine lv_iconst (v := 0) hx hb dX12_blank_91 (by decide) ?_
                    have hlit81 : (0 : Int32).toInt = 0 := by decide
                    exact hJ92 0 _ _ _ (by first | decide | omega) (by first | decide | omega) (by unfold bvI; (repeat' split) <;> first | rfl | (exfalso; omega)) hP hD hS (lv_sub hl [0, 1] rfl)
                  · have f80 : ¬ r78.toInt = 0 := f_ne rfl (by decide) c80
                    have k80 : 23 ≤ v18.toInt ∧ v18.toInt ≤ 25 := in_t (i2l_t rfl e76) (by decide) (by decide) w79 c80
                    refine lv_iconst (v := 4) hx hb dX12_blank_87 (by decide) ?_
                    refine lv_goto (tgt := 92) hx hb dX12_blank_88 (by decide) ?_
                    have hlit82 : (4 : Int32).toInt = 4 := by decide
                    exact hJ92 4 _ _ _ (by first | decide | omega) (by first | decide | omega) (by unfold bvI; (repeat' split) <;> first | rfl | (exfalso; omega)) hP hD hS (lv_sub hl [0, 1] rfl)
                · have f75 : ¬ r73.toInt = 0 := f_ne rfl (by decide) c75
                  have k75 : 15 ≤ v18.toInt ∧ v18.toInt ≤ 22 := in_t (i2l_t rfl e71) (by decide) (by decide) w74 c75
                  refine lv_iconst (v := 1) hx hb dX12_blank_69 (by decide) ?_
                  refine lv_goto (tgt := 92) hx hb dX12_blank_70 (by decide) ?_
                  have hlit83 : (1 : Int32).toInt = 1 := by decide
                  exact hJ92 1 _ _ _ (by first | decide | omega) (by first | decide | omega) (by unfold bvI; (repeat' split) <;> first | rfl | (exfalso; omega)) hP hD hS (lv_sub hl [0, 1] rfl)
              · have f70 : ¬ r68.toInt = 0 := f_ne rfl (by decide) c70
                have k70 : 4 ≤ v18.toInt ∧ v18.toInt ≤ 7 := in_t (i2l_t rfl e66) (by decide) (by decide) w69 c70
                refine lv_bipush (v := (-9)) hx hb dX12_blank_50 (by decide) ?_
                refine lv_goto (tgt := 92) hx hb dX12_blank_52 (by decide) ?_
                have hlit84 : (-9 : Int32).toInt = -9 := by decide
                exact hJ92 (-9) _ _ _ (by first | decide | omega) (by first | decide | omega) (by unfold bvI; (repeat' split) <;> first | rfl | (exfalso; omega)) hP hD hS (lv_sub hl [0, 1] rfl)
            · have f65 : v18.toInt = 3 := f_eq rfl (by decide) c65
              exact hJ32  _ _ _ (by first | decide | omega) hP hD hS (lv_sub hl [0, 1] rfl)
        · have f50 : v18.toInt = 1 := f_eq rfl (by decide) c50
          refine lv_iconst (v := 2) hx hb dX12_blank_18 (by decide) ?_
          refine lv_goto (tgt := 92) hx hb dX12_blank_19 (by decide) ?_
          have hlit85 : (2 : Int32).toInt = 2 := by decide
          exact hJ92 2 _ _ _ (by first | decide | omega) (by first | decide | omega) (by unfold bvI; (repeat' split) <;> first | rfl | (exfalso; omega)) hP hD hS (lv_sub hl [0, 1] rfl)
  have hlit86 : (0 : Int32).toInt = 0 := by decide
  exact hL2 (Int.toNat (26 - 0) + 1) 0 (sm 1) _ _ _ (by omega) (by first | decide | omega) (by first | decide | omega) (by first | decide | omega) (PF_0 bvN (sm 1)) hP hD hS (lv_sub hl [0, 1] rfl)
theorem fw_X12_takeHouse_13 : Cond.fieldLink RX12 13 "StillInAugustModel" "house" "[I" ∈ wsX12_takeHouse := by decide +kernel
theorem fw_X12_takeHouse_7 : Cond.fieldLink RX12 7 "StillInAugustModel" "read" "[I" ∈ wsX12_takeHouse := by decide +kernel
theorem iw_X12_takeHouse_X12 : ∀ w ∈ u_ws RX12 TX12 33, w ∈ wsX12_takeHouse := fun _ h => List.mem_cons_of_mem _ (List.mem_append_right _ h)
set_option maxHeartbeats 4000000 in
set_option maxRecDepth 100000 in
theorem c_X12_takeHouse (l : Launch) (D : va_G) (k : Nat → ClassId) (b : Nat → Nat) (qm : Nat → Nat) (sm : Nat → Nat → Int32) (tm : Nat → Nat → Int64) (sz : Nat) (h_r0 : 0 ≤ (sm 1 0).toInt ∧ (sm 1 0).toInt ≤ 5) (h_r1 : 0 ≤ (sm 1 1).toInt ∧ (sm 1 1).toInt ≤ 4) : MetV l D k b yX12_takeHouse wsX12_takeHouse ({ frames := 0, cells := 0, slots := 0, locals := 0 } : Room) [cell22_ qm sm tm, cell5_ k qm sm, cell13_ k qm sm, cell8_ k qm sm, cell6_ k qm sm, cell15_ k qm sm, cell14_ k qm tm, cell12_ k qm tm, cell18_ k qm tm, cell17_ k qm tm, cell19_ k qm tm, cell21_ k qm tm, cell20_ k qm sm, cell16_ k qm sm, cell11_ k qm sm, cell10_ k qm sm, cell9_ k qm sm, cell7_ k qm sm] sz [.ref (qm 0)] (fun (u : (Nat → Int32)) => (0 ≤ (u 0).toInt ∧ (u 0).toInt ≤ 5) ∧ (0 ≤ (u 1).toInt ∧ (u 1).toInt ≤ 4) ∧ (u = J_X12_takeHouse sm tm)) (fun u => [cell22_ qm sm tm, cell5_ k qm sm, (qm 2, .inl (k 0, 26, .inl u)), cell8_ k qm sm, cell6_ k qm sm, cell15_ k qm sm, cell14_ k qm tm, cell12_ k qm tm, cell18_ k qm tm, cell17_ k qm tm, cell19_ k qm tm, cell21_ k qm tm, cell20_ k qm sm, cell16_ k qm sm, cell11_ k qm sm, cell10_ k qm sm, cell9_ k qm sm, cell7_ k qm sm]) := by
  refine g_enter (cc := cX12_takeHouse) (maxL := 2) (ret := none) (by decide) rfl (Nat.le_of_ble_eq_true rfl) ?_
  intro p e s m below meth c A hsz hAe cx hr hP hD hS ls hl
  rw [hAe]
  refine g_q (fun Q hQ => ?_)
  have hx := cx.1.1
  have hb := cx.1.2.1
  have hl : lv_has ls 2 [(0, .ref (qm 0))] := hl
  obtain ⟨H, eH⟩ : ∃ H : Heap, H = s.heap := ⟨_, rfl⟩
  obtain ⟨locs, el⟩ : ∃ L : List Loc, L = [] := ⟨_, rfl⟩
  have hP : va_P D vwCl [cell22_ qm sm tm, cell5_ k qm sm, cell13_ k qm sm, cell8_ k qm sm, cell6_ k qm sm, cell15_ k qm sm, cell14_ k qm tm, cell12_ k qm tm, cell18_ k qm tm, cell17_ k qm tm, cell19_ k qm tm, cell21_ k qm tm, cell20_ k qm sm, cell16_ k qm sm, cell11_ k qm sm, cell10_ k qm sm, cell9_ k qm sm, cell7_ k qm sm] H := by rw [eH]; exact hP
  have hD : va_D A [cell22_ qm sm tm, cell5_ k qm sm, cell13_ k qm sm, cell8_ k qm sm, cell6_ k qm sm, cell15_ k qm sm, cell14_ k qm tm, cell12_ k qm tm, cell18_ k qm tm, cell17_ k qm tm, cell19_ k qm tm, cell21_ k qm tm, cell20_ k qm sm, cell16_ k qm sm, cell11_ k qm sm, cell10_ k qm sm, cell9_ k qm sm, cell7_ k qm sm] := hD
  have hS : va_S A s.heap H locs := by rw [eH, el]; exact hS
  suffices goal : W p l e ({ frames := 0, cells := 0, slots := 0, locals := 0 } : Room) s m ([.ref (qm 0)] : List Value).toArray below meth c H locs 0 0 Q (F0 m 0 ls []) by rw [eH, el] at goal; exact goal
  refine lv_iconst (v := 0) hx hb dX12_takeHouse_0 (by decide) ?_
  refine lv_istore_n (lv' := [(1, .int 0), (0, .ref (qm 0))]) hx hb dX12_takeHouse_1 rfl hl (by decide) rfl (fun ls hl => ?_)
  have hL2 : ∀ (n12 : Nat) (v10 : Int32) (g11 : Nat → Int32) (H : Heap) (locs : List Loc) (ls : Array Slot), 26 - v10.toInt < (n12 : Int) → (0 ≤ v10.toInt ∧ v10.toInt ≤ 26) → (v10.toInt ≤ 0 ∨ (g11 0).toInt = (sm 1 0).toInt) → (v10.toInt ≤ 1 ∨ (g11 1).toInt = (sm 1 1).toInt) → (g11 = PFn (sm 1) (Int.toNat v10.toInt) (sm 2)) → va_P D vwCl [cell22_ qm sm tm, cell5_ k qm sm, (qm 2, .inl (k 0, 26, .inl g11)), cell8_ k qm sm, cell6_ k qm sm, cell15_ k qm sm, cell14_ k qm tm, cell12_ k qm tm, cell18_ k qm tm, cell17_ k qm tm, cell19_ k qm tm, cell21_ k qm tm, cell20_ k qm sm, cell16_ k qm sm, cell11_ k qm sm, cell10_ k qm sm, cell9_ k qm sm, cell7_ k qm sm] H → va_D A [cell22_ qm sm tm, cell5_ k qm sm, (qm 2, .inl (k 0, 26, .inl g11)), cell8_ k qm sm, cell6_ k qm sm, cell15_ k qm sm, cell14_ k qm tm, cell12_ k qm tm, cell18_ k qm tm, cell17_ k qm tm, cell19_ k qm tm, cell21_ k qm tm, cell20_ k qm sm, cell16_ k qm sm, cell11_ k qm sm, cell10_ k qm sm, cell9_ k qm sm, cell7_ k qm sm] → va_S A s.heap H locs → lv_has ls 2 [(1, .int v10), (0, .ref (qm 0))] → W p l e ({ frames := 0, cells := 0, slots := 0, locals := 0 } : Room) s m ([.ref (qm 0)] : List Value).toArray below meth c H locs 0 0 Q (F0 m 2 ls []) := by
    intro n12
    induction n12 with
    | zero => intro v10 g11 H locs ls hmn12 bv10 q0 q1 qT hP hD hS hl; exact absurd hmn12 (by omega)
    | succ n12 ih2 =>
      intro v10 g11 H locs ls hmn12 bv10 q0 q1 qT hP hD hS hl
      refine lv_iload_n hx hb dX12_takeHouse_2 rfl (lv_at hl 0 rfl) ?_
      refine lv_bipush (v := 26) hx hb dX12_takeHouse_3 (by decide) ?_
      refine lv_icmp_ge (tgt := 26) hx hb dX12_takeHouse_5 (by decide) (fun c13 => ?_) (fun c13 => ?_)
      · have f13 : 26 ≤ v10.toInt := f_le (by decide) rfl c13
        rw [hQ]
        exact x_v cx hr g11 hP hD hS ⟨(show 0 ≤ (g11 0).toInt ∧ (g11 0).toInt ≤ 5 from by omega), (show 0 ≤ (g11 1).toInt ∧ (g11 1).toInt ≤ 4 from by omega), (show g11 = J_X12_takeHouse sm tm from by have q : Int.toNat v10.toInt = 26 := (by omega); rw [q] at qT; rw [qT]; rfl)⟩ dX12_takeHouse_26
      · have f13 : v10.toInt < 26 := f_nle (by decide) rfl c13
        refine lv_aload_n hx hb dX12_takeHouse_8 rfl (lv_at hl 1 rfl) ?_
        refine g_get cx hP iw_X12_takeHouse_X12 0 rfl rfl 1 (by decide) rfl fw_X12_takeHouse_13 rfl dX12_takeHouse_9 ?_
        refine lv_iload_n hx hb dX12_takeHouse_12 rfl (lv_at hl 0 rfl) ?_
        refine lv_aload_n hx hb dX12_takeHouse_13 rfl (lv_at hl 1 rfl) ?_
        refine g_get cx hP iw_X12_takeHouse_X12 0 rfl rfl 0 (by decide) rfl fw_X12_takeHouse_7 rfl dX12_takeHouse_14 ?_
        refine lv_iload_n hx hb dX12_takeHouse_17 rfl (lv_at hl 0 rfl) ?_
        have hn14 : vp_in v10 26 := f_in (a := v10.toInt) rfl (by omega) (by omega)
        refine va_iald hx hb cx.2.1 hP 1 0 rfl rfl hn14 dX12_takeHouse_18 (lv_topi (fun v15 e15 => ?_))
        have s16 := ldI e15 rfl (show 0 ≤ v10.toInt from by omega) 0
        have s17 := ldI e15 rfl (show 0 ≤ v10.toInt from by omega) 1
        have hn18 : vp_in v10 26 := f_in (a := v10.toInt) rfl (by omega) (by omega)
        refine va_iast hx hb cx.2.1 hP hD hS 2 0 rfl rfl hn18 dX12_takeHouse_19 (fun H locs hP hD hS => ?_)
        obtain ⟨g19, eg19⟩ : ∃ g : Nat → Int32, g = upd g11 (v10).toNatClampNeg v15 := ⟨_, rfl⟩
        rw [← eg19] at hP hD
        have hP : va_P D vwCl [cell22_ qm sm tm, cell5_ k qm sm, (qm 2, .inl (k 0, 26, .inl g19)), cell8_ k qm sm, cell6_ k qm sm, cell15_ k qm sm, cell14_ k qm tm, cell12_ k qm tm, cell18_ k qm tm, cell17_ k qm tm, cell19_ k qm tm, cell21_ k qm tm, cell20_ k qm sm, cell16_ k qm sm, cell11_ k qm sm, cell10_ k qm sm, cell9_ k qm sm, cell7_ k qm sm] H := hP
        have hD : va_D A [cell22_ qm sm tm, cell5_ k qm sm, (qm 2, .inl (k 0, 26, .inl g19)), cell8_ k qm sm, cell6_ k qm sm, cell15_ k qm sm, cell14_ k qm tm, cell12_ k qm tm, cell18_ k qm tm, cell17_ k qm tm, cell19_ k qm tm, cell21_ k qm tm, cell20_ k qm sm, cell16_ k qm sm, cell11_ k qm sm, cell10_ k qm sm, cell9_ k qm sm, cell7_ k qm sm] := hD
        have s20 := updI eg19 rfl (show 0 ≤ v10.toInt from by omega) 0
        have s21 := updI eg19 rfl (show 0 ≤ v10.toInt from by omega) 1
        have flq := PF_st (P := (sm 1)) eg19 (k := Int.toNat v10.toInt) (show v10.toInt = ((Int.toNat v10.toInt : Nat) : Int) from by omega) ((e15.trans (congrArg (sm 1) (cN_of (show v10.toInt = ((Int.toNat v10.toInt : Nat) : Int) from by omega))))) qT
        obtain ⟨v22, e22⟩ : ∃ z : Int32, z = v10 + 1 := ⟨_, rfl⟩
        refine lv_iinc (v := v22) (lv' := [(1, .int v22), (0, .ref (qm 0))]) hx hb dX12_takeHouse_20 hl (k := 0) rfl (by rw [e22]; rfl) (by decide) rfl (fun ls hl => ?_)
        have t22 : v22.toInt = v10.toInt + 1 := by rw [e22]; exact i_add rfl (by decide) (by omega) (by omega)
        refine lv_goto (tgt := 2) hx hb dX12_takeHouse_23 (by decide) ?_
        exact ih2 v22 g19 _ _ _ (by omega) (by first | decide | omega) (by first | decide | omega) (by first | decide | omega) (flq.trans (congrArg (fun n => PFn (sm 1) n (sm 2)) (by omega))) hP hD hS (lv_sub hl [0, 1] rfl)
  have hlit23 : (0 : Int32).toInt = 0 := by decide
  exact hL2 (Int.toNat (26 - 0) + 1) 0 (sm 2) _ _ _ (by omega) (by first | decide | omega) (by first | decide | omega) (by first | decide | omega) (PF_0 (sm 1) (sm 2)) hP hD hS (lv_sub hl [0, 1] rfl)
theorem fw_X12_write_103 : Cond.fieldLink RX12 103 "StillInAugustModel" "length" "I" ∈ wsX12_write := by decide +kernel
theorem fw_X12_write_16 : Cond.fieldLink RX12 16 "StillInAugustModel" "text" "[I" ∈ wsX12_write := by decide +kernel
theorem kJ_X12_write_101 : Cond.constantLong RX12 101 (8) ∈ wsX12_write := by decide +kernel
theorem kJ_X12_write_106 : Cond.constantLong RX12 106 (255) ∈ wsX12_write := by decide +kernel
theorem iw_X12_write_X12 : ∀ w ∈ u_ws RX12 TX12 33, w ∈ wsX12_write := fun _ h => List.mem_cons_of_mem _ (List.mem_append_right _ h)
set_option maxHeartbeats 4000000 in
set_option maxRecDepth 100000 in
theorem c_X12_write (l : Launch) (D : va_G) (k : Nat → ClassId) (b : Nat → Nat) (qm : Nat → Nat) (sm : Nat → Nat → Int32) (tm : Nat → Nat → Int64) (sz : Nat) (p0 : Int32) (p1 : Int64) (h_len : 0 ≤ (sm 0 3).toInt ∧ (sm 0 3).toInt ≤ 64) : MetI l D k b yX12_write wsX12_write ({ frames := 1, cells := 0, slots := 0, locals := 25 } : Room) [cell22_ qm sm tm, cell5_ k qm sm, cell13_ k qm sm, cell8_ k qm sm, cell6_ k qm sm, cell15_ k qm sm, cell14_ k qm tm, cell12_ k qm tm, cell18_ k qm tm, cell17_ k qm tm, cell19_ k qm tm, cell21_ k qm tm, cell20_ k qm sm, cell16_ k qm sm, cell11_ k qm sm, cell10_ k qm sm, cell9_ k qm sm, cell7_ k qm sm] sz [.ref (qm 0), .int p0, .long p1] (fun (r : Int32) (u : (Nat → Int32) × Int32) => (((p0.toInt < 1 ∨ 8 < p0.toInt) ∧ r.toInt = -2 ∧ (u.2).toInt = (sm 0 3).toInt) ∨ (1 ≤ p0.toInt ∧ p0.toInt ≤ 8 ∧ 64 < (sm 0 3).toInt + p0.toInt ∧ r.toInt = -4 ∧ (u.2).toInt = (sm 0 3).toInt) ∨ (1 ≤ p0.toInt ∧ p0.toInt ≤ 8 ∧ (sm 0 3).toInt + p0.toInt ≤ 64 ∧ r.toInt = (sm 0 3).toInt + p0.toInt ∧ (u.2).toInt = (sm 0 3).toInt + p0.toInt)) ∧ ((r, (u.1), (u.2)) = J_X12_write sm tm p0 p1)) (fun u => [cell113_ qm sm tm (u.2), cell5_ k qm sm, cell13_ k qm sm, (qm 3, .inl (k 0, 64, .inl (u.1))), cell6_ k qm sm, cell15_ k qm sm, cell14_ k qm tm, cell12_ k qm tm, cell18_ k qm tm, cell17_ k qm tm, cell19_ k qm tm, cell21_ k qm tm, cell20_ k qm sm, cell16_ k qm sm, cell11_ k qm sm, cell10_ k qm sm, cell9_ k qm sm, cell7_ k qm sm]) := by
  refine g_enter (cc := cX12_write) (maxL := 5) (ret := (some .int)) (by decide) rfl (Nat.le_of_ble_eq_true rfl) ?_
  intro p e s m below meth c A hsz hAe cx hr hP hD hS ls hl
  rw [hAe]
  refine g_q (fun Q hQ => ?_)
  have hx := cx.1.1
  have hb := cx.1.2.1
  have bp0 := i_rng p0
  have hl : lv_has ls 5 [(0, .ref (qm 0)), (1, .int p0), (2, .long p1)] := hl
  obtain ⟨H, eH⟩ : ∃ H : Heap, H = s.heap := ⟨_, rfl⟩
  obtain ⟨locs, el⟩ : ∃ L : List Loc, L = [] := ⟨_, rfl⟩
  have hP : va_P D vwCl [cell22_ qm sm tm, cell5_ k qm sm, cell13_ k qm sm, cell8_ k qm sm, cell6_ k qm sm, cell15_ k qm sm, cell14_ k qm tm, cell12_ k qm tm, cell18_ k qm tm, cell17_ k qm tm, cell19_ k qm tm, cell21_ k qm tm, cell20_ k qm sm, cell16_ k qm sm, cell11_ k qm sm, cell10_ k qm sm, cell9_ k qm sm, cell7_ k qm sm] H := by rw [eH]; exact hP
  have hD : va_D A [cell22_ qm sm tm, cell5_ k qm sm, cell13_ k qm sm, cell8_ k qm sm, cell6_ k qm sm, cell15_ k qm sm, cell14_ k qm tm, cell12_ k qm tm, cell18_ k qm tm, cell17_ k qm tm, cell19_ k qm tm, cell21_ k qm tm, cell20_ k qm sm, cell16_ k qm sm, cell11_ k qm sm, cell10_ k qm sm, cell9_ k qm sm, cell7_ k qm sm] := hD
  have hS : va_S A s.heap H locs := by rw [eH, el]; exact hS
  suffices goal : W p l e ({ frames := 1, cells := 0, slots := 0, locals := 25 } : Room) s m ([.ref (qm 0), .int p0, .long p1] : List Value).toArray below meth c H locs 0 0 Q (F0 m 0 ls []) by rw [eH, el] at goal; exact goal
  refine lv_iload_n hx hb dX12_write_0 rfl (lv_at hl 1 rfl) ?_
  obtain ⟨v1, e1⟩ : ∃ z : Int64, z = (p0 : Int32).toInt64 := ⟨_, rfl⟩
  refine lv_i2l (v := v1) hx hb dX12_write_1 e1.symm ?_
  refine lv_lconst (v := 1) hx hb dX12_write_2 (by decide) ?_
  refine lv_ldc2 (v := 8) hx hb cx.1.2.2.2.1 (cx.1.2.2.2.2 _ kJ_X12_write_101) dX12_write_3 ?_
  refine g_ir (g_runS (wc := []) (rest := []) cx hP hD hS [] rfl (by decide) [.long v1, .long 1, .long 8] (c_X12_in l D k b H.size v1 1 8) gX12_write_X12_in rfl rfl rfl nd_X12_in ⟨Nat.le_of_ble_eq_true rfl, Nat.le_of_ble_eq_true rfl⟩ rfl hl.1 rfl (Nat.le_of_ble_eq_true rfl) ⟨Nat.zero_le _, Nat.zero_le _⟩ dX12_write_6) cx.2.2.1 hP hD hS [] rfl rfl (fun r3 H locs hw2 hP hS => ?_)
  have w4 : r3 = J_X12_in v1 (1 : Int64) (8 : Int64) := hw2
  clear hw2
  have zr3 := in_b w4
  refine lv_if_ne (tgt := 15) hx hb dX12_write_9 (by decide) (fun c5 => ?_) (fun c5 => ?_)
  · have f5 : ¬ r3.toInt = 0 := f_ne rfl (by decide) c5
    have k5 : 1 ≤ p0.toInt ∧ p0.toInt ≤ 8 := in_t (i2l_t rfl e1) (by decide) (by decide) w4 c5
    refine lv_aload_n hx hb dX12_write_15 rfl (lv_at hl 0 rfl) ?_
    refine g_get cx hP iw_X12_write_X12 0 rfl rfl 3 (by decide) rfl fw_X12_write_103 rfl dX12_write_16 ?_
    refine lv_iload_n hx hb dX12_write_19 rfl (lv_at hl 1 rfl) ?_
    refine lv_iadd hx hb dX12_write_20 (lv_topi (fun v6 e6 => ?_))
    have t6 : v6.toInt = (sm 0 3).toInt + p0.toInt := by rw [e6]; exact i_add rfl rfl (by omega) (by omega)
    refine lv_bipush (v := 64) hx hb dX12_write_21 (by decide) ?_
    refine lv_icmp_le (tgt := 29) hx hb dX12_write_23 (by decide) (fun c7 => ?_) (fun c7 => ?_)
    · have f7 : v6.toInt ≤ 64 := f_le rfl (by decide) c7
      refine lv_iload_n hx hb dX12_write_29 rfl (lv_at hl 1 rfl) ?_
      refine lv_iconst (v := 1) hx hb dX12_write_30 (by decide) ?_
      refine lv_isub hx hb dX12_write_31 (lv_topi (fun v8 e8 => ?_))
      have t8 : v8.toInt = p0.toInt - 1 := by rw [e8]; exact i_sub rfl (by decide) (by omega) (by omega)
      refine lv_istore (lv' := [(4, .int v8), (0, .ref (qm 0)), (1, .int p0), (2, .long p1)]) hx hb dX12_write_32 hl (by decide) rfl (fun ls hl => ?_)
      have hL34 : ∀ (n20 : Nat) (v17 : Int32) (x18 : Int32) (g19 : Nat → Int32) (H : Heap) (locs : List Loc) (ls : Array Slot), v17.toInt + 1 < (n20 : Int) → (-1 ≤ v17.toInt ∧ v17.toInt ≤ 7) → (0 ≤ x18.toInt ∧ x18.toInt ≤ 64) → (x18.toInt = (sm 0 3).toInt + p0.toInt - 1 - v17.toInt) → (wrB (byR p1) (Int.toNat (v17.toInt + 1)) g19 (Int.toNat x18.toInt) = wrB (byR p1) (Int.toNat p0.toInt) (sm 3) (Int.toNat (sm 0 3).toInt)) → va_P D vwCl [cell113_ qm sm tm x18, cell5_ k qm sm, cell13_ k qm sm, (qm 3, .inl (k 0, 64, .inl g19)), cell6_ k qm sm, cell15_ k qm sm, cell14_ k qm tm, cell12_ k qm tm, cell18_ k qm tm, cell17_ k qm tm, cell19_ k qm tm, cell21_ k qm tm, cell20_ k qm sm, cell16_ k qm sm, cell11_ k qm sm, cell10_ k qm sm, cell9_ k qm sm, cell7_ k qm sm] H → va_D A [cell113_ qm sm tm x18, cell5_ k qm sm, cell13_ k qm sm, (qm 3, .inl (k 0, 64, .inl g19)), cell6_ k qm sm, cell15_ k qm sm, cell14_ k qm tm, cell12_ k qm tm, cell18_ k qm tm, cell17_ k qm tm, cell19_ k qm tm, cell21_ k qm tm, cell20_ k qm sm, cell16_ k qm sm, cell11_ k qm sm, cell10_ k qm sm, cell9_ k qm sm, cell7_ k qm sm] → va_S A s.heap H locs → lv_has ls 5 [(4, .int v17), (0, .ref (qm 0)), (2, .long p1)] → W p l e ({ frames := 1, cells := 0, slots := 0, locals := 25 } : Room) s m ([.ref (qm 0), .int p0, .long p1] : List Value).toArray below meth c H locs 0 0 Q (F0 m 34 ls []) := by
        intro n20
        induction n20 with
        | zero => intro v17 x18 g19 H locs ls hmn20 bv17 bx18 ql qW hP hD hS hl; exact absurd hmn20 (by omega)
        | succ n20 ih34 =>
          intro v17 x18 g19 H locs ls hmn20 bv17 bx18 ql qW hP hD hS hl
          refine lv_iload hx hb dX12_write_34 (lv_at hl 0 rfl) ?_
          refine lv_if_lt (tgt := 76) hx hb dX12_write_36 (by decide) (fun c21 => ?_) (fun c21 => ?_)
          · have f21 : v17.toInt < 0 := f_lt rfl (by decide) c21
            refine lv_aload_n hx hb dX12_write_76 rfl (lv_at hl 1 rfl) ?_
            refine g_get cx hP iw_X12_write_X12 0 rfl rfl 3 (by decide) rfl fw_X12_write_103 rfl dX12_write_77 ?_
            rw [hQ]
            exact x_i cx hr (g19, x18) hP hD hS ⟨(show ((p0.toInt < 1 ∨ 8 < p0.toInt) ∧ x18.toInt = -2 ∧ x18.toInt = (sm 0 3).toInt) ∨ (1 ≤ p0.toInt ∧ p0.toInt ≤ 8 ∧ 64 < (sm 0 3).toInt + p0.toInt ∧ x18.toInt = -4 ∧ x18.toInt = (sm 0 3).toInt) ∨ (1 ≤ p0.toInt ∧ p0.toInt ≤ 8 ∧ (sm 0 3).toInt + p0.toInt ≤ 64 ∧ x18.toInt = (sm 0 3).toInt + p0.toInt ∧ x18.toInt = (sm 0 3).toInt + p0.toInt) from by omega), (show (x18, g19, x18) = J_X12_write sm tm p0 p1 from wr_ex ⟨by omega, by omega⟩ (by omega) (by omega) (by omega) qW)⟩ dX12_write_80
          · have f21 : 0 ≤ v17.toInt := f_nlt rfl (by decide) c21
            refine lv_aload_n hx hb dX12_write_39 rfl (lv_at hl 1 rfl) ?_
            refine g_get cx hP iw_X12_write_X12 0 rfl rfl 2 (by decide) rfl fw_X12_write_16 rfl dX12_write_40 ?_
            refine lv_aload_n hx hb dX12_write_43 rfl (lv_at hl 1 rfl) ?_
            refine g_get cx hP iw_X12_write_X12 0 rfl rfl 3 (by decide) rfl fw_X12_write_103 rfl dX12_write_44 ?_
            refine lv_lload_n hx hb dX12_write_47 rfl (lv_at hl 2 rfl) ?_
            refine lv_bipush (v := 8) hx hb dX12_write_48 (by decide) ?_
            refine lv_iload hx hb dX12_write_50 (lv_at hl 0 rfl) ?_
            refine lv_imul hx hb dX12_write_52 (lv_topi (fun v22 e22 => ?_))
            have t22 : v22.toInt = 8 * v17.toInt := by rw [e22]; exact i_mul (by decide) rfl (by omega) (by omega)
            obtain ⟨v23, e23⟩ : ∃ z : Int64, p1 >>> ((v22 : Int32).toInt64 &&& 63) = z := ⟨_, rfl⟩
            refine lv_lshr (v := v23) hx hb dX12_write_53 e23 ?_
            refine lv_ldc2 (v := 255) hx hb cx.1.2.2.2.1 (cx.1.2.2.2.2 _ kJ_X12_write_106) dX12_write_54 ?_
            refine lv_land hx hb dX12_write_57 (lv_topl (fun v24 e24 => ?_))
            obtain ⟨v25, e25⟩ : ∃ z : Int32, z = (v24 : Int64).toInt32 := ⟨_, rfl⟩
            refine lv_l2i (v := v25) hx hb dX12_write_58 e25.symm ?_
            have hn26 : vp_in x18 64 := f_in (a := x18.toInt) rfl (by omega) (by omega)
            refine va_iast hx hb cx.2.1 hP hD hS 3 0 rfl rfl hn26 dX12_write_59 (fun H locs hP hD hS => ?_)
            obtain ⟨g27, eg27⟩ : ∃ g : Nat → Int32, g = upd g19 (x18).toNatClampNeg v25 := ⟨_, rfl⟩
            rw [← eg27] at hP hD
            have hP : va_P D vwCl [cell113_ qm sm tm x18, cell5_ k qm sm, cell13_ k qm sm, (qm 3, .inl (k 0, 64, .inl g27)), cell6_ k qm sm, cell15_ k qm sm, cell14_ k qm tm, cell12_ k qm tm, cell18_ k qm tm, cell17_ k qm tm, cell19_ k qm tm, cell21_ k qm tm, cell20_ k qm sm, cell16_ k qm sm, cell11_ k qm sm, cell10_ k qm sm, cell9_ k qm sm, cell7_ k qm sm] H := hP
            have hD : va_D A [cell113_ qm sm tm x18, cell5_ k qm sm, cell13_ k qm sm, (qm 3, .inl (k 0, 64, .inl g27)), cell6_ k qm sm, cell15_ k qm sm, cell14_ k qm tm, cell12_ k qm tm, cell18_ k qm tm, cell17_ k qm tm, cell19_ k qm tm, cell21_ k qm tm, cell20_ k qm sm, cell16_ k qm sm, cell11_ k qm sm, cell10_ k qm sm, cell9_ k qm sm, cell7_ k qm sm] := hD
            have hb_ := by_of e22 e23 e24 e25 (show 0 ≤ v17.toInt from by omega)
            have hg_ := eg27
            refine lv_aload_n hx hb dX12_write_60 rfl (lv_at hl 1 rfl) ?_
            refine lv_dup hx hb dX12_write_61 rfl ?_
            refine g_get cx hP iw_X12_write_X12 0 rfl rfl 3 (by decide) rfl fw_X12_write_103 rfl dX12_write_62 ?_
            refine lv_iconst (v := 1) hx hb dX12_write_65 (by decide) ?_
            refine lv_iadd hx hb dX12_write_66 (lv_topi (fun v28 e28 => ?_))
            have t28 : v28.toInt = x18.toInt + 1 := by rw [e28]; exact i_add rfl (by decide) (by omega) (by omega)
            refine g_pt cx hP hD hS iw_X12_write_X12 tyX12 tyX12_ok nmX12 0 rfl rfl 3 (by decide) rfl fw_X12_write_103 (ty := .int) rfl rfl rfl (Nat.le_of_ble_eq_true rfl) dX12_write_67 (fun H locs hP hD hS => ?_)
            have hP : va_P D vwCl [cell113_ qm sm tm v28, cell5_ k qm sm, cell13_ k qm sm, (qm 3, .inl (k 0, 64, .inl g27)), cell6_ k qm sm, cell15_ k qm sm, cell14_ k qm tm, cell12_ k qm tm, cell18_ k qm tm, cell17_ k qm tm, cell19_ k qm tm, cell21_ k qm tm, cell20_ k qm sm, cell16_ k qm sm, cell11_ k qm sm, cell10_ k qm sm, cell9_ k qm sm, cell7_ k qm sm] H := hP
            have hD : va_D A [cell113_ qm sm tm v28, cell5_ k qm sm, cell13_ k qm sm, (qm 3, .inl (k 0, 64, .inl g27)), cell6_ k qm sm, cell15_ k qm sm, cell14_ k qm tm, cell12_ k qm tm, cell18_ k qm tm, cell17_ k qm tm, cell19_ k qm tm, cell21_ k qm tm, cell20_ k qm sm, cell16_ k qm sm, cell11_ k qm sm, cell10_ k qm sm, cell9_ k qm sm, cell7_ k qm sm] := hD
            obtain ⟨v29, e29⟩ : ∃ z : Int32, z = v17 + (-1) := ⟨_, rfl⟩
            refine lv_iinc (v := v29) (lv' := [(4, .int v29), (0, .ref (qm 0)), (2, .long p1)]) hx hb dX12_write_70 hl (k := 0) rfl (by rw [e29]; rfl) (by decide) rfl (fun ls hl => ?_)
            have t29 : v29.toInt = v17.toInt + (-1) := by rw [e29]; exact i_add rfl (by decide) (by omega) (by omega)
            refine lv_goto (tgt := 34) hx hb dX12_write_73 (by decide) ?_
            exact ih34 v29 v28 g27 _ _ _ (by omega) (by first | decide | omega) (by first | decide | omega) (by first | decide | omega) (wr_go hg_ hb_ (by omega) (by omega) (by omega) (by omega) qW) hP hD hS (lv_sub hl [0, 1, 2] rfl)
      exact hL34 (Int.toNat (v8.toInt + 1) + 1) v8 (sm 0 3) (sm 3) _ _ _ (by omega) (by first | decide | omega) (by first | decide | omega) (by first | decide | omega) (by rw [show Int.toNat (v8.toInt + 1) = Int.toNat p0.toInt from by omega]) hP hD hS (lv_sub hl [0, 1, 3] rfl)
    · have f7 : 64 < v6.toInt := f_nle rfl (by decide) c7
      refine lv_bipush (v := (-4)) hx hb dX12_write_26 (by decide) ?_
      have hlit30 : ((-4) : Int32).toInt = -4 := by decide
      rw [hQ]
      exact x_i cx hr ((sm 3), (sm 0 3)) hP hD hS ⟨(show ((p0.toInt < 1 ∨ 8 < p0.toInt) ∧ ((-4) : Int32).toInt = -2 ∧ (sm 0 3).toInt = (sm 0 3).toInt) ∨ (1 ≤ p0.toInt ∧ p0.toInt ≤ 8 ∧ 64 < (sm 0 3).toInt + p0.toInt ∧ ((-4) : Int32).toInt = -4 ∧ (sm 0 3).toInt = (sm 0 3).toInt) ∨ (1 ≤ p0.toInt ∧ p0.toInt ≤ 8 ∧ (sm 0 3).toInt + p0.toInt ≤ 64 ∧ ((-4) : Int32).toInt = (sm 0 3).toInt + p0.toInt ∧ (sm 0 3).toInt = (sm 0 3).toInt + p0.toInt) from by omega), (show (((-4) : Int32), (sm 3), (sm 0 3)) = J_X12_write sm tm p0 p1 from by unfold J_X12_write; rw [if_neg (by omega), if_pos (by omega)])⟩ dX12_write_28
  · have f5 : r3.toInt = 0 := f_eq rfl (by decide) c5
    have k5 : p0.toInt < 1 ∨ 8 < p0.toInt := in_f (i2l_t rfl e1) (by decide) (by decide) w4 c5
    refine lv_bipush (v := (-2)) hx hb dX12_write_12 (by decide) ?_
    have hlit31 : ((-2) : Int32).toInt = -2 := by decide
    rw [hQ]
    exact x_i cx hr ((sm 3), (sm 0 3)) hP hD hS ⟨(show ((p0.toInt < 1 ∨ 8 < p0.toInt) ∧ ((-2) : Int32).toInt = -2 ∧ (sm 0 3).toInt = (sm 0 3).toInt) ∨ (1 ≤ p0.toInt ∧ p0.toInt ≤ 8 ∧ 64 < (sm 0 3).toInt + p0.toInt ∧ ((-2) : Int32).toInt = -4 ∧ (sm 0 3).toInt = (sm 0 3).toInt) ∨ (1 ≤ p0.toInt ∧ p0.toInt ≤ 8 ∧ (sm 0 3).toInt + p0.toInt ≤ 64 ∧ ((-2) : Int32).toInt = (sm 0 3).toInt + p0.toInt ∧ (sm 0 3).toInt = (sm 0 3).toInt + p0.toInt) from by omega), (show (((-2) : Int32), (sm 3), (sm 0 3)) = J_X12_write sm tm p0 p1 from (if_pos (by omega)).symm)⟩ dX12_write_14
theorem fw_X12_wipe_103 : Cond.fieldLink RX12 103 "StillInAugustModel" "length" "I" ∈ wsX12_wipe := by decide +kernel
theorem iw_X12_wipe_X12 : ∀ w ∈ u_ws RX12 TX12 33, w ∈ wsX12_wipe := fun _ h => List.mem_cons_of_mem _ (List.mem_append_right _ h)
def J_X12_wipe (sm : Nat → Nat → Int32) (tm : Nat → Nat → Int64) : Int32 × Int32 := ((sm 0 3), (0 : Int32))
set_option maxHeartbeats 4000000 in
set_option maxRecDepth 100000 in
theorem c_X12_wipe (l : Launch) (D : va_G) (k : Nat → ClassId) (b : Nat → Nat) (qm : Nat → Nat) (sm : Nat → Nat → Int32) (tm : Nat → Nat → Int64) (sz : Nat) : MetI l D k b yX12_wipe wsX12_wipe ({ frames := 0, cells := 0, slots := 0, locals := 0 } : Room) [cell22_ qm sm tm, cell5_ k qm sm, cell13_ k qm sm, cell8_ k qm sm, cell6_ k qm sm, cell15_ k qm sm, cell14_ k qm tm, cell12_ k qm tm, cell18_ k qm tm, cell17_ k qm tm, cell19_ k qm tm, cell21_ k qm tm, cell20_ k qm sm, cell16_ k qm sm, cell11_ k qm sm, cell10_ k qm sm, cell9_ k qm sm, cell7_ k qm sm] sz [.ref (qm 0)] (fun (r : Int32) (u : Int32) => (r.toInt = (sm 0 3).toInt) ∧ (u.toInt = 0) ∧ ((r, u) = J_X12_wipe sm tm)) (fun u => [cell113_ qm sm tm u, cell5_ k qm sm, cell13_ k qm sm, cell8_ k qm sm, cell6_ k qm sm, cell15_ k qm sm, cell14_ k qm tm, cell12_ k qm tm, cell18_ k qm tm, cell17_ k qm tm, cell19_ k qm tm, cell21_ k qm tm, cell20_ k qm sm, cell16_ k qm sm, cell11_ k qm sm, cell10_ k qm sm, cell9_ k qm sm, cell7_ k qm sm]) := by
  refine g_enter (cc := cX12_wipe) (maxL := 2) (ret := (some .int)) (by decide) rfl (Nat.le_of_ble_eq_true rfl) ?_
  intro p e s m below meth c A hsz hAe cx hr hP hD hS ls hl
  rw [hAe]
  refine g_q (fun Q hQ => ?_)
  have hx := cx.1.1
  have hb := cx.1.2.1
  have hl : lv_has ls 2 [(0, .ref (qm 0))] := hl
  obtain ⟨H, eH⟩ : ∃ H : Heap, H = s.heap := ⟨_, rfl⟩
  obtain ⟨locs, el⟩ : ∃ L : List Loc, L = [] := ⟨_, rfl⟩
  have hP : va_P D vwCl [cell22_ qm sm tm, cell5_ k qm sm, cell13_ k qm sm, cell8_ k qm sm, cell6_ k qm sm, cell15_ k qm sm, cell14_ k qm tm, cell12_ k qm tm, cell18_ k qm tm, cell17_ k qm tm, cell19_ k qm tm, cell21_ k qm tm, cell20_ k qm sm, cell16_ k qm sm, cell11_ k qm sm, cell10_ k qm sm, cell9_ k qm sm, cell7_ k qm sm] H := by rw [eH]; exact hP
  have hD : va_D A [cell22_ qm sm tm, cell5_ k qm sm, cell13_ k qm sm, cell8_ k qm sm, cell6_ k qm sm, cell15_ k qm sm, cell14_ k qm tm, cell12_ k qm tm, cell18_ k qm tm, cell17_ k qm tm, cell19_ k qm tm, cell21_ k qm tm, cell20_ k qm sm, cell16_ k qm sm, cell11_ k qm sm, cell10_ k qm sm, cell9_ k qm sm, cell7_ k qm sm] := hD
  have hS : va_S A s.heap H locs := by rw [eH, el]; exact hS
  suffices goal : W p l e ({ frames := 0, cells := 0, slots := 0, locals := 0 } : Room) s m ([.ref (qm 0)] : List Value).toArray below meth c H locs 0 0 Q (F0 m 0 ls []) by rw [eH, el] at goal; exact goal
  refine lv_aload_n hx hb dX12_wipe_0 rfl (lv_at hl 0 rfl) ?_
  refine g_get cx hP iw_X12_wipe_X12 0 rfl rfl 3 (by decide) rfl fw_X12_wipe_103 rfl dX12_wipe_1 ?_
  refine lv_istore_n (lv' := [(1, .int (sm 0 3)), (0, .ref (qm 0))]) hx hb dX12_wipe_4 rfl hl (by decide) rfl (fun ls hl => ?_)
  refine lv_aload_n hx hb dX12_wipe_5 rfl (lv_at hl 1 rfl) ?_
  refine lv_iconst (v := 0) hx hb dX12_wipe_6 (by decide) ?_
  refine g_pt cx hP hD hS iw_X12_wipe_X12 tyX12 tyX12_ok nmX12 0 rfl rfl 3 (by decide) rfl fw_X12_wipe_103 (ty := .int) rfl rfl rfl (Nat.le_of_ble_eq_true rfl) dX12_wipe_7 (fun H locs hP hD hS => ?_)
  have hP : va_P D vwCl [cell113_ qm sm tm 0, cell5_ k qm sm, cell13_ k qm sm, cell8_ k qm sm, cell6_ k qm sm, cell15_ k qm sm, cell14_ k qm tm, cell12_ k qm tm, cell18_ k qm tm, cell17_ k qm tm, cell19_ k qm tm, cell21_ k qm tm, cell20_ k qm sm, cell16_ k qm sm, cell11_ k qm sm, cell10_ k qm sm, cell9_ k qm sm, cell7_ k qm sm] H := hP
  have hD : va_D A [cell113_ qm sm tm 0, cell5_ k qm sm, cell13_ k qm sm, cell8_ k qm sm, cell6_ k qm sm, cell15_ k qm sm, cell14_ k qm tm, cell12_ k qm tm, cell18_ k qm tm, cell17_ k qm tm, cell19_ k qm tm, cell21_ k qm tm, cell20_ k qm sm, cell16_ k qm sm, cell11_ k qm sm, cell10_ k qm sm, cell9_ k qm sm, cell7_ k qm sm] := hD
  have hlit1 : (0 : Int32).toInt = 0 := by decide
  refine lv_iload_n hx hb dX12_wipe_10 rfl (lv_at hl 0 rfl) ?_
  have hlit2 : (0 : Int32).toInt = 0 := by decide
  rw [hQ]
  exact x_i cx hr 0 hP hD hS ⟨(show (sm 0 3).toInt = (sm 0 3).toInt from by omega), (show (0 : Int32).toInt = 0 from by omega), (show ((sm 0 3), (0 : Int32)) = J_X12_wipe sm tm from by rfl)⟩ dX12_wipe_11
theorem fw_X12_fail_108 : Cond.fieldLink RX12 108 "StillInAugustModel" "faultAt" "I" ∈ wsX12_fail := by decide +kernel
theorem fw_X12_fail_111 : Cond.fieldLink RX12 111 "StillInAugustModel" "at" "I" ∈ wsX12_fail := by decide +kernel
theorem iw_X12_fail_X12 : ∀ w ∈ u_ws RX12 TX12 33, w ∈ wsX12_fail := fun _ h => List.mem_cons_of_mem _ (List.mem_append_right _ h)
def J_X12_fail (sm : Nat → Nat → Int32) (tm : Nat → Nat → Int64) : Int32 := if (sm 0 5) = (-9) then (sm 0 4) else (sm 0 5)
set_option maxHeartbeats 4000000 in
set_option maxRecDepth 100000 in
theorem c_X12_fail (l : Launch) (D : va_G) (k : Nat → ClassId) (b : Nat → Nat) (qm : Nat → Nat) (sm : Nat → Nat → Int32) (tm : Nat → Nat → Int64) (sz : Nat) (h_at : 0 ≤ (sm 0 4).toInt ∧ (sm 0 4).toInt ≤ 64) : MetV l D k b yX12_fail wsX12_fail ({ frames := 0, cells := 0, slots := 0, locals := 0 } : Room) [cell22_ qm sm tm, cell5_ k qm sm, cell13_ k qm sm, cell8_ k qm sm, cell6_ k qm sm, cell15_ k qm sm, cell14_ k qm tm, cell12_ k qm tm, cell18_ k qm tm, cell17_ k qm tm, cell19_ k qm tm, cell21_ k qm tm, cell20_ k qm sm, cell16_ k qm sm, cell11_ k qm sm, cell10_ k qm sm, cell9_ k qm sm, cell7_ k qm sm] sz [.ref (qm 0)] (fun (u : Int32) => (¬ u.toInt = -9) ∧ (u = J_X12_fail sm tm)) (fun u => [cell81_ qm sm tm u, cell5_ k qm sm, cell13_ k qm sm, cell8_ k qm sm, cell6_ k qm sm, cell15_ k qm sm, cell14_ k qm tm, cell12_ k qm tm, cell18_ k qm tm, cell17_ k qm tm, cell19_ k qm tm, cell21_ k qm tm, cell20_ k qm sm, cell16_ k qm sm, cell11_ k qm sm, cell10_ k qm sm, cell9_ k qm sm, cell7_ k qm sm]) := by
  refine g_enter (cc := cX12_fail) (maxL := 1) (ret := none) (by decide) rfl (Nat.le_of_ble_eq_true rfl) ?_
  intro p e s m below meth c A hsz hAe cx hr hP hD hS ls hl
  rw [hAe]
  refine g_q (fun Q hQ => ?_)
  have hx := cx.1.1
  have hb := cx.1.2.1
  have hl : lv_has ls 1 [(0, .ref (qm 0))] := hl
  obtain ⟨H, eH⟩ : ∃ H : Heap, H = s.heap := ⟨_, rfl⟩
  obtain ⟨locs, el⟩ : ∃ L : List Loc, L = [] := ⟨_, rfl⟩
  have hP : va_P D vwCl [cell22_ qm sm tm, cell5_ k qm sm, cell13_ k qm sm, cell8_ k qm sm, cell6_ k qm sm, cell15_ k qm sm, cell14_ k qm tm, cell12_ k qm tm, cell18_ k qm tm, cell17_ k qm tm, cell19_ k qm tm, cell21_ k qm tm, cell20_ k qm sm, cell16_ k qm sm, cell11_ k qm sm, cell10_ k qm sm, cell9_ k qm sm, cell7_ k qm sm] H := by rw [eH]; exact hP
  have hD : va_D A [cell22_ qm sm tm, cell5_ k qm sm, cell13_ k qm sm, cell8_ k qm sm, cell6_ k qm sm, cell15_ k qm sm, cell14_ k qm tm, cell12_ k qm tm, cell18_ k qm tm, cell17_ k qm tm, cell19_ k qm tm, cell21_ k qm tm, cell20_ k qm sm, cell16_ k qm sm, cell11_ k qm sm, cell10_ k qm sm, cell9_ k qm sm, cell7_ k qm sm] := hD
  have hS : va_S A s.heap H locs := by rw [eH, el]; exact hS
  suffices goal : W p l e ({ frames := 0, cells := 0, slots := 0, locals := 0 } : Room) s m ([.ref (qm 0)] : List Value).toArray below meth c H locs 0 0 Q (F0 m 0 ls []) by rw [eH, el] at goal; exact goal
  refine lv_aload_n hx hb dX12_fail_0 rfl (lv_at hl 0 rfl) ?_
  refine lv_aload_n hx hb dX12_fail_1 rfl (lv_at hl 0 rfl) ?_
  refine g_get cx hP iw_X12_fail_X12 0 rfl rfl 5 (by decide) rfl fw_X12_fail_108 rfl dX12_fail_2 ?_
  refine lv_bipush (v := (-9)) hx hb dX12_fail_5 (by decide) ?_
  refine lv_icmp_ne (tgt := 17) hx hb dX12_fail_7 (by decide) (fun c1 => ?_) (fun c1 => ?_)
  · have f1 : ¬ (sm 0 5).toInt = (-9) := f_ne rfl (by decide) c1
    refine lv_aload_n hx hb dX12_fail_17 rfl (lv_at hl 0 rfl) ?_
    refine g_get cx hP iw_X12_fail_X12 0 rfl rfl 5 (by decide) rfl fw_X12_fail_108 rfl dX12_fail_18 ?_
    refine g_pt cx hP hD hS iw_X12_fail_X12 tyX12 tyX12_ok nmX12 0 rfl rfl 5 (by decide) rfl fw_X12_fail_108 (ty := .int) rfl rfl rfl (Nat.le_of_ble_eq_true rfl) dX12_fail_21 (fun H locs hP hD hS => ?_)
    have hP : va_P D vwCl [cell22_ qm sm tm, cell5_ k qm sm, cell13_ k qm sm, cell8_ k qm sm, cell6_ k qm sm, cell15_ k qm sm, cell14_ k qm tm, cell12_ k qm tm, cell18_ k qm tm, cell17_ k qm tm, cell19_ k qm tm, cell21_ k qm tm, cell20_ k qm sm, cell16_ k qm sm, cell11_ k qm sm, cell10_ k qm sm, cell9_ k qm sm, cell7_ k qm sm] H := hP
    have hD : va_D A [cell22_ qm sm tm, cell5_ k qm sm, cell13_ k qm sm, cell8_ k qm sm, cell6_ k qm sm, cell15_ k qm sm, cell14_ k qm tm, cell12_ k qm tm, cell18_ k qm tm, cell17_ k qm tm, cell19_ k qm tm, cell21_ k qm tm, cell20_ k qm sm, cell16_ k qm sm, cell11_ k qm sm, cell10_ k qm sm, cell9_ k qm sm, cell7_ k qm sm] := hD
    rw [hQ]
    exact x_v cx hr (sm 0 5) hP hD hS ⟨(show ¬ (sm 0 5).toInt = -9 from by omega), (show (sm 0 5) = J_X12_fail sm tm from by first | (refine Eq.symm ?_; refine Eq.trans (if_neg c1) ?_; rfl) | (unfold J_X12_fail; try dsimp only; rw [if_neg c1]))⟩ dX12_fail_24
  · have f1 : (sm 0 5).toInt = (-9) := f_eq rfl (by decide) c1
    refine lv_aload_n hx hb dX12_fail_10 rfl (lv_at hl 0 rfl) ?_
    refine g_get cx hP iw_X12_fail_X12 0 rfl rfl 4 (by decide) rfl fw_X12_fail_111 rfl dX12_fail_11 ?_
    refine lv_goto (tgt := 21) hx hb dX12_fail_14 (by decide) ?_
    refine g_pt cx hP hD hS iw_X12_fail_X12 tyX12 tyX12_ok nmX12 0 rfl rfl 5 (by decide) rfl fw_X12_fail_108 (ty := .int) rfl rfl rfl (Nat.le_of_ble_eq_true rfl) dX12_fail_21 (fun H locs hP hD hS => ?_)
    have hP : va_P D vwCl [(qm 0, .inr (10, [.ref (qm 1), .ref (qm 2), .ref (qm 3), .int (sm 0 3), .int (sm 0 4), .int (sm 0 4), .int (sm 0 6), .int (sm 0 7), .int (sm 0 8), .int (sm 0 9), .int (sm 0 10), .ref (qm 4), .ref (qm 5), .int (sm 0 13), .ref (qm 6), .ref (qm 7), .ref (qm 8), .ref (qm 9), .ref (qm 10), .ref (qm 11), .ref (qm 12), .ref (qm 13), .int (sm 0 22), .int (sm 0 23), .ref (qm 14), .ref (qm 15), .int (sm 0 26), .ref (qm 16), .ref (qm 17), .long (tm 0 29), .long (tm 0 30), .long (tm 0 31), .int (sm 0 32)])), cell5_ k qm sm, cell13_ k qm sm, cell8_ k qm sm, cell6_ k qm sm, cell15_ k qm sm, cell14_ k qm tm, cell12_ k qm tm, cell18_ k qm tm, cell17_ k qm tm, cell19_ k qm tm, cell21_ k qm tm, cell20_ k qm sm, cell16_ k qm sm, cell11_ k qm sm, cell10_ k qm sm, cell9_ k qm sm, cell7_ k qm sm] H := hP
    have hD : va_D A [(qm 0, .inr (10, [.ref (qm 1), .ref (qm 2), .ref (qm 3), .int (sm 0 3), .int (sm 0 4), .int (sm 0 4), .int (sm 0 6), .int (sm 0 7), .int (sm 0 8), .int (sm 0 9), .int (sm 0 10), .ref (qm 4), .ref (qm 5), .int (sm 0 13), .ref (qm 6), .ref (qm 7), .ref (qm 8), .ref (qm 9), .ref (qm 10), .ref (qm 11), .ref (qm 12), .ref (qm 13), .int (sm 0 22), .int (sm 0 23), .ref (qm 14), .ref (qm 15), .int (sm 0 26), .ref (qm 16), .ref (qm 17), .long (tm 0 29), .long (tm 0 30), .long (tm 0 31), .int (sm 0 32)])), cell5_ k qm sm, cell13_ k qm sm, cell8_ k qm sm, cell6_ k qm sm, cell15_ k qm sm, cell14_ k qm tm, cell12_ k qm tm, cell18_ k qm tm, cell17_ k qm tm, cell19_ k qm tm, cell21_ k qm tm, cell20_ k qm sm, cell16_ k qm sm, cell11_ k qm sm, cell10_ k qm sm, cell9_ k qm sm, cell7_ k qm sm] := hD
    rw [hQ]
    exact x_v cx hr (sm 0 4) hP hD hS ⟨(show ¬ (sm 0 4).toInt = -9 from by omega), (show (sm 0 4) = J_X12_fail sm tm from by first | (refine Eq.symm ?_; refine Eq.trans (if_pos c1) ?_; rfl) | (unfold J_X12_fail; try dsimp only; rw [if_pos c1]))⟩ dX12_fail_24
theorem fw_X12_figure_103 : Cond.fieldLink RX12 103 "StillInAugustModel" "length" "I" ∈ wsX12_figure := by decide +kernel
theorem fw_X12_figure_108 : Cond.fieldLink RX12 108 "StillInAugustModel" "faultAt" "I" ∈ wsX12_figure := by decide +kernel
theorem fw_X12_figure_111 : Cond.fieldLink RX12 111 "StillInAugustModel" "at" "I" ∈ wsX12_figure := by decide +kernel
theorem fw_X12_figure_16 : Cond.fieldLink RX12 16 "StillInAugustModel" "text" "[I" ∈ wsX12_figure := by decide +kernel
theorem kJ_X12_figure_114 : Cond.constantLong RX12 114 (9) ∈ wsX12_figure := by decide +kernel
theorem nd_X12_fail : yX12_fail.cls = RX12 ∧ yX12_fail.cls ≠ "java/lang/invoke/MethodHandle" ∧ yX12_fail.cls ≠ "java/lang/invoke/VarHandle" ∧ (parseMethodDescriptor yX12_fail.desc).map (fun d => d.parameters.length) = some 0 := by decide +kernel
theorem iw_X12_figure_X12 : ∀ w ∈ u_ws RX12 TX12 33, w ∈ wsX12_figure := fun _ h => List.mem_cons_of_mem _ (List.mem_append_right _ h)
def J_X12_figure (sm : Nat → Nat → Int32) (tm : Nat → Nat → Int64) (p0 : Int32) : Int32 × Int32 × Int32 := if (sm 0 5) = (-9) then if (sm 0 3) ≤ (sm 0 4) then if (J_X12_in (((-1) : Int32).toInt64) 0 9) = 0 then let y39 := J_X12_fail sm tm; ((0 : Int32), (sm 0 4), y39) else if ((p0 >>> (((-1) : Int32) &&& 31)) &&& (1 : Int32)) = 0 then let y52 := J_X12_fail sm tm; ((0 : Int32), (sm 0 4), y52) else (((-1) : Int32), ((sm 0 4) + (1 : Int32)), (sm 0 5)) else if (J_X12_in (((((sm 3) ((sm 0 4)).toNatClampNeg) - (48 : Int32)).toInt64)) 0 9) = 0 then let y68 := J_X12_fail sm tm; ((0 : Int32), (sm 0 4), y68) else if ((p0 >>> ((((sm 3) ((sm 0 4)).toNatClampNeg) - (48 : Int32)) &&& 31)) &&& (1 : Int32)) = 0 then let y80 := J_X12_fail sm tm; ((0 : Int32), (sm 0 4), y80) else ((((sm 3) ((sm 0 4)).toNatClampNeg) - (48 : Int32)), ((sm 0 4) + (1 : Int32)), (sm 0 5)) else if (J_X12_in (((-1) : Int32).toInt64) 0 9) = 0 then let y12 := J_X12_fail sm tm; ((0 : Int32), (sm 0 4), y12) else if ((p0 >>> (((-1) : Int32) &&& 31)) &&& (1 : Int32)) = 0 then let y25 := J_X12_fail sm tm; ((0 : Int32), (sm 0 4), y25) else (((-1) : Int32), ((sm 0 4) + (1 : Int32)), (sm 0 5))
set_option maxHeartbeats 4000000 in
set_option maxRecDepth 100000 in
theorem c_X12_figure (l : Launch) (D : va_G) (k : Nat → ClassId) (b : Nat → Nat) (qm : Nat → Nat) (sm : Nat → Nat → Int32) (tm : Nat → Nat → Int64) (sz : Nat) (p0 : Int32) (h_len : 0 ≤ (sm 0 3).toInt ∧ (sm 0 3).toInt ≤ 64) (h_at : 0 ≤ (sm 0 4).toInt ∧ (sm 0 4).toInt ≤ 64) : MetI l D k b yX12_figure wsX12_figure ({ frames := 1, cells := 0, slots := 0, locals := 25 } : Room) [cell22_ qm sm tm, cell5_ k qm sm, cell13_ k qm sm, cell8_ k qm sm, cell6_ k qm sm, cell15_ k qm sm, cell14_ k qm tm, cell12_ k qm tm, cell18_ k qm tm, cell17_ k qm tm, cell19_ k qm tm, cell21_ k qm tm, cell20_ k qm sm, cell16_ k qm sm, cell11_ k qm sm, cell10_ k qm sm, cell9_ k qm sm, cell7_ k qm sm] sz [.ref (qm 0), .int p0] (fun (r : Int32) (u : Int32 × Int32) => (0 ≤ r.toInt ∧ r.toInt ≤ 9) ∧ ((sm 0 4).toInt ≤ (u.1).toInt ∧ (u.1).toInt ≤ 64) ∧ ((sm 0 4).toInt + 1 ≤ (u.1).toInt ∨ ¬ (u.2).toInt = -9) ∧ (Imp (0 ≤ p0.toInt ∧ p0.toInt ≤ 63) (r.toInt ≤ 5)) ∧ (Imp (0 ≤ p0.toInt ∧ p0.toInt ≤ 31) (r.toInt ≤ 4)) ∧ (Imp (0 ≤ p0.toInt ∧ p0.toInt ≤ 7) (r.toInt ≤ 2)) ∧ ((r, (u.1), (u.2)) = J_X12_figure sm tm p0)) (fun u => [cell95_ qm sm tm (u.1) (u.2), cell5_ k qm sm, cell13_ k qm sm, cell8_ k qm sm, cell6_ k qm sm, cell15_ k qm sm, cell14_ k qm tm, cell12_ k qm tm, cell18_ k qm tm, cell17_ k qm tm, cell19_ k qm tm, cell21_ k qm tm, cell20_ k qm sm, cell16_ k qm sm, cell11_ k qm sm, cell10_ k qm sm, cell9_ k qm sm, cell7_ k qm sm]) := by
  refine g_enter (cc := cX12_figure) (maxL := 3) (ret := (some .int)) (by decide) rfl (Nat.le_of_ble_eq_true rfl) ?_
  intro p e s m below meth c A hsz hAe cx hr hP hD hS ls hl
  rw [hAe]
  refine g_q (fun Q hQ => ?_)
  have hx := cx.1.1
  have hb := cx.1.2.1
  have bp0 := i_rng p0
  have hl : lv_has ls 3 [(0, .ref (qm 0)), (1, .int p0)] := hl
  obtain ⟨H, eH⟩ : ∃ H : Heap, H = s.heap := ⟨_, rfl⟩
  obtain ⟨locs, el⟩ : ∃ L : List Loc, L = [] := ⟨_, rfl⟩
  have hP : va_P D vwCl [cell22_ qm sm tm, cell5_ k qm sm, cell13_ k qm sm, cell8_ k qm sm, cell6_ k qm sm, cell15_ k qm sm, cell14_ k qm tm, cell12_ k qm tm, cell18_ k qm tm, cell17_ k qm tm, cell19_ k qm tm, cell21_ k qm tm, cell20_ k qm sm, cell16_ k qm sm, cell11_ k qm sm, cell10_ k qm sm, cell9_ k qm sm, cell7_ k qm sm] H := by rw [eH]; exact hP
  have hD : va_D A [cell22_ qm sm tm, cell5_ k qm sm, cell13_ k qm sm, cell8_ k qm sm, cell6_ k qm sm, cell15_ k qm sm, cell14_ k qm tm, cell12_ k qm tm, cell18_ k qm tm, cell17_ k qm tm, cell19_ k qm tm, cell21_ k qm tm, cell20_ k qm sm, cell16_ k qm sm, cell11_ k qm sm, cell10_ k qm sm, cell9_ k qm sm, cell7_ k qm sm] := hD
  have hS : va_S A s.heap H locs := by rw [eH, el]; exact hS
  suffices goal : W p l e ({ frames := 1, cells := 0, slots := 0, locals := 25 } : Room) s m ([.ref (qm 0), .int p0] : List Value).toArray below meth c H locs 0 0 Q (F0 m 0 ls []) by rw [eH, el] at goal; exact goal
  refine lv_aload_n hx hb dX12_figure_0 rfl (lv_at hl 0 rfl) ?_
  refine g_get cx hP iw_X12_figure_X12 0 rfl rfl 5 (by decide) rfl fw_X12_figure_108 rfl dX12_figure_1 ?_
  refine lv_bipush (v := (-9)) hx hb dX12_figure_4 (by decide) ?_
  refine lv_icmp_ne (tgt := 35) hx hb dX12_figure_6 (by decide) (fun c1 => ?_) (fun c1 => ?_)
  · have f1 : ¬ (sm 0 5).toInt = (-9) := f_ne rfl (by decide) c1
    refine lv_iconst (v := (-1)) hx hb dX12_figure_35 (by decide) ?_
    refine lv_istore_n (lv' := [(2, .int (-1)), (0, .ref (qm 0)), (1, .int p0)]) hx hb dX12_figure_36 rfl hl (by decide) rfl (fun ls hl => ?_)
    refine lv_iload_n hx hb dX12_figure_37 rfl (lv_at hl 0 rfl) ?_
    obtain ⟨v2, e2⟩ : ∃ z : Int64, z = ((-1) : Int32).toInt64 := ⟨_, rfl⟩
    refine lv_i2l (v := v2) hx hb dX12_figure_38 e2.symm ?_
    refine lv_lconst (v := 0) hx hb dX12_figure_39 (by decide) ?_
    refine lv_ldc2 (v := 9) hx hb cx.1.2.2.2.1 (cx.1.2.2.2.2 _ kJ_X12_figure_114) dX12_figure_40 ?_
    refine g_ir (g_runS (wc := []) (rest := []) cx hP hD hS [] rfl (by decide) [.long v2, .long 0, .long 9] (c_X12_in l D k b H.size v2 0 9) gX12_figure_X12_in rfl rfl rfl nd_X12_in ⟨Nat.le_of_ble_eq_true rfl, Nat.le_of_ble_eq_true rfl⟩ rfl hl.1 rfl (Nat.le_of_ble_eq_true rfl) ⟨Nat.zero_le _, Nat.zero_le _⟩ dX12_figure_43) cx.2.2.1 hP hD hS [] rfl rfl (fun r4 H locs hw3 hP hS => ?_)
    have w5 : r4 = J_X12_in v2 (0 : Int64) (9 : Int64) := hw3
    clear hw3
    have zr4 := in_b w5
    refine lv_if_eq (tgt := 57) hx hb dX12_figure_46 (by decide) (fun c6 => ?_) (fun c6 => ?_)
    · have f6 : r4.toInt = 0 := f_eq rfl (by decide) c6
      have k6 : (-1) < 0 ∨ 9 < (-1) := in_f (i2l_t (by decide) e2) (by decide) (by decide) w5 c6
      refine lv_aload_n hx hb dX12_figure_57 rfl (lv_at hl 1 rfl) ?_
      refine g_vF (w1 := fun (u : Int32) => [cell81_ qm sm tm u, cell5_ k qm sm, cell13_ k qm sm, cell8_ k qm sm, cell6_ k qm sm, cell15_ k qm sm, cell14_ k qm tm, cell12_ k qm tm, cell18_ k qm tm, cell17_ k qm tm, cell19_ k qm tm, cell21_ k qm tm, cell20_ k qm sm, cell16_ k qm sm, cell11_ k qm sm, cell10_ k qm sm, cell9_ k qm sm, cell7_ k qm sm]) (g_runVF (ws := [cell22_ qm sm tm, cell5_ k qm sm, cell13_ k qm sm, cell8_ k qm sm, cell6_ k qm sm, cell15_ k qm sm, cell14_ k qm tm, cell12_ k qm tm, cell18_ k qm tm, cell17_ k qm tm, cell19_ k qm tm, cell21_ k qm tm, cell20_ k qm sm, cell16_ k qm sm, cell11_ k qm sm, cell10_ k qm sm, cell9_ k qm sm, cell7_ k qm sm]) (rest := []) cx hP hD hS [] (c_X12_fail l D k b qm sm tm H.size (show 0 ≤ (sm 0 4).toInt ∧ (sm 0 4).toInt ≤ 64 from by first | decide | omega)) gX12_figure_X12_fail rfl rfl rfl nd_X12_fail ⟨Nat.le_of_ble_eq_true rfl, Nat.le_of_ble_eq_true rfl⟩ (ci := 10) (q0 := 0) rfl rfl rfl hl.1 rfl (Nat.le_of_ble_eq_true rfl) ⟨Nat.zero_le _, Nat.zero_le _⟩ dX12_figure_58) cx.2.2.1 hD hS (fun u8 H locs hw7 hP hD hS => ?_)
      obtain ⟨m9, rfl⟩ : ∃ z, z = u8 := ⟨_, rfl⟩
      have hP : va_P D vwCl [cell81_ qm sm tm m9, cell5_ k qm sm, cell13_ k qm sm, cell8_ k qm sm, cell6_ k qm sm, cell15_ k qm sm, cell14_ k qm tm, cell12_ k qm tm, cell18_ k qm tm, cell17_ k qm tm, cell19_ k qm tm, cell21_ k qm tm, cell20_ k qm sm, cell16_ k qm sm, cell11_ k qm sm, cell10_ k qm sm, cell9_ k qm sm, cell7_ k qm sm] H := hP
      have hD : va_D A [cell81_ qm sm tm m9, cell5_ k qm sm, cell13_ k qm sm, cell8_ k qm sm, cell6_ k qm sm, cell15_ k qm sm, cell14_ k qm tm, cell12_ k qm tm, cell18_ k qm tm, cell17_ k qm tm, cell19_ k qm tm, cell21_ k qm tm, cell20_ k qm sm, cell16_ k qm sm, cell11_ k qm sm, cell10_ k qm sm, cell9_ k qm sm, cell7_ k qm sm] := hD
      replace hw7 : (¬ m9.toInt = -9) ∧ (m9 = J_X12_fail sm tm) := hw7
      obtain ⟨w10, w11⟩ := hw7
      have k13 : m9 = (J_X12_fail sm tm) := congrArg (fun z => z) w11
      refine lv_iconst (v := 0) hx hb dX12_figure_61 (by decide) ?_
      have hlit14 : (0 : Int32).toInt = 0 := by decide
      rw [hQ]
      exact x_i cx hr ((sm 0 4), m9) hP hD hS ⟨(show 0 ≤ (0 : Int32).toInt ∧ (0 : Int32).toInt ≤ 9 from by decide), (show (sm 0 4).toInt ≤ (sm 0 4).toInt ∧ (sm 0 4).toInt ≤ 64 from by omega), (show (sm 0 4).toInt + 1 ≤ (sm 0 4).toInt ∨ ¬ m9.toInt = -9 from by omega), (show Imp (0 ≤ p0.toInt ∧ p0.toInt ≤ 63) ((0 : Int32).toInt ≤ 5) from fun _ => by decide), (show Imp (0 ≤ p0.toInt ∧ p0.toInt ≤ 31) ((0 : Int32).toInt ≤ 4) from fun _ => by decide), (show Imp (0 ≤ p0.toInt ∧ p0.toInt ≤ 7) ((0 : Int32).toInt ≤ 2) from fun _ => by decide), (show ((0 : Int32), (sm 0 4), m9) = J_X12_figure sm tm p0 from by subst e2 w5 k13; first | (refine Eq.symm ?_; refine Eq.trans (if_neg c1) ?_; refine Eq.trans (if_pos c6) ?_; rfl) | (unfold J_X12_figure; try dsimp only; rw [if_neg c1, if_pos c6]))⟩ dX12_figure_62
    · have f6 : ¬ r4.toInt = 0 := f_ne rfl (by decide) c6
      have k6 : 0 ≤ (-1) ∧ (-1) ≤ 9 := in_t (i2l_t (by decide) e2) (by decide) (by decide) w5 c6
      refine lv_iload_n hx hb dX12_figure_49 rfl (lv_at hl 2 rfl) ?_
      refine lv_iload_n hx hb dX12_figure_50 rfl (lv_at hl 0 rfl) ?_
      refine lv_ishr hx hb dX12_figure_51 (lv_topi (fun v15 e15 => ?_))
      refine lv_iconst (v := 1) hx hb dX12_figure_52 (by decide) ?_
      refine lv_iand hx hb dX12_figure_53 (lv_topi (fun v16 e16 => ?_))
      have t16 : 0 ≤ v16.toInt ∧ v16.toInt ≤ 1 := by rw [e16]; exact and_r (by decide) (by omega)
      refine lv_if_ne (tgt := 63) hx hb dX12_figure_54 (by decide) (fun c17 => ?_) (fun c17 => ?_)
      · have f17 : ¬ v16.toInt = 0 := f_ne rfl (by decide) c17
        have bt := bitn e15 e16 c17 ⟨by omega, by omega⟩
        refine lv_aload_n hx hb dX12_figure_63 rfl (lv_at hl 1 rfl) ?_
        refine lv_dup hx hb dX12_figure_64 rfl ?_
        refine g_get cx hP iw_X12_figure_X12 0 rfl rfl 4 (by decide) rfl fw_X12_figure_111 rfl dX12_figure_65 ?_
        refine lv_iconst (v := 1) hx hb dX12_figure_68 (by decide) ?_
        refine lv_iadd hx hb dX12_figure_69 (lv_topi (fun v18 e18 => ?_))
        have t18 : v18.toInt = (sm 0 4).toInt + 1 := by rw [e18]; exact i_add rfl (by decide) (by omega) (by omega)
        refine g_pt cx hP hD hS iw_X12_figure_X12 tyX12 tyX12_ok nmX12 0 rfl rfl 4 (by decide) rfl fw_X12_figure_111 (ty := .int) rfl rfl rfl (Nat.le_of_ble_eq_true rfl) dX12_figure_70 (fun H locs hP hD hS => ?_)
        have hP : va_P D vwCl [cell88_ qm sm tm v18, cell5_ k qm sm, cell13_ k qm sm, cell8_ k qm sm, cell6_ k qm sm, cell15_ k qm sm, cell14_ k qm tm, cell12_ k qm tm, cell18_ k qm tm, cell17_ k qm tm, cell19_ k qm tm, cell21_ k qm tm, cell20_ k qm sm, cell16_ k qm sm, cell11_ k qm sm, cell10_ k qm sm, cell9_ k qm sm, cell7_ k qm sm] H := hP
        have hD : va_D A [cell88_ qm sm tm v18, cell5_ k qm sm, cell13_ k qm sm, cell8_ k qm sm, cell6_ k qm sm, cell15_ k qm sm, cell14_ k qm tm, cell12_ k qm tm, cell18_ k qm tm, cell17_ k qm tm, cell19_ k qm tm, cell21_ k qm tm, cell20_ k qm sm, cell16_ k qm sm, cell11_ k qm sm, cell10_ k qm sm, cell9_ k qm sm, cell7_ k qm sm] := hD
        refine lv_iload_n hx hb dX12_figure_73 rfl (lv_at hl 0 rfl) ?_
        have hlit19 : ((-1) : Int32).toInt = -1 := by decide
        rw [hQ]
        exact x_i cx hr (v18, (sm 0 5)) hP hD hS ⟨(show 0 ≤ ((-1) : Int32).toInt ∧ ((-1) : Int32).toInt ≤ 9 from by omega), (show (sm 0 4).toInt ≤ v18.toInt ∧ v18.toInt ≤ 64 from by omega), (show (sm 0 4).toInt + 1 ≤ v18.toInt ∨ ¬ (sm 0 5).toInt = -9 from by omega), (show Imp (0 ≤ p0.toInt ∧ p0.toInt ≤ 63) (((-1) : Int32).toInt ≤ 5) from fun h => bt.1 h), (show Imp (0 ≤ p0.toInt ∧ p0.toInt ≤ 31) (((-1) : Int32).toInt ≤ 4) from fun h => bt.2.1 h), (show Imp (0 ≤ p0.toInt ∧ p0.toInt ≤ 7) (((-1) : Int32).toInt ≤ 2) from fun h => bt.2.2 h), (show (((-1) : Int32), v18, (sm 0 5)) = J_X12_figure sm tm p0 from by subst e2 w5 e15 e16 e18; first | (refine Eq.symm ?_; refine Eq.trans (if_neg c1) ?_; refine Eq.trans (if_neg c6) ?_; refine Eq.trans (if_neg c17) ?_; rfl) | (unfold J_X12_figure; try dsimp only; rw [if_neg c1, if_neg c6, if_neg c17]))⟩ dX12_figure_74
      · have f17 : v16.toInt = 0 := f_eq rfl (by decide) c17
        refine lv_aload_n hx hb dX12_figure_57 rfl (lv_at hl 1 rfl) ?_
        refine g_vF (w1 := fun (u : Int32) => [cell81_ qm sm tm u, cell5_ k qm sm, cell13_ k qm sm, cell8_ k qm sm, cell6_ k qm sm, cell15_ k qm sm, cell14_ k qm tm, cell12_ k qm tm, cell18_ k qm tm, cell17_ k qm tm, cell19_ k qm tm, cell21_ k qm tm, cell20_ k qm sm, cell16_ k qm sm, cell11_ k qm sm, cell10_ k qm sm, cell9_ k qm sm, cell7_ k qm sm]) (g_runVF (ws := [cell22_ qm sm tm, cell5_ k qm sm, cell13_ k qm sm, cell8_ k qm sm, cell6_ k qm sm, cell15_ k qm sm, cell14_ k qm tm, cell12_ k qm tm, cell18_ k qm tm, cell17_ k qm tm, cell19_ k qm tm, cell21_ k qm tm, cell20_ k qm sm, cell16_ k qm sm, cell11_ k qm sm, cell10_ k qm sm, cell9_ k qm sm, cell7_ k qm sm]) (rest := []) cx hP hD hS [] (c_X12_fail l D k b qm sm tm H.size (show 0 ≤ (sm 0 4).toInt ∧ (sm 0 4).toInt ≤ 64 from by first | decide | omega)) gX12_figure_X12_fail rfl rfl rfl nd_X12_fail ⟨Nat.le_of_ble_eq_true rfl, Nat.le_of_ble_eq_true rfl⟩ (ci := 10) (q0 := 0) rfl rfl rfl hl.1 rfl (Nat.le_of_ble_eq_true rfl) ⟨Nat.zero_le _, Nat.zero_le _⟩ dX12_figure_58) cx.2.2.1 hD hS (fun u21 H locs hw20 hP hD hS => ?_)
        obtain ⟨m22, rfl⟩ : ∃ z, z = u21 := ⟨_, rfl⟩
        have hP : va_P D vwCl [cell81_ qm sm tm m22, cell5_ k qm sm, cell13_ k qm sm, cell8_ k qm sm, cell6_ k qm sm, cell15_ k qm sm, cell14_ k qm tm, cell12_ k qm tm, cell18_ k qm tm, cell17_ k qm tm, cell19_ k qm tm, cell21_ k qm tm, cell20_ k qm sm, cell16_ k qm sm, cell11_ k qm sm, cell10_ k qm sm, cell9_ k qm sm, cell7_ k qm sm] H := hP
        have hD : va_D A [cell81_ qm sm tm m22, cell5_ k qm sm, cell13_ k qm sm, cell8_ k qm sm, cell6_ k qm sm, cell15_ k qm sm, cell14_ k qm tm, cell12_ k qm tm, cell18_ k qm tm, cell17_ k qm tm, cell19_ k qm tm, cell21_ k qm tm, cell20_ k qm sm, cell16_ k qm sm, cell11_ k qm sm, cell10_ k qm sm, cell9_ k qm sm, cell7_ k qm sm] := hD
        replace hw20 : (¬ m22.toInt = -9) ∧ (m22 = J_X12_fail sm tm) := hw20
        obtain ⟨w23, w24⟩ := hw20
        have k26 : m22 = (J_X12_fail sm tm) := congrArg (fun z => z) w24
        refine lv_iconst (v := 0) hx hb dX12_figure_61 (by decide) ?_
        have hlit27 : (0 : Int32).toInt = 0 := by decide
        rw [hQ]
        exact x_i cx hr ((sm 0 4), m22) hP hD hS ⟨(show 0 ≤ (0 : Int32).toInt ∧ (0 : Int32).toInt ≤ 9 from by decide), (show (sm 0 4).toInt ≤ (sm 0 4).toInt ∧ (sm 0 4).toInt ≤ 64 from by omega), (show (sm 0 4).toInt + 1 ≤ (sm 0 4).toInt ∨ ¬ m22.toInt = -9 from by omega), (show Imp (0 ≤ p0.toInt ∧ p0.toInt ≤ 63) ((0 : Int32).toInt ≤ 5) from fun _ => by decide), (show Imp (0 ≤ p0.toInt ∧ p0.toInt ≤ 31) ((0 : Int32).toInt ≤ 4) from fun _ => by decide), (show Imp (0 ≤ p0.toInt ∧ p0.toInt ≤ 7) ((0 : Int32).toInt ≤ 2) from fun _ => by decide), (show ((0 : Int32), (sm 0 4), m22) = J_X12_figure sm tm p0 from by subst e2 w5 e15 e16 k26; first | (refine Eq.symm ?_; refine Eq.trans (if_neg c1) ?_; refine Eq.trans (if_neg c6) ?_; refine Eq.trans (if_pos c17) ?_; rfl) | (unfold J_X12_figure; try dsimp only; rw [if_neg c1, if_neg c6, if_pos c17]))⟩ dX12_figure_62
  · have f1 : (sm 0 5).toInt = (-9) := f_eq rfl (by decide) c1
    refine lv_aload_n hx hb dX12_figure_9 rfl (lv_at hl 0 rfl) ?_
    refine g_get cx hP iw_X12_figure_X12 0 rfl rfl 4 (by decide) rfl fw_X12_figure_111 rfl dX12_figure_10 ?_
    refine lv_aload_n hx hb dX12_figure_13 rfl (lv_at hl 0 rfl) ?_
    refine g_get cx hP iw_X12_figure_X12 0 rfl rfl 3 (by decide) rfl fw_X12_figure_103 rfl dX12_figure_14 ?_
    refine lv_icmp_ge (tgt := 35) hx hb dX12_figure_17 (by decide) (fun c28 => ?_) (fun c28 => ?_)
    · have f28 : (sm 0 3).toInt ≤ (sm 0 4).toInt := f_le rfl rfl c28
      refine lv_iconst (v := (-1)) hx hb dX12_figure_35 (by decide) ?_
      refine lv_istore_n (lv' := [(2, .int (-1)), (0, .ref (qm 0)), (1, .int p0)]) hx hb dX12_figure_36 rfl hl (by decide) rfl (fun ls hl => ?_)
      refine lv_iload_n hx hb dX12_figure_37 rfl (lv_at hl 0 rfl) ?_
      obtain ⟨v29, e29⟩ : ∃ z : Int64, z = ((-1) : Int32).toInt64 := ⟨_, rfl⟩
      refine lv_i2l (v := v29) hx hb dX12_figure_38 e29.symm ?_
      refine lv_lconst (v := 0) hx hb dX12_figure_39 (by decide) ?_
      refine lv_ldc2 (v := 9) hx hb cx.1.2.2.2.1 (cx.1.2.2.2.2 _ kJ_X12_figure_114) dX12_figure_40 ?_
      refine g_ir (g_runS (wc := []) (rest := []) cx hP hD hS [] rfl (by decide) [.long v29, .long 0, .long 9] (c_X12_in l D k b H.size v29 0 9) gX12_figure_X12_in rfl rfl rfl nd_X12_in ⟨Nat.le_of_ble_eq_true rfl, Nat.le_of_ble_eq_true rfl⟩ rfl hl.1 rfl (Nat.le_of_ble_eq_true rfl) ⟨Nat.zero_le _, Nat.zero_le _⟩ dX12_figure_43) cx.2.2.1 hP hD hS [] rfl rfl (fun r31 H locs hw30 hP hS => ?_)
      have w32 : r31 = J_X12_in v29 (0 : Int64) (9 : Int64) := hw30
      clear hw30
      have zr31 := in_b w32
      refine lv_if_eq (tgt := 57) hx hb dX12_figure_46 (by decide) (fun c33 => ?_) (fun c33 => ?_)
      · have f33 : r31.toInt = 0 := f_eq rfl (by decide) c33
        have k33 : (-1) < 0 ∨ 9 < (-1) := in_f (i2l_t (by decide) e29) (by decide) (by decide) w32 c33
        refine lv_aload_n hx hb dX12_figure_57 rfl (lv_at hl 1 rfl) ?_
        refine g_vF (w1 := fun (u : Int32) => [cell81_ qm sm tm u, cell5_ k qm sm, cell13_ k qm sm, cell8_ k qm sm, cell6_ k qm sm, cell15_ k qm sm, cell14_ k qm tm, cell12_ k qm tm, cell18_ k qm tm, cell17_ k qm tm, cell19_ k qm tm, cell21_ k qm tm, cell20_ k qm sm, cell16_ k qm sm, cell11_ k qm sm, cell10_ k qm sm, cell9_ k qm sm, cell7_ k qm sm]) (g_runVF (ws := [cell22_ qm sm tm, cell5_ k qm sm, cell13_ k qm sm, cell8_ k qm sm, cell6_ k qm sm, cell15_ k qm sm, cell14_ k qm tm, cell12_ k qm tm, cell18_ k qm tm, cell17_ k qm tm, cell19_ k qm tm, cell21_ k qm tm, cell20_ k qm sm, cell16_ k qm sm, cell11_ k qm sm, cell10_ k qm sm, cell9_ k qm sm, cell7_ k qm sm]) (rest := []) cx hP hD hS [] (c_X12_fail l D k b qm sm tm H.size (show 0 ≤ (sm 0 4).toInt ∧ (sm 0 4).toInt ≤ 64 from by first | decide | omega)) gX12_figure_X12_fail rfl rfl rfl nd_X12_fail ⟨Nat.le_of_ble_eq_true rfl, Nat.le_of_ble_eq_true rfl⟩ (ci := 10) (q0 := 0) rfl rfl rfl hl.1 rfl (Nat.le_of_ble_eq_true rfl) ⟨Nat.zero_le _, Nat.zero_le _⟩ dX12_figure_58) cx.2.2.1 hD hS (fun u35 H locs hw34 hP hD hS => ?_)
        obtain ⟨m36, rfl⟩ : ∃ z, z = u35 := ⟨_, rfl⟩
        have hP : va_P D vwCl [cell81_ qm sm tm m36, cell5_ k qm sm, cell13_ k qm sm, cell8_ k qm sm, cell6_ k qm sm, cell15_ k qm sm, cell14_ k qm tm, cell12_ k qm tm, cell18_ k qm tm, cell17_ k qm tm, cell19_ k qm tm, cell21_ k qm tm, cell20_ k qm sm, cell16_ k qm sm, cell11_ k qm sm, cell10_ k qm sm, cell9_ k qm sm, cell7_ k qm sm] H := hP
        have hD : va_D A [cell81_ qm sm tm m36, cell5_ k qm sm, cell13_ k qm sm, cell8_ k qm sm, cell6_ k qm sm, cell15_ k qm sm, cell14_ k qm tm, cell12_ k qm tm, cell18_ k qm tm, cell17_ k qm tm, cell19_ k qm tm, cell21_ k qm tm, cell20_ k qm sm, cell16_ k qm sm, cell11_ k qm sm, cell10_ k qm sm, cell9_ k qm sm, cell7_ k qm sm] := hD
        replace hw34 : (¬ m36.toInt = -9) ∧ (m36 = J_X12_fail sm tm) := hw34
        obtain ⟨w37, w38⟩ := hw34
        have k40 : m36 = (J_X12_fail sm tm) := congrArg (fun z => z) w38
        refine lv_iconst (v := 0) hx hb dX12_figure_61 (by decide) ?_
        have hlit41 : (0 : Int32).toInt = 0 := by decide
        rw [hQ]
        exact x_i cx hr ((sm 0 4), m36) hP hD hS ⟨(show 0 ≤ (0 : Int32).toInt ∧ (0 : Int32).toInt ≤ 9 from by decide), (show (sm 0 4).toInt ≤ (sm 0 4).toInt ∧ (sm 0 4).toInt ≤ 64 from by omega), (show (sm 0 4).toInt + 1 ≤ (sm 0 4).toInt ∨ ¬ m36.toInt = -9 from by omega), (show Imp (0 ≤ p0.toInt ∧ p0.toInt ≤ 63) ((0 : Int32).toInt ≤ 5) from fun _ => by decide), (show Imp (0 ≤ p0.toInt ∧ p0.toInt ≤ 31) ((0 : Int32).toInt ≤ 4) from fun _ => by decide), (show Imp (0 ≤ p0.toInt ∧ p0.toInt ≤ 7) ((0 : Int32).toInt ≤ 2) from fun _ => by decide), (show ((0 : Int32), (sm 0 4), m36) = J_X12_figure sm tm p0 from by subst e29 w32 k40; first | (refine Eq.symm ?_; refine Eq.trans (if_pos c1) ?_; refine Eq.trans (if_pos c28) ?_; refine Eq.trans (if_pos c33) ?_; rfl) | (unfold J_X12_figure; try dsimp only; rw [if_pos c1, if_pos c28, if_pos c33]))⟩ dX12_figure_62
      · have f33 : ¬ r31.toInt = 0 := f_ne rfl (by decide) c33
        have k33 : 0 ≤ (-1) ∧ (-1) ≤ 9 := in_t (i2l_t (by decide) e29) (by decide) (by decide) w32 c33
        refine lv_iload_n hx hb dX12_figure_49 rfl (lv_at hl 2 rfl) ?_
        refine lv_iload_n hx hb dX12_figure_50 rfl (lv_at hl 0 rfl) ?_
        refine lv_ishr hx hb dX12_figure_51 (lv_topi (fun v42 e42 => ?_))
        refine lv_iconst (v := 1) hx hb dX12_figure_52 (by decide) ?_
        refine lv_iand hx hb dX12_figure_53 (lv_topi (fun v43 e43 => ?_))
        have t43 : 0 ≤ v43.toInt ∧ v43.toInt ≤ 1 := by rw [e43]; exact and_r (by decide) (by omega)
        refine lv_if_ne (tgt := 63) hx hb dX12_figure_54 (by decide) (fun c44 => ?_) (fun c44 => ?_)
        · have f44 : ¬ v43.toInt = 0 := f_ne rfl (by decide) c44
          have bt := bitn e42 e43 c44 ⟨by omega, by omega⟩
          refine lv_aload_n hx hb dX12_figure_63 rfl (lv_at hl 1 rfl) ?_
          refine lv_dup hx hb dX12_figure_64 rfl ?_
          refine g_get cx hP iw_X12_figure_X12 0 rfl rfl 4 (by decide) rfl fw_X12_figure_111 rfl dX12_figure_65 ?_
          refine lv_iconst (v := 1) hx hb dX12_figure_68 (by decide) ?_
          refine lv_iadd hx hb dX12_figure_69 (lv_topi (fun v45 e45 => ?_))
          have t45 : v45.toInt = (sm 0 4).toInt + 1 := by rw [e45]; exact i_add rfl (by decide) (by omega) (by omega)
          refine g_pt cx hP hD hS iw_X12_figure_X12 tyX12 tyX12_ok nmX12 0 rfl rfl 4 (by decide) rfl fw_X12_figure_111 (ty := .int) rfl rfl rfl (Nat.le_of_ble_eq_true rfl) dX12_figure_70 (fun H locs hP hD hS => ?_)
          have hP : va_P D vwCl [cell88_ qm sm tm v45, cell5_ k qm sm, cell13_ k qm sm, cell8_ k qm sm, cell6_ k qm sm, cell15_ k qm sm, cell14_ k qm tm, cell12_ k qm tm, cell18_ k qm tm, cell17_ k qm tm, cell19_ k qm tm, cell21_ k qm tm, cell20_ k qm sm, cell16_ k qm sm, cell11_ k qm sm, cell10_ k qm sm, cell9_ k qm sm, cell7_ k qm sm] H := hP
          have hD : va_D A [cell88_ qm sm tm v45, cell5_ k qm sm, cell13_ k qm sm, cell8_ k qm sm, cell6_ k qm sm, cell15_ k qm sm, cell14_ k qm tm, cell12_ k qm tm, cell18_ k qm tm, cell17_ k qm tm, cell19_ k qm tm, cell21_ k qm tm, cell20_ k qm sm, cell16_ k qm sm, cell11_ k qm sm, cell10_ k qm sm, cell9_ k qm sm, cell7_ k qm sm] := hD
          refine lv_iload_n hx hb dX12_figure_73 rfl (lv_at hl 0 rfl) ?_
          have hlit46 : ((-1) : Int32).toInt = -1 := by decide
          rw [hQ]
          exact x_i cx hr (v45, (sm 0 5)) hP hD hS ⟨(show 0 ≤ ((-1) : Int32).toInt ∧ ((-1) : Int32).toInt ≤ 9 from by omega), (show (sm 0 4).toInt ≤ v45.toInt ∧ v45.toInt ≤ 64 from by omega), (show (sm 0 4).toInt + 1 ≤ v45.toInt ∨ ¬ (sm 0 5).toInt = -9 from by omega), (show Imp (0 ≤ p0.toInt ∧ p0.toInt ≤ 63) (((-1) : Int32).toInt ≤ 5) from fun h => bt.1 h), (show Imp (0 ≤ p0.toInt ∧ p0.toInt ≤ 31) (((-1) : Int32).toInt ≤ 4) from fun h => bt.2.1 h), (show Imp (0 ≤ p0.toInt ∧ p0.toInt ≤ 7) (((-1) : Int32).toInt ≤ 2) from fun h => bt.2.2 h), (show (((-1) : Int32), v45, (sm 0 5)) = J_X12_figure sm tm p0 from by subst e29 w32 e42 e43 e45; first | (refine Eq.symm ?_; refine Eq.trans (if_pos c1) ?_; refine Eq.trans (if_pos c28) ?_; refine Eq.trans (if_neg c33) ?_; refine Eq.trans (if_neg c44) ?_; rfl) | (unfold J_X12_figure; try dsimp only; rw [if_pos c1, if_pos c28, if_neg c33, if_neg c44]))⟩ dX12_figure_74
        · have f44 : v43.toInt = 0 := f_eq rfl (by decide) c44
          refine lv_aload_n hx hb dX12_figure_57 rfl (lv_at hl 1 rfl) ?_
          refine g_vF (w1 := fun (u : Int32) => [cell81_ qm sm tm u, cell5_ k qm sm, cell13_ k qm sm, cell8_ k qm sm, cell6_ k qm sm, cell15_ k qm sm, cell14_ k qm tm, cell12_ k qm tm, cell18_ k qm tm, cell17_ k qm tm, cell19_ k qm tm, cell21_ k qm tm, cell20_ k qm sm, cell16_ k qm sm, cell11_ k qm sm, cell10_ k qm sm, cell9_ k qm sm, cell7_ k qm sm]) (g_runVF (ws := [cell22_ qm sm tm, cell5_ k qm sm, cell13_ k qm sm, cell8_ k qm sm, cell6_ k qm sm, cell15_ k qm sm, cell14_ k qm tm, cell12_ k qm tm, cell18_ k qm tm, cell17_ k qm tm, cell19_ k qm tm, cell21_ k qm tm, cell20_ k qm sm, cell16_ k qm sm, cell11_ k qm sm, cell10_ k qm sm, cell9_ k qm sm, cell7_ k qm sm]) (rest := []) cx hP hD hS [] (c_X12_fail l D k b qm sm tm H.size (show 0 ≤ (sm 0 4).toInt ∧ (sm 0 4).toInt ≤ 64 from by first | decide | omega)) gX12_figure_X12_fail rfl rfl rfl nd_X12_fail ⟨Nat.le_of_ble_eq_true rfl, Nat.le_of_ble_eq_true rfl⟩ (ci := 10) (q0 := 0) rfl rfl rfl hl.1 rfl (Nat.le_of_ble_eq_true rfl) ⟨Nat.zero_le _, Nat.zero_le _⟩ dX12_figure_58) cx.2.2.1 hD hS (fun u48 H locs hw47 hP hD hS => ?_)
          obtain ⟨m49, rfl⟩ : ∃ z, z = u48 := ⟨_, rfl⟩
          have hP : va_P D vwCl [cell81_ qm sm tm m49, cell5_ k qm sm, cell13_ k qm sm, cell8_ k qm sm, cell6_ k qm sm, cell15_ k qm sm, cell14_ k qm tm, cell12_ k qm tm, cell18_ k qm tm, cell17_ k qm tm, cell19_ k qm tm, cell21_ k qm tm, cell20_ k qm sm, cell16_ k qm sm, cell11_ k qm sm, cell10_ k qm sm, cell9_ k qm sm, cell7_ k qm sm] H := hP
          have hD : va_D A [cell81_ qm sm tm m49, cell5_ k qm sm, cell13_ k qm sm, cell8_ k qm sm, cell6_ k qm sm, cell15_ k qm sm, cell14_ k qm tm, cell12_ k qm tm, cell18_ k qm tm, cell17_ k qm tm, cell19_ k qm tm, cell21_ k qm tm, cell20_ k qm sm, cell16_ k qm sm, cell11_ k qm sm, cell10_ k qm sm, cell9_ k qm sm, cell7_ k qm sm] := hD
          replace hw47 : (¬ m49.toInt = -9) ∧ (m49 = J_X12_fail sm tm) := hw47
          obtain ⟨w50, w51⟩ := hw47
          have k53 : m49 = (J_X12_fail sm tm) := congrArg (fun z => z) w51
          refine lv_iconst (v := 0) hx hb dX12_figure_61 (by decide) ?_
          have hlit54 : (0 : Int32).toInt = 0 := by decide
          rw [hQ]
          exact x_i cx hr ((sm 0 4), m49) hP hD hS ⟨(show 0 ≤ (0 : Int32).toInt ∧ (0 : Int32).toInt ≤ 9 from by decide), (show (sm 0 4).toInt ≤ (sm 0 4).toInt ∧ (sm 0 4).toInt ≤ 64 from by omega), (show (sm 0 4).toInt + 1 ≤ (sm 0 4).toInt ∨ ¬ m49.toInt = -9 from by omega), (show Imp (0 ≤ p0.toInt ∧ p0.toInt ≤ 63) ((0 : Int32).toInt ≤ 5) from fun _ => by decide), (show Imp (0 ≤ p0.toInt ∧ p0.toInt ≤ 31) ((0 : Int32).toInt ≤ 4) from fun _ => by decide), (show Imp (0 ≤ p0.toInt ∧ p0.toInt ≤ 7) ((0 : Int32).toInt ≤ 2) from fun _ => by decide), (show ((0 : Int32), (sm 0 4), m49) = J_X12_figure sm tm p0 from by subst e29 w32 e42 e43 k53; first | (refine Eq.symm ?_; refine Eq.trans (if_pos c1) ?_; refine Eq.trans (if_pos c28) ?_; refine Eq.trans (if_neg c33) ?_; refine Eq.trans (if_pos c44) ?_; rfl) | (unfold J_X12_figure; try dsimp only; rw [if_pos c1, if_pos c28, if_neg c33, if_pos c44]))⟩ dX12_figure_62
    · have f28 : (sm 0 4).toInt < (sm 0 3).toInt := f_nle rfl rfl c28
      refine lv_aload_n hx hb dX12_figure_20 rfl (lv_at hl 0 rfl) ?_
      refine g_get cx hP iw_X12_figure_X12 0 rfl rfl 2 (by decide) rfl fw_X12_figure_16 rfl dX12_figure_21 ?_
      refine lv_aload_n hx hb dX12_figure_24 rfl (lv_at hl 0 rfl) ?_
      refine g_get cx hP iw_X12_figure_X12 0 rfl rfl 4 (by decide) rfl fw_X12_figure_111 rfl dX12_figure_25 ?_
      have hn55 : vp_in (sm 0 4) 64 := f_in (a := (sm 0 4).toInt) rfl (by omega) (by omega)
      refine va_iald hx hb cx.2.1 hP 3 0 rfl rfl hn55 dX12_figure_28 (lv_topi (fun v56 e56 => ?_))
      refine lv_bipush (v := 48) hx hb dX12_figure_29 (by decide) ?_
      refine lv_isub hx hb dX12_figure_31 (lv_topi (fun v57 e57 => ?_))
      refine lv_goto (tgt := 36) hx hb dX12_figure_32 (by decide) ?_
      refine lv_istore_n (lv' := [(2, .int v57), (0, .ref (qm 0)), (1, .int p0)]) hx hb dX12_figure_36 rfl hl (by decide) rfl (fun ls hl => ?_)
      refine lv_iload_n hx hb dX12_figure_37 rfl (lv_at hl 0 rfl) ?_
      obtain ⟨v58, e58⟩ : ∃ z : Int64, z = (v57 : Int32).toInt64 := ⟨_, rfl⟩
      refine lv_i2l (v := v58) hx hb dX12_figure_38 e58.symm ?_
      refine lv_lconst (v := 0) hx hb dX12_figure_39 (by decide) ?_
      refine lv_ldc2 (v := 9) hx hb cx.1.2.2.2.1 (cx.1.2.2.2.2 _ kJ_X12_figure_114) dX12_figure_40 ?_
      refine g_ir (g_runS (wc := []) (rest := []) cx hP hD hS [] rfl (by decide) [.long v58, .long 0, .long 9] (c_X12_in l D k b H.size v58 0 9) gX12_figure_X12_in rfl rfl rfl nd_X12_in ⟨Nat.le_of_ble_eq_true rfl, Nat.le_of_ble_eq_true rfl⟩ rfl hl.1 rfl (Nat.le_of_ble_eq_true rfl) ⟨Nat.zero_le _, Nat.zero_le _⟩ dX12_figure_43) cx.2.2.1 hP hD hS [] rfl rfl (fun r60 H locs hw59 hP hS => ?_)
      have w61 : r60 = J_X12_in v58 (0 : Int64) (9 : Int64) := hw59
      clear hw59
      have zr60 := in_b w61
      refine lv_if_eq (tgt := 57) hx hb dX12_figure_46 (by decide) (fun c62 => ?_) (fun c62 => ?_)
      · have f62 : r60.toInt = 0 := f_eq rfl (by decide) c62
        have k62 : v57.toInt < 0 ∨ 9 < v57.toInt := in_f (i2l_t rfl e58) (by decide) (by decide) w61 c62
        refine lv_aload_n hx hb dX12_figure_57 rfl (lv_at hl 1 rfl) ?_
        refine g_vF (w1 := fun (u : Int32) => [cell81_ qm sm tm u, cell5_ k qm sm, cell13_ k qm sm, cell8_ k qm sm, cell6_ k qm sm, cell15_ k qm sm, cell14_ k qm tm, cell12_ k qm tm, cell18_ k qm tm, cell17_ k qm tm, cell19_ k qm tm, cell21_ k qm tm, cell20_ k qm sm, cell16_ k qm sm, cell11_ k qm sm, cell10_ k qm sm, cell9_ k qm sm, cell7_ k qm sm]) (g_runVF (ws := [cell22_ qm sm tm, cell5_ k qm sm, cell13_ k qm sm, cell8_ k qm sm, cell6_ k qm sm, cell15_ k qm sm, cell14_ k qm tm, cell12_ k qm tm, cell18_ k qm tm, cell17_ k qm tm, cell19_ k qm tm, cell21_ k qm tm, cell20_ k qm sm, cell16_ k qm sm, cell11_ k qm sm, cell10_ k qm sm, cell9_ k qm sm, cell7_ k qm sm]) (rest := []) cx hP hD hS [] (c_X12_fail l D k b qm sm tm H.size (show 0 ≤ (sm 0 4).toInt ∧ (sm 0 4).toInt ≤ 64 from by first | decide | omega)) gX12_figure_X12_fail rfl rfl rfl nd_X12_fail ⟨Nat.le_of_ble_eq_true rfl, Nat.le_of_ble_eq_true rfl⟩ (ci := 10) (q0 := 0) rfl rfl rfl hl.1 rfl (Nat.le_of_ble_eq_true rfl) ⟨Nat.zero_le _, Nat.zero_le _⟩ dX12_figure_58) cx.2.2.1 hD hS (fun u64 H locs hw63 hP hD hS => ?_)
        obtain ⟨m65, rfl⟩ : ∃ z, z = u64 := ⟨_, rfl⟩
        have hP : va_P D vwCl [cell81_ qm sm tm m65, cell5_ k qm sm, cell13_ k qm sm, cell8_ k qm sm, cell6_ k qm sm, cell15_ k qm sm, cell14_ k qm tm, cell12_ k qm tm, cell18_ k qm tm, cell17_ k qm tm, cell19_ k qm tm, cell21_ k qm tm, cell20_ k qm sm, cell16_ k qm sm, cell11_ k qm sm, cell10_ k qm sm, cell9_ k qm sm, cell7_ k qm sm] H := hP
        have hD : va_D A [cell81_ qm sm tm m65, cell5_ k qm sm, cell13_ k qm sm, cell8_ k qm sm, cell6_ k qm sm, cell15_ k qm sm, cell14_ k qm tm, cell12_ k qm tm, cell18_ k qm tm, cell17_ k qm tm, cell19_ k qm tm, cell21_ k qm tm, cell20_ k qm sm, cell16_ k qm sm, cell11_ k qm sm, cell10_ k qm sm, cell9_ k qm sm, cell7_ k qm sm] := hD
        replace hw63 : (¬ m65.toInt = -9) ∧ (m65 = J_X12_fail sm tm) := hw63
        obtain ⟨w66, w67⟩ := hw63
        have k69 : m65 = (J_X12_fail sm tm) := congrArg (fun z => z) w67
        refine lv_iconst (v := 0) hx hb dX12_figure_61 (by decide) ?_
        have hlit70 : (0 : Int32).toInt = 0 := by decide
        rw [hQ]
        exact x_i cx hr ((sm 0 4), m65) hP hD hS ⟨(show 0 ≤ (0 : Int32).toInt ∧ (0 : Int32).toInt ≤ 9 from by decide), (show (sm 0 4).toInt ≤ (sm 0 4).toInt ∧ (sm 0 4).toInt ≤ 64 from by omega), (show (sm 0 4).toInt + 1 ≤ (sm 0 4).toInt ∨ ¬ m65.toInt = -9 from by omega), (show Imp (0 ≤ p0.toInt ∧ p0.toInt ≤ 63) ((0 : Int32).toInt ≤ 5) from fun _ => by decide), (show Imp (0 ≤ p0.toInt ∧ p0.toInt ≤ 31) ((0 : Int32).toInt ≤ 4) from fun _ => by decide), (show Imp (0 ≤ p0.toInt ∧ p0.toInt ≤ 7) ((0 : Int32).toInt ≤ 2) from fun _ => by decide), (show ((0 : Int32), (sm 0 4), m65) = J_X12_figure sm tm p0 from by subst e56 e57 e58 w61 k69; first | (refine Eq.symm ?_; refine Eq.trans (if_pos c1) ?_; refine Eq.trans (if_neg c28) ?_; refine Eq.trans (if_pos c62) ?_; rfl) | (unfold J_X12_figure; try dsimp only; rw [if_pos c1, if_neg c28, if_pos c62]))⟩ dX12_figure_62
      · have f62 : ¬ r60.toInt = 0 := f_ne rfl (by decide) c62
        have k62 : 0 ≤ v57.toInt ∧ v57.toInt ≤ 9 := in_t (i2l_t rfl e58) (by decide) (by decide) w61 c62
        refine lv_iload_n hx hb dX12_figure_49 rfl (lv_at hl 2 rfl) ?_
        refine lv_iload_n hx hb dX12_figure_50 rfl (lv_at hl 0 rfl) ?_
        refine lv_ishr hx hb dX12_figure_51 (lv_topi (fun v71 e71 => ?_))
        refine lv_iconst (v := 1) hx hb dX12_figure_52 (by decide) ?_
        refine lv_iand hx hb dX12_figure_53 (lv_topi (fun v72 e72 => ?_))
        have t72 : 0 ≤ v72.toInt ∧ v72.toInt ≤ 1 := by rw [e72]; exact and_r (by decide) (by omega)
        refine lv_if_ne (tgt := 63) hx hb dX12_figure_54 (by decide) (fun c73 => ?_) (fun c73 => ?_)
        · have f73 : ¬ v72.toInt = 0 := f_ne rfl (by decide) c73
          have bt := bitn e71 e72 c73 ⟨by omega, by omega⟩
          refine lv_aload_n hx hb dX12_figure_63 rfl (lv_at hl 1 rfl) ?_
          refine lv_dup hx hb dX12_figure_64 rfl ?_
          refine g_get cx hP iw_X12_figure_X12 0 rfl rfl 4 (by decide) rfl fw_X12_figure_111 rfl dX12_figure_65 ?_
          refine lv_iconst (v := 1) hx hb dX12_figure_68 (by decide) ?_
          refine lv_iadd hx hb dX12_figure_69 (lv_topi (fun v74 e74 => ?_))
          have t74 : v74.toInt = (sm 0 4).toInt + 1 := by rw [e74]; exact i_add rfl (by decide) (by omega) (by omega)
          refine g_pt cx hP hD hS iw_X12_figure_X12 tyX12 tyX12_ok nmX12 0 rfl rfl 4 (by decide) rfl fw_X12_figure_111 (ty := .int) rfl rfl rfl (Nat.le_of_ble_eq_true rfl) dX12_figure_70 (fun H locs hP hD hS => ?_)
          have hP : va_P D vwCl [cell88_ qm sm tm v74, cell5_ k qm sm, cell13_ k qm sm, cell8_ k qm sm, cell6_ k qm sm, cell15_ k qm sm, cell14_ k qm tm, cell12_ k qm tm, cell18_ k qm tm, cell17_ k qm tm, cell19_ k qm tm, cell21_ k qm tm, cell20_ k qm sm, cell16_ k qm sm, cell11_ k qm sm, cell10_ k qm sm, cell9_ k qm sm, cell7_ k qm sm] H := hP
          have hD : va_D A [cell88_ qm sm tm v74, cell5_ k qm sm, cell13_ k qm sm, cell8_ k qm sm, cell6_ k qm sm, cell15_ k qm sm, cell14_ k qm tm, cell12_ k qm tm, cell18_ k qm tm, cell17_ k qm tm, cell19_ k qm tm, cell21_ k qm tm, cell20_ k qm sm, cell16_ k qm sm, cell11_ k qm sm, cell10_ k qm sm, cell9_ k qm sm, cell7_ k qm sm] := hD
          refine lv_iload_n hx hb dX12_figure_73 rfl (lv_at hl 0 rfl) ?_
          rw [hQ]
          exact x_i cx hr (v74, (sm 0 5)) hP hD hS ⟨(show 0 ≤ v57.toInt ∧ v57.toInt ≤ 9 from by omega), (show (sm 0 4).toInt ≤ v74.toInt ∧ v74.toInt ≤ 64 from by omega), (show (sm 0 4).toInt + 1 ≤ v74.toInt ∨ ¬ (sm 0 5).toInt = -9 from by omega), (show Imp (0 ≤ p0.toInt ∧ p0.toInt ≤ 63) (v57.toInt ≤ 5) from fun h => bt.1 h), (show Imp (0 ≤ p0.toInt ∧ p0.toInt ≤ 31) (v57.toInt ≤ 4) from fun h => bt.2.1 h), (show Imp (0 ≤ p0.toInt ∧ p0.toInt ≤ 7) (v57.toInt ≤ 2) from fun h => bt.2.2 h), (show (v57, v74, (sm 0 5)) = J_X12_figure sm tm p0 from by subst e56 e57 e58 w61 e71 e72 e74; first | (refine Eq.symm ?_; refine Eq.trans (if_pos c1) ?_; refine Eq.trans (if_neg c28) ?_; refine Eq.trans (if_neg c62) ?_; refine Eq.trans (if_neg c73) ?_; rfl) | (unfold J_X12_figure; try dsimp only; rw [if_pos c1, if_neg c28, if_neg c62, if_neg c73]))⟩ dX12_figure_74
        · have f73 : v72.toInt = 0 := f_eq rfl (by decide) c73
          refine lv_aload_n hx hb dX12_figure_57 rfl (lv_at hl 1 rfl) ?_
          refine g_vF (w1 := fun (u : Int32) => [cell81_ qm sm tm u, cell5_ k qm sm, cell13_ k qm sm, cell8_ k qm sm, cell6_ k qm sm, cell15_ k qm sm, cell14_ k qm tm, cell12_ k qm tm, cell18_ k qm tm, cell17_ k qm tm, cell19_ k qm tm, cell21_ k qm tm, cell20_ k qm sm, cell16_ k qm sm, cell11_ k qm sm, cell10_ k qm sm, cell9_ k qm sm, cell7_ k qm sm]) (g_runVF (ws := [cell22_ qm sm tm, cell5_ k qm sm, cell13_ k qm sm, cell8_ k qm sm, cell6_ k qm sm, cell15_ k qm sm, cell14_ k qm tm, cell12_ k qm tm, cell18_ k qm tm, cell17_ k qm tm, cell19_ k qm tm, cell21_ k qm tm, cell20_ k qm sm, cell16_ k qm sm, cell11_ k qm sm, cell10_ k qm sm, cell9_ k qm sm, cell7_ k qm sm]) (rest := []) cx hP hD hS [] (c_X12_fail l D k b qm sm tm H.size (show 0 ≤ (sm 0 4).toInt ∧ (sm 0 4).toInt ≤ 64 from by first | decide | omega)) gX12_figure_X12_fail rfl rfl rfl nd_X12_fail ⟨Nat.le_of_ble_eq_true rfl, Nat.le_of_ble_eq_true rfl⟩ (ci := 10) (q0 := 0) rfl rfl rfl hl.1 rfl (Nat.le_of_ble_eq_true rfl) ⟨Nat.zero_le _, Nat.zero_le _⟩ dX12_figure_58) cx.2.2.1 hD hS (fun u76 H locs hw75 hP hD hS => ?_)
          obtain ⟨m77, rfl⟩ : ∃ z, z = u76 := ⟨_, rfl⟩
          have hP : va_P D vwCl [cell81_ qm sm tm m77, cell5_ k qm sm, cell13_ k qm sm, cell8_ k qm sm, cell6_ k qm sm, cell15_ k qm sm, cell14_ k qm tm, cell12_ k qm tm, cell18_ k qm tm, cell17_ k qm tm, cell19_ k qm tm, cell21_ k qm tm, cell20_ k qm sm, cell16_ k qm sm, cell11_ k qm sm, cell10_ k qm sm, cell9_ k qm sm, cell7_ k qm sm] H := hP
          have hD : va_D A [cell81_ qm sm tm m77, cell5_ k qm sm, cell13_ k qm sm, cell8_ k qm sm, cell6_ k qm sm, cell15_ k qm sm, cell14_ k qm tm, cell12_ k qm tm, cell18_ k qm tm, cell17_ k qm tm, cell19_ k qm tm, cell21_ k qm tm, cell20_ k qm sm, cell16_ k qm sm, cell11_ k qm sm, cell10_ k qm sm, cell9_ k qm sm, cell7_ k qm sm] := hD
          replace hw75 : (¬ m77.toInt = -9) ∧ (m77 = J_X12_fail sm tm) := hw75
          obtain ⟨w78, w79⟩ := hw75
          have k81 : m77 = (J_X12_fail sm tm) := congrArg (fun z => z) w79
          refine lv_iconst (v := 0) hx hb dX12_figure_61 (by decide) ?_
          have hlit82 : (0 : Int32).toInt = 0 := by decide
          rw [hQ]
          exact x_i cx hr ((sm 0 4), m77) hP hD hS ⟨(show 0 ≤ (0 : Int32).toInt ∧ (0 : Int32).toInt ≤ 9 from by decide), (show (sm 0 4).toInt ≤ (sm 0 4).toInt ∧ (sm 0 4).toInt ≤ 64 from by omega), (show (sm 0 4).toInt + 1 ≤ (sm 0 4).toInt ∨ ¬ m77.toInt = -9 from by omega), (show Imp (0 ≤ p0.toInt ∧ p0.toInt ≤ 63) ((0 : Int32).toInt ≤ 5) from fun _ => by decide), (show Imp (0 ≤ p0.toInt ∧ p0.toInt ≤ 31) ((0 : Int32).toInt ≤ 4) from fun _ => by decide), (show Imp (0 ≤ p0.toInt ∧ p0.toInt ≤ 7) ((0 : Int32).toInt ≤ 2) from fun _ => by decide), (show ((0 : Int32), (sm 0 4), m77) = J_X12_figure sm tm p0 from by subst e56 e57 e58 w61 e71 e72 k81; first | (refine Eq.symm ?_; refine Eq.trans (if_pos c1) ?_; refine Eq.trans (if_neg c28) ?_; refine Eq.trans (if_neg c62) ?_; refine Eq.trans (if_pos c73) ?_; rfl) | (unfold J_X12_figure; try dsimp only; rw [if_pos c1, if_neg c28, if_neg c62, if_pos c73]))⟩ dX12_figure_62
