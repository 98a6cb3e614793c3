theorem fw_X12_readHouse_103 : Cond.fieldLink RX12 103 "StillInAugustModel" "length" "I" ∈ wsX12_readHouse := by decide +kernel
theorem fw_X12_readHouse_108 : Cond.fieldLink RX12 108 "StillInAugustModel" "faultAt" "I" ∈ wsX12_readHouse := by decide +kernel
theorem fw_X12_readHouse_111 : Cond.fieldLink RX12 111 "StillInAugustModel" "at" "I" ∈ wsX12_readHouse := by decide +kernel
theorem fw_X12_readHouse_16 : Cond.fieldLink RX12 16 "StillInAugustModel" "text" "[I" ∈ wsX12_readHouse := by decide +kernel
theorem fw_X12_readHouse_7 : Cond.fieldLink RX12 7 "StillInAugustModel" "read" "[I" ∈ wsX12_readHouse := by decide +kernel
theorem nd_X12_blank : yX12_blank.cls = RX12 ∧ yX12_blank.cls ≠ "java/lang/invoke/MethodHandle" ∧ yX12_blank.cls ≠ "java/lang/invoke/VarHandle" ∧ (parseMethodDescriptor yX12_blank.desc).map (fun d => d.parameters.length) = some 0 := by decide +kernel
theorem nd_X12_readPart : yX12_readPart.cls = RX12 ∧ yX12_readPart.cls ≠ "java/lang/invoke/MethodHandle" ∧ yX12_readPart.cls ≠ "java/lang/invoke/VarHandle" ∧ (parseMethodDescriptor yX12_readPart.desc).map (fun d => d.parameters.length) = some 1 := by decide +kernel
theorem iw_X12_readHouse_X12 : ∀ w ∈ u_ws RX12 TX12 33, w ∈ wsX12_readHouse := fun _ h => List.mem_cons_of_mem _ (List.mem_append_right _ h)
set_option maxHeartbeats 4000000 in
set_option maxRecDepth 100000 in
theorem c_X12_readHouse (l : Launch) (D : va_G) (k : Nat → ClassId) (b : Nat → Nat) (qm : Nat → Nat) (sm : Nat → Nat → Int32) (tm : Nat → Nat → Int64) (sz : Nat) (h_len : 0 ≤ (sm 0 3).toInt ∧ (sm 0 3).toInt ≤ 64) : MetI l D k b yX12_readHouse wsX12_readHouse ({ frames := 3, cells := 0, slots := 0, locals := 72 } : Room) [cell22_ qm sm tm, cell5_ k qm sm, cell13_ k qm sm, cell8_ k qm sm, cell6_ k qm sm, cell15_ k qm sm, cell14_ k qm tm, cell12_ k qm tm, cell18_ k qm tm, cell17_ k qm tm, cell19_ k qm tm, cell21_ k qm tm, cell20_ k qm sm, cell16_ k qm sm, cell11_ k qm sm, cell10_ k qm sm, cell9_ k qm sm, cell7_ k qm sm] sz [.ref (qm 0)] (fun (r : Int32) (u : (Nat → Int32) × Int32 × Int32 × Int32 × Int32 × Int32 × Int32 × Int32) => (0 ≤ ((u.1) 0).toInt ∧ ((u.1) 0).toInt ≤ 5) ∧ (0 ≤ ((u.1) 1).toInt ∧ ((u.1) 1).toInt ≤ 4) ∧ (0 ≤ (u.2.1).toInt ∧ (u.2.1).toInt ≤ 64) ∧ ((r, (u.1), (u.2.1), (u.2.2.1), (u.2.2.2.1), (u.2.2.2.2.1), (u.2.2.2.2.2.1), (u.2.2.2.2.2.2.1), (u.2.2.2.2.2.2.2)) = J_X12_readHouse sm tm)) (fun u => [cell84_ qm sm tm (u.2.1) (u.2.2.1) (u.2.2.2.1) (u.2.2.2.2.1) (u.2.2.2.2.2.1) (u.2.2.2.2.2.2.1) (u.2.2.2.2.2.2.2), cell107_ k qm (u.1), cell13_ k qm sm, cell8_ k qm sm, cell6_ k qm sm, cell15_ k qm sm, cell14_ k qm tm, cell12_ k qm tm, cell18_ k qm tm, cell17_ k qm tm, cell19_ k qm tm, cell21_ k qm tm, cell20_ k qm sm, cell16_ k qm sm, cell11_ k qm sm, cell10_ k qm sm, cell9_ k qm sm, cell7_ k qm sm]) := by
  refine g_enter (cc := cX12_readHouse) (maxL := 1) (ret := (some .int)) (by decide) rfl (Nat.le_of_ble_eq_true rfl) ?_
  intro p e s m below meth c A hsz hAe cx hr hP hD hS ls hl
  rw [hAe]
  refine g_q (fun Q hQ => ?_)
  have hx := cx.1.1
  have hb := cx.1.2.1
  have hl : lv_has ls 1 [(0, .ref (qm 0))] := hl
  obtain ⟨H, eH⟩ : ∃ H : Heap, H = s.heap := ⟨_, rfl⟩
  obtain ⟨locs, el⟩ : ∃ L : List Loc, L = [] := ⟨_, rfl⟩
  have hP : va_P D vwCl [cell22_ qm sm tm, cell5_ k qm sm, cell13_ k qm sm, cell8_ k qm sm, cell6_ k qm sm, cell15_ k qm sm, cell14_ k qm tm, cell12_ k qm tm, cell18_ k qm tm, cell17_ k qm tm, cell19_ k qm tm, cell21_ k qm tm, cell20_ k qm sm, cell16_ k qm sm, cell11_ k qm sm, cell10_ k qm sm, cell9_ k qm sm, cell7_ k qm sm] H := by rw [eH]; exact hP
  have hD : va_D A [cell22_ qm sm tm, cell5_ k qm sm, cell13_ k qm sm, cell8_ k qm sm, cell6_ k qm sm, cell15_ k qm sm, cell14_ k qm tm, cell12_ k qm tm, cell18_ k qm tm, cell17_ k qm tm, cell19_ k qm tm, cell21_ k qm tm, cell20_ k qm sm, cell16_ k qm sm, cell11_ k qm sm, cell10_ k qm sm, cell9_ k qm sm, cell7_ k qm sm] := hD
  have hS : va_S A s.heap H locs := by rw [eH, el]; exact hS
  suffices goal : W p l e ({ frames := 3, cells := 0, slots := 0, locals := 72 } : Room) s m ([.ref (qm 0)] : List Value).toArray below meth c H locs 0 0 Q (F0 m 0 ls []) by rw [eH, el] at goal; exact goal
  refine lv_aload_n hx hb dX12_readHouse_0 rfl (lv_at hl 0 rfl) ?_
  refine g_vF (w1 := fun (u : (Nat → Int32) × Int32 × Int32 × Int32 × Int32 × Int32) => [cell166_ qm sm tm (u.2.1) (u.2.2.1) (u.2.2.2.1) (u.2.2.2.2.1) (u.2.2.2.2.2), cell107_ k qm (u.1), cell13_ k qm sm, cell8_ k qm sm, cell6_ k qm sm, cell15_ k qm sm, cell14_ k qm tm, cell12_ k qm tm, cell18_ k qm tm, cell17_ k qm tm, cell19_ k qm tm, cell21_ k qm tm, cell20_ k qm sm, cell16_ k qm sm, cell11_ k qm sm, cell10_ k qm sm, cell9_ k qm sm, cell7_ k qm sm]) (g_runVF (ws := [cell22_ qm sm tm, cell5_ k qm sm, cell13_ k qm sm, cell8_ k qm sm, cell6_ k qm sm, cell15_ k qm sm, cell14_ k qm tm, cell12_ k qm tm, cell18_ k qm tm, cell17_ k qm tm, cell19_ k qm tm, cell21_ k qm tm, cell20_ k qm sm, cell16_ k qm sm, cell11_ k qm sm, cell10_ k qm sm, cell9_ k qm sm, cell7_ k qm sm]) (rest := []) cx hP hD hS [] (c_X12_blank l D k b qm sm tm H.size) gX12_readHouse_X12_blank rfl rfl rfl nd_X12_blank ⟨Nat.le_of_ble_eq_true rfl, Nat.le_of_ble_eq_true rfl⟩ (ci := 10) (q0 := 0) rfl rfl rfl hl.1 rfl (Nat.le_of_ble_eq_true rfl) ⟨Nat.zero_le _, Nat.zero_le _⟩ dX12_readHouse_1) cx.2.2.1 hD hS (fun u2 H locs hw1 hP hD hS => ?_)
  obtain ⟨m3, m4, m5, m6, m7, m8⟩ := u2
  have hP : va_P D vwCl [cell166_ qm sm tm m4 m5 m6 m7 m8, (qm 1, .inl (k 0, 26, .inl m3)), cell13_ k qm sm, cell8_ k qm sm, cell6_ k qm sm, cell15_ k qm sm, cell14_ k qm tm, cell12_ k qm tm, cell18_ k qm tm, cell17_ k qm tm, cell19_ k qm tm, cell21_ k qm tm, cell20_ k qm sm, cell16_ k qm sm, cell11_ k qm sm, cell10_ k qm sm, cell9_ k qm sm, cell7_ k qm sm] H := hP
  have hD : va_D A [cell166_ qm sm tm m4 m5 m6 m7 m8, (qm 1, .inl (k 0, 26, .inl m3)), cell13_ k qm sm, cell8_ k qm sm, cell6_ k qm sm, cell15_ k qm sm, cell14_ k qm tm, cell12_ k qm tm, cell18_ k qm tm, cell17_ k qm tm, cell19_ k qm tm, cell21_ k qm tm, cell20_ k qm sm, cell16_ k qm sm, cell11_ k qm sm, cell10_ k qm sm, cell9_ k qm sm, cell7_ k qm sm] := hD
  replace hw1 : (0 ≤ (m3 0).toInt ∧ (m3 0).toInt ≤ 5) ∧ (0 ≤ (m3 1).toInt ∧ (m3 1).toInt ≤ 4) ∧ ((m3, m4, m5, m6, m7, m8) = J_X12_blank sm tm) := hw1
  obtain ⟨w9, w10, w11⟩ := hw1
  have k13 : m3 = ((J_X12_blank sm tm).1) := congrArg (fun z => (z.1)) w11
  have k14 : m4 = ((J_X12_blank sm tm).2.1) := congrArg (fun z => (z.2.1)) w11
  have k15 : m5 = ((J_X12_blank sm tm).2.2.1) := congrArg (fun z => (z.2.2.1)) w11
  have k16 : m6 = ((J_X12_blank sm tm).2.2.2.1) := congrArg (fun z => (z.2.2.2.1)) w11
  have k17 : m7 = ((J_X12_blank sm tm).2.2.2.2.1) := congrArg (fun z => (z.2.2.2.2.1)) w11
  have k18 : m8 = ((J_X12_blank sm tm).2.2.2.2.2) := congrArg (fun z => (z.2.2.2.2.2)) w11
  refine lv_aload_n hx hb dX12_readHouse_4 rfl (lv_at hl 0 rfl) ?_
  refine lv_iconst (v := 0) hx hb dX12_readHouse_5 (by decide) ?_
  refine g_pt cx hP hD hS iw_X12_readHouse_X12 tyX12 tyX12_ok nmX12 0 rfl rfl 4 (by decide) rfl fw_X12_readHouse_111 (ty := .int) rfl rfl rfl (Nat.le_of_ble_eq_true rfl) dX12_readHouse_6 (fun H locs hP hD hS => ?_)
  have hP : va_P D vwCl [(qm 0, .inr (10, [.ref (qm 1), .ref (qm 2), .ref (qm 3), .int (sm 0 3), .int 0, .int (sm 0 5), .int m4, .int m5, .int m6, .int m7, .int m8, .ref (qm 4), .ref (qm 5), .int (sm 0 13), .ref (qm 6), .ref (qm 7), .ref (qm 8), .ref (qm 9), .ref (qm 10), .ref (qm 11), .ref (qm 12), .ref (qm 13), .int (sm 0 22), .int (sm 0 23), .ref (qm 14), .ref (qm 15), .int (sm 0 26), .ref (qm 16), .ref (qm 17), .long (tm 0 29), .long (tm 0 30), .long (tm 0 31), .int (sm 0 32)])), (qm 1, .inl (k 0, 26, .inl m3)), cell13_ k qm sm, cell8_ k qm sm, cell6_ k qm sm, cell15_ k qm sm, cell14_ k qm tm, cell12_ k qm tm, cell18_ k qm tm, cell17_ k qm tm, cell19_ k qm tm, cell21_ k qm tm, cell20_ k qm sm, cell16_ k qm sm, cell11_ k qm sm, cell10_ k qm sm, cell9_ k qm sm, cell7_ k qm sm] H := hP
  have hD : va_D A [(qm 0, .inr (10, [.ref (qm 1), .ref (qm 2), .ref (qm 3), .int (sm 0 3), .int 0, .int (sm 0 5), .int m4, .int m5, .int m6, .int m7, .int m8, .ref (qm 4), .ref (qm 5), .int (sm 0 13), .ref (qm 6), .ref (qm 7), .ref (qm 8), .ref (qm 9), .ref (qm 10), .ref (qm 11), .ref (qm 12), .ref (qm 13), .int (sm 0 22), .int (sm 0 23), .ref (qm 14), .ref (qm 15), .int (sm 0 26), .ref (qm 16), .ref (qm 17), .long (tm 0 29), .long (tm 0 30), .long (tm 0 31), .int (sm 0 32)])), (qm 1, .inl (k 0, 26, .inl m3)), cell13_ k qm sm, cell8_ k qm sm, cell6_ k qm sm, cell15_ k qm sm, cell14_ k qm tm, cell12_ k qm tm, cell18_ k qm tm, cell17_ k qm tm, cell19_ k qm tm, cell21_ k qm tm, cell20_ k qm sm, cell16_ k qm sm, cell11_ k qm sm, cell10_ k qm sm, cell9_ k qm sm, cell7_ k qm sm] := hD
  have hlit19 : (0 : Int32).toInt = 0 := by decide
  refine lv_aload_n hx hb dX12_readHouse_9 rfl (lv_at hl 0 rfl) ?_
  refine lv_bipush (v := (-9)) hx hb dX12_readHouse_10 (by decide) ?_
  refine g_pt cx hP hD hS iw_X12_readHouse_X12 tyX12 tyX12_ok nmX12 0 rfl rfl 5 (by decide) rfl fw_X12_readHouse_108 (ty := .int) rfl rfl rfl (Nat.le_of_ble_eq_true rfl) dX12_readHouse_12 (fun H locs hP hD hS => ?_)
  have hP : va_P D vwCl [cell84_ qm sm tm 0 (-9) m4 m5 m6 m7 m8, (qm 1, .inl (k 0, 26, .inl m3)), cell13_ k qm sm, cell8_ k qm sm, cell6_ k qm sm, cell15_ k qm sm, cell14_ k qm tm, cell12_ k qm tm, cell18_ k qm tm, cell17_ k qm tm, cell19_ k qm tm, cell21_ k qm tm, cell20_ k qm sm, cell16_ k qm sm, cell11_ k qm sm, cell10_ k qm sm, cell9_ k qm sm, cell7_ k qm sm] H := hP
  have hD : va_D A [cell84_ qm sm tm 0 (-9) m4 m5 m6 m7 m8, (qm 1, .inl (k 0, 26, .inl m3)), cell13_ k qm sm, cell8_ k qm sm, cell6_ k qm sm, cell15_ k qm sm, cell14_ k qm tm, cell12_ k qm tm, cell18_ k qm tm, cell17_ k qm tm, cell19_ k qm tm, cell21_ k qm tm, cell20_ k qm sm, cell16_ k qm sm, cell11_ k qm sm, cell10_ k qm sm, cell9_ k qm sm, cell7_ k qm sm] := hD
  have hlit20 : ((-9) : Int32).toInt = -9 := by decide
  refine lv_aload_n hx hb dX12_readHouse_15 rfl (lv_at hl 0 rfl) ?_
  refine g_get cx hP iw_X12_readHouse_X12 0 rfl rfl 3 (by decide) rfl fw_X12_readHouse_103 rfl dX12_readHouse_16 ?_
  refine lv_if_eq (tgt := 33) hx hb dX12_readHouse_19 (by decide) (fun c21 => ?_) (fun c21 => ?_)
  · have f21 : (sm 0 3).toInt = 0 := f_eq rfl (by decide) c21
    have z0_ := c21
    refine lv_iconst (v := 0) hx hb dX12_readHouse_33 (by decide) ?_
    have hlit22 : (0 : Int32).toInt = 0 := by decide
    have hlit23 : ((-9) : Int32).toInt = -9 := by decide
    have hlit24 : (0 : Int32).toInt = 0 := by decide
    rw [hQ]
    exact x_i cx hr (m3, 0, (-9), m4, m5, m6, m7, m8) hP hD hS ⟨(show 0 ≤ (m3 0).toInt ∧ (m3 0).toInt ≤ 5 from by omega), (show 0 ≤ (m3 1).toInt ∧ (m3 1).toInt ≤ 4 from by omega), (show 0 ≤ (0 : Int32).toInt ∧ (0 : Int32).toInt ≤ 64 from by omega), (show ((0 : Int32), m3, (0 : Int32), ((-9) : Int32), m4, m5, m6, m7, m8) = J_X12_readHouse sm tm from by subst k13 k14 k15 k16 k17 k18; first | exact rh_0 z0_ | exact rh_1 z1_)⟩ dX12_readHouse_34
  · have f21 : ¬ (sm 0 3).toInt = 0 := f_ne rfl (by decide) c21
    have z0_ := c21
    refine lv_aload_n hx hb dX12_readHouse_22 rfl (lv_at hl 0 rfl) ?_
    refine g_get cx hP iw_X12_readHouse_X12 0 rfl rfl 2 (by decide) rfl fw_X12_readHouse_16 rfl dX12_readHouse_23 ?_
    refine lv_iconst (v := 0) hx hb dX12_readHouse_26 (by decide) ?_
    have hn25 : vp_in 0 64 := f_in (a := 0) (by decide) (by omega) (by omega)
    refine va_iald hx hb cx.2.1 hP 3 0 rfl rfl hn25 dX12_readHouse_27 (lv_topi (fun v26 e26 => ?_))
    have uv26 : v26.toInt = ((sm 3) 0).toInt := congrArg Int32.toInt e26
    refine lv_bipush (v := 78) hx hb dX12_readHouse_28 (by decide) ?_
    refine lv_icmp_eq (tgt := 35) hx hb dX12_readHouse_30 (by decide) (fun c27 => ?_) (fun c27 => ?_)
    · have f27 : v26.toInt = 78 := f_eq rfl (by decide) c27
      have z1_ : sm 3 (0 : Int32).toNatClampNeg = 78 := e26.symm.trans c27
      refine lv_aload_n hx hb dX12_readHouse_35 rfl (lv_at hl 0 rfl) ?_
      refine lv_iconst (v := 1) hx hb dX12_readHouse_36 (by decide) ?_
      refine g_pt cx hP hD hS iw_X12_readHouse_X12 tyX12 tyX12_ok nmX12 0 rfl rfl 4 (by decide) rfl fw_X12_readHouse_111 (ty := .int) rfl rfl rfl (Nat.le_of_ble_eq_true rfl) dX12_readHouse_37 (fun H locs hP hD hS => ?_)
      have hP : va_P D vwCl [cell84_ qm sm tm 1 (-9) m4 m5 m6 m7 m8, (qm 1, .inl (k 0, 26, .inl m3)), cell13_ k qm sm, cell8_ k qm sm, cell6_ k qm sm, cell15_ k qm sm, cell14_ k qm tm, cell12_ k qm tm, cell18_ k qm tm, cell17_ k qm tm, cell19_ k qm tm, cell21_ k qm tm, cell20_ k qm sm, cell16_ k qm sm, cell11_ k qm sm, cell10_ k qm sm, cell9_ k qm sm, cell7_ k qm sm] H := hP
      have hD : va_D A [cell84_ qm sm tm 1 (-9) m4 m5 m6 m7 m8, (qm 1, .inl (k 0, 26, .inl m3)), cell13_ k qm sm, cell8_ k qm sm, cell6_ k qm sm, cell15_ k qm sm, cell14_ k qm tm, cell12_ k qm tm, cell18_ k qm tm, cell17_ k qm tm, cell19_ k qm tm, cell21_ k qm tm, cell20_ k qm sm, cell16_ k qm sm, cell11_ k qm sm, cell10_ k qm sm, cell9_ k qm sm, cell7_ k qm sm] := hD
      have hlit28 : (1 : Int32).toInt = 1 := by decide
      refine lv_aload_n hx hb dX12_readHouse_40 rfl (lv_at hl 0 rfl) ?_
      refine g_get cx hP iw_X12_readHouse_X12 0 rfl rfl 0 (by decide) rfl fw_X12_readHouse_7 rfl dX12_readHouse_41 ?_
      refine lv_iconst (v := 0) hx hb dX12_readHouse_44 (by decide) ?_
      refine lv_aload_n hx hb dX12_readHouse_45 rfl (lv_at hl 0 rfl) ?_
      refine lv_bipush (v := 62) hx hb dX12_readHouse_46 (by decide) ?_
      refine g_iF (w1 := fun (u : Int32 × Int32) => [cell84_ qm sm tm (u.1) (u.2) m4 m5 m6 m7 m8, (qm 1, .inl (k 0, 26, .inl m3)), cell13_ k qm sm, cell8_ k qm sm, cell6_ k qm sm, cell15_ k qm sm, cell14_ k qm tm, cell12_ k qm tm, cell18_ k qm tm, cell17_ k qm tm, cell19_ k qm tm, cell21_ k qm tm, cell20_ k qm sm, cell16_ k qm sm, cell11_ k qm sm, cell10_ k qm sm, cell9_ k qm sm, cell7_ k qm sm]) (g_runVF (ws := [cell84_ qm sm tm 1 (-9) m4 m5 m6 m7 m8, (qm 1, .inl (k 0, 26, .inl m3)), cell13_ k qm sm, cell8_ k qm sm, cell6_ k qm sm, cell15_ k qm sm, cell14_ k qm tm, cell12_ k qm tm, cell18_ k qm tm, cell17_ k qm tm, cell19_ k qm tm, cell21_ k qm tm, cell20_ k qm sm, cell16_ k qm sm, cell11_ k qm sm, cell10_ k qm sm, cell9_ k qm sm, cell7_ k qm sm]) (rest := [.int 0, .ref (qm 1)]) cx hP hD hS [.int 62] (c_X12_figure l D k b qm (up2 (up2 sm 0 (upd (upd (upd (upd (upd (upd (upd (sm 0) 4 1) 5 (-9)) 6 m4) 7 m5) 8 m6) 9 m7) 10 m8)) 1 m3) tm H.size 62 (show 0 ≤ (sm 0 3).toInt ∧ (sm 0 3).toInt ≤ 64 from by first | decide | omega) (show 0 ≤ (1 : Int32).toInt ∧ (1 : Int32).toInt ≤ 64 from by first | decide | omega)) gX12_readHouse_X12_figure rfl rfl rfl nd_X12_figure ⟨Nat.le_of_ble_eq_true rfl, Nat.le_of_ble_eq_true rfl⟩ (ci := 10) (q0 := 0) rfl rfl rfl hl.1 rfl (Nat.le_of_ble_eq_true rfl) ⟨Nat.zero_le _, Nat.zero_le _⟩ dX12_readHouse_48) cx.2.2.1 hD hS (fun r31 u30 H locs hw29 hP hD hS => ?_)
      obtain ⟨m32, m33⟩ := u30
      have hP : va_P D vwCl [cell84_ qm sm tm m32 m33 m4 m5 m6 m7 m8, (qm 1, .inl (k 0, 26, .inl m3)), cell13_ k qm sm, cell8_ k qm sm, cell6_ k qm sm, cell15_ k qm sm, cell14_ k qm tm, cell12_ k qm tm, cell18_ k qm tm, cell17_ k qm tm, cell19_ k qm tm, cell21_ k qm tm, cell20_ k qm sm, cell16_ k qm sm, cell11_ k qm sm, cell10_ k qm sm, cell9_ k qm sm, cell7_ k qm sm] H := hP
      have hD : va_D A [cell84_ qm sm tm m32 m33 m4 m5 m6 m7 m8, (qm 1, .inl (k 0, 26, .inl m3)), cell13_ k qm sm, cell8_ k qm sm, cell6_ k qm sm, cell15_ k qm sm, cell14_ k qm tm, cell12_ k qm tm, cell18_ k qm tm, cell17_ k qm tm, cell19_ k qm tm, cell21_ k qm tm, cell20_ k qm sm, cell16_ k qm sm, cell11_ k qm sm, cell10_ k qm sm, cell9_ k qm sm, cell7_ k qm sm] := hD
      replace hw29 : (0 ≤ r31.toInt ∧ r31.toInt ≤ 9) ∧ ((1 : Int32).toInt ≤ m32.toInt ∧ m32.toInt ≤ 64) ∧ ((1 : Int32).toInt + 1 ≤ m32.toInt ∨ ¬ m33.toInt = -9) ∧ (Imp (0 ≤ (62 : Int32).toInt ∧ (62 : Int32).toInt ≤ 63) (r31.toInt ≤ 5)) ∧ (Imp (0 ≤ (62 : Int32).toInt ∧ (62 : Int32).toInt ≤ 31) (r31.toInt ≤ 4)) ∧ (Imp (0 ≤ (62 : Int32).toInt ∧ (62 : Int32).toInt ≤ 7) (r31.toInt ≤ 2)) ∧ ((r31, m32, m33) = J_X12_figure (up2 (up2 sm 0 (upd (upd (upd (upd (upd (upd (upd (sm 0) 4 1) 5 (-9)) 6 m4) 7 m5) 8 m6) 9 m7) 10 m8)) 1 m3) tm (62 : Int32)) := hw29
      obtain ⟨w34, w35, w36, w37, w38, w39, w40⟩ := hw29
      have k42 : r31 = ((J_X12_figure (up2 (up2 sm 0 (upd (upd (upd (upd (upd (upd (upd (sm 0) 4 1) 5 (-9)) 6 m4) 7 m5) 8 m6) 9 m7) 10 m8)) 1 m3) tm (62 : Int32)).1) := congrArg (fun z => (z.1)) w40
      have k43 : m32 = ((J_X12_figure (up2 (up2 sm 0 (upd (upd (upd (upd (upd (upd (upd (sm 0) 4 1) 5 (-9)) 6 m4) 7 m5) 8 m6) 9 m7) 10 m8)) 1 m3) tm (62 : Int32)).2.1) := congrArg (fun z => (z.2.1)) w40
      have k44 : m33 = ((J_X12_figure (up2 (up2 sm 0 (upd (upd (upd (upd (upd (upd (upd (sm 0) 4 1) 5 (-9)) 6 m4) 7 m5) 8 m6) 9 m7) 10 m8)) 1 m3) tm (62 : Int32)).2.2) := congrArg (fun z => (z.2.2)) w40
      have xr31 : r31.toInt ≤ 5 := w37 ⟨by decide, by decide⟩
      have hn45 : vp_in 0 26 := f_in (a := 0) (by decide) (by omega) (by omega)
      refine va_iast hx hb cx.2.1 hP hD hS 1 0 rfl rfl hn45 dX12_readHouse_51 (fun H locs hP hD hS => ?_)
      obtain ⟨g46, eg46⟩ : ∃ g : Nat → Int32, g = upd m3 ((0 : Int32).toNatClampNeg) r31 := ⟨_, rfl⟩
      rw [← eg46] at hP hD
      have hP : va_P D vwCl [cell84_ qm sm tm m32 m33 m4 m5 m6 m7 m8, (qm 1, .inl (k 0, 26, .inl g46)), cell13_ k qm sm, cell8_ k qm sm, cell6_ k qm sm, cell15_ k qm sm, cell14_ k qm tm, cell12_ k qm tm, cell18_ k qm tm, cell17_ k qm tm, cell19_ k qm tm, cell21_ k qm tm, cell20_ k qm sm, cell16_ k qm sm, cell11_ k qm sm, cell10_ k qm sm, cell9_ k qm sm, cell7_ k qm sm] H := hP
      have hD : va_D A [cell84_ qm sm tm m32 m33 m4 m5 m6 m7 m8, (qm 1, .inl (k 0, 26, .inl g46)), cell13_ k qm sm, cell8_ k qm sm, cell6_ k qm sm, cell15_ k qm sm, cell14_ k qm tm, cell12_ k qm tm, cell18_ k qm tm, cell17_ k qm tm, cell19_ k qm tm, cell21_ k qm tm, cell20_ k qm sm, cell16_ k qm sm, cell11_ k qm sm, cell10_ k qm sm, cell9_ k qm sm, cell7_ k qm sm] := hD
      have s47 := updI eg46 (by decide) (show 0 ≤ 0 from by omega) 0
      have s48 := updI eg46 (by decide) (show 0 ≤ 0 from by omega) 1
      have el49 : 0 ≤ (g46 0).toInt ∧ (g46 0).toInt ≤ 5 := by omega
      have el50 : 0 ≤ (g46 1).toInt ∧ (g46 1).toInt ≤ 4 := by omega
      have hL52 : ∀ (n85 : Nat) (x77 : Int32) (x78 : Int32) (x79 : Int32) (x80 : Int32) (x81 : Int32) (x82 : Int32) (x83 : Int32) (g84 : Nat → Int32) (H : Heap) (locs : List Loc) (ls : Array Slot), ((1 ≤ (n85 : Int) ∧ (¬ x78.toInt = -9 ∨ 65 - x77.toInt < (n85 : Int))) ∧ RIT sm tm n85 (g84, x77, x78, x79, x80, x81, x82, x83) = RIT sm tm 200 (RH0 sm tm)) → (0 ≤ x77.toInt ∧ x77.toInt ≤ 64) → (0 ≤ (g84 0).toInt ∧ (g84 0).toInt ≤ 5) → (0 ≤ (g84 1).toInt ∧ (g84 1).toInt ≤ 4) → va_P D vwCl [cell84_ qm sm tm x77 x78 x79 x80 x81 x82 x83, (qm 1, .inl (k 0, 26, .inl g84)), cell13_ k qm sm, cell8_ k qm sm, cell6_ k qm sm, cell15_ k qm sm, cell14_ k qm tm, cell12_ k qm tm, cell18_ k qm tm, cell17_ k qm tm, cell19_ k qm tm, cell21_ k qm tm, cell20_ k qm sm, cell16_ k qm sm, cell11_ k qm sm, cell10_ k qm sm, cell9_ k qm sm, cell7_ k qm sm] H → va_D A [cell84_ qm sm tm x77 x78 x79 x80 x81 x82 x83, (qm 1, .inl (k 0, 26, .inl g84)), cell13_ k qm sm, cell8_ k qm sm, cell6_ k qm sm, cell15_ k qm sm, cell14_ k qm tm, cell12_ k qm tm, cell18_ k qm tm, cell17_ k qm tm, cell19_ k qm tm, cell21_ k qm tm, cell20_ k qm sm, cell16_ k qm sm, cell11_ k qm sm, cell10_ k qm sm, cell9_ k qm sm, cell7_ k qm sm] → va_S A s.heap H locs → lv_has ls 1 [(0, .ref (qm 0))] → W p l e ({ frames := 3, cells := 0, slots := 0, locals := 72 } : Room) s m ([.ref (qm 0)] : List Value).toArray below meth c H locs 0 0 Q (F0 m 52 ls []) := by
        intro n85
        induction n85 with
        | zero => intro x77 x78 x79 x80 x81 x82 x83 g84 H locs ls hmn85 bx77 y0 y1 hP hD hS hl; exact absurd hmn85 (by omega)
        | succ n85 ih52 =>
          intro x77 x78 x79 x80 x81 x82 x83 g84 H locs ls hmn85 bx77 y0 y1 hP hD hS hl
          have hmN_ := hmn85
          refine lv_aload_n hx hb dX12_readHouse_52 rfl (lv_at hl 0 rfl) ?_
          refine g_get cx hP iw_X12_readHouse_X12 0 rfl rfl 5 (by decide) rfl fw_X12_readHouse_108 rfl dX12_readHouse_53 ?_
          refine lv_bipush (v := (-9)) hx hb dX12_readHouse_56 (by decide) ?_
          refine lv_icmp_ne (tgt := 88) hx hb dX12_readHouse_58 (by decide) (fun c86 => ?_) (fun c86 => ?_)
          · have f86 : ¬ x78.toInt = (-9) := f_ne rfl (by decide) c86
            refine lv_aload_n hx hb dX12_readHouse_88 rfl (lv_at hl 0 rfl) ?_
            refine g_get cx hP iw_X12_readHouse_X12 0 rfl rfl 5 (by decide) rfl fw_X12_readHouse_108 rfl dX12_readHouse_89 ?_
            rw [hQ]
            exact x_i cx hr (g84, x77, x78, x79, x80, x81, x82, x83) hP hD hS ⟨(show 0 ≤ (g84 0).toInt ∧ (g84 0).toInt ≤ 5 from by omega), (show 0 ≤ (g84 1).toInt ∧ (g84 1).toInt ≤ 4 from by omega), (show 0 ≤ x77.toInt ∧ x77.toInt ≤ 64 from by omega), (show (x78, g84, x77, x78, x79, x80, x81, x82, x83) = J_X12_readHouse sm tm from rh_2 z0_ z1_ hmN_.2 (by first | exact Or.inl (by assumption) | exact Or.inr (by assumption)))⟩ dX12_readHouse_92
          · have f86 : x78.toInt = (-9) := f_eq rfl (by decide) c86
            refine lv_aload_n hx hb dX12_readHouse_61 rfl (lv_at hl 0 rfl) ?_
            refine g_get cx hP iw_X12_readHouse_X12 0 rfl rfl 4 (by decide) rfl fw_X12_readHouse_111 rfl dX12_readHouse_62 ?_
            refine lv_aload_n hx hb dX12_readHouse_65 rfl (lv_at hl 0 rfl) ?_
            refine g_get cx hP iw_X12_readHouse_X12 0 rfl rfl 3 (by decide) rfl fw_X12_readHouse_103 rfl dX12_readHouse_66 ?_
            refine lv_icmp_ge (tgt := 88) hx hb dX12_readHouse_69 (by decide) (fun c87 => ?_) (fun c87 => ?_)
            · have f87 : (sm 0 3).toInt ≤ x77.toInt := f_le rfl rfl c87
              refine lv_aload_n hx hb dX12_readHouse_88 rfl (lv_at hl 0 rfl) ?_
              refine g_get cx hP iw_X12_readHouse_X12 0 rfl rfl 5 (by decide) rfl fw_X12_readHouse_108 rfl dX12_readHouse_89 ?_
              rw [hQ]
              exact x_i cx hr (g84, x77, x78, x79, x80, x81, x82, x83) hP hD hS ⟨(show 0 ≤ (g84 0).toInt ∧ (g84 0).toInt ≤ 5 from by omega), (show 0 ≤ (g84 1).toInt ∧ (g84 1).toInt ≤ 4 from by omega), (show 0 ≤ x77.toInt ∧ x77.toInt ≤ 64 from by omega), (show (x78, g84, x77, x78, x79, x80, x81, x82, x83) = J_X12_readHouse sm tm from rh_2 z0_ z1_ hmN_.2 (by first | exact Or.inl (by assumption) | exact Or.inr (by assumption)))⟩ dX12_readHouse_92
            · have f87 : x77.toInt < (sm 0 3).toInt := f_nle rfl rfl c87
              refine lv_aload_n hx hb dX12_readHouse_72 rfl (lv_at hl 0 rfl) ?_
              refine lv_aload_n hx hb dX12_readHouse_73 rfl (lv_at hl 0 rfl) ?_
              refine g_get cx hP iw_X12_readHouse_X12 0 rfl rfl 2 (by decide) rfl fw_X12_readHouse_16 rfl dX12_readHouse_74 ?_
              refine lv_aload_n hx hb dX12_readHouse_77 rfl (lv_at hl 0 rfl) ?_
              refine g_get cx hP iw_X12_readHouse_X12 0 rfl rfl 4 (by decide) rfl fw_X12_readHouse_111 rfl dX12_readHouse_78 ?_
              have hn88 : vp_in x77 64 := f_in (a := x77.toInt) rfl (by omega) (by omega)
              refine va_iald hx hb cx.2.1 hP 3 0 rfl rfl hn88 dX12_readHouse_81 (lv_topi (fun v89 e89 => ?_))
              have he_ := e89
              refine g_vF (w1 := fun (u : (Nat → Int32) × Int32 × Int32 × Int32 × Int32 × Int32 × Int32 × Int32) => [cell84_ qm sm tm (u.2.1) (u.2.2.1) (u.2.2.2.1) (u.2.2.2.2.1) (u.2.2.2.2.2.1) (u.2.2.2.2.2.2.1) (u.2.2.2.2.2.2.2), cell107_ k qm (u.1), cell13_ k qm sm, cell8_ k qm sm, cell6_ k qm sm, cell15_ k qm sm, cell14_ k qm tm, cell12_ k qm tm, cell18_ k qm tm, cell17_ k qm tm, cell19_ k qm tm, cell21_ k qm tm, cell20_ k qm sm, cell16_ k qm sm, cell11_ k qm sm, cell10_ k qm sm, cell9_ k qm sm, cell7_ k qm sm]) (g_runVF (ws := [cell84_ qm sm tm x77 x78 x79 x80 x81 x82 x83, (qm 1, .inl (k 0, 26, .inl g84)), cell13_ k qm sm, cell8_ k qm sm, cell6_ k qm sm, cell15_ k qm sm, cell14_ k qm tm, cell12_ k qm tm, cell18_ k qm tm, cell17_ k qm tm, cell19_ k qm tm, cell21_ k qm tm, cell20_ k qm sm, cell16_ k qm sm, cell11_ k qm sm, cell10_ k qm sm, cell9_ k qm sm, cell7_ k qm sm]) (rest := []) cx hP hD hS [.int v89] (c_X12_readPart l D k b qm (up2 (up2 sm 0 (upd (upd (upd (upd (upd (upd (upd (sm 0) 4 x77) 5 x78) 6 x79) 7 x80) 8 x81) 9 x82) 10 x83)) 1 g84) tm H.size v89 (show 0 ≤ (sm 0 3).toInt ∧ (sm 0 3).toInt ≤ 64 from by first | decide | omega) (show 0 ≤ x77.toInt ∧ x77.toInt ≤ 64 from by first | decide | omega) (show x77.toInt < (sm 0 3).toInt from by first | decide | omega) (show 0 ≤ (g84 0).toInt ∧ (g84 0).toInt ≤ 5 from by first | decide | omega) (show 0 ≤ (g84 1).toInt ∧ (g84 1).toInt ≤ 4 from by first | decide | omega)) gX12_readHouse_X12_readPart rfl rfl rfl nd_X12_readPart ⟨Nat.le_of_ble_eq_true rfl, Nat.le_of_ble_eq_true rfl⟩ (ci := 10) (q0 := 0) rfl rfl rfl hl.1 rfl (Nat.le_of_ble_eq_true rfl) ⟨Nat.zero_le _, Nat.zero_le _⟩ dX12_readHouse_82) cx.2.2.1 hD hS (fun u91 H locs hw90 hP hD hS => ?_)
              obtain ⟨m92, m93, m94, m95, m96, m97, m98, m99⟩ := u91
              have hP : va_P D vwCl [cell84_ qm sm tm m93 m94 m95 m96 m97 m98 m99, (qm 1, .inl (k 0, 26, .inl m92)), cell13_ k qm sm, cell8_ k qm sm, cell6_ k qm sm, cell15_ k qm sm, cell14_ k qm tm, cell12_ k qm tm, cell18_ k qm tm, cell17_ k qm tm, cell19_ k qm tm, cell21_ k qm tm, cell20_ k qm sm, cell16_ k qm sm, cell11_ k qm sm, cell10_ k qm sm, cell9_ k qm sm, cell7_ k qm sm] H := hP
              have hD : va_D A [cell84_ qm sm tm m93 m94 m95 m96 m97 m98 m99, (qm 1, .inl (k 0, 26, .inl m92)), cell13_ k qm sm, cell8_ k qm sm, cell6_ k qm sm, cell15_ k qm sm, cell14_ k qm tm, cell12_ k qm tm, cell18_ k qm tm, cell17_ k qm tm, cell19_ k qm tm, cell21_ k qm tm, cell20_ k qm sm, cell16_ k qm sm, cell11_ k qm sm, cell10_ k qm sm, cell9_ k qm sm, cell7_ k qm sm] := hD
              replace hw90 : (0 ≤ (m92 0).toInt ∧ (m92 0).toInt ≤ 5) ∧ (0 ≤ (m92 1).toInt ∧ (m92 1).toInt ≤ 4) ∧ (0 ≤ m93.toInt ∧ m93.toInt ≤ 64) ∧ (x77.toInt + 1 ≤ m93.toInt ∨ ¬ m94.toInt = -9) ∧ ((m92, m93, m94, m95, m96, m97, m98, m99) = J_X12_readPart (up2 (up2 sm 0 (upd (upd (upd (upd (upd (upd (upd (sm 0) 4 x77) 5 x78) 6 x79) 7 x80) 8 x81) 9 x82) 10 x83)) 1 g84) tm v89) := hw90
              obtain ⟨w100, w101, w102, w103, w104⟩ := hw90
              have k106 : m92 = ((J_X12_readPart (up2 (up2 sm 0 (upd (upd (upd (upd (upd (upd (upd (sm 0) 4 x77) 5 x78) 6 x79) 7 x80) 8 x81) 9 x82) 10 x83)) 1 g84) tm v89).1) := congrArg (fun z => (z.1)) w104
              have k107 : m93 = ((J_X12_readPart (up2 (up2 sm 0 (upd (upd (upd (upd (upd (upd (upd (sm 0) 4 x77) 5 x78) 6 x79) 7 x80) 8 x81) 9 x82) 10 x83)) 1 g84) tm v89).2.1) := congrArg (fun z => (z.2.1)) w104
              have k108 : m94 = ((J_X12_readPart (up2 (up2 sm 0 (upd (upd (upd (upd (upd (upd (upd (sm 0) 4 x77) 5 x78) 6 x79) 7 x80) 8 x81) 9 x82) 10 x83)) 1 g84) tm v89).2.2.1) := congrArg (fun z => (z.2.2.1)) w104
              have k109 : m95 = ((J_X12_readPart (up2 (up2 sm 0 (upd (upd (upd (upd (upd (upd (upd (sm 0) 4 x77) 5 x78) 6 x79) 7 x80) 8 x81) 9 x82) 10 x83)) 1 g84) tm v89).2.2.2.1) := congrArg (fun z => (z.2.2.2.1)) w104
              have k110 : m96 = ((J_X12_readPart (up2 (up2 sm 0 (upd (upd (upd (upd (upd (upd (upd (sm 0) 4 x77) 5 x78) 6 x79) 7 x80) 8 x81) 9 x82) 10 x83)) 1 g84) tm v89).2.2.2.2.1) := congrArg (fun z => (z.2.2.2.2.1)) w104
              have k111 : m97 = ((J_X12_readPart (up2 (up2 sm 0 (upd (upd (upd (upd (upd (upd (upd (sm 0) 4 x77) 5 x78) 6 x79) 7 x80) 8 x81) 9 x82) 10 x83)) 1 g84) tm v89).2.2.2.2.2.1) := congrArg (fun z => (z.2.2.2.2.2.1)) w104
              have k112 : m98 = ((J_X12_readPart (up2 (up2 sm 0 (upd (upd (upd (upd (upd (upd (upd (sm 0) 4 x77) 5 x78) 6 x79) 7 x80) 8 x81) 9 x82) 10 x83)) 1 g84) tm v89).2.2.2.2.2.2.1) := congrArg (fun z => (z.2.2.2.2.2.2.1)) w104
              have k113 : m99 = ((J_X12_readPart (up2 (up2 sm 0 (upd (upd (upd (upd (upd (upd (upd (sm 0) 4 x77) 5 x78) 6 x79) 7 x80) 8 x81) 9 x82) 10 x83)) 1 g84) tm v89).2.2.2.2.2.2.2) := congrArg (fun z => (z.2.2.2.2.2.2.2)) w104
              have hx_ := w104
              refine lv_goto (tgt := 52) hx hb dX12_readHouse_85 (by decide) ?_
              exact ih52 m93 m94 m95 m96 m97 m98 m99 m92 _ _ _ ⟨by omega, (rit_go (by assumption) (by assumption) (hx_.trans (by subst he_; rfl))).symm.trans hmN_.2⟩ (by first | decide | omega) (by first | decide | omega) (by first | decide | omega) hP hD hS (lv_sub hl [0] rfl)
      exact hL52 (200) m32 m33 m4 m5 m6 m7 m8 g46 _ _ _ ⟨by omega, (by subst k13 k14 k15 k16 k17 k18 e26 k42 k43 k44 eg46; rfl)⟩ (by first | decide | omega) (by first | decide | omega) (by first | decide | omega) hP hD hS (lv_sub hl [0] rfl)
    · have f27 : ¬ v26.toInt = 78 := f_ne rfl (by decide) c27
      have z1_ : ¬ sm 3 (0 : Int32).toNatClampNeg = 78 := fun q => c27 (e26.trans q)
      refine lv_iconst (v := 0) hx hb dX12_readHouse_33 (by decide) ?_
      have hlit114 : (0 : Int32).toInt = 0 := by decide
      have hlit115 : ((-9) : Int32).toInt = -9 := by decide
      have hlit116 : (0 : Int32).toInt = 0 := by decide
      rw [hQ]
      exact x_i cx hr (m3, 0, (-9), m4, m5, m6, m7, m8) hP hD hS ⟨(show 0 ≤ (m3 0).toInt ∧ (m3 0).toInt ≤ 5 from by omega), (show 0 ≤ (m3 1).toInt ∧ (m3 1).toInt ≤ 4 from by omega), (show 0 ≤ (0 : Int32).toInt ∧ (0 : Int32).toInt ≤ 64 from by omega), (show ((0 : Int32), m3, (0 : Int32), ((-9) : Int32), m4, m5, m6, m7, m8) = J_X12_readHouse sm tm from by subst k13 k14 k15 k16 k17 k18 e26; first | exact rh_0 z0_ | exact rh_1 z1_)⟩ dX12_readHouse_34
