theorem fw_X12_mean_13 : Cond.fieldLink RX12 13 "StillInAugustModel" "house" "[I" ∈ wsX12_mean := by decide +kernel
theorem kJ_X12_mean_206 : Cond.constantLong RX12 206 (-2) ∈ wsX12_mean := by decide +kernel
theorem kJ_X12_mean_221 : Cond.constantLong RX12 221 (-1) ∈ wsX12_mean := by decide +kernel
theorem nd_X12_layMean : yX12_layMean.cls = RX12 ∧ yX12_layMean.cls ≠ "java/lang/invoke/MethodHandle" ∧ yX12_layMean.cls ≠ "java/lang/invoke/VarHandle" ∧ (parseMethodDescriptor yX12_layMean.desc).map (fun d => d.parameters.length) = some 4 := by decide +kernel
theorem iw_X12_mean_X12 : ∀ w ∈ u_ws RX12 TX12 33, w ∈ wsX12_mean := fun _ h => List.mem_cons_of_mem _ (List.mem_append_right _ h)
set_option maxHeartbeats 4000000 in
set_option maxRecDepth 100000 in
theorem c_X12_mean (l : Launch) (D : va_G) (k : Nat → ClassId) (b : Nat → Nat) (qm : Nat → Nat) (sm : Nat → Nat → Int32) (tm : Nat → Nat → Int64) (sz : Nat) (p0 : Int32) (p1 : Int32) (p2 : Int32) (p3 : Int32) (p4 : Int32) (h_w0 : 0 ≤ (sm 2 0).toInt ∧ (sm 2 0).toInt ≤ 5) (h_k1 : 0 ≤ (sm 2 1).toInt ∧ (sm 2 1).toInt ≤ 4) : MetL l D k b yX12_mean wsX12_mean ({ frames := 5, cells := 0, slots := 0, locals := 127 } : Room) [cell22_ qm sm tm, cell5_ k qm sm, cell13_ k qm sm, cell8_ k qm sm, cell6_ k qm sm, cell14_ k qm sm, cell15_ k qm tm, cell12_ k qm tm, cell18_ k qm tm, cell17_ k qm tm, cell19_ k qm tm, cell21_ k qm tm, cell20_ k qm sm, cell16_ k qm sm, cell11_ k qm sm, cell10_ k qm sm, cell9_ k qm sm, cell7_ k qm sm] sz [.ref (qm 0), .int p0, .int p1, .int p2, .int p3, .int p4] (fun (r : Int64) (u : (Nat → Int64) × (Nat → Int64)) => True) (fun u => [cell22_ qm sm tm, cell5_ k qm sm, cell13_ k qm sm, cell8_ k qm sm, cell6_ k qm sm, cell14_ k qm sm, cell155_ k qm (u.1), cell156_ k qm (u.2), cell18_ k qm tm, cell17_ k qm tm, cell19_ k qm tm, cell21_ k qm tm, cell20_ k qm sm, cell16_ k qm sm, cell11_ k qm sm, cell10_ k qm sm, cell9_ k qm sm, cell7_ k qm sm]) := by
  refine g_enter (cc := cX12_mean) (maxL := 6) (ret := (some .long)) (by decide) rfl (Nat.le_of_ble_eq_true rfl) ?_
  intro p e s m below meth c A hsz hAe cx hr hP hD hS ls hl
  rw [hAe]
  refine g_q (fun Q hQ => ?_)
  have hx := cx.1.1
  have hb := cx.1.2.1
  have bp0 := i_rng p0
  have bp1 := i_rng p1
  have bp2 := i_rng p2
  have bp3 := i_rng p3
  have bp4 := i_rng p4
  have hl : lv_has ls 6 [(0, .ref (qm 0)), (1, .int p0), (2, .int p1), (3, .int p2), (4, .int p3), (5, .int p4)] := hl
  obtain ⟨H, eH⟩ : ∃ H : Heap, H = s.heap := ⟨_, rfl⟩
  obtain ⟨locs, el⟩ : ∃ L : List Loc, L = [] := ⟨_, rfl⟩
  have hP : va_P D vwCl [cell22_ qm sm tm, cell5_ k qm sm, cell13_ k qm sm, cell8_ k qm sm, cell6_ k qm sm, cell14_ k qm sm, cell15_ k qm tm, cell12_ k qm tm, cell18_ k qm tm, cell17_ k qm tm, cell19_ k qm tm, cell21_ k qm tm, cell20_ k qm sm, cell16_ k qm sm, cell11_ k qm sm, cell10_ k qm sm, cell9_ k qm sm, cell7_ k qm sm] H := by rw [eH]; exact hP
  have hD : va_D A [cell22_ qm sm tm, cell5_ k qm sm, cell13_ k qm sm, cell8_ k qm sm, cell6_ k qm sm, cell14_ k qm sm, cell15_ k qm tm, cell12_ k qm tm, cell18_ k qm tm, cell17_ k qm tm, cell19_ k qm tm, cell21_ k qm tm, cell20_ k qm sm, cell16_ k qm sm, cell11_ k qm sm, cell10_ k qm sm, cell9_ k qm sm, cell7_ k qm sm] := hD
  have hS : va_S A s.heap H locs := by rw [eH, el]; exact hS
  suffices goal : W p l e ({ frames := 5, cells := 0, slots := 0, locals := 127 } : Room) s m ([.ref (qm 0), .int p0, .int p1, .int p2, .int p3, .int p4] : List Value).toArray below meth c H locs 0 0 Q (F0 m 0 ls []) by rw [eH, el] at goal; exact goal
  refine lv_iload_n hx hb dX12_mean_0 rfl (lv_at hl 1 rfl) ?_
  refine g_ir (g_runS (wc := []) (rest := []) cx hP hD hS [] rfl (by decide) [.int p0] (c_X12_isRule l D k b H.size p0) gX12_mean_X12_isRule rfl rfl rfl nd_X12_isRule ⟨Nat.le_of_ble_eq_true rfl, Nat.le_of_ble_eq_true rfl⟩ rfl hl.1 rfl (Nat.le_of_ble_eq_true rfl) ⟨Nat.zero_le _, Nat.zero_le _⟩ dX12_mean_1) cx.2.2.1 hP hD hS [] rfl rfl (fun r2 H locs hw1 hP hS => ?_)
  replace hw1 : (0 ≤ r2.toInt ∧ r2.toInt ≤ 1) ∧ (Imp (r2.toInt = 1) (0 ≤ p0.toInt ∧ p0.toInt ≤ 2)) ∧ (r2 = J_X12_isRule p0) := hw1
  obtain ⟨w3, w4, w5⟩ := hw1
  have k7 : r2 = (J_X12_isRule p0) := congrArg (fun z => z) w5
  have zr2 : 0 ≤ r2.toInt ∧ r2.toInt ≤ 1 := w3
  refine lv_if_eq (tgt := 15) hx hb dX12_mean_4 (by decide) (fun c8 => ?_) (fun c8 => ?_)
  · have f8 : r2.toInt = 0 := f_eq rfl (by decide) c8
    refine lv_ldc2 (v := (-1)) hx hb cx.1.2.2.2.1 (cx.1.2.2.2.2 _ kJ_X12_mean_221) dX12_mean_15 ?_
    rw [hQ]
    exact x_l cx hr ((tm 6), (tm 7)) hP hD hS trivial dX12_mean_18
  · have f8 : ¬ r2.toInt = 0 := f_ne rfl (by decide) c8
    have k8 : (0 ≤ p0.toInt ∧ p0.toInt ≤ 2) := w4 (by omega)
    refine lv_aload_n hx hb dX12_mean_7 rfl (lv_at hl 0 rfl) ?_
    refine lv_iload_n hx hb dX12_mean_8 rfl (lv_at hl 2 rfl) ?_
    refine g_iF (w1 := fun (_ : Unit) => [cell22_ qm sm tm, cell5_ k qm sm, cell13_ k qm sm, cell8_ k qm sm, cell6_ k qm sm, cell14_ k qm sm, cell15_ k qm tm, cell12_ k qm tm, cell18_ k qm tm, cell17_ k qm tm, cell19_ k qm tm, cell21_ k qm tm, cell20_ k qm sm, cell16_ k qm sm, cell11_ k qm sm, cell10_ k qm sm, cell9_ k qm sm, cell7_ k qm sm]) (g_runVF (ws := [cell22_ qm sm tm, cell5_ k qm sm, cell13_ k qm sm, cell8_ k qm sm, cell6_ k qm sm, cell14_ k qm sm, cell15_ k qm tm, cell12_ k qm tm, cell18_ k qm tm, cell17_ k qm tm, cell19_ k qm tm, cell21_ k qm tm, cell20_ k qm sm, cell16_ k qm sm, cell11_ k qm sm, cell10_ k qm sm, cell9_ k qm sm, cell7_ k qm sm]) (rest := []) cx hP hD hS [.int p1] (c_X12_isWeek l D k b qm sm tm H.size p1 (show 0 ≤ ((sm 2) 0).toInt ∧ ((sm 2) 0).toInt ≤ 5 from by first | decide | omega)) gX12_mean_X12_isWeek rfl rfl rfl nd_X12_isWeek ⟨Nat.le_of_ble_eq_true rfl, Nat.le_of_ble_eq_true rfl⟩ (ci := 10) (q0 := 0) rfl rfl rfl hl.1 rfl (Nat.le_of_ble_eq_true rfl) ⟨Nat.zero_le _, Nat.zero_le _⟩ dX12_mean_9) cx.2.2.1 hD hS (fun r10 _ H locs hw9 hP hD hS => ?_)
    replace hw9 : (0 ≤ r10.toInt ∧ r10.toInt ≤ 1) ∧ (Imp (r10.toInt = 1) (0 ≤ p1.toInt ∧ p1.toInt ≤ 4)) ∧ (r10 = J_X12_isWeek sm tm p1) := hw9
    obtain ⟨w11, w12, w13⟩ := hw9
    have k15 : r10 = (J_X12_isWeek sm tm p1) := congrArg (fun z => z) w13
    have zr10 : 0 ≤ r10.toInt ∧ r10.toInt ≤ 1 := w11
    refine lv_if_ne (tgt := 19) hx hb dX12_mean_12 (by decide) (fun c16 => ?_) (fun c16 => ?_)
    · have f16 : ¬ r10.toInt = 0 := f_ne rfl (by decide) c16
      have k16 : (0 ≤ p1.toInt ∧ p1.toInt ≤ 4) := w12 (by omega)
      refine lv_aload_n hx hb dX12_mean_19 rfl (lv_at hl 0 rfl) ?_
      refine lv_iload_n hx hb dX12_mean_20 rfl (lv_at hl 3 rfl) ?_
      refine g_iF (w1 := fun (_ : Unit) => [cell22_ qm sm tm, cell5_ k qm sm, cell13_ k qm sm, cell8_ k qm sm, cell6_ k qm sm, cell14_ k qm sm, cell15_ k qm tm, cell12_ k qm tm, cell18_ k qm tm, cell17_ k qm tm, cell19_ k qm tm, cell21_ k qm tm, cell20_ k qm sm, cell16_ k qm sm, cell11_ k qm sm, cell10_ k qm sm, cell9_ k qm sm, cell7_ k qm sm]) (g_runVF (ws := [cell22_ qm sm tm, cell5_ k qm sm, cell13_ k qm sm, cell8_ k qm sm, cell6_ k qm sm, cell14_ k qm sm, cell15_ k qm tm, cell12_ k qm tm, cell18_ k qm tm, cell17_ k qm tm, cell19_ k qm tm, cell21_ k qm tm, cell20_ k qm sm, cell16_ k qm sm, cell11_ k qm sm, cell10_ k qm sm, cell9_ k qm sm, cell7_ k qm sm]) (rest := []) cx hP hD hS [.int p2] (c_X12_isHands l D k b qm sm tm H.size p2 (show 0 ≤ ((sm 2) 1).toInt ∧ ((sm 2) 1).toInt ≤ 4 from by first | decide | omega)) gX12_mean_X12_isHands rfl rfl rfl nd_X12_isHands ⟨Nat.le_of_ble_eq_true rfl, Nat.le_of_ble_eq_true rfl⟩ (ci := 10) (q0 := 0) rfl rfl rfl hl.1 rfl (Nat.le_of_ble_eq_true rfl) ⟨Nat.zero_le _, Nat.zero_le _⟩ dX12_mean_21) cx.2.2.1 hD hS (fun r18 _ H locs hw17 hP hD hS => ?_)
      replace hw17 : (0 ≤ r18.toInt ∧ r18.toInt ≤ 1) ∧ (Imp (r18.toInt = 1) (0 ≤ p2.toInt ∧ p2.toInt ≤ 400)) ∧ (r18 = J_X12_isHands sm tm p2) := hw17
      obtain ⟨w19, w20, w21⟩ := hw17
      have k23 : r18 = (J_X12_isHands sm tm p2) := congrArg (fun z => z) w21
      have zr18 : 0 ≤ r18.toInt ∧ r18.toInt ≤ 1 := w19
      refine lv_if_eq (tgt := 36) hx hb dX12_mean_24 (by decide) (fun c24 => ?_) (fun c24 => ?_)
      · have f24 : r18.toInt = 0 := f_eq rfl (by decide) c24
        refine lv_ldc2 (v := (-2)) hx hb cx.1.2.2.2.1 (cx.1.2.2.2.2 _ kJ_X12_mean_206) dX12_mean_36 ?_
        rw [hQ]
        exact x_l cx hr ((tm 6), (tm 7)) hP hD hS trivial dX12_mean_39
      · have f24 : ¬ r18.toInt = 0 := f_ne rfl (by decide) c24
        have k24 : (0 ≤ p2.toInt ∧ p2.toInt ≤ 400) := w20 (by omega)
        refine lv_aload_n hx hb dX12_mean_27 rfl (lv_at hl 0 rfl) ?_
        refine lv_iload hx hb dX12_mean_28 (lv_at hl 4 rfl) ?_
        refine g_iF (w1 := fun (_ : Unit) => [cell22_ qm sm tm, cell5_ k qm sm, cell13_ k qm sm, cell8_ k qm sm, cell6_ k qm sm, cell14_ k qm sm, cell15_ k qm tm, cell12_ k qm tm, cell18_ k qm tm, cell17_ k qm tm, cell19_ k qm tm, cell21_ k qm tm, cell20_ k qm sm, cell16_ k qm sm, cell11_ k qm sm, cell10_ k qm sm, cell9_ k qm sm, cell7_ k qm sm]) (g_runVF (ws := [cell22_ qm sm tm, cell5_ k qm sm, cell13_ k qm sm, cell8_ k qm sm, cell6_ k qm sm, cell14_ k qm sm, cell15_ k qm tm, cell12_ k qm tm, cell18_ k qm tm, cell17_ k qm tm, cell19_ k qm tm, cell21_ k qm tm, cell20_ k qm sm, cell16_ k qm sm, cell11_ k qm sm, cell10_ k qm sm, cell9_ k qm sm, cell7_ k qm sm]) (rest := []) cx hP hD hS [.int p3] (c_X12_isComing l D k b qm sm tm H.size p3) gX12_mean_X12_isComing rfl rfl rfl nd_X12_isComing ⟨Nat.le_of_ble_eq_true rfl, Nat.le_of_ble_eq_true rfl⟩ (ci := 10) (q0 := 0) rfl rfl rfl hl.1 rfl (Nat.le_of_ble_eq_true rfl) ⟨Nat.zero_le _, Nat.zero_le _⟩ dX12_mean_30) cx.2.2.1 hD hS (fun r26 _ H locs hw25 hP hD hS => ?_)
        replace hw25 : (0 ≤ r26.toInt ∧ r26.toInt ≤ 1) ∧ (Imp (r26.toInt = 1) (0 ≤ p3.toInt ∧ p3.toInt ≤ 2)) ∧ (r26 = J_X12_isComing sm tm p3) := hw25
        obtain ⟨w27, w28, w29⟩ := hw25
        have k31 : r26 = (J_X12_isComing sm tm p3) := congrArg (fun z => z) w29
        have zr26 : 0 ≤ r26.toInt ∧ r26.toInt ≤ 1 := w27
        refine lv_if_ne (tgt := 40) hx hb dX12_mean_33 (by decide) (fun c32 => ?_) (fun c32 => ?_)
        · have f32 : ¬ r26.toInt = 0 := f_ne rfl (by decide) c32
          have k32 : (0 ≤ p3.toInt ∧ p3.toInt ≤ 2) := w28 (by omega)
          refine lv_aload_n hx hb dX12_mean_40 rfl (lv_at hl 0 rfl) ?_
          refine lv_iload_n hx hb dX12_mean_41 rfl (lv_at hl 1 rfl) ?_
          refine lv_iload_n hx hb dX12_mean_42 rfl (lv_at hl 2 rfl) ?_
          refine lv_iload_n hx hb dX12_mean_43 rfl (lv_at hl 3 rfl) ?_
          refine lv_iload hx hb dX12_mean_44 (lv_at hl 4 rfl) ?_
          refine g_lF (w1 := fun (u : (Nat → Int64) × (Nat → Int64)) => [cell22_ qm sm tm, cell5_ k qm sm, cell13_ k qm sm, cell8_ k qm sm, cell6_ k qm sm, cell14_ k qm sm, cell155_ k qm (u.1), cell156_ k qm (u.2), cell18_ k qm tm, cell17_ k qm tm, cell19_ k qm tm, cell21_ k qm tm, cell20_ k qm sm, cell16_ k qm sm, cell11_ k qm sm, cell10_ k qm sm, cell9_ k qm sm, cell7_ k qm sm]) (g_runVF (ws := [cell22_ qm sm tm, cell5_ k qm sm, cell13_ k qm sm, cell8_ k qm sm, cell6_ k qm sm, cell14_ k qm sm, cell15_ k qm tm, cell12_ k qm tm, cell18_ k qm tm, cell17_ k qm tm, cell19_ k qm tm, cell21_ k qm tm, cell20_ k qm sm, cell16_ k qm sm, cell11_ k qm sm, cell10_ k qm sm, cell9_ k qm sm, cell7_ k qm sm]) (rest := []) cx hP hD hS [.int p0, .int p1, .int p2, .int p3] (c_X12_layMean l D k b qm sm tm H.size p0 p1 p2 p3 (show 0 ≤ ((sm 2) 0).toInt ∧ ((sm 2) 0).toInt ≤ 5 from by first | decide | omega) (show 0 ≤ ((sm 2) 1).toInt ∧ ((sm 2) 1).toInt ≤ 4 from by first | decide | omega) (show 0 ≤ p0.toInt ∧ p0.toInt ≤ 2 from by first | decide | omega) (show 0 ≤ p1.toInt ∧ p1.toInt ≤ 4 from by first | decide | omega) (show 0 ≤ p2.toInt ∧ p2.toInt ≤ 999 from by first | decide | omega)) gX12_mean_X12_layMean rfl rfl rfl nd_X12_layMean ⟨Nat.le_of_ble_eq_true rfl, Nat.le_of_ble_eq_true rfl⟩ (ci := 10) (q0 := 0) rfl rfl rfl hl.1 rfl (Nat.le_of_ble_eq_true rfl) ⟨Nat.zero_le _, Nat.zero_le _⟩ dX12_mean_46) cx.2.2.1 hD hS (fun r35 u34 H locs hw33 hP hD hS => ?_)
          obtain ⟨m36, m37⟩ := u34
          have hP : va_P D vwCl [cell22_ qm sm tm, cell5_ k qm sm, cell13_ k qm sm, cell8_ k qm sm, cell6_ k qm sm, cell14_ k qm sm, (qm 6, .inl (k 1, 1000, .inr (.inl m36))), (qm 7, .inl (k 1, 1000, .inr (.inl m37))), cell18_ k qm tm, cell17_ k qm tm, cell19_ k qm tm, cell21_ k qm tm, cell20_ k qm sm, cell16_ k qm sm, cell11_ k qm sm, cell10_ k qm sm, cell9_ k qm sm, cell7_ k qm sm] H := hP
          have hD : va_D A [cell22_ qm sm tm, cell5_ k qm sm, cell13_ k qm sm, cell8_ k qm sm, cell6_ k qm sm, cell14_ k qm sm, (qm 6, .inl (k 1, 1000, .inr (.inl m36))), (qm 7, .inl (k 1, 1000, .inr (.inl m37))), cell18_ k qm tm, cell17_ k qm tm, cell19_ k qm tm, cell21_ k qm tm, cell20_ k qm sm, cell16_ k qm sm, cell11_ k qm sm, cell10_ k qm sm, cell9_ k qm sm, cell7_ k qm sm] := hD
          refine lv_aload_n hx hb dX12_mean_49 rfl (lv_at hl 0 rfl) ?_
          refine g_get cx hP iw_X12_mean_X12 0 rfl rfl 1 (by decide) rfl fw_X12_mean_13 rfl dX12_mean_50 ?_
          refine lv_iconst (v := 0) hx hb dX12_mean_53 (by decide) ?_
          have hn38 : vp_in 0 26 := f_in (a := 0) (by decide) (by omega) (by omega)
          refine va_iald hx hb cx.2.1 hP 2 0 rfl rfl hn38 dX12_mean_54 (lv_topi (fun v39 e39 => ?_))
          have uv39 : v39.toInt = ((sm 2) 0).toInt := congrArg Int32.toInt e39
          have t39 : 0 ≤ v39.toInt ∧ v39.toInt ≤ 5 := by rw [e39]; exact h_w0
          refine lv_iload_n hx hb dX12_mean_55 rfl (lv_at hl 2 rfl) ?_
          refine lv_isub hx hb dX12_mean_56 (lv_topi (fun v40 e40 => ?_))
          have t40 : v40.toInt = v39.toInt - p1.toInt := by rw [e40]; exact i_sub rfl rfl (by omega) (by omega)
          refine g_lr (g_runS (wc := []) (rest := [.long r35]) cx hP hD hS [] rfl (by decide) [.int v40] (c_X12_parts l D k b H.size v40) gX12_mean_X12_parts rfl rfl rfl nd_X12_parts ⟨Nat.le_of_ble_eq_true rfl, Nat.le_of_ble_eq_true rfl⟩ rfl hl.1 rfl (Nat.le_of_ble_eq_true rfl) ⟨Nat.zero_le _, Nat.zero_le _⟩ dX12_mean_57) cx.2.2.1 hP hD hS [] rfl rfl (fun r42 H locs hw41 hP hS => ?_)
          have w43 : r42.toInt % 2 = 1 := hw41
          clear hw41
          refine lv_iload hx hb dX12_mean_60 (lv_at hl 5 rfl) ?_
          refine g_lr (g_runS (wc := []) (rest := []) cx hP hD hS [] rfl (by decide) [.long r35, .long r42, .int p4] (c_X12_told l D k b H.size r35 r42 p4 (show ¬ r42.toInt = 0 from by first | decide | omega)) gX12_mean_X12_told rfl rfl rfl nd_X12_told ⟨Nat.le_of_ble_eq_true rfl, Nat.le_of_ble_eq_true rfl⟩ rfl hl.1 rfl (Nat.le_of_ble_eq_true rfl) ⟨Nat.zero_le _, Nat.zero_le _⟩ dX12_mean_62) cx.2.2.1 hP hD hS [] rfl rfl (fun r45 H locs hw44 hP hS => ?_)
          rw [hQ]
          exact x_l cx hr (m36, m37) hP hD hS trivial dX12_mean_65
        · have f32 : r26.toInt = 0 := f_eq rfl (by decide) c32
          refine lv_ldc2 (v := (-2)) hx hb cx.1.2.2.2.1 (cx.1.2.2.2.2 _ kJ_X12_mean_206) dX12_mean_36 ?_
          rw [hQ]
          exact x_l cx hr ((tm 6), (tm 7)) hP hD hS trivial dX12_mean_39
    · have f16 : r10.toInt = 0 := f_eq rfl (by decide) c16
      refine lv_ldc2 (v := (-1)) hx hb cx.1.2.2.2.1 (cx.1.2.2.2.2 _ kJ_X12_mean_221) dX12_mean_15 ?_
      rw [hQ]
      exact x_l cx hr ((tm 6), (tm 7)) hP hD hS trivial dX12_mean_18
