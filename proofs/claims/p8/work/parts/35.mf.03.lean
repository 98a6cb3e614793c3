theorem fw_X12_best_13 : Cond.fieldLink RX12 13 "StillInAugustModel" "house" "[I" ∈ wsX12_best := by decide +kernel
theorem fw_X12_best_38 : Cond.fieldLink RX12 38 "StillInAugustModel" "bests" "[J" ∈ wsX12_best := by decide +kernel
theorem kJ_X12_best_206 : Cond.constantLong RX12 206 (-2) ∈ wsX12_best := by decide +kernel
theorem kJ_X12_best_221 : Cond.constantLong RX12 221 (-1) ∈ wsX12_best := by decide +kernel
theorem nd_X12_layBest : yX12_layBest.cls = RX12 ∧ yX12_layBest.cls ≠ "java/lang/invoke/MethodHandle" ∧ yX12_layBest.cls ≠ "java/lang/invoke/VarHandle" ∧ (parseMethodDescriptor yX12_layBest.desc).map (fun d => d.parameters.length) = some 1 := by decide +kernel
theorem iw_X12_best_X12 : ∀ w ∈ u_ws RX12 TX12 33, w ∈ wsX12_best := fun _ h => List.mem_cons_of_mem _ (List.mem_append_right _ h)
set_option maxHeartbeats 4000000 in
set_option maxRecDepth 100000 in
theorem c_X12_best (l : Launch) (D : va_G) (k : Nat → ClassId) (b : Nat → Nat) (qm : Nat → Nat) (sm : Nat → Nat → Int32) (tm : Nat → Nat → Int64) (sz : Nat) (p0 : Int32) (p1 : Int32) (p2 : Int32) (p3 : Int32) (h_w0 : 0 ≤ (sm 2 0).toInt ∧ (sm 2 0).toInt ≤ 5) (h_k1 : 0 ≤ (sm 2 1).toInt ∧ (sm 2 1).toInt ≤ 4) : MetL l D k b yX12_best wsX12_best ({ frames := 6, cells := 0, slots := 0, locals := 157 } : Room) [cell22_ qm sm tm, cell5_ k qm sm, cell13_ k qm sm, cell8_ k qm sm, cell6_ k qm sm, cell14_ k qm sm, cell15_ k qm tm, cell12_ k qm tm, cell18_ k qm tm, cell17_ k qm tm, cell19_ k qm tm, cell21_ k qm tm, cell20_ k qm sm, cell16_ k qm sm, cell11_ k qm sm, cell10_ k qm sm, cell9_ k qm sm, cell7_ k qm sm] sz [.ref (qm 0), .int p0, .int p1, .int p2, .int p3] (fun (r : Int64) (u : (Nat → Int64) × (Nat → Int64) × (Nat → Int32)) => True) (fun u => [cell22_ qm sm tm, cell5_ k qm sm, cell13_ k qm sm, cell8_ k qm sm, cell6_ k qm sm, cell14_ k qm sm, cell15_ k qm tm, cell12_ k qm tm, cell18_ k qm tm, cell17_ k qm tm, cell130_ k qm (u.1), cell122_ k qm (u.2.1), cell123_ k qm (u.2.2), cell16_ k qm sm, cell11_ k qm sm, cell10_ k qm sm, cell9_ k qm sm, cell7_ k qm sm]) := by
  refine g_enter (cc := cX12_best) (maxL := 5) (ret := (some .long)) (by decide) rfl (Nat.le_of_ble_eq_true rfl) ?_
  intro p e s m below meth c A hsz hAe cx hr hP hD hS ls hl
  rw [hAe]
  refine g_q (fun Q hQ => ?_)
  have hx := cx.1.1
  have hb := cx.1.2.1
  have bp0 := i_rng p0
  have bp1 := i_rng p1
  have bp2 := i_rng p2
  have bp3 := i_rng p3
  have hl : lv_has ls 5 [(0, .ref (qm 0)), (1, .int p0), (2, .int p1), (3, .int p2), (4, .int p3)] := hl
  obtain ⟨H, eH⟩ : ∃ H : Heap, H = s.heap := ⟨_, rfl⟩
  obtain ⟨locs, el⟩ : ∃ L : List Loc, L = [] := ⟨_, rfl⟩
  have hP : va_P D vwCl [cell22_ qm sm tm, cell5_ k qm sm, cell13_ k qm sm, cell8_ k qm sm, cell6_ k qm sm, cell14_ k qm sm, cell15_ k qm tm, cell12_ k qm tm, cell18_ k qm tm, cell17_ k qm tm, cell19_ k qm tm, cell21_ k qm tm, cell20_ k qm sm, cell16_ k qm sm, cell11_ k qm sm, cell10_ k qm sm, cell9_ k qm sm, cell7_ k qm sm] H := by rw [eH]; exact hP
  have hD : va_D A [cell22_ qm sm tm, cell5_ k qm sm, cell13_ k qm sm, cell8_ k qm sm, cell6_ k qm sm, cell14_ k qm sm, cell15_ k qm tm, cell12_ k qm tm, cell18_ k qm tm, cell17_ k qm tm, cell19_ k qm tm, cell21_ k qm tm, cell20_ k qm sm, cell16_ k qm sm, cell11_ k qm sm, cell10_ k qm sm, cell9_ k qm sm, cell7_ k qm sm] := hD
  have hS : va_S A s.heap H locs := by rw [eH, el]; exact hS
  suffices goal : W p l e ({ frames := 6, cells := 0, slots := 0, locals := 157 } : Room) s m ([.ref (qm 0), .int p0, .int p1, .int p2, .int p3] : List Value).toArray below meth c H locs 0 0 Q (F0 m 0 ls []) by rw [eH, el] at goal; exact goal
  refine lv_aload_n hx hb dX12_best_0 rfl (lv_at hl 0 rfl) ?_
  refine lv_iload_n hx hb dX12_best_1 rfl (lv_at hl 1 rfl) ?_
  refine g_iF (w1 := fun (_ : Unit) => [cell22_ qm sm tm, cell5_ k qm sm, cell13_ k qm sm, cell8_ k qm sm, cell6_ k qm sm, cell14_ k qm sm, cell15_ k qm tm, cell12_ k qm tm, cell18_ k qm tm, cell17_ k qm tm, cell19_ k qm tm, cell21_ k qm tm, cell20_ k qm sm, cell16_ k qm sm, cell11_ k qm sm, cell10_ k qm sm, cell9_ k qm sm, cell7_ k qm sm]) (g_runVF (ws := [cell22_ qm sm tm, cell5_ k qm sm, cell13_ k qm sm, cell8_ k qm sm, cell6_ k qm sm, cell14_ k qm sm, cell15_ k qm tm, cell12_ k qm tm, cell18_ k qm tm, cell17_ k qm tm, cell19_ k qm tm, cell21_ k qm tm, cell20_ k qm sm, cell16_ k qm sm, cell11_ k qm sm, cell10_ k qm sm, cell9_ k qm sm, cell7_ k qm sm]) (rest := []) cx hP hD hS [.int p0] (c_X12_isWeek l D k b qm sm tm H.size p0 (show 0 ≤ ((sm 2) 0).toInt ∧ ((sm 2) 0).toInt ≤ 5 from by first | decide | omega)) gX12_best_X12_isWeek rfl rfl rfl nd_X12_isWeek ⟨Nat.le_of_ble_eq_true rfl, Nat.le_of_ble_eq_true rfl⟩ (ci := 10) (q0 := 0) rfl rfl rfl hl.1 rfl (Nat.le_of_ble_eq_true rfl) ⟨Nat.zero_le _, Nat.zero_le _⟩ dX12_best_2) cx.2.2.1 hD hS (fun r2 _ H locs hw1 hP hD hS => ?_)
  replace hw1 : (0 ≤ r2.toInt ∧ r2.toInt ≤ 1) ∧ (Imp (r2.toInt = 1) (0 ≤ p0.toInt ∧ p0.toInt ≤ 4)) ∧ (r2 = J_X12_isWeek sm tm p0) := hw1
  obtain ⟨w3, w4, w5⟩ := hw1
  have k7 : r2 = (J_X12_isWeek sm tm p0) := congrArg (fun z => z) w5
  have zr2 : 0 ≤ r2.toInt ∧ r2.toInt ≤ 1 := w3
  refine lv_if_ne (tgt := 12) hx hb dX12_best_5 (by decide) (fun c8 => ?_) (fun c8 => ?_)
  · have f8 : ¬ r2.toInt = 0 := f_ne rfl (by decide) c8
    have k8 : (0 ≤ p0.toInt ∧ p0.toInt ≤ 4) := w4 (by omega)
    refine lv_aload_n hx hb dX12_best_12 rfl (lv_at hl 0 rfl) ?_
    refine lv_iload_n hx hb dX12_best_13 rfl (lv_at hl 2 rfl) ?_
    refine g_iF (w1 := fun (_ : Unit) => [cell22_ qm sm tm, cell5_ k qm sm, cell13_ k qm sm, cell8_ k qm sm, cell6_ k qm sm, cell14_ k qm sm, cell15_ k qm tm, cell12_ k qm tm, cell18_ k qm tm, cell17_ k qm tm, cell19_ k qm tm, cell21_ k qm tm, cell20_ k qm sm, cell16_ k qm sm, cell11_ k qm sm, cell10_ k qm sm, cell9_ k qm sm, cell7_ k qm sm]) (g_runVF (ws := [cell22_ qm sm tm, cell5_ k qm sm, cell13_ k qm sm, cell8_ k qm sm, cell6_ k qm sm, cell14_ k qm sm, cell15_ k qm tm, cell12_ k qm tm, cell18_ k qm tm, cell17_ k qm tm, cell19_ k qm tm, cell21_ k qm tm, cell20_ k qm sm, cell16_ k qm sm, cell11_ k qm sm, cell10_ k qm sm, cell9_ k qm sm, cell7_ k qm sm]) (rest := []) cx hP hD hS [.int p1] (c_X12_isHands l D k b qm sm tm H.size p1 (show 0 ≤ ((sm 2) 1).toInt ∧ ((sm 2) 1).toInt ≤ 4 from by first | decide | omega)) gX12_best_X12_isHands rfl rfl rfl nd_X12_isHands ⟨Nat.le_of_ble_eq_true rfl, Nat.le_of_ble_eq_true rfl⟩ (ci := 10) (q0 := 0) rfl rfl rfl hl.1 rfl (Nat.le_of_ble_eq_true rfl) ⟨Nat.zero_le _, Nat.zero_le _⟩ dX12_best_14) cx.2.2.1 hD hS (fun r10 _ H locs hw9 hP hD hS => ?_)
    replace hw9 : (0 ≤ r10.toInt ∧ r10.toInt ≤ 1) ∧ (Imp (r10.toInt = 1) (0 ≤ p1.toInt ∧ p1.toInt ≤ 400)) ∧ (r10 = J_X12_isHands sm tm p1) := hw9
    obtain ⟨w11, w12, w13⟩ := hw9
    have k15 : r10 = (J_X12_isHands sm tm p1) := congrArg (fun z => z) w13
    have zr10 : 0 ≤ r10.toInt ∧ r10.toInt ≤ 1 := w11
    refine lv_if_eq (tgt := 28) hx hb dX12_best_17 (by decide) (fun c16 => ?_) (fun c16 => ?_)
    · have f16 : r10.toInt = 0 := f_eq rfl (by decide) c16
      refine lv_ldc2 (v := (-2)) hx hb cx.1.2.2.2.1 (cx.1.2.2.2.2 _ kJ_X12_best_206) dX12_best_28 ?_
      rw [hQ]
      exact x_l cx hr ((tm 10), (tm 11), (sm 12)) hP hD hS trivial dX12_best_31
    · have f16 : ¬ r10.toInt = 0 := f_ne rfl (by decide) c16
      have k16 : (0 ≤ p1.toInt ∧ p1.toInt ≤ 400) := w12 (by omega)
      refine lv_aload_n hx hb dX12_best_20 rfl (lv_at hl 0 rfl) ?_
      refine lv_iload_n hx hb dX12_best_21 rfl (lv_at hl 3 rfl) ?_
      refine g_iF (w1 := fun (_ : Unit) => [cell22_ qm sm tm, cell5_ k qm sm, cell13_ k qm sm, cell8_ k qm sm, cell6_ k qm sm, cell14_ k qm sm, cell15_ k qm tm, cell12_ k qm tm, cell18_ k qm tm, cell17_ k qm tm, cell19_ k qm tm, cell21_ k qm tm, cell20_ k qm sm, cell16_ k qm sm, cell11_ k qm sm, cell10_ k qm sm, cell9_ k qm sm, cell7_ k qm sm]) (g_runVF (ws := [cell22_ qm sm tm, cell5_ k qm sm, cell13_ k qm sm, cell8_ k qm sm, cell6_ k qm sm, cell14_ k qm sm, cell15_ k qm tm, cell12_ k qm tm, cell18_ k qm tm, cell17_ k qm tm, cell19_ k qm tm, cell21_ k qm tm, cell20_ k qm sm, cell16_ k qm sm, cell11_ k qm sm, cell10_ k qm sm, cell9_ k qm sm, cell7_ k qm sm]) (rest := []) cx hP hD hS [.int p2] (c_X12_isComing l D k b qm sm tm H.size p2) gX12_best_X12_isComing rfl rfl rfl nd_X12_isComing ⟨Nat.le_of_ble_eq_true rfl, Nat.le_of_ble_eq_true rfl⟩ (ci := 10) (q0 := 0) rfl rfl rfl hl.1 rfl (Nat.le_of_ble_eq_true rfl) ⟨Nat.zero_le _, Nat.zero_le _⟩ dX12_best_22) cx.2.2.1 hD hS (fun r18 _ H locs hw17 hP hD hS => ?_)
      replace hw17 : (0 ≤ r18.toInt ∧ r18.toInt ≤ 1) ∧ (Imp (r18.toInt = 1) (0 ≤ p2.toInt ∧ p2.toInt ≤ 2)) ∧ (r18 = J_X12_isComing sm tm p2) := hw17
      obtain ⟨w19, w20, w21⟩ := hw17
      have k23 : r18 = (J_X12_isComing sm tm p2) := congrArg (fun z => z) w21
      have zr18 : 0 ≤ r18.toInt ∧ r18.toInt ≤ 1 := w19
      refine lv_if_ne (tgt := 32) hx hb dX12_best_25 (by decide) (fun c24 => ?_) (fun c24 => ?_)
      · have f24 : ¬ r18.toInt = 0 := f_ne rfl (by decide) c24
        have k24 : (0 ≤ p2.toInt ∧ p2.toInt ≤ 2) := w20 (by omega)
        refine lv_aload_n hx hb dX12_best_32 rfl (lv_at hl 0 rfl) ?_
        refine lv_iload_n hx hb dX12_best_33 rfl (lv_at hl 1 rfl) ?_
        refine g_vF (w1 := fun (u : (Nat → Int64) × (Nat → Int64) × (Nat → Int32)) => [cell22_ qm sm tm, cell5_ k qm sm, cell13_ k qm sm, cell8_ k qm sm, cell6_ k qm sm, cell14_ k qm sm, cell15_ k qm tm, cell12_ k qm tm, cell18_ k qm tm, cell17_ k qm tm, cell130_ k qm (u.1), cell122_ k qm (u.2.1), cell123_ k qm (u.2.2), cell16_ k qm sm, cell11_ k qm sm, cell10_ k qm sm, cell9_ k qm sm, cell7_ k qm sm]) (g_runVF (ws := [cell22_ qm sm tm, cell5_ k qm sm, cell13_ k qm sm, cell8_ k qm sm, cell6_ k qm sm, cell14_ k qm sm, cell15_ k qm tm, cell12_ k qm tm, cell18_ k qm tm, cell17_ k qm tm, cell19_ k qm tm, cell21_ k qm tm, cell20_ k qm sm, cell16_ k qm sm, cell11_ k qm sm, cell10_ k qm sm, cell9_ k qm sm, cell7_ k qm sm]) (rest := []) cx hP hD hS [.int p0] (c_X12_layBest l D k b qm sm tm H.size p0 (show 0 ≤ ((sm 2) 0).toInt ∧ ((sm 2) 0).toInt ≤ 5 from by first | decide | omega) (show 0 ≤ ((sm 2) 1).toInt ∧ ((sm 2) 1).toInt ≤ 4 from by first | decide | omega) (show 0 ≤ p0.toInt ∧ p0.toInt ≤ 4 from by first | decide | omega)) gX12_best_X12_layBest rfl rfl rfl nd_X12_layBest ⟨Nat.le_of_ble_eq_true rfl, Nat.le_of_ble_eq_true rfl⟩ (ci := 10) (q0 := 0) rfl rfl rfl hl.1 rfl (Nat.le_of_ble_eq_true rfl) ⟨Nat.zero_le _, Nat.zero_le _⟩ dX12_best_34) cx.2.2.1 hD hS (fun u26 H locs hw25 hP hD hS => ?_)
        obtain ⟨m27, m28, m29⟩ := u26
        have hP : va_P D vwCl [cell22_ qm sm tm, cell5_ k qm sm, cell13_ k qm sm, cell8_ k qm sm, cell6_ k qm sm, cell14_ k qm sm, cell15_ k qm tm, cell12_ k qm tm, cell18_ k qm tm, cell17_ k qm tm, (qm 10, .inl (k 1, 1500, .inr (.inl m27))), (qm 11, .inl (k 1, 1500, .inr (.inl m28))), (qm 12, .inl (k 0, 1500, .inl m29)), cell16_ k qm sm, cell11_ k qm sm, cell10_ k qm sm, cell9_ k qm sm, cell7_ k qm sm] H := hP
        have hD : va_D A [cell22_ qm sm tm, cell5_ k qm sm, cell13_ k qm sm, cell8_ k qm sm, cell6_ k qm sm, cell14_ k qm sm, cell15_ k qm tm, cell12_ k qm tm, cell18_ k qm tm, cell17_ k qm tm, (qm 10, .inl (k 1, 1500, .inr (.inl m27))), (qm 11, .inl (k 1, 1500, .inr (.inl m28))), (qm 12, .inl (k 0, 1500, .inl m29)), cell16_ k qm sm, cell11_ k qm sm, cell10_ k qm sm, cell9_ k qm sm, cell7_ k qm sm] := hD
        refine lv_aload_n hx hb dX12_best_37 rfl (lv_at hl 0 rfl) ?_
        refine g_get cx hP iw_X12_best_X12 0 rfl rfl 18 (by decide) rfl fw_X12_best_38 rfl dX12_best_38 ?_
        refine lv_iconst (v := 3) hx hb dX12_best_41 (by decide) ?_
        refine lv_iload_n hx hb dX12_best_42 rfl (lv_at hl 2 rfl) ?_
        refine lv_imul hx hb dX12_best_43 (lv_topi (fun v30 e30 => ?_))
        have t30 : v30.toInt = 3 * p1.toInt := by rw [e30]; exact i_mul (by decide) rfl (by omega) (by omega)
        refine lv_iload_n hx hb dX12_best_44 rfl (lv_at hl 3 rfl) ?_
        refine lv_iadd hx hb dX12_best_45 (lv_topi (fun v31 e31 => ?_))
        have t31 : v31.toInt = v30.toInt + p2.toInt := by rw [e31]; exact i_add rfl rfl (by omega) (by omega)
        have hn32 : vp_in v31 1500 := f_in (a := v31.toInt) rfl (by omega) (by omega)
        refine va_lald hx hb cx.2.1 hP 10 1 rfl rfl hn32 dX12_best_46 (lv_topl (fun v33 e33 => ?_))
        refine lv_aload_n hx hb dX12_best_47 rfl (lv_at hl 0 rfl) ?_
        refine g_get cx hP iw_X12_best_X12 0 rfl rfl 1 (by decide) rfl fw_X12_best_13 rfl dX12_best_48 ?_
        refine lv_iconst (v := 0) hx hb dX12_best_51 (by decide) ?_
        have hn34 : vp_in 0 26 := f_in (a := 0) (by decide) (by omega) (by omega)
        refine va_iald hx hb cx.2.1 hP 2 0 rfl rfl hn34 dX12_best_52 (lv_topi (fun v35 e35 => ?_))
        have uv35 : v35.toInt = ((sm 2) 0).toInt := congrArg Int32.toInt e35
        have t35 : 0 ≤ v35.toInt ∧ v35.toInt ≤ 5 := by rw [e35]; exact h_w0
        refine lv_iload_n hx hb dX12_best_53 rfl (lv_at hl 1 rfl) ?_
        refine lv_isub hx hb dX12_best_54 (lv_topi (fun v36 e36 => ?_))
        have t36 : v36.toInt = v35.toInt - p0.toInt := by rw [e36]; exact i_sub rfl rfl (by omega) (by omega)
        refine g_lr (g_runS (wc := []) (rest := [.long v33]) cx hP hD hS [] rfl (by decide) [.int v36] (c_X12_parts l D k b H.size v36) gX12_best_X12_parts rfl rfl rfl nd_X12_parts ⟨Nat.le_of_ble_eq_true rfl, Nat.le_of_ble_eq_true rfl⟩ rfl hl.1 rfl (Nat.le_of_ble_eq_true rfl) ⟨Nat.zero_le _, Nat.zero_le _⟩ dX12_best_55) cx.2.2.1 hP hD hS [] rfl rfl (fun r38 H locs hw37 hP hS => ?_)
        have w39 : r38.toInt % 2 = 1 := hw37
        clear hw37
        refine lv_iload hx hb dX12_best_58 (lv_at hl 4 rfl) ?_
        refine g_lr (g_runS (wc := []) (rest := []) cx hP hD hS [] rfl (by decide) [.long v33, .long r38, .int p3] (c_X12_told l D k b H.size v33 r38 p3 (show ¬ r38.toInt = 0 from by first | decide | omega)) gX12_best_X12_told rfl rfl rfl nd_X12_told ⟨Nat.le_of_ble_eq_true rfl, Nat.le_of_ble_eq_true rfl⟩ rfl hl.1 rfl (Nat.le_of_ble_eq_true rfl) ⟨Nat.zero_le _, Nat.zero_le _⟩ dX12_best_60) cx.2.2.1 hP hD hS [] rfl rfl (fun r41 H locs hw40 hP hS => ?_)
        rw [hQ]
        exact x_l cx hr (m27, m28, m29) hP hD hS trivial dX12_best_63
      · have f24 : r18.toInt = 0 := f_eq rfl (by decide) c24
        refine lv_ldc2 (v := (-2)) hx hb cx.1.2.2.2.1 (cx.1.2.2.2.2 _ kJ_X12_best_206) dX12_best_28 ?_
        rw [hQ]
        exact x_l cx hr ((tm 10), (tm 11), (sm 12)) hP hD hS trivial dX12_best_31
  · have f8 : r2.toInt = 0 := f_eq rfl (by decide) c8
    refine lv_ldc2 (v := (-1)) hx hb cx.1.2.2.2.1 (cx.1.2.2.2.2 _ kJ_X12_best_221) dX12_best_8 ?_
    rw [hQ]
    exact x_l cx hr ((tm 10), (tm 11), (sm 12)) hP hD hS trivial dX12_best_11
