theorem fw_X12_bestAct_44 : Cond.fieldLink RX12 44 "StillInAugustModel" "bestActs" "[I" ∈ wsX12_bestAct := by decide +kernel
theorem iw_X12_bestAct_X12 : ∀ w ∈ u_ws RX12 TX12 33, w ∈ wsX12_bestAct := fun _ h => List.mem_cons_of_mem _ (List.mem_append_right _ h)
set_option maxHeartbeats 4000000 in
set_option maxRecDepth 100000 in
theorem c_X12_bestAct (l : Launch) (D : va_G) (k : Nat → ClassId) (b : Nat → Nat) (qm : Nat → Nat) (sm : Nat → Nat → Int32) (tm : Nat → Nat → Int64) (sz : Nat) (p0 : Int32) (p1 : Int32) (p2 : Int32) (h_w0 : 0 ≤ (sm 2 0).toInt ∧ (sm 2 0).toInt ≤ 5) (h_k1 : 0 ≤ (sm 2 1).toInt ∧ (sm 2 1).toInt ≤ 4) : MetI l D k b yX12_bestAct wsX12_bestAct ({ frames := 6, cells := 0, slots := 0, locals := 157 } : Room) [cell22_ qm sm tm, cell5_ k qm sm, cell13_ k qm sm, cell8_ k qm sm, cell6_ k qm sm, cell14_ k qm sm, cell15_ k qm tm, cell12_ k qm tm, cell18_ k qm tm, cell17_ k qm tm, cell19_ k qm tm, cell21_ k qm tm, cell20_ k qm sm, cell16_ k qm sm, cell11_ k qm sm, cell10_ k qm sm, cell9_ k qm sm, cell7_ k qm sm] sz [.ref (qm 0), .int p0, .int p1, .int p2] (fun (r : Int32) (u : (Nat → Int64) × (Nat → Int64) × (Nat → Int32)) => True) (fun u => [cell22_ qm sm tm, cell5_ k qm sm, cell13_ k qm sm, cell8_ k qm sm, cell6_ k qm sm, cell14_ k qm sm, cell15_ k qm tm, cell12_ k qm tm, cell18_ k qm tm, cell17_ k qm tm, cell130_ k qm (u.1), cell122_ k qm (u.2.1), cell123_ k qm (u.2.2), cell16_ k qm sm, cell11_ k qm sm, cell10_ k qm sm, cell9_ k qm sm, cell7_ k qm sm]) := by
  refine g_enter (cc := cX12_bestAct) (maxL := 4) (ret := (some .int)) (by decide) rfl (Nat.le_of_ble_eq_true rfl) ?_
  intro p e s m below meth c A hsz hAe cx hr hP hD hS ls hl
  rw [hAe]
  refine g_q (fun Q hQ => ?_)
  have hx := cx.1.1
  have hb := cx.1.2.1
  have bp0 := i_rng p0
  have bp1 := i_rng p1
  have bp2 := i_rng p2
  have hl : lv_has ls 4 [(0, .ref (qm 0)), (1, .int p0), (2, .int p1), (3, .int p2)] := hl
  obtain ⟨H, eH⟩ : ∃ H : Heap, H = s.heap := ⟨_, rfl⟩
  obtain ⟨locs, el⟩ : ∃ L : List Loc, L = [] := ⟨_, rfl⟩
  have hP : va_P D vwCl [cell22_ qm sm tm, cell5_ k qm sm, cell13_ k qm sm, cell8_ k qm sm, cell6_ k qm sm, cell14_ k qm sm, cell15_ k qm tm, cell12_ k qm tm, cell18_ k qm tm, cell17_ k qm tm, cell19_ k qm tm, cell21_ k qm tm, cell20_ k qm sm, cell16_ k qm sm, cell11_ k qm sm, cell10_ k qm sm, cell9_ k qm sm, cell7_ k qm sm] H := by rw [eH]; exact hP
  have hD : va_D A [cell22_ qm sm tm, cell5_ k qm sm, cell13_ k qm sm, cell8_ k qm sm, cell6_ k qm sm, cell14_ k qm sm, cell15_ k qm tm, cell12_ k qm tm, cell18_ k qm tm, cell17_ k qm tm, cell19_ k qm tm, cell21_ k qm tm, cell20_ k qm sm, cell16_ k qm sm, cell11_ k qm sm, cell10_ k qm sm, cell9_ k qm sm, cell7_ k qm sm] := hD
  have hS : va_S A s.heap H locs := by rw [eH, el]; exact hS
  suffices goal : W p l e ({ frames := 6, cells := 0, slots := 0, locals := 157 } : Room) s m ([.ref (qm 0), .int p0, .int p1, .int p2] : List Value).toArray below meth c H locs 0 0 Q (F0 m 0 ls []) by rw [eH, el] at goal; exact goal
  refine lv_aload_n hx hb dX12_bestAct_0 rfl (lv_at hl 0 rfl) ?_
  refine lv_iload_n hx hb dX12_bestAct_1 rfl (lv_at hl 1 rfl) ?_
  refine g_iF (w1 := fun (_ : Unit) => [cell22_ qm sm tm, cell5_ k qm sm, cell13_ k qm sm, cell8_ k qm sm, cell6_ k qm sm, cell14_ k qm sm, cell15_ k qm tm, cell12_ k qm tm, cell18_ k qm tm, cell17_ k qm tm, cell19_ k qm tm, cell21_ k qm tm, cell20_ k qm sm, cell16_ k qm sm, cell11_ k qm sm, cell10_ k qm sm, cell9_ k qm sm, cell7_ k qm sm]) (g_runVF (ws := [cell22_ qm sm tm, cell5_ k qm sm, cell13_ k qm sm, cell8_ k qm sm, cell6_ k qm sm, cell14_ k qm sm, cell15_ k qm tm, cell12_ k qm tm, cell18_ k qm tm, cell17_ k qm tm, cell19_ k qm tm, cell21_ k qm tm, cell20_ k qm sm, cell16_ k qm sm, cell11_ k qm sm, cell10_ k qm sm, cell9_ k qm sm, cell7_ k qm sm]) (rest := []) cx hP hD hS [.int p0] (c_X12_isWeek l D k b qm sm tm H.size p0 (show 0 ≤ ((sm 2) 0).toInt ∧ ((sm 2) 0).toInt ≤ 5 from by first | decide | omega)) gX12_bestAct_X12_isWeek rfl rfl rfl nd_X12_isWeek ⟨Nat.le_of_ble_eq_true rfl, Nat.le_of_ble_eq_true rfl⟩ (ci := 10) (q0 := 0) rfl rfl rfl hl.1 rfl (Nat.le_of_ble_eq_true rfl) ⟨Nat.zero_le _, Nat.zero_le _⟩ dX12_bestAct_2) cx.2.2.1 hD hS (fun r2 _ H locs hw1 hP hD hS => ?_)
  replace hw1 : (0 ≤ r2.toInt ∧ r2.toInt ≤ 1) ∧ (Imp (r2.toInt = 1) (0 ≤ p0.toInt ∧ p0.toInt ≤ 4)) ∧ (r2 = J_X12_isWeek sm tm p0) := hw1
  obtain ⟨w3, w4, w5⟩ := hw1
  have k7 : r2 = (J_X12_isWeek sm tm p0) := congrArg (fun z => z) w5
  have zr2 : 0 ≤ r2.toInt ∧ r2.toInt ≤ 1 := w3
  refine lv_if_ne (tgt := 10) hx hb dX12_bestAct_5 (by decide) (fun c8 => ?_) (fun c8 => ?_)
  · have f8 : ¬ r2.toInt = 0 := f_ne rfl (by decide) c8
    have k8 : (0 ≤ p0.toInt ∧ p0.toInt ≤ 4) := w4 (by omega)
    refine lv_aload_n hx hb dX12_bestAct_10 rfl (lv_at hl 0 rfl) ?_
    refine lv_iload_n hx hb dX12_bestAct_11 rfl (lv_at hl 2 rfl) ?_
    refine g_iF (w1 := fun (_ : Unit) => [cell22_ qm sm tm, cell5_ k qm sm, cell13_ k qm sm, cell8_ k qm sm, cell6_ k qm sm, cell14_ k qm sm, cell15_ k qm tm, cell12_ k qm tm, cell18_ k qm tm, cell17_ k qm tm, cell19_ k qm tm, cell21_ k qm tm, cell20_ k qm sm, cell16_ k qm sm, cell11_ k qm sm, cell10_ k qm sm, cell9_ k qm sm, cell7_ k qm sm]) (g_runVF (ws := [cell22_ qm sm tm, cell5_ k qm sm, cell13_ k qm sm, cell8_ k qm sm, cell6_ k qm sm, cell14_ k qm sm, cell15_ k qm tm, cell12_ k qm tm, cell18_ k qm tm, cell17_ k qm tm, cell19_ k qm tm, cell21_ k qm tm, cell20_ k qm sm, cell16_ k qm sm, cell11_ k qm sm, cell10_ k qm sm, cell9_ k qm sm, cell7_ k qm sm]) (rest := []) cx hP hD hS [.int p1] (c_X12_isHands l D k b qm sm tm H.size p1 (show 0 ≤ ((sm 2) 1).toInt ∧ ((sm 2) 1).toInt ≤ 4 from by first | decide | omega)) gX12_bestAct_X12_isHands rfl rfl rfl nd_X12_isHands ⟨Nat.le_of_ble_eq_true rfl, Nat.le_of_ble_eq_true rfl⟩ (ci := 10) (q0 := 0) rfl rfl rfl hl.1 rfl (Nat.le_of_ble_eq_true rfl) ⟨Nat.zero_le _, Nat.zero_le _⟩ dX12_bestAct_12) cx.2.2.1 hD hS (fun r10 _ H locs hw9 hP hD hS => ?_)
    replace hw9 : (0 ≤ r10.toInt ∧ r10.toInt ≤ 1) ∧ (Imp (r10.toInt = 1) (0 ≤ p1.toInt ∧ p1.toInt ≤ 400)) ∧ (r10 = J_X12_isHands sm tm p1) := hw9
    obtain ⟨w11, w12, w13⟩ := hw9
    have k15 : r10 = (J_X12_isHands sm tm p1) := congrArg (fun z => z) w13
    have zr10 : 0 ≤ r10.toInt ∧ r10.toInt ≤ 1 := w11
    refine lv_if_eq (tgt := 26) hx hb dX12_bestAct_15 (by decide) (fun c16 => ?_) (fun c16 => ?_)
    · have f16 : r10.toInt = 0 := f_eq rfl (by decide) c16
      refine lv_bipush (v := (-2)) hx hb dX12_bestAct_26 (by decide) ?_
      have hlit17 : ((-2) : Int32).toInt = -2 := by decide
      rw [hQ]
      exact x_i cx hr ((tm 10), (tm 11), (sm 12)) hP hD hS trivial dX12_bestAct_28
    · have f16 : ¬ r10.toInt = 0 := f_ne rfl (by decide) c16
      have k16 : (0 ≤ p1.toInt ∧ p1.toInt ≤ 400) := w12 (by omega)
      refine lv_aload_n hx hb dX12_bestAct_18 rfl (lv_at hl 0 rfl) ?_
      refine lv_iload_n hx hb dX12_bestAct_19 rfl (lv_at hl 3 rfl) ?_
      refine g_iF (w1 := fun (_ : Unit) => [cell22_ qm sm tm, cell5_ k qm sm, cell13_ k qm sm, cell8_ k qm sm, cell6_ k qm sm, cell14_ k qm sm, cell15_ k qm tm, cell12_ k qm tm, cell18_ k qm tm, cell17_ k qm tm, cell19_ k qm tm, cell21_ k qm tm, cell20_ k qm sm, cell16_ k qm sm, cell11_ k qm sm, cell10_ k qm sm, cell9_ k qm sm, cell7_ k qm sm]) (g_runVF (ws := [cell22_ qm sm tm, cell5_ k qm sm, cell13_ k qm sm, cell8_ k qm sm, cell6_ k qm sm, cell14_ k qm sm, cell15_ k qm tm, cell12_ k qm tm, cell18_ k qm tm, cell17_ k qm tm, cell19_ k qm tm, cell21_ k qm tm, cell20_ k qm sm, cell16_ k qm sm, cell11_ k qm sm, cell10_ k qm sm, cell9_ k qm sm, cell7_ k qm sm]) (rest := []) cx hP hD hS [.int p2] (c_X12_isComing l D k b qm sm tm H.size p2) gX12_bestAct_X12_isComing rfl rfl rfl nd_X12_isComing ⟨Nat.le_of_ble_eq_true rfl, Nat.le_of_ble_eq_true rfl⟩ (ci := 10) (q0 := 0) rfl rfl rfl hl.1 rfl (Nat.le_of_ble_eq_true rfl) ⟨Nat.zero_le _, Nat.zero_le _⟩ dX12_bestAct_20) cx.2.2.1 hD hS (fun r19 _ H locs hw18 hP hD hS => ?_)
      replace hw18 : (0 ≤ r19.toInt ∧ r19.toInt ≤ 1) ∧ (Imp (r19.toInt = 1) (0 ≤ p2.toInt ∧ p2.toInt ≤ 2)) ∧ (r19 = J_X12_isComing sm tm p2) := hw18
      obtain ⟨w20, w21, w22⟩ := hw18
      have k24 : r19 = (J_X12_isComing sm tm p2) := congrArg (fun z => z) w22
      have zr19 : 0 ≤ r19.toInt ∧ r19.toInt ≤ 1 := w20
      refine lv_if_ne (tgt := 29) hx hb dX12_bestAct_23 (by decide) (fun c25 => ?_) (fun c25 => ?_)
      · have f25 : ¬ r19.toInt = 0 := f_ne rfl (by decide) c25
        have k25 : (0 ≤ p2.toInt ∧ p2.toInt ≤ 2) := w21 (by omega)
        refine lv_aload_n hx hb dX12_bestAct_29 rfl (lv_at hl 0 rfl) ?_
        refine lv_iload_n hx hb dX12_bestAct_30 rfl (lv_at hl 1 rfl) ?_
        refine g_vF (w1 := fun (u : (Nat → Int64) × (Nat → Int64) × (Nat → Int32)) => [cell22_ qm sm tm, cell5_ k qm sm, cell13_ k qm sm, cell8_ k qm sm, cell6_ k qm sm, cell14_ k qm sm, cell15_ k qm tm, cell12_ k qm tm, cell18_ k qm tm, cell17_ k qm tm, cell130_ k qm (u.1), cell122_ k qm (u.2.1), cell123_ k qm (u.2.2), cell16_ k qm sm, cell11_ k qm sm, cell10_ k qm sm, cell9_ k qm sm, cell7_ k qm sm]) (g_runVF (ws := [cell22_ qm sm tm, cell5_ k qm sm, cell13_ k qm sm, cell8_ k qm sm, cell6_ k qm sm, cell14_ k qm sm, cell15_ k qm tm, cell12_ k qm tm, cell18_ k qm tm, cell17_ k qm tm, cell19_ k qm tm, cell21_ k qm tm, cell20_ k qm sm, cell16_ k qm sm, cell11_ k qm sm, cell10_ k qm sm, cell9_ k qm sm, cell7_ k qm sm]) (rest := []) cx hP hD hS [.int p0] (c_X12_layBest l D k b qm sm tm H.size p0 (show 0 ≤ ((sm 2) 0).toInt ∧ ((sm 2) 0).toInt ≤ 5 from by first | decide | omega) (show 0 ≤ ((sm 2) 1).toInt ∧ ((sm 2) 1).toInt ≤ 4 from by first | decide | omega) (show 0 ≤ p0.toInt ∧ p0.toInt ≤ 4 from by first | decide | omega)) gX12_bestAct_X12_layBest rfl rfl rfl nd_X12_layBest ⟨Nat.le_of_ble_eq_true rfl, Nat.le_of_ble_eq_true rfl⟩ (ci := 10) (q0 := 0) rfl rfl rfl hl.1 rfl (Nat.le_of_ble_eq_true rfl) ⟨Nat.zero_le _, Nat.zero_le _⟩ dX12_bestAct_31) cx.2.2.1 hD hS (fun u27 H locs hw26 hP hD hS => ?_)
        obtain ⟨m28, m29, m30⟩ := u27
        have hP : va_P D vwCl [cell22_ qm sm tm, cell5_ k qm sm, cell13_ k qm sm, cell8_ k qm sm, cell6_ k qm sm, cell14_ k qm sm, cell15_ k qm tm, cell12_ k qm tm, cell18_ k qm tm, cell17_ k qm tm, (qm 10, .inl (k 1, 1500, .inr (.inl m28))), (qm 11, .inl (k 1, 1500, .inr (.inl m29))), (qm 12, .inl (k 0, 1500, .inl m30)), cell16_ k qm sm, cell11_ k qm sm, cell10_ k qm sm, cell9_ k qm sm, cell7_ k qm sm] H := hP
        have hD : va_D A [cell22_ qm sm tm, cell5_ k qm sm, cell13_ k qm sm, cell8_ k qm sm, cell6_ k qm sm, cell14_ k qm sm, cell15_ k qm tm, cell12_ k qm tm, cell18_ k qm tm, cell17_ k qm tm, (qm 10, .inl (k 1, 1500, .inr (.inl m28))), (qm 11, .inl (k 1, 1500, .inr (.inl m29))), (qm 12, .inl (k 0, 1500, .inl m30)), cell16_ k qm sm, cell11_ k qm sm, cell10_ k qm sm, cell9_ k qm sm, cell7_ k qm sm] := hD
        refine lv_aload_n hx hb dX12_bestAct_34 rfl (lv_at hl 0 rfl) ?_
        refine g_get cx hP iw_X12_bestAct_X12 0 rfl rfl 20 (by decide) rfl fw_X12_bestAct_44 rfl dX12_bestAct_35 ?_
        refine lv_iconst (v := 3) hx hb dX12_bestAct_38 (by decide) ?_
        refine lv_iload_n hx hb dX12_bestAct_39 rfl (lv_at hl 2 rfl) ?_
        refine lv_imul hx hb dX12_bestAct_40 (lv_topi (fun v31 e31 => ?_))
        have t31 : v31.toInt = 3 * p1.toInt := by rw [e31]; exact i_mul (by decide) rfl (by omega) (by omega)
        refine lv_iload_n hx hb dX12_bestAct_41 rfl (lv_at hl 3 rfl) ?_
        refine lv_iadd hx hb dX12_bestAct_42 (lv_topi (fun v32 e32 => ?_))
        have t32 : v32.toInt = v31.toInt + p2.toInt := by rw [e32]; exact i_add rfl rfl (by omega) (by omega)
        have hn33 : vp_in v32 1500 := f_in (a := v32.toInt) rfl (by omega) (by omega)
        refine va_iald hx hb cx.2.1 hP 12 0 rfl rfl hn33 dX12_bestAct_43 (lv_topi (fun v34 e34 => ?_))
        rw [hQ]
        exact x_i cx hr (m28, m29, m30) hP hD hS trivial dX12_bestAct_44
      · have f25 : r19.toInt = 0 := f_eq rfl (by decide) c25
        refine lv_bipush (v := (-2)) hx hb dX12_bestAct_26 (by decide) ?_
        have hlit35 : ((-2) : Int32).toInt = -2 := by decide
        rw [hQ]
        exact x_i cx hr ((tm 10), (tm 11), (sm 12)) hP hD hS trivial dX12_bestAct_28
  · have f8 : r2.toInt = 0 := f_eq rfl (by decide) c8
    refine lv_iconst (v := (-1)) hx hb dX12_bestAct_8 (by decide) ?_
    have hlit36 : ((-1) : Int32).toInt = -1 := by decide
    rw [hQ]
    exact x_i cx hr ((tm 10), (tm 11), (sm 12)) hP hD hS trivial dX12_bestAct_9
