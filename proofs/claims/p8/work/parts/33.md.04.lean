theorem fw_X12_week_13 : Cond.fieldLink RX12 13 "StillInAugustModel" "house" "[I" ∈ wsX12_week := by decide +kernel
theorem nd_X12_isWeek : yX12_isWeek.cls = RX12 ∧ yX12_isWeek.cls ≠ "java/lang/invoke/MethodHandle" ∧ yX12_isWeek.cls ≠ "java/lang/invoke/VarHandle" ∧ (parseMethodDescriptor yX12_isWeek.desc).map (fun d => d.parameters.length) = some 1 := by decide +kernel
theorem iw_X12_week_X12 : ∀ w ∈ u_ws RX12 TX12 33, w ∈ wsX12_week := fun _ h => List.mem_cons_of_mem _ (List.mem_append_right _ h)
def J_X12_week (sm : Nat → Nat → Int32) (tm : Nat → Nat → Int64) (p0 : Int32) (p1 : Int32) : Int32 := let y6 := J_X12_isWeek sm tm p0; if y6 = 0 then ((-1) : Int32) else if p1 = 0 then ((sm 2) (((10 : Int32) + p0)).toNatClampNeg) else if p1 = 1 then ((sm 2) (((15 : Int32) + p0)).toNatClampNeg) else ((-2) : Int32)
set_option maxHeartbeats 4000000 in
set_option maxRecDepth 100000 in
theorem c_X12_week (l : Launch) (D : va_G) (k : Nat → ClassId) (b : Nat → Nat) (qm : Nat → Nat) (sm : Nat → Nat → Int32) (tm : Nat → Nat → Int64) (sz : Nat) (p0 : Int32) (p1 : Int32) (h_w0 : 0 ≤ (sm 2 0).toInt ∧ (sm 2 0).toInt ≤ 5) : MetI l D k b yX12_week wsX12_week ({ frames := 2, cells := 0, slots := 0, locals := 46 } : Room) [cell22_ qm sm tm, cell5_ k qm sm, cell13_ k qm sm, cell8_ k qm sm, cell6_ k qm sm, cell14_ k qm sm, cell15_ k qm tm, cell12_ k qm tm, cell18_ k qm tm, cell17_ k qm tm, cell19_ k qm tm, cell21_ k qm tm, cell20_ k qm sm, cell16_ k qm sm, cell11_ k qm sm, cell10_ k qm sm, cell9_ k qm sm, cell7_ k qm sm] sz [.ref (qm 0), .int p0, .int p1] (fun (r : Int32) (u : Unit) => r = J_X12_week sm tm p0 p1) (fun u => [cell22_ qm sm tm, cell5_ k qm sm, cell13_ k qm sm, cell8_ k qm sm, cell6_ k qm sm, cell14_ k qm sm, cell15_ k qm tm, cell12_ k qm tm, cell18_ k qm tm, cell17_ k qm tm, cell19_ k qm tm, cell21_ k qm tm, cell20_ k qm sm, cell16_ k qm sm, cell11_ k qm sm, cell10_ k qm sm, cell9_ k qm sm, cell7_ k qm sm]) := by
  refine g_enter (cc := cX12_week) (maxL := 3) (ret := (some .int)) (by decide) rfl (Nat.le_of_ble_eq_true rfl) ?_
  intro p e s m below meth c A hsz hAe cx hr hP hD hS ls hl
  rw [hAe]
  refine g_q (fun Q hQ => ?_)
  have hx := cx.1.1
  have hb := cx.1.2.1
  have bp0 := i_rng p0
  have bp1 := i_rng p1
  have hl : lv_has ls 3 [(0, .ref (qm 0)), (1, .int p0), (2, .int p1)] := hl
  obtain ⟨H, eH⟩ : ∃ H : Heap, H = s.heap := ⟨_, rfl⟩
  obtain ⟨locs, el⟩ : ∃ L : List Loc, L = [] := ⟨_, rfl⟩
  have hP : va_P D vwCl [cell22_ qm sm tm, cell5_ k qm sm, cell13_ k qm sm, cell8_ k qm sm, cell6_ k qm sm, cell14_ k qm sm, cell15_ k qm tm, cell12_ k qm tm, cell18_ k qm tm, cell17_ k qm tm, cell19_ k qm tm, cell21_ k qm tm, cell20_ k qm sm, cell16_ k qm sm, cell11_ k qm sm, cell10_ k qm sm, cell9_ k qm sm, cell7_ k qm sm] H := by rw [eH]; exact hP
  have hD : va_D A [cell22_ qm sm tm, cell5_ k qm sm, cell13_ k qm sm, cell8_ k qm sm, cell6_ k qm sm, cell14_ k qm sm, cell15_ k qm tm, cell12_ k qm tm, cell18_ k qm tm, cell17_ k qm tm, cell19_ k qm tm, cell21_ k qm tm, cell20_ k qm sm, cell16_ k qm sm, cell11_ k qm sm, cell10_ k qm sm, cell9_ k qm sm, cell7_ k qm sm] := hD
  have hS : va_S A s.heap H locs := by rw [eH, el]; exact hS
  suffices goal : W p l e ({ frames := 2, cells := 0, slots := 0, locals := 46 } : Room) s m ([.ref (qm 0), .int p0, .int p1] : List Value).toArray below meth c H locs 0 0 Q (F0 m 0 ls []) by rw [eH, el] at goal; exact goal
  refine lv_aload_n hx hb dX12_week_0 rfl (lv_at hl 0 rfl) ?_
  refine lv_iload_n hx hb dX12_week_1 rfl (lv_at hl 1 rfl) ?_
  refine g_iF (w1 := fun (_ : Unit) => [cell22_ qm sm tm, cell5_ k qm sm, cell13_ k qm sm, cell8_ k qm sm, cell6_ k qm sm, cell14_ k qm sm, cell15_ k qm tm, cell12_ k qm tm, cell18_ k qm tm, cell17_ k qm tm, cell19_ k qm tm, cell21_ k qm tm, cell20_ k qm sm, cell16_ k qm sm, cell11_ k qm sm, cell10_ k qm sm, cell9_ k qm sm, cell7_ k qm sm]) (g_runVF (ws := [cell22_ qm sm tm, cell5_ k qm sm, cell13_ k qm sm, cell8_ k qm sm, cell6_ k qm sm, cell14_ k qm sm, cell15_ k qm tm, cell12_ k qm tm, cell18_ k qm tm, cell17_ k qm tm, cell19_ k qm tm, cell21_ k qm tm, cell20_ k qm sm, cell16_ k qm sm, cell11_ k qm sm, cell10_ k qm sm, cell9_ k qm sm, cell7_ k qm sm]) (rest := []) cx hP hD hS [.int p0] (c_X12_isWeek l D k b qm sm tm H.size p0 (show 0 ≤ ((sm 2) 0).toInt ∧ ((sm 2) 0).toInt ≤ 5 from by first | decide | omega)) gX12_week_X12_isWeek rfl rfl rfl nd_X12_isWeek ⟨Nat.le_of_ble_eq_true rfl, Nat.le_of_ble_eq_true rfl⟩ (ci := 10) (q0 := 0) rfl rfl rfl hl.1 rfl (Nat.le_of_ble_eq_true rfl) ⟨Nat.zero_le _, Nat.zero_le _⟩ dX12_week_2) cx.2.2.1 hD hS (fun r2 _ H locs hw1 hP hD hS => ?_)
  replace hw1 : (0 ≤ r2.toInt ∧ r2.toInt ≤ 1) ∧ (Imp (r2.toInt = 1) (0 ≤ p0.toInt ∧ p0.toInt ≤ 4)) ∧ (r2 = J_X12_isWeek sm tm p0) := hw1
  obtain ⟨w3, w4, w5⟩ := hw1
  have k7 : r2 = (J_X12_isWeek sm tm p0) := congrArg (fun z => z) w5
  have zr2 : 0 ≤ r2.toInt ∧ r2.toInt ≤ 1 := w3
  refine lv_if_ne (tgt := 10) hx hb dX12_week_5 (by decide) (fun c8 => ?_) (fun c8 => ?_)
  · have f8 : ¬ r2.toInt = 0 := f_ne rfl (by decide) c8
    have k8 : (0 ≤ p0.toInt ∧ p0.toInt ≤ 4) := w4 (by omega)
    refine lv_iload_n hx hb dX12_week_10 rfl (lv_at hl 2 rfl) ?_
    refine lv_if_ne (tgt := 26) hx hb dX12_week_11 (by decide) (fun c9 => ?_) (fun c9 => ?_)
    · have f9 : ¬ p1.toInt = 0 := f_ne rfl (by decide) c9
      refine lv_iload_n hx hb dX12_week_26 rfl (lv_at hl 2 rfl) ?_
      refine lv_iconst (v := 1) hx hb dX12_week_27 (by decide) ?_
      refine lv_icmp_ne (tgt := 43) hx hb dX12_week_28 (by decide) (fun c10 => ?_) (fun c10 => ?_)
      · have f10 : ¬ p1.toInt = 1 := f_ne rfl (by decide) c10
        refine lv_bipush (v := (-2)) hx hb dX12_week_43 (by decide) ?_
        have hlit11 : ((-2) : Int32).toInt = -2 := by decide
        rw [hQ]
        exact x_i cx hr () hP hD hS (show ((-2) : Int32) = J_X12_week sm tm p0 p1 from by subst k7; first | (refine Eq.symm ?_; refine Eq.trans (if_neg c8) ?_; refine Eq.trans (if_neg c9) ?_; refine Eq.trans (if_neg c10) ?_; rfl) | (unfold J_X12_week; try dsimp only; rw [if_neg c8, if_neg c9, if_neg c10])) dX12_week_45
      · have f10 : p1.toInt = 1 := f_eq rfl (by decide) c10
        refine lv_aload_n hx hb dX12_week_31 rfl (lv_at hl 0 rfl) ?_
        refine g_get cx hP iw_X12_week_X12 0 rfl rfl 1 (by decide) rfl fw_X12_week_13 rfl dX12_week_32 ?_
        refine lv_bipush (v := 15) hx hb dX12_week_35 (by decide) ?_
        refine lv_iload_n hx hb dX12_week_37 rfl (lv_at hl 1 rfl) ?_
        refine lv_iadd hx hb dX12_week_38 (lv_topi (fun v12 e12 => ?_))
        have t12 : v12.toInt = 15 + p0.toInt := by rw [e12]; exact i_add (by decide) rfl (by omega) (by omega)
        have hn13 : vp_in v12 26 := f_in (a := v12.toInt) rfl (by omega) (by omega)
        refine va_iald hx hb cx.2.1 hP 2 0 rfl rfl hn13 dX12_week_39 (lv_topi (fun v14 e14 => ?_))
        refine lv_goto (tgt := 45) hx hb dX12_week_40 (by decide) ?_
        rw [hQ]
        exact x_i cx hr () hP hD hS (show v14 = J_X12_week sm tm p0 p1 from by subst k7 e12 e14; first | (refine Eq.symm ?_; refine Eq.trans (if_neg c8) ?_; refine Eq.trans (if_neg c9) ?_; refine Eq.trans (if_pos c10) ?_; rfl) | (unfold J_X12_week; try dsimp only; rw [if_neg c8, if_neg c9, if_pos c10])) dX12_week_45
    · have f9 : p1.toInt = 0 := f_eq rfl (by decide) c9
      refine lv_aload_n hx hb dX12_week_14 rfl (lv_at hl 0 rfl) ?_
      refine g_get cx hP iw_X12_week_X12 0 rfl rfl 1 (by decide) rfl fw_X12_week_13 rfl dX12_week_15 ?_
      refine lv_bipush (v := 10) hx hb dX12_week_18 (by decide) ?_
      refine lv_iload_n hx hb dX12_week_20 rfl (lv_at hl 1 rfl) ?_
      refine lv_iadd hx hb dX12_week_21 (lv_topi (fun v15 e15 => ?_))
      have t15 : v15.toInt = 10 + p0.toInt := by rw [e15]; exact i_add (by decide) rfl (by omega) (by omega)
      have hn16 : vp_in v15 26 := f_in (a := v15.toInt) rfl (by omega) (by omega)
      refine va_iald hx hb cx.2.1 hP 2 0 rfl rfl hn16 dX12_week_22 (lv_topi (fun v17 e17 => ?_))
      refine lv_goto (tgt := 45) hx hb dX12_week_23 (by decide) ?_
      rw [hQ]
      exact x_i cx hr () hP hD hS (show v17 = J_X12_week sm tm p0 p1 from by subst k7 e15 e17; first | (refine Eq.symm ?_; refine Eq.trans (if_neg c8) ?_; refine Eq.trans (if_pos c9) ?_; rfl) | (unfold J_X12_week; try dsimp only; rw [if_neg c8, if_pos c9])) dX12_week_45
  · have f8 : r2.toInt = 0 := f_eq rfl (by decide) c8
    refine lv_iconst (v := (-1)) hx hb dX12_week_8 (by decide) ?_
    have hlit18 : ((-1) : Int32).toInt = -1 := by decide
    rw [hQ]
    exact x_i cx hr () hP hD hS (show ((-1) : Int32) = J_X12_week sm tm p0 p1 from by subst k7; first | (refine Eq.symm ?_; refine Eq.trans (if_pos c8) ?_; rfl) | (unfold J_X12_week; try dsimp only; rw [if_pos c8])) dX12_week_9
