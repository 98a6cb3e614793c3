theorem fw_X4_lack_21 : Cond.fieldLink RX4 21 "StillInAugust$House" "does" "[I" ∈ wsX4_lack := by decide +kernel
theorem fw_X4_lack_9 : Cond.fieldLink RX4 9 "StillInAugust$House" "wants" "[I" ∈ wsX4_lack := by decide +kernel
theorem iw_X4_lack_X4 : ∀ w ∈ u_ws RX4 TX4 14, w ∈ wsX4_lack := fun _ h => List.mem_cons_of_mem _ (List.mem_append_right _ h)
def J_X4_lack (sh : Nat → Nat → Int32) (p0 : Int32) (p1 : Int32) (p2 : Int32) (p3 : Int32) : Int32 := (((((sh 1) (p0).toNatClampNeg) - (((sh 4) (0 : Int32).toNatClampNeg) * (p1 / (100 : Int32)))) - (((sh 4) (1 : Int32).toNatClampNeg) * ((p1 / (10 : Int32)) - (p1 / (10 : Int32)) / (10 : Int32) * (10 : Int32)))) - (((sh 4) (2 : Int32).toNatClampNeg) * (((p1 - p1 / (10 : Int32) * (10 : Int32)) + p2) - p3)))
set_option maxHeartbeats 4000000 in
set_option maxRecDepth 100000 in
theorem c_X4_lack (l : Launch) (D : va_G) (k : Nat → ClassId) (b : Nat → Nat) (qh : Nat → Nat) (sh : Nat → Nat → Int32) (sz : Nat) (p0 : Int32) (p1 : Int32) (p2 : Int32) (p3 : Int32) (hp0 : 0 ≤ p0.toInt ∧ p0.toInt ≤ 4) : MetI l D k b yX4_lack wsX4_lack ({ frames := 0, cells := 0, slots := 0, locals := 0 } : Room) [cell32_ qh sh, cell0_ k qh sh, cell1_ k qh sh, cell4_ k qh sh, cell3_ k qh sh, cell2_ k qh sh] sz [.ref (qh 0), .int p0, .int p1, .int p2, .int p3] (fun (r : Int32) (u : Unit) => r = J_X4_lack sh p0 p1 p2 p3) (fun u => [cell32_ qh sh, cell0_ k qh sh, cell1_ k qh sh, cell4_ k qh sh, cell3_ k qh sh, cell2_ k qh sh]) := by
  refine g_enter (cc := cX4_lack) (maxL := 6) (ret := (some .int)) (by decide) rfl (Nat.le_of_ble_eq_true rfl) ?_
  intro p e s m below meth c A hsz hAe cx hr hP hD hS ls hl
  rw [hAe]
  refine g_q (fun Q hQ => ?_)
  have hx := cx.1.1
  have hb := cx.1.2.1
  have bp0 := i_rng p0
  have bp1 := i_rng p1
  have bp2 := i_rng p2
  have bp3 := i_rng p3
  have hl : lv_has ls 6 [(0, .ref (qh 0)), (1, .int p0), (2, .int p1), (3, .int p2), (4, .int p3)] := hl
  obtain ⟨H, eH⟩ : ∃ H : Heap, H = s.heap := ⟨_, rfl⟩
  obtain ⟨locs, el⟩ : ∃ L : List Loc, L = [] := ⟨_, rfl⟩
  have hP : va_P D vwCl [cell32_ qh sh, cell0_ k qh sh, cell1_ k qh sh, cell4_ k qh sh, cell3_ k qh sh, cell2_ k qh sh] H := by rw [eH]; exact hP
  have hD : va_D A [cell32_ qh sh, cell0_ k qh sh, cell1_ k qh sh, cell4_ k qh sh, cell3_ k qh sh, cell2_ k qh sh] := hD
  have hS : va_S A s.heap H locs := by rw [eH, el]; exact hS
  suffices goal : W p l e ({ frames := 0, cells := 0, slots := 0, locals := 0 } : Room) s m ([.ref (qh 0), .int p0, .int p1, .int p2, .int p3] : List Value).toArray below meth c H locs 0 0 Q (F0 m 0 ls []) by rw [eH, el] at goal; exact goal
  refine lv_iload_n hx hb dX4_lack_0 rfl (lv_at hl 2 rfl) ?_
  refine lv_bipush (v := 10) hx hb dX4_lack_1 (by decide) ?_
  refine lv_irem hx hb dX4_lack_3 (by decide) (lv_topi (fun v1 e1 => ?_))
  have t1 : -10 < v1.toInt ∧ v1.toInt < 10 := by rw [e1]; exact i_remb (by decide) (by decide)
  refine lv_iload_n hx hb dX4_lack_4 rfl (lv_at hl 3 rfl) ?_
  refine lv_iadd hx hb dX4_lack_5 (lv_topi (fun v2 e2 => ?_))
  refine lv_iload hx hb dX4_lack_6 (lv_at hl 4 rfl) ?_
  refine lv_isub hx hb dX4_lack_8 (lv_topi (fun v3 e3 => ?_))
  refine lv_istore (lv' := [(5, .int v3), (0, .ref (qh 0)), (1, .int p0), (2, .int p1), (3, .int p2), (4, .int p3)]) hx hb dX4_lack_9 hl (by decide) rfl (fun ls hl => ?_)
  refine lv_aload_n hx hb dX4_lack_11 rfl (lv_at hl 1 rfl) ?_
  refine g_get cx hP iw_X4_lack_X4 0 rfl rfl 2 (by decide) rfl fw_X4_lack_9 rfl dX4_lack_12 ?_
  refine lv_iload_n hx hb dX4_lack_15 rfl (lv_at hl 2 rfl) ?_
  have hn4 : vp_in p0 5 := f_in (a := p0.toInt) rfl (by omega) (by omega)
  refine va_iald hx hb cx.2.1 hP 1 0 rfl rfl hn4 dX4_lack_16 (lv_topi (fun v5 e5 => ?_))
  refine lv_aload_n hx hb dX4_lack_17 rfl (lv_at hl 1 rfl) ?_
  refine g_get cx hP iw_X4_lack_X4 0 rfl rfl 5 (by decide) rfl fw_X4_lack_21 rfl dX4_lack_18 ?_
  refine lv_iconst (v := 0) hx hb dX4_lack_21 (by decide) ?_
  have hn6 : vp_in 0 3 := f_in (a := 0) (by decide) (by omega) (by omega)
  refine va_iald hx hb cx.2.1 hP 4 0 rfl rfl hn6 dX4_lack_22 (lv_topi (fun v7 e7 => ?_))
  have uv7 : v7.toInt = ((sh 4) 0).toInt := congrArg Int32.toInt e7
  refine lv_iload_n hx hb dX4_lack_23 rfl (lv_at hl 3 rfl) ?_
  refine lv_bipush (v := 100) hx hb dX4_lack_24 (by decide) ?_
  refine lv_idiv hx hb dX4_lack_26 (by decide) (lv_topi (fun v8 e8 => ?_))
  refine lv_imul hx hb dX4_lack_27 (lv_topi (fun v9 e9 => ?_))
  refine lv_isub hx hb dX4_lack_28 (lv_topi (fun v10 e10 => ?_))
  refine lv_aload_n hx hb dX4_lack_29 rfl (lv_at hl 1 rfl) ?_
  refine g_get cx hP iw_X4_lack_X4 0 rfl rfl 5 (by decide) rfl fw_X4_lack_21 rfl dX4_lack_30 ?_
  refine lv_iconst (v := 1) hx hb dX4_lack_33 (by decide) ?_
  have hn11 : vp_in 1 3 := f_in (a := 1) (by decide) (by omega) (by omega)
  refine va_iald hx hb cx.2.1 hP 4 0 rfl rfl hn11 dX4_lack_34 (lv_topi (fun v12 e12 => ?_))
  have uv12 : v12.toInt = ((sh 4) 1).toInt := congrArg Int32.toInt e12
  refine lv_iload_n hx hb dX4_lack_35 rfl (lv_at hl 3 rfl) ?_
  refine lv_bipush (v := 10) hx hb dX4_lack_36 (by decide) ?_
  refine lv_idiv hx hb dX4_lack_38 (by decide) (lv_topi (fun v13 e13 => ?_))
  refine lv_bipush (v := 10) hx hb dX4_lack_39 (by decide) ?_
  refine lv_irem hx hb dX4_lack_41 (by decide) (lv_topi (fun v14 e14 => ?_))
  have t14 : -10 < v14.toInt ∧ v14.toInt < 10 := by rw [e14]; exact i_remb (by decide) (by decide)
  refine lv_imul hx hb dX4_lack_42 (lv_topi (fun v15 e15 => ?_))
  refine lv_isub hx hb dX4_lack_43 (lv_topi (fun v16 e16 => ?_))
  refine lv_aload_n hx hb dX4_lack_44 rfl (lv_at hl 1 rfl) ?_
  refine g_get cx hP iw_X4_lack_X4 0 rfl rfl 5 (by decide) rfl fw_X4_lack_21 rfl dX4_lack_45 ?_
  refine lv_iconst (v := 2) hx hb dX4_lack_48 (by decide) ?_
  have hn17 : vp_in 2 3 := f_in (a := 2) (by decide) (by omega) (by omega)
  refine va_iald hx hb cx.2.1 hP 4 0 rfl rfl hn17 dX4_lack_49 (lv_topi (fun v18 e18 => ?_))
  have uv18 : v18.toInt = ((sh 4) 2).toInt := congrArg Int32.toInt e18
  refine lv_iload hx hb dX4_lack_50 (lv_at hl 0 rfl) ?_
  refine lv_imul hx hb dX4_lack_52 (lv_topi (fun v19 e19 => ?_))
  refine lv_isub hx hb dX4_lack_53 (lv_topi (fun v20 e20 => ?_))
  rw [hQ]
  exact x_i cx hr () hP hD hS (show v20 = J_X4_lack sh p0 p1 p2 p3 from by subst e1 e2 e3 e5 e7 e8 e9 e10 e12 e13 e14 e15 e16 e18 e19 e20; rfl) dX4_lack_54
