theorem fw_X12_over_13 : Cond.fieldLink RX12 13 "StillInAugustModel" "house" "[I" ∈ wsX12_over := by decide +kernel
theorem iw_X12_over_X12 : ∀ w ∈ u_ws RX12 TX12 33, w ∈ wsX12_over := fun _ h => List.mem_cons_of_mem _ (List.mem_append_right _ h)
def J_X12_over (sm : Nat → Nat → Int32) (tm : Nat → Nat → Int64) (p0 : Int32) (p1 : Int32) (p2 : Int32) (p3 : Int32) : Int32 := (((((p1 / (100 : Int32)) * ((sm 2) (23 : Int32).toNatClampNeg)) + (((p1 / (10 : Int32)) - (p1 / (10 : Int32)) / (10 : Int32) * (10 : Int32)) * ((sm 2) (24 : Int32).toNatClampNeg))) + ((((p1 - p1 / (10 : Int32) * (10 : Int32)) + p2) - ((p3 / (10 : Int32)) - (p3 / (10 : Int32)) / (10 : Int32) * (10 : Int32))) * ((sm 2) (25 : Int32).toNatClampNeg))) - ((sm 2) (((10 : Int32) + p0)).toNatClampNeg))
set_option maxHeartbeats 4000000 in
set_option maxRecDepth 100000 in
theorem c_X12_over (l : Launch) (D : va_G) (k : Nat → ClassId) (b : Nat → Nat) (qm : Nat → Nat) (sm : Nat → Nat → Int32) (tm : Nat → Nat → Int64) (sz : Nat) (p0 : Int32) (p1 : Int32) (p2 : Int32) (p3 : Int32) (hp0 : 0 ≤ p0.toInt ∧ p0.toInt ≤ 4) : MetI l D k b yX12_over wsX12_over ({ frames := 0, cells := 0, slots := 0, locals := 0 } : Room) [cell22_ qm sm tm, cell5_ k qm sm, cell13_ k qm sm, cell8_ k qm sm, cell6_ k qm sm, cell14_ k qm sm, cell15_ k qm tm, cell12_ k qm tm, cell18_ k qm tm, cell17_ k qm tm, cell19_ k qm tm, cell21_ k qm tm, cell20_ k qm sm, cell16_ k qm sm, cell11_ k qm sm, cell10_ k qm sm, cell9_ k qm sm, cell7_ k qm sm] sz [.ref (qm 0), .int p0, .int p1, .int p2, .int p3] (fun (r : Int32) (u : Unit) => r = J_X12_over sm tm p0 p1 p2 p3) (fun u => [cell22_ qm sm tm, cell5_ k qm sm, cell13_ k qm sm, cell8_ k qm sm, cell6_ k qm sm, cell14_ k qm sm, cell15_ k qm tm, cell12_ k qm tm, cell18_ k qm tm, cell17_ k qm tm, cell19_ k qm tm, cell21_ k qm tm, cell20_ k qm sm, cell16_ k qm sm, cell11_ k qm sm, cell10_ k qm sm, cell9_ k qm sm, cell7_ k qm sm]) := by
  refine g_enter (cc := cX12_over) (maxL := 6) (ret := (some .int)) (by decide) rfl (Nat.le_of_ble_eq_true rfl) ?_
  intro p e s m below meth c A hsz hAe cx hr hP hD hS ls hl
  rw [hAe]
  refine g_q (fun Q hQ => ?_)
  have hx := cx.1.1
  have hb := cx.1.2.1
  have bp0 := i_rng p0
  have bp1 := i_rng p1
  have bp2 := i_rng p2
  have bp3 := i_rng p3
  have hl : lv_has ls 6 [(0, .ref (qm 0)), (1, .int p0), (2, .int p1), (3, .int p2), (4, .int p3)] := hl
  obtain ⟨H, eH⟩ : ∃ H : Heap, H = s.heap := ⟨_, rfl⟩
  obtain ⟨locs, el⟩ : ∃ L : List Loc, L = [] := ⟨_, rfl⟩
  have hP : va_P D vwCl [cell22_ qm sm tm, cell5_ k qm sm, cell13_ k qm sm, cell8_ k qm sm, cell6_ k qm sm, cell14_ k qm sm, cell15_ k qm tm, cell12_ k qm tm, cell18_ k qm tm, cell17_ k qm tm, cell19_ k qm tm, cell21_ k qm tm, cell20_ k qm sm, cell16_ k qm sm, cell11_ k qm sm, cell10_ k qm sm, cell9_ k qm sm, cell7_ k qm sm] H := by rw [eH]; exact hP
  have hD : va_D A [cell22_ qm sm tm, cell5_ k qm sm, cell13_ k qm sm, cell8_ k qm sm, cell6_ k qm sm, cell14_ k qm sm, cell15_ k qm tm, cell12_ k qm tm, cell18_ k qm tm, cell17_ k qm tm, cell19_ k qm tm, cell21_ k qm tm, cell20_ k qm sm, cell16_ k qm sm, cell11_ k qm sm, cell10_ k qm sm, cell9_ k qm sm, cell7_ k qm sm] := hD
  have hS : va_S A s.heap H locs := by rw [eH, el]; exact hS
  suffices goal : W p l e ({ frames := 0, cells := 0, slots := 0, locals := 0 } : Room) s m ([.ref (qm 0), .int p0, .int p1, .int p2, .int p3] : List Value).toArray below meth c H locs 0 0 Q (F0 m 0 ls []) by rw [eH, el] at goal; exact goal
  refine lv_iload_n hx hb dX12_over_0 rfl (lv_at hl 2 rfl) ?_
  refine lv_bipush (v := 10) hx hb dX12_over_1 (by decide) ?_
  refine lv_irem hx hb dX12_over_3 (by decide) (lv_topi (fun v1 e1 => ?_))
  have t1 : -10 < v1.toInt ∧ v1.toInt < 10 := by rw [e1]; exact i_remb (by decide) (by decide)
  refine lv_iload_n hx hb dX12_over_4 rfl (lv_at hl 3 rfl) ?_
  refine lv_iadd hx hb dX12_over_5 (lv_topi (fun v2 e2 => ?_))
  refine lv_iload hx hb dX12_over_6 (lv_at hl 4 rfl) ?_
  refine lv_bipush (v := 10) hx hb dX12_over_8 (by decide) ?_
  refine lv_idiv hx hb dX12_over_10 (by decide) (lv_topi (fun v3 e3 => ?_))
  refine lv_bipush (v := 10) hx hb dX12_over_11 (by decide) ?_
  refine lv_irem hx hb dX12_over_13 (by decide) (lv_topi (fun v4 e4 => ?_))
  have t4 : -10 < v4.toInt ∧ v4.toInt < 10 := by rw [e4]; exact i_remb (by decide) (by decide)
  refine lv_isub hx hb dX12_over_14 (lv_topi (fun v5 e5 => ?_))
  refine lv_istore (lv' := [(5, .int v5), (0, .ref (qm 0)), (1, .int p0), (2, .int p1), (3, .int p2), (4, .int p3)]) hx hb dX12_over_15 hl (by decide) rfl (fun ls hl => ?_)
  refine lv_iload_n hx hb dX12_over_17 rfl (lv_at hl 3 rfl) ?_
  refine lv_bipush (v := 100) hx hb dX12_over_18 (by decide) ?_
  refine lv_idiv hx hb dX12_over_20 (by decide) (lv_topi (fun v6 e6 => ?_))
  refine lv_aload_n hx hb dX12_over_21 rfl (lv_at hl 1 rfl) ?_
  refine g_get cx hP iw_X12_over_X12 0 rfl rfl 1 (by decide) rfl fw_X12_over_13 rfl dX12_over_22 ?_
  refine lv_bipush (v := 23) hx hb dX12_over_25 (by decide) ?_
  have hn7 : vp_in 23 26 := f_in (a := 23) (by decide) (by omega) (by omega)
  refine va_iald hx hb cx.2.1 hP 2 0 rfl rfl hn7 dX12_over_27 (lv_topi (fun v8 e8 => ?_))
  have uv8 : v8.toInt = ((sm 2) 23).toInt := congrArg Int32.toInt e8
  refine lv_imul hx hb dX12_over_28 (lv_topi (fun v9 e9 => ?_))
  refine lv_iload_n hx hb dX12_over_29 rfl (lv_at hl 3 rfl) ?_
  refine lv_bipush (v := 10) hx hb dX12_over_30 (by decide) ?_
  refine lv_idiv hx hb dX12_over_32 (by decide) (lv_topi (fun v10 e10 => ?_))
  refine lv_bipush (v := 10) hx hb dX12_over_33 (by decide) ?_
  refine lv_irem hx hb dX12_over_35 (by decide) (lv_topi (fun v11 e11 => ?_))
  have t11 : -10 < v11.toInt ∧ v11.toInt < 10 := by rw [e11]; exact i_remb (by decide) (by decide)
  refine lv_aload_n hx hb dX12_over_36 rfl (lv_at hl 1 rfl) ?_
  refine g_get cx hP iw_X12_over_X12 0 rfl rfl 1 (by decide) rfl fw_X12_over_13 rfl dX12_over_37 ?_
  refine lv_bipush (v := 24) hx hb dX12_over_40 (by decide) ?_
  have hn12 : vp_in 24 26 := f_in (a := 24) (by decide) (by omega) (by omega)
  refine va_iald hx hb cx.2.1 hP 2 0 rfl rfl hn12 dX12_over_42 (lv_topi (fun v13 e13 => ?_))
  have uv13 : v13.toInt = ((sm 2) 24).toInt := congrArg Int32.toInt e13
  refine lv_imul hx hb dX12_over_43 (lv_topi (fun v14 e14 => ?_))
  refine lv_iadd hx hb dX12_over_44 (lv_topi (fun v15 e15 => ?_))
  refine lv_iload hx hb dX12_over_45 (lv_at hl 0 rfl) ?_
  refine lv_aload_n hx hb dX12_over_47 rfl (lv_at hl 1 rfl) ?_
  refine g_get cx hP iw_X12_over_X12 0 rfl rfl 1 (by decide) rfl fw_X12_over_13 rfl dX12_over_48 ?_
  refine lv_bipush (v := 25) hx hb dX12_over_51 (by decide) ?_
  have hn16 : vp_in 25 26 := f_in (a := 25) (by decide) (by omega) (by omega)
  refine va_iald hx hb cx.2.1 hP 2 0 rfl rfl hn16 dX12_over_53 (lv_topi (fun v17 e17 => ?_))
  have uv17 : v17.toInt = ((sm 2) 25).toInt := congrArg Int32.toInt e17
  refine lv_imul hx hb dX12_over_54 (lv_topi (fun v18 e18 => ?_))
  refine lv_iadd hx hb dX12_over_55 (lv_topi (fun v19 e19 => ?_))
  refine lv_aload_n hx hb dX12_over_56 rfl (lv_at hl 1 rfl) ?_
  refine g_get cx hP iw_X12_over_X12 0 rfl rfl 1 (by decide) rfl fw_X12_over_13 rfl dX12_over_57 ?_
  refine lv_bipush (v := 10) hx hb dX12_over_60 (by decide) ?_
  refine lv_iload_n hx hb dX12_over_62 rfl (lv_at hl 2 rfl) ?_
  refine lv_iadd hx hb dX12_over_63 (lv_topi (fun v20 e20 => ?_))
  have t20 : v20.toInt = 10 + p0.toInt := by rw [e20]; exact i_add (by decide) rfl (by omega) (by omega)
  have hn21 : vp_in v20 26 := f_in (a := v20.toInt) rfl (by omega) (by omega)
  refine va_iald hx hb cx.2.1 hP 2 0 rfl rfl hn21 dX12_over_64 (lv_topi (fun v22 e22 => ?_))
  refine lv_isub hx hb dX12_over_65 (lv_topi (fun v23 e23 => ?_))
  rw [hQ]
  exact x_i cx hr () hP hD hS (show v23 = J_X12_over sm tm p0 p1 p2 p3 from by subst e1 e2 e3 e4 e5 e6 e8 e9 e10 e11 e13 e14 e15 e17 e18 e19 e20 e22 e23; rfl) dX12_over_66
