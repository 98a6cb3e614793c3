theorem fw_X12_ruleAct_13 : Cond.fieldLink RX12 13 "StillInAugustModel" "house" "[I" ∈ wsX12_ruleAct := by decide +kernel
theorem fw_X12_ruleAct_19 : Cond.fieldLink RX12 19 "StillInAugustModel" "levels" "[I" ∈ wsX12_ruleAct := by decide +kernel
theorem iw_X12_ruleAct_X12 : ∀ w ∈ u_ws RX12 TX12 33, w ∈ wsX12_ruleAct := fun _ h => List.mem_cons_of_mem _ (List.mem_append_right _ h)
def J_X12_ruleAct (sm : Nat → Nat → Int32) (tm : Nat → Nat → Int64) (p0 : Int32) (p1 : Int32) (p2 : Int32) : Int32 := if ((sm 2) (((15 : Int32) + p1)).toNatClampNeg) ≤ (((sm 4) ((((5 : Int32) * p0) + p1)).toNatClampNeg) - (J_X12_all p2)) then if (((sm 2) (1 : Int32).toNatClampNeg) - (J_X12_all p2)) ≤ ((sm 2) (((15 : Int32) + p1)).toNatClampNeg) then if (((sm 2) (1 : Int32).toNatClampNeg) - (J_X12_all p2)) ≤ 0 then (0 : Int32) else ((100 : Int32) * (((sm 2) (1 : Int32).toNatClampNeg) - (J_X12_all p2))) else if ((sm 2) (((15 : Int32) + p1)).toNatClampNeg) ≤ 0 then (0 : Int32) else ((100 : Int32) * ((sm 2) (((15 : Int32) + p1)).toNatClampNeg)) else if (((sm 2) (1 : Int32).toNatClampNeg) - (J_X12_all p2)) ≤ (((sm 4) ((((5 : Int32) * p0) + p1)).toNatClampNeg) - (J_X12_all p2)) then if (((sm 2) (1 : Int32).toNatClampNeg) - (J_X12_all p2)) ≤ 0 then (0 : Int32) else ((100 : Int32) * (((sm 2) (1 : Int32).toNatClampNeg) - (J_X12_all p2))) else if (((sm 4) ((((5 : Int32) * p0) + p1)).toNatClampNeg) - (J_X12_all p2)) ≤ 0 then (0 : Int32) else ((100 : Int32) * (((sm 4) ((((5 : Int32) * p0) + p1)).toNatClampNeg) - (J_X12_all p2)))
set_option maxHeartbeats 4000000 in
set_option maxRecDepth 100000 in
theorem c_X12_ruleAct (l : Launch) (D : va_G) (k : Nat → ClassId) (b : Nat → Nat) (qm : Nat → Nat) (sm : Nat → Nat → Int32) (tm : Nat → Nat → Int64) (sz : Nat) (p0 : Int32) (p1 : Int32) (p2 : Int32) (hp0 : 0 ≤ p0.toInt ∧ p0.toInt ≤ 2) (hp1 : 0 ≤ p1.toInt ∧ p1.toInt ≤ 4) : MetI l D k b yX12_ruleAct wsX12_ruleAct ({ frames := 1, cells := 0, slots := 0, locals := 20 } : Room) [cell22_ qm sm tm, cell5_ k qm sm, cell13_ k qm sm, cell8_ k qm sm, cell6_ k qm sm, cell14_ k qm sm, cell15_ k qm tm, cell12_ k qm tm, cell18_ k qm tm, cell17_ k qm tm, cell19_ k qm tm, cell21_ k qm tm, cell20_ k qm sm, cell16_ k qm sm, cell11_ k qm sm, cell10_ k qm sm, cell9_ k qm sm, cell7_ k qm sm] sz [.ref (qm 0), .int p0, .int p1, .int p2] (fun (r : Int32) (u : Unit) => r = J_X12_ruleAct sm tm p0 p1 p2) (fun u => [cell22_ qm sm tm, cell5_ k qm sm, cell13_ k qm sm, cell8_ k qm sm, cell6_ k qm sm, cell14_ k qm sm, cell15_ k qm tm, cell12_ k qm tm, cell18_ k qm tm, cell17_ k qm tm, cell19_ k qm tm, cell21_ k qm tm, cell20_ k qm sm, cell16_ k qm sm, cell11_ k qm sm, cell10_ k qm sm, cell9_ k qm sm, cell7_ k qm sm]) := by
  refine g_enter (cc := cX12_ruleAct) (maxL := 7) (ret := (some .int)) (by decide) rfl (Nat.le_of_ble_eq_true rfl) ?_
  intro p e s m below meth c A hsz hAe cx hr hP hD hS ls hl
  rw [hAe]
  refine g_q (fun Q hQ => ?_)
  have hx := cx.1.1
  have hb := cx.1.2.1
  have bp0 := i_rng p0
  have bp1 := i_rng p1
  have bp2 := i_rng p2
  have hl : lv_has ls 7 [(0, .ref (qm 0)), (1, .int p0), (2, .int p1), (3, .int p2)] := hl
  obtain ⟨H, eH⟩ : ∃ H : Heap, H = s.heap := ⟨_, rfl⟩
  obtain ⟨locs, el⟩ : ∃ L : List Loc, L = [] := ⟨_, rfl⟩
  have hP : va_P D vwCl [cell22_ qm sm tm, cell5_ k qm sm, cell13_ k qm sm, cell8_ k qm sm, cell6_ k qm sm, cell14_ k qm sm, cell15_ k qm tm, cell12_ k qm tm, cell18_ k qm tm, cell17_ k qm tm, cell19_ k qm tm, cell21_ k qm tm, cell20_ k qm sm, cell16_ k qm sm, cell11_ k qm sm, cell10_ k qm sm, cell9_ k qm sm, cell7_ k qm sm] H := by rw [eH]; exact hP
  have hD : va_D A [cell22_ qm sm tm, cell5_ k qm sm, cell13_ k qm sm, cell8_ k qm sm, cell6_ k qm sm, cell14_ k qm sm, cell15_ k qm tm, cell12_ k qm tm, cell18_ k qm tm, cell17_ k qm tm, cell19_ k qm tm, cell21_ k qm tm, cell20_ k qm sm, cell16_ k qm sm, cell11_ k qm sm, cell10_ k qm sm, cell9_ k qm sm, cell7_ k qm sm] := hD
  have hS : va_S A s.heap H locs := by rw [eH, el]; exact hS
  suffices goal : W p l e ({ frames := 1, cells := 0, slots := 0, locals := 20 } : Room) s m ([.ref (qm 0), .int p0, .int p1, .int p2] : List Value).toArray below meth c H locs 0 0 Q (F0 m 0 ls []) by rw [eH, el] at goal; exact goal
  refine lv_aload_n hx hb dX12_ruleAct_0 rfl (lv_at hl 0 rfl) ?_
  refine g_get cx hP iw_X12_ruleAct_X12 0 rfl rfl 11 (by decide) rfl fw_X12_ruleAct_19 rfl dX12_ruleAct_1 ?_
  refine lv_iconst (v := 5) hx hb dX12_ruleAct_4 (by decide) ?_
  refine lv_iload_n hx hb dX12_ruleAct_5 rfl (lv_at hl 1 rfl) ?_
  refine lv_imul hx hb dX12_ruleAct_6 (lv_topi (fun v1 e1 => ?_))
  have t1 : v1.toInt = 5 * p0.toInt := by rw [e1]; exact i_mul (by decide) rfl (by omega) (by omega)
  refine lv_iload_n hx hb dX12_ruleAct_7 rfl (lv_at hl 2 rfl) ?_
  refine lv_iadd hx hb dX12_ruleAct_8 (lv_topi (fun v2 e2 => ?_))
  have t2 : v2.toInt = v1.toInt + p1.toInt := by rw [e2]; exact i_add rfl rfl (by omega) (by omega)
  have hn3 : vp_in v2 15 := f_in (a := v2.toInt) rfl (by omega) (by omega)
  refine va_iald hx hb cx.2.1 hP 4 0 rfl rfl hn3 dX12_ruleAct_9 (lv_topi (fun v4 e4 => ?_))
  refine lv_iload_n hx hb dX12_ruleAct_10 rfl (lv_at hl 3 rfl) ?_
  refine g_ir (g_runS (wc := []) (rest := [.int v4]) cx hP hD hS [] rfl (by decide) [.int p2] (c_X12_all l D k b H.size p2) gX12_ruleAct_X12_all rfl rfl rfl nd_X12_all ⟨Nat.le_of_ble_eq_true rfl, Nat.le_of_ble_eq_true rfl⟩ rfl hl.1 rfl (Nat.le_of_ble_eq_true rfl) ⟨Nat.zero_le _, Nat.zero_le _⟩ dX12_ruleAct_11) cx.2.2.1 hP hD hS [] rfl rfl (fun r6 H locs hw5 hP hS => ?_)
  have w7 : r6 = J_X12_all p2 := hw5
  clear hw5
  refine lv_isub hx hb dX12_ruleAct_14 (lv_topi (fun v8 e8 => ?_))
  refine lv_istore (lv' := [(4, .int v8), (0, .ref (qm 0)), (1, .int p0), (2, .int p1), (3, .int p2)]) hx hb dX12_ruleAct_15 hl (by decide) rfl (fun ls hl => ?_)
  refine lv_aload_n hx hb dX12_ruleAct_17 rfl (lv_at hl 1 rfl) ?_
  refine g_get cx hP iw_X12_ruleAct_X12 0 rfl rfl 1 (by decide) rfl fw_X12_ruleAct_13 rfl dX12_ruleAct_18 ?_
  refine lv_iconst (v := 1) hx hb dX12_ruleAct_21 (by decide) ?_
  have hn9 : vp_in 1 26 := f_in (a := 1) (by decide) (by omega) (by omega)
  refine va_iald hx hb cx.2.1 hP 2 0 rfl rfl hn9 dX12_ruleAct_22 (lv_topi (fun v10 e10 => ?_))
  have uv10 : v10.toInt = ((sm 2) 1).toInt := congrArg Int32.toInt e10
  refine lv_iload_n hx hb dX12_ruleAct_23 rfl (lv_at hl 4 rfl) ?_
  refine g_ir (g_runS (wc := []) (rest := [.int v10]) cx hP hD hS [] rfl (by decide) [.int p2] (c_X12_all l D k b H.size p2) gX12_ruleAct_X12_all rfl rfl rfl nd_X12_all ⟨Nat.le_of_ble_eq_true rfl, Nat.le_of_ble_eq_true rfl⟩ rfl hl.1 rfl (Nat.le_of_ble_eq_true rfl) ⟨Nat.zero_le _, Nat.zero_le _⟩ dX12_ruleAct_24) cx.2.2.1 hP hD hS [] rfl rfl (fun r12 H locs hw11 hP hS => ?_)
  have w13 : r12 = J_X12_all p2 := hw11
  clear hw11
  refine lv_isub hx hb dX12_ruleAct_27 (lv_topi (fun v14 e14 => ?_))
  refine lv_istore (lv' := [(5, .int v14), (4, .int v8), (0, .ref (qm 0)), (1, .int p0), (2, .int p1), (3, .int p2)]) hx hb dX12_ruleAct_28 hl (by decide) rfl (fun ls hl => ?_)
  refine lv_iload hx hb dX12_ruleAct_30 (lv_at hl 1 rfl) ?_
  refine lv_aload_n hx hb dX12_ruleAct_32 rfl (lv_at hl 2 rfl) ?_
  refine g_get cx hP iw_X12_ruleAct_X12 0 rfl rfl 1 (by decide) rfl fw_X12_ruleAct_13 rfl dX12_ruleAct_33 ?_
  refine lv_bipush (v := 15) hx hb dX12_ruleAct_36 (by decide) ?_
  refine lv_iload_n hx hb dX12_ruleAct_38 rfl (lv_at hl 4 rfl) ?_
  refine lv_iadd hx hb dX12_ruleAct_39 (lv_topi (fun v15 e15 => ?_))
  have t15 : v15.toInt = 15 + p1.toInt := by rw [e15]; exact i_add (by decide) rfl (by omega) (by omega)
  have hn16 : vp_in v15 26 := f_in (a := v15.toInt) rfl (by omega) (by omega)
  refine va_iald hx hb cx.2.1 hP 2 0 rfl rfl hn16 dX12_ruleAct_40 (lv_topi (fun v17 e17 => ?_))
  refine lv_icmp_ge (tgt := 49) hx hb dX12_ruleAct_41 (by decide) (fun c18 => ?_) (fun c18 => ?_)
  · have f18 : v17.toInt ≤ v8.toInt := f_le rfl rfl c18
    refine lv_aload_n hx hb dX12_ruleAct_49 rfl (lv_at hl 2 rfl) ?_
    refine g_get cx hP iw_X12_ruleAct_X12 0 rfl rfl 1 (by decide) rfl fw_X12_ruleAct_13 rfl dX12_ruleAct_50 ?_
    refine lv_bipush (v := 15) hx hb dX12_ruleAct_53 (by decide) ?_
    refine lv_iload_n hx hb dX12_ruleAct_55 rfl (lv_at hl 4 rfl) ?_
    refine lv_iadd hx hb dX12_ruleAct_56 (lv_topi (fun v19 e19 => ?_))
    have t19 : v19.toInt = 15 + p1.toInt := by rw [e19]; exact i_add (by decide) rfl (by omega) (by omega)
    have hn20 : vp_in v19 26 := f_in (a := v19.toInt) rfl (by omega) (by omega)
    refine va_iald hx hb cx.2.1 hP 2 0 rfl rfl hn20 dX12_ruleAct_57 (lv_topi (fun v21 e21 => ?_))
    refine lv_istore (lv' := [(6, .int v21), (5, .int v14), (4, .int v8), (0, .ref (qm 0)), (1, .int p0), (2, .int p1), (3, .int p2)]) hx hb dX12_ruleAct_58 hl (by decide) rfl (fun ls hl => ?_)
    refine lv_iload hx hb dX12_ruleAct_60 (lv_at hl 0 rfl) ?_
    refine lv_iload hx hb dX12_ruleAct_62 (lv_at hl 1 rfl) ?_
    refine lv_icmp_ge (tgt := 72) hx hb dX12_ruleAct_64 (by decide) (fun c22 => ?_) (fun c22 => ?_)
    · have f22 : v14.toInt ≤ v21.toInt := f_le rfl rfl c22
      refine lv_iload hx hb dX12_ruleAct_72 (lv_at hl 1 rfl) ?_
      refine lv_istore (lv' := [(6, .int v14), (5, .int v14), (4, .int v8), (0, .ref (qm 0)), (1, .int p0), (2, .int p1), (3, .int p2)]) hx hb dX12_ruleAct_74 hl (by decide) rfl (fun ls hl => ?_)
      refine lv_iload hx hb dX12_ruleAct_76 (lv_at hl 0 rfl) ?_
      refine lv_if_le (tgt := 89) hx hb dX12_ruleAct_78 (by decide) (fun c23 => ?_) (fun c23 => ?_)
      · have f23 : v14.toInt ≤ 0 := f_le rfl (by decide) c23
        refine lv_iconst (v := 0) hx hb dX12_ruleAct_89 (by decide) ?_
        have hlit24 : (0 : Int32).toInt = 0 := by decide
        rw [hQ]
        exact x_i cx hr () hP hD hS (show (0 : Int32) = J_X12_ruleAct sm tm p0 p1 p2 from by subst e1 e2 e4 w7 e8 e10 w13 e14 e15 e17 e19 e21; first | (refine Eq.symm ?_; refine Eq.trans (if_pos c18) ?_; refine Eq.trans (if_pos c22) ?_; refine Eq.trans (if_pos c23) ?_; rfl) | (unfold J_X12_ruleAct; try dsimp only; rw [if_pos c18, if_pos c22, if_pos c23])) dX12_ruleAct_90
      · have f23 : 0 < v14.toInt := f_nle rfl (by decide) c23
        refine lv_bipush (v := 100) hx hb dX12_ruleAct_81 (by decide) ?_
        refine lv_iload hx hb dX12_ruleAct_83 (lv_at hl 0 rfl) ?_
        refine lv_imul hx hb dX12_ruleAct_85 (lv_topi (fun v25 e25 => ?_))
        refine lv_goto (tgt := 90) hx hb dX12_ruleAct_86 (by decide) ?_
        rw [hQ]
        exact x_i cx hr () hP hD hS (show v25 = J_X12_ruleAct sm tm p0 p1 p2 from by subst e1 e2 e4 w7 e8 e10 w13 e14 e15 e17 e19 e21 e25; first | (refine Eq.symm ?_; refine Eq.trans (if_pos c18) ?_; refine Eq.trans (if_pos c22) ?_; refine Eq.trans (if_neg c23) ?_; rfl) | (unfold J_X12_ruleAct; try dsimp only; rw [if_pos c18, if_pos c22, if_neg c23])) dX12_ruleAct_90
    · have f22 : v21.toInt < v14.toInt := f_nle rfl rfl c22
      refine lv_iload hx hb dX12_ruleAct_67 (lv_at hl 0 rfl) ?_
      refine lv_goto (tgt := 74) hx hb dX12_ruleAct_69 (by decide) ?_
      refine lv_istore (lv' := [(6, .int v21), (5, .int v14), (4, .int v8), (0, .ref (qm 0)), (1, .int p0), (2, .int p1), (3, .int p2)]) hx hb dX12_ruleAct_74 hl (by decide) rfl (fun ls hl => ?_)
      refine lv_iload hx hb dX12_ruleAct_76 (lv_at hl 0 rfl) ?_
      refine lv_if_le (tgt := 89) hx hb dX12_ruleAct_78 (by decide) (fun c26 => ?_) (fun c26 => ?_)
      · have f26 : v21.toInt ≤ 0 := f_le rfl (by decide) c26
        refine lv_iconst (v := 0) hx hb dX12_ruleAct_89 (by decide) ?_
        have hlit27 : (0 : Int32).toInt = 0 := by decide
        rw [hQ]
        exact x_i cx hr () hP hD hS (show (0 : Int32) = J_X12_ruleAct sm tm p0 p1 p2 from by subst e1 e2 e4 w7 e8 e10 w13 e14 e15 e17 e19 e21; first | (refine Eq.symm ?_; refine Eq.trans (if_pos c18) ?_; refine Eq.trans (if_neg c22) ?_; refine Eq.trans (if_pos c26) ?_; rfl) | (unfold J_X12_ruleAct; try dsimp only; rw [if_pos c18, if_neg c22, if_pos c26])) dX12_ruleAct_90
      · have f26 : 0 < v21.toInt := f_nle rfl (by decide) c26
        refine lv_bipush (v := 100) hx hb dX12_ruleAct_81 (by decide) ?_
        refine lv_iload hx hb dX12_ruleAct_83 (lv_at hl 0 rfl) ?_
        refine lv_imul hx hb dX12_ruleAct_85 (lv_topi (fun v28 e28 => ?_))
        refine lv_goto (tgt := 90) hx hb dX12_ruleAct_86 (by decide) ?_
        rw [hQ]
        exact x_i cx hr () hP hD hS (show v28 = J_X12_ruleAct sm tm p0 p1 p2 from by subst e1 e2 e4 w7 e8 e10 w13 e14 e15 e17 e19 e21 e28; first | (refine Eq.symm ?_; refine Eq.trans (if_pos c18) ?_; refine Eq.trans (if_neg c22) ?_; refine Eq.trans (if_neg c26) ?_; rfl) | (unfold J_X12_ruleAct; try dsimp only; rw [if_pos c18, if_neg c22, if_neg c26])) dX12_ruleAct_90
  · have f18 : v8.toInt < v17.toInt := f_nle rfl rfl c18
    refine lv_iload hx hb dX12_ruleAct_44 (lv_at hl 1 rfl) ?_
    refine lv_goto (tgt := 58) hx hb dX12_ruleAct_46 (by decide) ?_
    refine lv_istore (lv' := [(6, .int v8), (5, .int v14), (4, .int v8), (0, .ref (qm 0)), (1, .int p0), (2, .int p1), (3, .int p2)]) hx hb dX12_ruleAct_58 hl (by decide) rfl (fun ls hl => ?_)
    refine lv_iload hx hb dX12_ruleAct_60 (lv_at hl 0 rfl) ?_
    refine lv_iload hx hb dX12_ruleAct_62 (lv_at hl 1 rfl) ?_
    refine lv_icmp_ge (tgt := 72) hx hb dX12_ruleAct_64 (by decide) (fun c29 => ?_) (fun c29 => ?_)
    · have f29 : v14.toInt ≤ v8.toInt := f_le rfl rfl c29
      refine lv_iload hx hb dX12_ruleAct_72 (lv_at hl 1 rfl) ?_
      refine lv_istore (lv' := [(6, .int v14), (5, .int v14), (4, .int v8), (0, .ref (qm 0)), (1, .int p0), (2, .int p1), (3, .int p2)]) hx hb dX12_ruleAct_74 hl (by decide) rfl (fun ls hl => ?_)
      refine lv_iload hx hb dX12_ruleAct_76 (lv_at hl 0 rfl) ?_
      refine lv_if_le (tgt := 89) hx hb dX12_ruleAct_78 (by decide) (fun c30 => ?_) (fun c30 => ?_)
      · have f30 : v14.toInt ≤ 0 := f_le rfl (by decide) c30
        refine lv_iconst (v := 0) hx hb dX12_ruleAct_89 (by decide) ?_
        have hlit31 : (0 : Int32).toInt = 0 := by decide
        rw [hQ]
        exact x_i cx hr () hP hD hS (show (0 : Int32) = J_X12_ruleAct sm tm p0 p1 p2 from by subst e1 e2 e4 w7 e8 e10 w13 e14 e15 e17; first | (refine Eq.symm ?_; refine Eq.trans (if_neg c18) ?_; refine Eq.trans (if_pos c29) ?_; refine Eq.trans (if_pos c30) ?_; rfl) | (unfold J_X12_ruleAct; try dsimp only; rw [if_neg c18, if_pos c29, if_pos c30])) dX12_ruleAct_90
      · have f30 : 0 < v14.toInt := f_nle rfl (by decide) c30
        refine lv_bipush (v := 100) hx hb dX12_ruleAct_81 (by decide) ?_
        refine lv_iload hx hb dX12_ruleAct_83 (lv_at hl 0 rfl) ?_
        refine lv_imul hx hb dX12_ruleAct_85 (lv_topi (fun v32 e32 => ?_))
        refine lv_goto (tgt := 90) hx hb dX12_ruleAct_86 (by decide) ?_
        rw [hQ]
        exact x_i cx hr () hP hD hS (show v32 = J_X12_ruleAct sm tm p0 p1 p2 from by subst e1 e2 e4 w7 e8 e10 w13 e14 e15 e17 e32; first | (refine Eq.symm ?_; refine Eq.trans (if_neg c18) ?_; refine Eq.trans (if_pos c29) ?_; refine Eq.trans (if_neg c30) ?_; rfl) | (unfold J_X12_ruleAct; try dsimp only; rw [if_neg c18, if_pos c29, if_neg c30])) dX12_ruleAct_90
    · have f29 : v8.toInt < v14.toInt := f_nle rfl rfl c29
      refine lv_iload hx hb dX12_ruleAct_67 (lv_at hl 0 rfl) ?_
      refine lv_goto (tgt := 74) hx hb dX12_ruleAct_69 (by decide) ?_
      refine lv_istore (lv' := [(6, .int v8), (5, .int v14), (4, .int v8), (0, .ref (qm 0)), (1, .int p0), (2, .int p1), (3, .int p2)]) hx hb dX12_ruleAct_74 hl (by decide) rfl (fun ls hl => ?_)
      refine lv_iload hx hb dX12_ruleAct_76 (lv_at hl 0 rfl) ?_
      refine lv_if_le (tgt := 89) hx hb dX12_ruleAct_78 (by decide) (fun c33 => ?_) (fun c33 => ?_)
      · have f33 : v8.toInt ≤ 0 := f_le rfl (by decide) c33
        refine lv_iconst (v := 0) hx hb dX12_ruleAct_89 (by decide) ?_
        have hlit34 : (0 : Int32).toInt = 0 := by decide
        rw [hQ]
        exact x_i cx hr () hP hD hS (show (0 : Int32) = J_X12_ruleAct sm tm p0 p1 p2 from by subst e1 e2 e4 w7 e8 e10 w13 e14 e15 e17; first | (refine Eq.symm ?_; refine Eq.trans (if_neg c18) ?_; refine Eq.trans (if_neg c29) ?_; refine Eq.trans (if_pos c33) ?_; rfl) | (unfold J_X12_ruleAct; try dsimp only; rw [if_neg c18, if_neg c29, if_pos c33])) dX12_ruleAct_90
      · have f33 : 0 < v8.toInt := f_nle rfl (by decide) c33
        refine lv_bipush (v := 100) hx hb dX12_ruleAct_81 (by decide) ?_
        refine lv_iload hx hb dX12_ruleAct_83 (lv_at hl 0 rfl) ?_
        refine lv_imul hx hb dX12_ruleAct_85 (lv_topi (fun v35 e35 => ?_))
        refine lv_goto (tgt := 90) hx hb dX12_ruleAct_86 (by decide) ?_
        rw [hQ]
        exact x_i cx hr () hP hD hS (show v35 = J_X12_ruleAct sm tm p0 p1 p2 from by subst e1 e2 e4 w7 e8 e10 w13 e14 e15 e17 e35; first | (refine Eq.symm ?_; refine Eq.trans (if_neg c18) ?_; refine Eq.trans (if_neg c29) ?_; refine Eq.trans (if_neg c33) ?_; rfl) | (unfold J_X12_ruleAct; try dsimp only; rw [if_neg c18, if_neg c29, if_neg c33])) dX12_ruleAct_90
