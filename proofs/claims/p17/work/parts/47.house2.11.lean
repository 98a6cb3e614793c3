theorem mw_X4_weekCost_maxL97 : Cond.methodLink RX4 97 Lib.Math.max.name ∈ wsX4_weekCost := by decide +kernel
theorem mw_X4_weekCost_maxS : Cond.static Lib.Math.max.name ∈ wsX4_weekCost := by decide +kernel
theorem mw_X4_weekCost_maxI : Cond.initialized "java/lang/Math" ∈ wsX4_weekCost := by decide +kernel
theorem mw_X4_weekCost_maxC : Cond.code Lib.Math.max.name Lib.Math.max.code 2 (some .int) ∈ wsX4_weekCost := by decide +kernel
theorem fw_X4_weekCost_45 : Cond.fieldLink RX4 45 "StillInAugust$House" "pay" "I" ∈ wsX4_weekCost := by decide +kernel
theorem fw_X4_weekCost_48 : Cond.fieldLink RX4 48 "StillInAugust$House" "shortPrice" "I" ∈ wsX4_weekCost := by decide +kernel
theorem fw_X4_weekCost_51 : Cond.fieldLink RX4 51 "StillInAugust$House" "letGoPrice" "I" ∈ wsX4_weekCost := by decide +kernel
theorem fw_X4_weekCost_54 : Cond.fieldLink RX4 54 "StillInAugust$House" "teachPrice" "I" ∈ wsX4_weekCost := by decide +kernel
theorem fw_X4_weekCost_57 : Cond.fieldLink RX4 57 "StillInAugust$House" "agencyPrice" "I" ∈ wsX4_weekCost := by decide +kernel
theorem nd_X4_lack : yX4_lack.cls = RX4 ∧ yX4_lack.cls ≠ "java/lang/invoke/MethodHandle" ∧ yX4_lack.cls ≠ "java/lang/invoke/VarHandle" ∧ (parseMethodDescriptor yX4_lack.desc).map (fun d => d.parameters.length) = some 4 := by decide +kernel
theorem iw_X4_weekCost_X4 : ∀ w ∈ u_ws RX4 TX4 14, w ∈ wsX4_weekCost := fun _ h => List.mem_cons_of_mem _ (List.mem_append_right _ h)
def J_X4_weekCost (sh : Nat → Nat → Int32) (p0 : Int32) (p1 : Int32) (p2 : Int32) (p3 : Int32) : Int32 := let y11 := J_X4_lack sh p0 p1 p2 (J_X0_taught p3); if (sh 0 8) = (-9) then if (sh 0 9) = (-9) then if (sh 0 10) = (-9) then (((sh 0 6) * (J_X3_total p1)) + ((sh 0 7) * (if 0 < y11 then y11 else 0))) else ((((sh 0 6) * (J_X3_total p1)) + ((sh 0 7) * (if 0 < y11 then y11 else 0))) + ((sh 0 10) * p2)) else if (sh 0 10) = (-9) then ((((sh 0 6) * (J_X3_total p1)) + ((sh 0 7) * (if 0 < y11 then y11 else 0))) + ((sh 0 9) * (J_X0_taught p3))) else (((((sh 0 6) * (J_X3_total p1)) + ((sh 0 7) * (if 0 < y11 then y11 else 0))) + ((sh 0 9) * (J_X0_taught p3))) + ((sh 0 10) * p2)) else if (sh 0 9) = (-9) then if (sh 0 10) = (-9) then ((((sh 0 6) * (J_X3_total p1)) + ((sh 0 7) * (if 0 < y11 then y11 else 0))) + ((sh 0 8) * (J_X0_letGo p3))) else (((((sh 0 6) * (J_X3_total p1)) + ((sh 0 7) * (if 0 < y11 then y11 else 0))) + ((sh 0 8) * (J_X0_letGo p3))) + ((sh 0 10) * p2)) else if (sh 0 10) = (-9) then (((((sh 0 6) * (J_X3_total p1)) + ((sh 0 7) * (if 0 < y11 then y11 else 0))) + ((sh 0 8) * (J_X0_letGo p3))) + ((sh 0 9) * (J_X0_taught p3))) else ((((((sh 0 6) * (J_X3_total p1)) + ((sh 0 7) * (if 0 < y11 then y11 else 0))) + ((sh 0 8) * (J_X0_letGo p3))) + ((sh 0 9) * (J_X0_taught p3))) + ((sh 0 10) * p2))
set_option maxHeartbeats 4000000 in
set_option maxRecDepth 100000 in
theorem c_X4_weekCost (l : Launch) (D : va_G) (k : Nat → ClassId) (b : Nat → Nat) (qh : Nat → Nat) (sh : Nat → Nat → Int32) (sz : Nat) (p0 : Int32) (p1 : Int32) (p2 : Int32) (p3 : Int32) (hp0 : 0 ≤ p0.toInt ∧ p0.toInt ≤ 4) : MetI l D k b yX4_weekCost wsX4_weekCost ({ frames := 1, cells := 0, slots := 0, locals := 25 } : Room) [cell32_ qh sh, cell0_ k qh sh, cell1_ k qh sh, cell4_ k qh sh, cell3_ k qh sh, cell2_ k qh sh] sz [.ref (qh 0), .int p0, .int p1, .int p2, .int p3] (fun (r : Int32) (u : Unit) => r = J_X4_weekCost sh p0 p1 p2 p3) (fun u => [cell32_ qh sh, cell0_ k qh sh, cell1_ k qh sh, cell4_ k qh sh, cell3_ k qh sh, cell2_ k qh sh]) := by
  refine g_enter (cc := cX4_weekCost) (maxL := 7) (ret := (some .int)) (by decide) rfl (Nat.le_of_ble_eq_true rfl) ?_
  intro p e s m below meth c A hsz hAe cx hr hP hD hS ls hl
  rw [hAe]
  refine g_q (fun Q hQ => ?_)
  have hx := cx.1.1
  have hb := cx.1.2.1
  have bp0 := i_rng p0
  have bp1 := i_rng p1
  have bp2 := i_rng p2
  have bp3 := i_rng p3
  have hl : lv_has ls 7 [(0, .ref (qh 0)), (1, .int p0), (2, .int p1), (3, .int p2), (4, .int p3)] := hl
  obtain ⟨H, eH⟩ : ∃ H : Heap, H = s.heap := ⟨_, rfl⟩
  obtain ⟨locs, el⟩ : ∃ L : List Loc, L = [] := ⟨_, rfl⟩
  have hP : va_P D vwCl [cell32_ qh sh, cell0_ k qh sh, cell1_ k qh sh, cell4_ k qh sh, cell3_ k qh sh, cell2_ k qh sh] H := by rw [eH]; exact hP
  have hD : va_D A [cell32_ qh sh, cell0_ k qh sh, cell1_ k qh sh, cell4_ k qh sh, cell3_ k qh sh, cell2_ k qh sh] := hD
  have hS : va_S A s.heap H locs := by rw [eH, el]; exact hS
  suffices goal : W p l e ({ frames := 1, cells := 0, slots := 0, locals := 25 } : Room) s m ([.ref (qh 0), .int p0, .int p1, .int p2, .int p3] : List Value).toArray below meth c H locs 0 0 Q (F0 m 0 ls []) by rw [eH, el] at goal; exact goal
  refine lv_iload hx hb dX4_weekCost_0 (lv_at hl 4 rfl) ?_
  refine g_ir (g_runS (wc := []) (rest := []) cx hP hD hS [] rfl (by decide) [.int p3] (c_X0_taught l D k b H.size p3) gX4_weekCost_X0_taught rfl rfl rfl nd_X0_taught ⟨Nat.le_of_ble_eq_true rfl, Nat.le_of_ble_eq_true rfl⟩ rfl hl.1 rfl (Nat.le_of_ble_eq_true rfl) ⟨Nat.zero_le _, Nat.zero_le _⟩ dX4_weekCost_2) cx.2.2.1 hP hD hS [] rfl rfl (fun r2 H locs hw1 hP hS => ?_)
  have w3 : r2 = J_X0_taught p3 := hw1
  clear hw1
  refine lv_istore (lv' := [(5, .int r2), (0, .ref (qh 0)), (1, .int p0), (2, .int p1), (3, .int p2), (4, .int p3)]) hx hb dX4_weekCost_5 hl (by decide) rfl (fun ls hl => ?_)
  refine lv_aload_n hx hb dX4_weekCost_7 rfl (lv_at hl 1 rfl) ?_
  refine g_get cx hP iw_X4_weekCost_X4 0 rfl rfl 6 (by decide) rfl fw_X4_weekCost_45 rfl dX4_weekCost_8 ?_
  refine lv_iload_n hx hb dX4_weekCost_11 rfl (lv_at hl 3 rfl) ?_
  refine g_ir (g_runS (wc := []) (rest := [.int (sh 0 6)]) cx hP hD hS [] rfl (by decide) [.int p1] (c_X3_total l D k b H.size p1) gX4_weekCost_X3_total rfl rfl rfl nd_X3_total ⟨Nat.le_of_ble_eq_true rfl, Nat.le_of_ble_eq_true rfl⟩ rfl hl.1 rfl (Nat.le_of_ble_eq_true rfl) ⟨Nat.zero_le _, Nat.zero_le _⟩ dX4_weekCost_12) cx.2.2.1 hP hD hS [] rfl rfl (fun r5 H locs hw4 hP hS => ?_)
  have w6 : r5 = J_X3_total p1 := hw4
  clear hw4
  refine lv_imul hx hb dX4_weekCost_15 (lv_topi (fun v7 e7 => ?_))
  refine lv_aload_n hx hb dX4_weekCost_16 rfl (lv_at hl 1 rfl) ?_
  refine g_get cx hP iw_X4_weekCost_X4 0 rfl rfl 7 (by decide) rfl fw_X4_weekCost_48 rfl dX4_weekCost_17 ?_
  refine lv_iconst (v := 0) hx hb dX4_weekCost_20 (by decide) ?_
  refine lv_aload_n hx hb dX4_weekCost_21 rfl (lv_at hl 1 rfl) ?_
  refine lv_iload_n hx hb dX4_weekCost_22 rfl (lv_at hl 2 rfl) ?_
  refine lv_iload_n hx hb dX4_weekCost_23 rfl (lv_at hl 3 rfl) ?_
  refine lv_iload_n hx hb dX4_weekCost_24 rfl (lv_at hl 4 rfl) ?_
  refine lv_iload hx hb dX4_weekCost_25 (lv_at hl 0 rfl) ?_
  refine g_iF (w1 := fun (_ : Unit) => [cell32_ qh sh, cell0_ k qh sh, cell1_ k qh sh, cell4_ k qh sh, cell3_ k qh sh, cell2_ k qh sh]) (g_runVF (ws := [cell32_ qh sh, cell0_ k qh sh, cell1_ k qh sh, cell4_ k qh sh, cell3_ k qh sh, cell2_ k qh sh]) (rest := [.int 0, .int (sh 0 7), .int v7]) cx hP hD hS [.int p0, .int p1, .int p2, .int r2] (c_X4_lack l D k b qh sh H.size p0 p1 p2 r2 (show 0 ≤ p0.toInt ∧ p0.toInt ≤ 4 from by first | decide | omega)) gX4_weekCost_X4_lack rfl rfl rfl nd_X4_lack ⟨Nat.le_of_ble_eq_true rfl, Nat.le_of_ble_eq_true rfl⟩ (ci := 2) (q0 := 0) rfl rfl rfl hl.1 rfl (Nat.le_of_ble_eq_true rfl) ⟨Nat.zero_le _, Nat.zero_le _⟩ dX4_weekCost_27) cx.2.2.1 hD hS (fun r9 _ H locs hw8 hP hD hS => ?_)
  have w10 : r9 = J_X4_lack sh p0 p1 p2 r2 := hw8
  clear hw8
  have k12 : r9 = (J_X4_lack sh p0 p1 p2 r2) := congrArg (fun z => z) w10
  have rzr9 := i_rng r9
  refine va_mmax hx hb (cx.1.2.2.1.trans hl.1.symm) cx.1.2.2.2.1 (cx.1.2.2.2.2 _ mw_X4_weekCost_maxL97) (cx.1.2.2.2.2 _ mw_X4_weekCost_maxS) (cx.1.2.2.2.2 _ mw_X4_weekCost_maxI) (cx.1.2.2.2.2 _ mw_X4_weekCost_maxC) (Nat.le_of_ble_eq_true rfl) (Nat.le_of_ble_eq_true rfl) (Nat.zero_le _) (Nat.zero_le _) dX4_weekCost_30 (lv_topi (fun v13 e13 => ?_))
  have t13 := i_max (by decide) rfl (a := 0) (b := r9.toInt) e13
  refine lv_imul hx hb dX4_weekCost_33 (lv_topi (fun v14 e14 => ?_))
  refine lv_iadd hx hb dX4_weekCost_34 (lv_topi (fun v15 e15 => ?_))
  refine lv_istore (lv' := [(6, .int v15), (5, .int r2), (0, .ref (qh 0)), (1, .int p0), (2, .int p1), (3, .int p2), (4, .int p3)]) hx hb dX4_weekCost_35 hl (by decide) rfl (fun ls hl => ?_)
  refine lv_aload_n hx hb dX4_weekCost_37 rfl (lv_at hl 2 rfl) ?_
  refine g_get cx hP iw_X4_weekCost_X4 0 rfl rfl 8 (by decide) rfl fw_X4_weekCost_51 rfl dX4_weekCost_38 ?_
  refine lv_bipush (v := (-9)) hx hb dX4_weekCost_41 (by decide) ?_
  refine lv_icmp_eq (tgt := 61) hx hb dX4_weekCost_43 (by decide) (fun c16 => ?_) (fun c16 => ?_)
  · have f16 : (sh 0 8).toInt = (-9) := f_eq rfl (by decide) c16
    refine lv_aload_n hx hb dX4_weekCost_61 rfl (lv_at hl 2 rfl) ?_
    refine g_get cx hP iw_X4_weekCost_X4 0 rfl rfl 9 (by decide) rfl fw_X4_weekCost_54 rfl dX4_weekCost_62 ?_
    refine lv_bipush (v := (-9)) hx hb dX4_weekCost_65 (by decide) ?_
    refine lv_icmp_eq (tgt := 82) hx hb dX4_weekCost_67 (by decide) (fun c17 => ?_) (fun c17 => ?_)
    · have f17 : (sh 0 9).toInt = (-9) := f_eq rfl (by decide) c17
      refine lv_aload_n hx hb dX4_weekCost_82 rfl (lv_at hl 2 rfl) ?_
      refine g_get cx hP iw_X4_weekCost_X4 0 rfl rfl 10 (by decide) rfl fw_X4_weekCost_57 rfl dX4_weekCost_83 ?_
      refine lv_bipush (v := (-9)) hx hb dX4_weekCost_86 (by decide) ?_
      refine lv_icmp_eq (tgt := 102) hx hb dX4_weekCost_88 (by decide) (fun c18 => ?_) (fun c18 => ?_)
      · have f18 : (sh 0 10).toInt = (-9) := f_eq rfl (by decide) c18
        refine lv_iload hx hb dX4_weekCost_102 (lv_at hl 0 rfl) ?_
        rw [hQ]
        exact x_i cx hr () hP hD hS (show v15 = J_X4_weekCost sh p0 p1 p2 p3 from by subst w3 w6 e7 k12 e13 e14 e15; first | (refine Eq.symm ?_; refine Eq.trans (if_pos c16) ?_; refine Eq.trans (if_pos c17) ?_; refine Eq.trans (if_pos c18) ?_; rfl) | (unfold J_X4_weekCost; try dsimp only; rw [if_pos c16, if_pos c17, if_pos c18])) dX4_weekCost_104
      · have f18 : ¬ (sh 0 10).toInt = (-9) := f_ne rfl (by decide) c18
        refine lv_iload hx hb dX4_weekCost_91 (lv_at hl 0 rfl) ?_
        refine lv_aload_n hx hb dX4_weekCost_93 rfl (lv_at hl 2 rfl) ?_
        refine g_get cx hP iw_X4_weekCost_X4 0 rfl rfl 10 (by decide) rfl fw_X4_weekCost_57 rfl dX4_weekCost_94 ?_
        refine lv_iload_n hx hb dX4_weekCost_97 rfl (lv_at hl 5 rfl) ?_
        refine lv_imul hx hb dX4_weekCost_98 (lv_topi (fun v19 e19 => ?_))
        refine lv_iadd hx hb dX4_weekCost_99 (lv_topi (fun v20 e20 => ?_))
        refine lv_istore (lv' := [(6, .int v20), (5, .int r2), (0, .ref (qh 0)), (1, .int p0), (2, .int p1), (3, .int p2), (4, .int p3)]) hx hb dX4_weekCost_100 hl (by decide) rfl (fun ls hl => ?_)
        refine lv_iload hx hb dX4_weekCost_102 (lv_at hl 0 rfl) ?_
        rw [hQ]
        exact x_i cx hr () hP hD hS (show v20 = J_X4_weekCost sh p0 p1 p2 p3 from by subst w3 w6 e7 k12 e13 e14 e15 e19 e20; first | (refine Eq.symm ?_; refine Eq.trans (if_pos c16) ?_; refine Eq.trans (if_pos c17) ?_; refine Eq.trans (if_neg c18) ?_; rfl) | (unfold J_X4_weekCost; try dsimp only; rw [if_pos c16, if_pos c17, if_neg c18])) dX4_weekCost_104
    · have f17 : ¬ (sh 0 9).toInt = (-9) := f_ne rfl (by decide) c17
      refine lv_iload hx hb dX4_weekCost_70 (lv_at hl 0 rfl) ?_
      refine lv_aload_n hx hb dX4_weekCost_72 rfl (lv_at hl 2 rfl) ?_
      refine g_get cx hP iw_X4_weekCost_X4 0 rfl rfl 9 (by decide) rfl fw_X4_weekCost_54 rfl dX4_weekCost_73 ?_
      refine lv_iload hx hb dX4_weekCost_76 (lv_at hl 1 rfl) ?_
      refine lv_imul hx hb dX4_weekCost_78 (lv_topi (fun v21 e21 => ?_))
      refine lv_iadd hx hb dX4_weekCost_79 (lv_topi (fun v22 e22 => ?_))
      refine lv_istore (lv' := [(6, .int v22), (5, .int r2), (0, .ref (qh 0)), (1, .int p0), (2, .int p1), (3, .int p2), (4, .int p3)]) hx hb dX4_weekCost_80 hl (by decide) rfl (fun ls hl => ?_)
      refine lv_aload_n hx hb dX4_weekCost_82 rfl (lv_at hl 2 rfl) ?_
      refine g_get cx hP iw_X4_weekCost_X4 0 rfl rfl 10 (by decide) rfl fw_X4_weekCost_57 rfl dX4_weekCost_83 ?_
      refine lv_bipush (v := (-9)) hx hb dX4_weekCost_86 (by decide) ?_
      refine lv_icmp_eq (tgt := 102) hx hb dX4_weekCost_88 (by decide) (fun c23 => ?_) (fun c23 => ?_)
      · have f23 : (sh 0 10).toInt = (-9) := f_eq rfl (by decide) c23
        refine lv_iload hx hb dX4_weekCost_102 (lv_at hl 0 rfl) ?_
        rw [hQ]
        exact x_i cx hr () hP hD hS (show v22 = J_X4_weekCost sh p0 p1 p2 p3 from by subst w3 w6 e7 k12 e13 e14 e15 e21 e22; first | (refine Eq.symm ?_; refine Eq.trans (if_pos c16) ?_; refine Eq.trans (if_neg c17) ?_; refine Eq.trans (if_pos c23) ?_; rfl) | (unfold J_X4_weekCost; try dsimp only; rw [if_pos c16, if_neg c17, if_pos c23])) dX4_weekCost_104
      · have f23 : ¬ (sh 0 10).toInt = (-9) := f_ne rfl (by decide) c23
        refine lv_iload hx hb dX4_weekCost_91 (lv_at hl 0 rfl) ?_
        refine lv_aload_n hx hb dX4_weekCost_93 rfl (lv_at hl 2 rfl) ?_
        refine g_get cx hP iw_X4_weekCost_X4 0 rfl rfl 10 (by decide) rfl fw_X4_weekCost_57 rfl dX4_weekCost_94 ?_
        refine lv_iload_n hx hb dX4_weekCost_97 rfl (lv_at hl 5 rfl) ?_
        refine lv_imul hx hb dX4_weekCost_98 (lv_topi (fun v24 e24 => ?_))
        refine lv_iadd hx hb dX4_weekCost_99 (lv_topi (fun v25 e25 => ?_))
        refine lv_istore (lv' := [(6, .int v25), (5, .int r2), (0, .ref (qh 0)), (1, .int p0), (2, .int p1), (3, .int p2), (4, .int p3)]) hx hb dX4_weekCost_100 hl (by decide) rfl (fun ls hl => ?_)
        refine lv_iload hx hb dX4_weekCost_102 (lv_at hl 0 rfl) ?_
        rw [hQ]
        exact x_i cx hr () hP hD hS (show v25 = J_X4_weekCost sh p0 p1 p2 p3 from by subst w3 w6 e7 k12 e13 e14 e15 e21 e22 e24 e25; first | (refine Eq.symm ?_; refine Eq.trans (if_pos c16) ?_; refine Eq.trans (if_neg c17) ?_; refine Eq.trans (if_neg c23) ?_; rfl) | (unfold J_X4_weekCost; try dsimp only; rw [if_pos c16, if_neg c17, if_neg c23])) dX4_weekCost_104
  · have f16 : ¬ (sh 0 8).toInt = (-9) := f_ne rfl (by decide) c16
    refine lv_iload hx hb dX4_weekCost_46 (lv_at hl 0 rfl) ?_
    refine lv_aload_n hx hb dX4_weekCost_48 rfl (lv_at hl 2 rfl) ?_
    refine g_get cx hP iw_X4_weekCost_X4 0 rfl rfl 8 (by decide) rfl fw_X4_weekCost_51 rfl dX4_weekCost_49 ?_
    refine lv_iload hx hb dX4_weekCost_52 (lv_at hl 6 rfl) ?_
    refine g_ir (g_runS (wc := []) (rest := [.int (sh 0 8), .int v15]) cx hP hD hS [] rfl (by decide) [.int p3] (c_X0_letGo l D k b H.size p3) gX4_weekCost_X0_letGo rfl rfl rfl nd_X0_letGo ⟨Nat.le_of_ble_eq_true rfl, Nat.le_of_ble_eq_true rfl⟩ rfl hl.1 rfl (Nat.le_of_ble_eq_true rfl) ⟨Nat.zero_le _, Nat.zero_le _⟩ dX4_weekCost_54) cx.2.2.1 hP hD hS [] rfl rfl (fun r27 H locs hw26 hP hS => ?_)
    have w28 : r27 = J_X0_letGo p3 := hw26
    clear hw26
    refine lv_imul hx hb dX4_weekCost_57 (lv_topi (fun v29 e29 => ?_))
    refine lv_iadd hx hb dX4_weekCost_58 (lv_topi (fun v30 e30 => ?_))
    refine lv_istore (lv' := [(6, .int v30), (5, .int r2), (0, .ref (qh 0)), (1, .int p0), (2, .int p1), (3, .int p2), (4, .int p3)]) hx hb dX4_weekCost_59 hl (by decide) rfl (fun ls hl => ?_)
    refine lv_aload_n hx hb dX4_weekCost_61 rfl (lv_at hl 2 rfl) ?_
    refine g_get cx hP iw_X4_weekCost_X4 0 rfl rfl 9 (by decide) rfl fw_X4_weekCost_54 rfl dX4_weekCost_62 ?_
    refine lv_bipush (v := (-9)) hx hb dX4_weekCost_65 (by decide) ?_
    refine lv_icmp_eq (tgt := 82) hx hb dX4_weekCost_67 (by decide) (fun c31 => ?_) (fun c31 => ?_)
    · have f31 : (sh 0 9).toInt = (-9) := f_eq rfl (by decide) c31
      refine lv_aload_n hx hb dX4_weekCost_82 rfl (lv_at hl 2 rfl) ?_
      refine g_get cx hP iw_X4_weekCost_X4 0 rfl rfl 10 (by decide) rfl fw_X4_weekCost_57 rfl dX4_weekCost_83 ?_
      refine lv_bipush (v := (-9)) hx hb dX4_weekCost_86 (by decide) ?_
      refine lv_icmp_eq (tgt := 102) hx hb dX4_weekCost_88 (by decide) (fun c32 => ?_) (fun c32 => ?_)
      · have f32 : (sh 0 10).toInt = (-9) := f_eq rfl (by decide) c32
        refine lv_iload hx hb dX4_weekCost_102 (lv_at hl 0 rfl) ?_
        rw [hQ]
        exact x_i cx hr () hP hD hS (show v30 = J_X4_weekCost sh p0 p1 p2 p3 from by subst w3 w6 e7 k12 e13 e14 e15 w28 e29 e30; first | (refine Eq.symm ?_; refine Eq.trans (if_neg c16) ?_; refine Eq.trans (if_pos c31) ?_; refine Eq.trans (if_pos c32) ?_; rfl) | (unfold J_X4_weekCost; try dsimp only; rw [if_neg c16, if_pos c31, if_pos c32])) dX4_weekCost_104
      · have f32 : ¬ (sh 0 10).toInt = (-9) := f_ne rfl (by decide) c32
        refine lv_iload hx hb dX4_weekCost_91 (lv_at hl 0 rfl) ?_
        refine lv_aload_n hx hb dX4_weekCost_93 rfl (lv_at hl 2 rfl) ?_
        refine g_get cx hP iw_X4_weekCost_X4 0 rfl rfl 10 (by decide) rfl fw_X4_weekCost_57 rfl dX4_weekCost_94 ?_
        refine lv_iload_n hx hb dX4_weekCost_97 rfl (lv_at hl 5 rfl) ?_
        refine lv_imul hx hb dX4_weekCost_98 (lv_topi (fun v33 e33 => ?_))
        refine lv_iadd hx hb dX4_weekCost_99 (lv_topi (fun v34 e34 => ?_))
        refine lv_istore (lv' := [(6, .int v34), (5, .int r2), (0, .ref (qh 0)), (1, .int p0), (2, .int p1), (3, .int p2), (4, .int p3)]) hx hb dX4_weekCost_100 hl (by decide) rfl (fun ls hl => ?_)
        refine lv_iload hx hb dX4_weekCost_102 (lv_at hl 0 rfl) ?_
        rw [hQ]
        exact x_i cx hr () hP hD hS (show v34 = J_X4_weekCost sh p0 p1 p2 p3 from by subst w3 w6 e7 k12 e13 e14 e15 w28 e29 e30 e33 e34; first | (refine Eq.symm ?_; refine Eq.trans (if_neg c16) ?_; refine Eq.trans (if_pos c31) ?_; refine Eq.trans (if_neg c32) ?_; rfl) | (unfold J_X4_weekCost; try dsimp only; rw [if_neg c16, if_pos c31, if_neg c32])) dX4_weekCost_104
    · have f31 : ¬ (sh 0 9).toInt = (-9) := f_ne rfl (by decide) c31
      refine lv_iload hx hb dX4_weekCost_70 (lv_at hl 0 rfl) ?_
      refine lv_aload_n hx hb dX4_weekCost_72 rfl (lv_at hl 2 rfl) ?_
      refine g_get cx hP iw_X4_weekCost_X4 0 rfl rfl 9 (by decide) rfl fw_X4_weekCost_54 rfl dX4_weekCost_73 ?_
      refine lv_iload hx hb dX4_weekCost_76 (lv_at hl 1 rfl) ?_
      refine lv_imul hx hb dX4_weekCost_78 (lv_topi (fun v35 e35 => ?_))
      refine lv_iadd hx hb dX4_weekCost_79 (lv_topi (fun v36 e36 => ?_))
      refine lv_istore (lv' := [(6, .int v36), (5, .int r2), (0, .ref (qh 0)), (1, .int p0), (2, .int p1), (3, .int p2), (4, .int p3)]) hx hb dX4_weekCost_80 hl (by decide) rfl (fun ls hl => ?_)
      refine lv_aload_n hx hb dX4_weekCost_82 rfl (lv_at hl 2 rfl) ?_
      refine g_get cx hP iw_X4_weekCost_X4 0 rfl rfl 10 (by decide) rfl fw_X4_weekCost_57 rfl dX4_weekCost_83 ?_
      refine lv_bipush (v := (-9)) hx hb dX4_weekCost_86 (by decide) ?_
      refine lv_icmp_eq (tgt := 102) hx hb dX4_weekCost_88 (by decide) (fun c37 => ?_) (fun c37 => ?_)
      · have f37 : (sh 0 10).toInt = (-9) := f_eq rfl (by decide) c37
        refine lv_iload hx hb dX4_weekCost_102 (lv_at hl 0 rfl) ?_
        rw [hQ]
        exact x_i cx hr () hP hD hS (show v36 = J_X4_weekCost sh p0 p1 p2 p3 from by subst w3 w6 e7 k12 e13 e14 e15 w28 e29 e30 e35 e36; first | (refine Eq.symm ?_; refine Eq.trans (if_neg c16) ?_; refine Eq.trans (if_neg c31) ?_; refine Eq.trans (if_pos c37) ?_; rfl) | (unfold J_X4_weekCost; try dsimp only; rw [if_neg c16, if_neg c31, if_pos c37])) dX4_weekCost_104
      · have f37 : ¬ (sh 0 10).toInt = (-9) := f_ne rfl (by decide) c37
        refine lv_iload hx hb dX4_weekCost_91 (lv_at hl 0 rfl) ?_
        refine lv_aload_n hx hb dX4_weekCost_93 rfl (lv_at hl 2 rfl) ?_
        refine g_get cx hP iw_X4_weekCost_X4 0 rfl rfl 10 (by decide) rfl fw_X4_weekCost_57 rfl dX4_weekCost_94 ?_
        refine lv_iload_n hx hb dX4_weekCost_97 rfl (lv_at hl 5 rfl) ?_
        refine lv_imul hx hb dX4_weekCost_98 (lv_topi (fun v38 e38 => ?_))
        refine lv_iadd hx hb dX4_weekCost_99 (lv_topi (fun v39 e39 => ?_))
        refine lv_istore (lv' := [(6, .int v39), (5, .int r2), (0, .ref (qh 0)), (1, .int p0), (2, .int p1), (3, .int p2), (4, .int p3)]) hx hb dX4_weekCost_100 hl (by decide) rfl (fun ls hl => ?_)
        refine lv_iload hx hb dX4_weekCost_102 (lv_at hl 0 rfl) ?_
        rw [hQ]
        exact x_i cx hr () hP hD hS (show v39 = J_X4_weekCost sh p0 p1 p2 p3 from by subst w3 w6 e7 k12 e13 e14 e15 w28 e29 e30 e35 e36 e38 e39; first | (refine Eq.symm ?_; refine Eq.trans (if_neg c16) ?_; refine Eq.trans (if_neg c31) ?_; refine Eq.trans (if_neg c37) ?_; rfl) | (unfold J_X4_weekCost; try dsimp only; rw [if_neg c16, if_neg c31, if_neg c37])) dX4_weekCost_104
