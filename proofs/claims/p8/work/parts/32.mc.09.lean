theorem fw_X12_costOf_13 : Cond.fieldLink RX12 13 "StillInAugustModel" "house" "[I" ∈ wsX12_costOf := by decide +kernel
theorem nd_X12_over : yX12_over.cls = RX12 ∧ yX12_over.cls ≠ "java/lang/invoke/MethodHandle" ∧ yX12_over.cls ≠ "java/lang/invoke/VarHandle" ∧ (parseMethodDescriptor yX12_over.desc).map (fun d => d.parameters.length) = some 4 := by decide +kernel
theorem iw_X12_costOf_X12 : ∀ w ∈ u_ws RX12 TX12 33, w ∈ wsX12_costOf := fun _ h => List.mem_cons_of_mem _ (List.mem_append_right _ h)
def J_X12_costOf (sm : Nat → Nat → Int32) (tm : Nat → Nat → Int64) (p0 : Int32) (p1 : Int32) (p2 : Int32) (p3 : Int32) : Int32 := let y4 := J_X12_over sm tm p0 p1 p2 p3; if 0 ≤ y4 then if ((sm 2) (6 : Int32).toNatClampNeg) = (-9) then if (p3 / (1000 : Int32)) ≤ 0 then if ((p3 / (10 : Int32)) - (p3 / (10 : Int32)) / (10 : Int32) * (10 : Int32)) = 1 then (((((((sm 2) (2 : Int32).toNatClampNeg) * (J_X12_all p1)) + (0 : Int32)) + (p2 * (0 : Int32))) + (0 : Int32)) + ((sm 2) (5 : Int32).toNatClampNeg)) else (((((((sm 2) (2 : Int32).toNatClampNeg) * (J_X12_all p1)) + (0 : Int32)) + (p2 * (0 : Int32))) + (0 : Int32)) + (0 : Int32)) else if ((p3 / (10 : Int32)) - (p3 / (10 : Int32)) / (10 : Int32) * (10 : Int32)) = 1 then (((((((sm 2) (2 : Int32).toNatClampNeg) * (J_X12_all p1)) + (0 : Int32)) + (p2 * (0 : Int32))) + ((p3 / (1000 : Int32)) * ((sm 2) (4 : Int32).toNatClampNeg))) + ((sm 2) (5 : Int32).toNatClampNeg)) else (((((((sm 2) (2 : Int32).toNatClampNeg) * (J_X12_all p1)) + (0 : Int32)) + (p2 * (0 : Int32))) + ((p3 / (1000 : Int32)) * ((sm 2) (4 : Int32).toNatClampNeg))) + (0 : Int32)) else if (p3 / (1000 : Int32)) ≤ 0 then if ((p3 / (10 : Int32)) - (p3 / (10 : Int32)) / (10 : Int32) * (10 : Int32)) = 1 then (((((((sm 2) (2 : Int32).toNatClampNeg) * (J_X12_all p1)) + (0 : Int32)) + (p2 * ((sm 2) (6 : Int32).toNatClampNeg))) + (0 : Int32)) + ((sm 2) (5 : Int32).toNatClampNeg)) else (((((((sm 2) (2 : Int32).toNatClampNeg) * (J_X12_all p1)) + (0 : Int32)) + (p2 * ((sm 2) (6 : Int32).toNatClampNeg))) + (0 : Int32)) + (0 : Int32)) else if ((p3 / (10 : Int32)) - (p3 / (10 : Int32)) / (10 : Int32) * (10 : Int32)) = 1 then (((((((sm 2) (2 : Int32).toNatClampNeg) * (J_X12_all p1)) + (0 : Int32)) + (p2 * ((sm 2) (6 : Int32).toNatClampNeg))) + ((p3 / (1000 : Int32)) * ((sm 2) (4 : Int32).toNatClampNeg))) + ((sm 2) (5 : Int32).toNatClampNeg)) else (((((((sm 2) (2 : Int32).toNatClampNeg) * (J_X12_all p1)) + (0 : Int32)) + (p2 * ((sm 2) (6 : Int32).toNatClampNeg))) + ((p3 / (1000 : Int32)) * ((sm 2) (4 : Int32).toNatClampNeg))) + (0 : Int32)) else if ((sm 2) (6 : Int32).toNatClampNeg) = (-9) then if (p3 / (1000 : Int32)) ≤ 0 then if ((p3 / (10 : Int32)) - (p3 / (10 : Int32)) / (10 : Int32) * (10 : Int32)) = 1 then (((((((sm 2) (2 : Int32).toNatClampNeg) * (J_X12_all p1)) + ((-y4) * ((sm 2) (3 : Int32).toNatClampNeg))) + (p2 * (0 : Int32))) + (0 : Int32)) + ((sm 2) (5 : Int32).toNatClampNeg)) else (((((((sm 2) (2 : Int32).toNatClampNeg) * (J_X12_all p1)) + ((-y4) * ((sm 2) (3 : Int32).toNatClampNeg))) + (p2 * (0 : Int32))) + (0 : Int32)) + (0 : Int32)) else if ((p3 / (10 : Int32)) - (p3 / (10 : Int32)) / (10 : Int32) * (10 : Int32)) = 1 then (((((((sm 2) (2 : Int32).toNatClampNeg) * (J_X12_all p1)) + ((-y4) * ((sm 2) (3 : Int32).toNatClampNeg))) + (p2 * (0 : Int32))) + ((p3 / (1000 : Int32)) * ((sm 2) (4 : Int32).toNatClampNeg))) + ((sm 2) (5 : Int32).toNatClampNeg)) else (((((((sm 2) (2 : Int32).toNatClampNeg) * (J_X12_all p1)) + ((-y4) * ((sm 2) (3 : Int32).toNatClampNeg))) + (p2 * (0 : Int32))) + ((p3 / (1000 : Int32)) * ((sm 2) (4 : Int32).toNatClampNeg))) + (0 : Int32)) else if (p3 / (1000 : Int32)) ≤ 0 then if ((p3 / (10 : Int32)) - (p3 / (10 : Int32)) / (10 : Int32) * (10 : Int32)) = 1 then (((((((sm 2) (2 : Int32).toNatClampNeg) * (J_X12_all p1)) + ((-y4) * ((sm 2) (3 : Int32).toNatClampNeg))) + (p2 * ((sm 2) (6 : Int32).toNatClampNeg))) + (0 : Int32)) + ((sm 2) (5 : Int32).toNatClampNeg)) else (((((((sm 2) (2 : Int32).toNatClampNeg) * (J_X12_all p1)) + ((-y4) * ((sm 2) (3 : Int32).toNatClampNeg))) + (p2 * ((sm 2) (6 : Int32).toNatClampNeg))) + (0 : Int32)) + (0 : Int32)) else if ((p3 / (10 : Int32)) - (p3 / (10 : Int32)) / (10 : Int32) * (10 : Int32)) = 1 then (((((((sm 2) (2 : Int32).toNatClampNeg) * (J_X12_all p1)) + ((-y4) * ((sm 2) (3 : Int32).toNatClampNeg))) + (p2 * ((sm 2) (6 : Int32).toNatClampNeg))) + ((p3 / (1000 : Int32)) * ((sm 2) (4 : Int32).toNatClampNeg))) + ((sm 2) (5 : Int32).toNatClampNeg)) else (((((((sm 2) (2 : Int32).toNatClampNeg) * (J_X12_all p1)) + ((-y4) * ((sm 2) (3 : Int32).toNatClampNeg))) + (p2 * ((sm 2) (6 : Int32).toNatClampNeg))) + ((p3 / (1000 : Int32)) * ((sm 2) (4 : Int32).toNatClampNeg))) + (0 : Int32))
set_option maxHeartbeats 4000000 in
set_option maxRecDepth 100000 in
theorem c_X12_costOf (l : Launch) (D : va_G) (k : Nat → ClassId) (b : Nat → Nat) (qm : Nat → Nat) (sm : Nat → Nat → Int32) (tm : Nat → Nat → Int64) (sz : Nat) (p0 : Int32) (p1 : Int32) (p2 : Int32) (p3 : Int32) (hp0 : 0 ≤ p0.toInt ∧ p0.toInt ≤ 4) : MetI l D k b yX12_costOf wsX12_costOf ({ frames := 1, cells := 0, slots := 0, locals := 25 } : Room) [cell22_ qm sm tm, cell5_ k qm sm, cell13_ k qm sm, cell8_ k qm sm, cell6_ k qm sm, cell14_ k qm sm, cell15_ k qm tm, cell12_ k qm tm, cell18_ k qm tm, cell17_ k qm tm, cell19_ k qm tm, cell21_ k qm tm, cell20_ k qm sm, cell16_ k qm sm, cell11_ k qm sm, cell10_ k qm sm, cell9_ k qm sm, cell7_ k qm sm] sz [.ref (qm 0), .int p0, .int p1, .int p2, .int p3] (fun (r : Int32) (u : Unit) => r = J_X12_costOf sm tm p0 p1 p2 p3) (fun u => [cell22_ qm sm tm, cell5_ k qm sm, cell13_ k qm sm, cell8_ k qm sm, cell6_ k qm sm, cell14_ k qm sm, cell15_ k qm tm, cell12_ k qm tm, cell18_ k qm tm, cell17_ k qm tm, cell19_ k qm tm, cell21_ k qm tm, cell20_ k qm sm, cell16_ k qm sm, cell11_ k qm sm, cell10_ k qm sm, cell9_ k qm sm, cell7_ k qm sm]) := by
  refine g_enter (cc := cX12_costOf) (maxL := 7) (ret := (some .int)) (by decide) rfl (Nat.le_of_ble_eq_true rfl) ?_
  intro p e s m below meth c A hsz hAe cx hr hP hD hS ls hl
  rw [hAe]
  refine g_q (fun Q hQ => ?_)
  have hx := cx.1.1
  have hb := cx.1.2.1
  have bp0 := i_rng p0
  have bp1 := i_rng p1
  have bp2 := i_rng p2
  have bp3 := i_rng p3
  have hl : lv_has ls 7 [(0, .ref (qm 0)), (1, .int p0), (2, .int p1), (3, .int p2), (4, .int p3)] := hl
  obtain ⟨H, eH⟩ : ∃ H : Heap, H = s.heap := ⟨_, rfl⟩
  obtain ⟨locs, el⟩ : ∃ L : List Loc, L = [] := ⟨_, rfl⟩
  have hP : va_P D vwCl [cell22_ qm sm tm, cell5_ k qm sm, cell13_ k qm sm, cell8_ k qm sm, cell6_ k qm sm, cell14_ k qm sm, cell15_ k qm tm, cell12_ k qm tm, cell18_ k qm tm, cell17_ k qm tm, cell19_ k qm tm, cell21_ k qm tm, cell20_ k qm sm, cell16_ k qm sm, cell11_ k qm sm, cell10_ k qm sm, cell9_ k qm sm, cell7_ k qm sm] H := by rw [eH]; exact hP
  have hD : va_D A [cell22_ qm sm tm, cell5_ k qm sm, cell13_ k qm sm, cell8_ k qm sm, cell6_ k qm sm, cell14_ k qm sm, cell15_ k qm tm, cell12_ k qm tm, cell18_ k qm tm, cell17_ k qm tm, cell19_ k qm tm, cell21_ k qm tm, cell20_ k qm sm, cell16_ k qm sm, cell11_ k qm sm, cell10_ k qm sm, cell9_ k qm sm, cell7_ k qm sm] := hD
  have hS : va_S A s.heap H locs := by rw [eH, el]; exact hS
  suffices goal : W p l e ({ frames := 1, cells := 0, slots := 0, locals := 25 } : Room) s m ([.ref (qm 0), .int p0, .int p1, .int p2, .int p3] : List Value).toArray below meth c H locs 0 0 Q (F0 m 0 ls []) by rw [eH, el] at goal; exact goal
  refine lv_aload_n hx hb dX12_costOf_0 rfl (lv_at hl 0 rfl) ?_
  refine lv_iload_n hx hb dX12_costOf_1 rfl (lv_at hl 1 rfl) ?_
  refine lv_iload_n hx hb dX12_costOf_2 rfl (lv_at hl 2 rfl) ?_
  refine lv_iload_n hx hb dX12_costOf_3 rfl (lv_at hl 3 rfl) ?_
  refine lv_iload hx hb dX12_costOf_4 (lv_at hl 4 rfl) ?_
  refine g_iF (w1 := fun (_ : Unit) => [cell22_ qm sm tm, cell5_ k qm sm, cell13_ k qm sm, cell8_ k qm sm, cell6_ k qm sm, cell14_ k qm sm, cell15_ k qm tm, cell12_ k qm tm, cell18_ k qm tm, cell17_ k qm tm, cell19_ k qm tm, cell21_ k qm tm, cell20_ k qm sm, cell16_ k qm sm, cell11_ k qm sm, cell10_ k qm sm, cell9_ k qm sm, cell7_ k qm sm]) (g_runVF (ws := [cell22_ qm sm tm, cell5_ k qm sm, cell13_ k qm sm, cell8_ k qm sm, cell6_ k qm sm, cell14_ k qm sm, cell15_ k qm tm, cell12_ k qm tm, cell18_ k qm tm, cell17_ k qm tm, cell19_ k qm tm, cell21_ k qm tm, cell20_ k qm sm, cell16_ k qm sm, cell11_ k qm sm, cell10_ k qm sm, cell9_ k qm sm, cell7_ k qm sm]) (rest := []) cx hP hD hS [.int p0, .int p1, .int p2, .int p3] (c_X12_over l D k b qm sm tm H.size p0 p1 p2 p3 (show 0 ≤ p0.toInt ∧ p0.toInt ≤ 4 from by first | decide | omega)) gX12_costOf_X12_over rfl rfl rfl nd_X12_over ⟨Nat.le_of_ble_eq_true rfl, Nat.le_of_ble_eq_true rfl⟩ (ci := 10) (q0 := 0) rfl rfl rfl hl.1 rfl (Nat.le_of_ble_eq_true rfl) ⟨Nat.zero_le _, Nat.zero_le _⟩ dX12_costOf_6) cx.2.2.1 hD hS (fun r2 _ H locs hw1 hP hD hS => ?_)
  have w3 : r2 = J_X12_over sm tm p0 p1 p2 p3 := hw1
  clear hw1
  have k5 : r2 = (J_X12_over sm tm p0 p1 p2 p3) := congrArg (fun z => z) w3
  refine lv_istore (lv' := [(5, .int r2), (0, .ref (qm 0)), (1, .int p0), (2, .int p1), (3, .int p2), (4, .int p3)]) hx hb dX12_costOf_9 hl (by decide) rfl (fun ls hl => ?_)
  refine lv_aload_n hx hb dX12_costOf_11 rfl (lv_at hl 1 rfl) ?_
  refine g_get cx hP iw_X12_costOf_X12 0 rfl rfl 1 (by decide) rfl fw_X12_costOf_13 rfl dX12_costOf_12 ?_
  refine lv_iconst (v := 2) hx hb dX12_costOf_15 (by decide) ?_
  have hn6 : vp_in 2 26 := f_in (a := 2) (by decide) (by omega) (by omega)
  refine va_iald hx hb cx.2.1 hP 2 0 rfl rfl hn6 dX12_costOf_16 (lv_topi (fun v7 e7 => ?_))
  have uv7 : v7.toInt = ((sm 2) 2).toInt := congrArg Int32.toInt e7
  refine lv_iload_n hx hb dX12_costOf_17 rfl (lv_at hl 3 rfl) ?_
  refine g_ir (g_runS (wc := []) (rest := [.int v7]) cx hP hD hS [] rfl (by decide) [.int p1] (c_X12_all l D k b H.size p1) gX12_costOf_X12_all rfl rfl rfl nd_X12_all ⟨Nat.le_of_ble_eq_true rfl, Nat.le_of_ble_eq_true rfl⟩ rfl hl.1 rfl (Nat.le_of_ble_eq_true rfl) ⟨Nat.zero_le _, Nat.zero_le _⟩ dX12_costOf_18) cx.2.2.1 hP hD hS [] rfl rfl (fun r9 H locs hw8 hP hS => ?_)
  have w10 : r9 = J_X12_all p1 := hw8
  clear hw8
  refine lv_imul hx hb dX12_costOf_21 (lv_topi (fun v11 e11 => ?_))
  refine lv_iload hx hb dX12_costOf_22 (lv_at hl 0 rfl) ?_
  refine lv_if_ge (tgt := 40) hx hb dX12_costOf_24 (by decide) (fun c12 => ?_) (fun c12 => ?_)
  · have f12 : 0 ≤ r2.toInt := f_le (by decide) rfl c12
    refine lv_iconst (v := 0) hx hb dX12_costOf_40 (by decide) ?_
    refine lv_iadd hx hb dX12_costOf_41 (lv_topi (fun v13 e13 => ?_))
    refine lv_iload_n hx hb dX12_costOf_42 rfl (lv_at hl 4 rfl) ?_
    refine lv_aload_n hx hb dX12_costOf_43 rfl (lv_at hl 1 rfl) ?_
    refine g_get cx hP iw_X12_costOf_X12 0 rfl rfl 1 (by decide) rfl fw_X12_costOf_13 rfl dX12_costOf_44 ?_
    refine lv_bipush (v := 6) hx hb dX12_costOf_47 (by decide) ?_
    have hn14 : vp_in 6 26 := f_in (a := 6) (by decide) (by omega) (by omega)
    refine va_iald hx hb cx.2.1 hP 2 0 rfl rfl hn14 dX12_costOf_49 (lv_topi (fun v15 e15 => ?_))
    have uv15 : v15.toInt = ((sm 2) 6).toInt := congrArg Int32.toInt e15
    refine lv_bipush (v := (-9)) hx hb dX12_costOf_50 (by decide) ?_
    refine lv_icmp_ne (tgt := 59) hx hb dX12_costOf_52 (by decide) (fun c16 => ?_) (fun c16 => ?_)
    · have f16 : ¬ v15.toInt = (-9) := f_ne rfl (by decide) c16
      refine lv_aload_n hx hb dX12_costOf_59 rfl (lv_at hl 1 rfl) ?_
      refine g_get cx hP iw_X12_costOf_X12 0 rfl rfl 1 (by decide) rfl fw_X12_costOf_13 rfl dX12_costOf_60 ?_
      refine lv_bipush (v := 6) hx hb dX12_costOf_63 (by decide) ?_
      have hn17 : vp_in 6 26 := f_in (a := 6) (by decide) (by omega) (by omega)
      refine va_iald hx hb cx.2.1 hP 2 0 rfl rfl hn17 dX12_costOf_65 (lv_topi (fun v18 e18 => ?_))
      have qv18_ : v18.toInt = v15.toInt := congrArg Int32.toInt (e18.trans e15.symm)
      have uv18 : v18.toInt = ((sm 2) 6).toInt := congrArg Int32.toInt e18
      refine lv_imul hx hb dX12_costOf_66 (lv_topi (fun v19 e19 => ?_))
      refine lv_iadd hx hb dX12_costOf_67 (lv_topi (fun v20 e20 => ?_))
      refine lv_istore (lv' := [(6, .int v20), (5, .int r2), (0, .ref (qm 0)), (1, .int p0), (2, .int p1), (3, .int p2), (4, .int p3)]) hx hb dX12_costOf_68 hl (by decide) rfl (fun ls hl => ?_)
      refine lv_iload hx hb dX12_costOf_70 (lv_at hl 0 rfl) ?_
      refine lv_iload hx hb dX12_costOf_72 (lv_at hl 6 rfl) ?_
      refine lv_sipush (v := 1000) hx hb dX12_costOf_74 (by decide) ?_
      refine lv_idiv hx hb dX12_costOf_77 (by decide) (lv_topi (fun v21 e21 => ?_))
      refine lv_if_le (tgt := 97) hx hb dX12_costOf_78 (by decide) (fun c22 => ?_) (fun c22 => ?_)
      · have f22 : v21.toInt ≤ 0 := f_le rfl (by decide) c22
        refine lv_iconst (v := 0) hx hb dX12_costOf_97 (by decide) ?_
        refine lv_iadd hx hb dX12_costOf_98 (lv_topi (fun v23 e23 => ?_))
        refine lv_istore (lv' := [(6, .int v23), (5, .int r2), (0, .ref (qm 0)), (1, .int p0), (2, .int p1), (3, .int p2), (4, .int p3)]) hx hb dX12_costOf_99 hl (by decide) rfl (fun ls hl => ?_)
        refine lv_iload hx hb dX12_costOf_101 (lv_at hl 0 rfl) ?_
        refine lv_iload hx hb dX12_costOf_103 (lv_at hl 6 rfl) ?_
        refine lv_bipush (v := 10) hx hb dX12_costOf_105 (by decide) ?_
        refine lv_idiv hx hb dX12_costOf_107 (by decide) (lv_topi (fun v24 e24 => ?_))
        refine lv_bipush (v := 10) hx hb dX12_costOf_108 (by decide) ?_
        refine lv_irem hx hb dX12_costOf_110 (by decide) (lv_topi (fun v25 e25 => ?_))
        have t25 : -10 < v25.toInt ∧ v25.toInt < 10 := by rw [e25]; exact i_remb (by decide) (by decide)
        refine lv_iconst (v := 1) hx hb dX12_costOf_111 (by decide) ?_
        refine lv_icmp_ne (tgt := 124) hx hb dX12_costOf_112 (by decide) (fun c26 => ?_) (fun c26 => ?_)
        · have f26 : ¬ v25.toInt = 1 := f_ne rfl (by decide) c26
          refine lv_iconst (v := 0) hx hb dX12_costOf_124 (by decide) ?_
          refine lv_iadd hx hb dX12_costOf_125 (lv_topi (fun v27 e27 => ?_))
          rw [hQ]
          exact x_i cx hr () hP hD hS (show v27 = J_X12_costOf sm tm p0 p1 p2 p3 from by subst k5 e7 w10 e11 e13 e15 e18 e19 e20 e21 e23 e24 e25 e27; first | (refine Eq.symm ?_; refine Eq.trans (if_pos c12) ?_; refine Eq.trans (if_neg c16) ?_; refine Eq.trans (if_pos c22) ?_; refine Eq.trans (if_neg c26) ?_; rfl) | (unfold J_X12_costOf; try dsimp only; rw [if_pos c12, if_neg c16, if_pos c22, if_neg c26])) dX12_costOf_126
        · have f26 : v25.toInt = 1 := f_eq rfl (by decide) c26
          refine lv_aload_n hx hb dX12_costOf_115 rfl (lv_at hl 2 rfl) ?_
          refine g_get cx hP iw_X12_costOf_X12 0 rfl rfl 1 (by decide) rfl fw_X12_costOf_13 rfl dX12_costOf_116 ?_
          refine lv_iconst (v := 5) hx hb dX12_costOf_119 (by decide) ?_
          have hn28 : vp_in 5 26 := f_in (a := 5) (by decide) (by omega) (by omega)
          refine va_iald hx hb cx.2.1 hP 2 0 rfl rfl hn28 dX12_costOf_120 (lv_topi (fun v29 e29 => ?_))
          have uv29 : v29.toInt = ((sm 2) 5).toInt := congrArg Int32.toInt e29
          refine lv_goto (tgt := 125) hx hb dX12_costOf_121 (by decide) ?_
          refine lv_iadd hx hb dX12_costOf_125 (lv_topi (fun v30 e30 => ?_))
          rw [hQ]
          exact x_i cx hr () hP hD hS (show v30 = J_X12_costOf sm tm p0 p1 p2 p3 from by subst k5 e7 w10 e11 e13 e15 e18 e19 e20 e21 e23 e24 e25 e29 e30; first | (refine Eq.symm ?_; refine Eq.trans (if_pos c12) ?_; refine Eq.trans (if_neg c16) ?_; refine Eq.trans (if_pos c22) ?_; refine Eq.trans (if_pos c26) ?_; rfl) | (unfold J_X12_costOf; try dsimp only; rw [if_pos c12, if_neg c16, if_pos c22, if_pos c26])) dX12_costOf_126
      · have f22 : 0 < v21.toInt := f_nle rfl (by decide) c22
        refine lv_iload hx hb dX12_costOf_81 (lv_at hl 6 rfl) ?_
        refine lv_sipush (v := 1000) hx hb dX12_costOf_83 (by decide) ?_
        refine lv_idiv hx hb dX12_costOf_86 (by decide) (lv_topi (fun v31 e31 => ?_))
        refine lv_aload_n hx hb dX12_costOf_87 rfl (lv_at hl 2 rfl) ?_
        refine g_get cx hP iw_X12_costOf_X12 0 rfl rfl 1 (by decide) rfl fw_X12_costOf_13 rfl dX12_costOf_88 ?_
        refine lv_iconst (v := 4) hx hb dX12_costOf_91 (by decide) ?_
        have hn32 : vp_in 4 26 := f_in (a := 4) (by decide) (by omega) (by omega)
        refine va_iald hx hb cx.2.1 hP 2 0 rfl rfl hn32 dX12_costOf_92 (lv_topi (fun v33 e33 => ?_))
        have uv33 : v33.toInt = ((sm 2) 4).toInt := congrArg Int32.toInt e33
        refine lv_imul hx hb dX12_costOf_93 (lv_topi (fun v34 e34 => ?_))
        refine lv_goto (tgt := 98) hx hb dX12_costOf_94 (by decide) ?_
        refine lv_iadd hx hb dX12_costOf_98 (lv_topi (fun v35 e35 => ?_))
        refine lv_istore (lv' := [(6, .int v35), (5, .int r2), (0, .ref (qm 0)), (1, .int p0), (2, .int p1), (3, .int p2), (4, .int p3)]) hx hb dX12_costOf_99 hl (by decide) rfl (fun ls hl => ?_)
        refine lv_iload hx hb dX12_costOf_101 (lv_at hl 0 rfl) ?_
        refine lv_iload hx hb dX12_costOf_103 (lv_at hl 6 rfl) ?_
        refine lv_bipush (v := 10) hx hb dX12_costOf_105 (by decide) ?_
        refine lv_idiv hx hb dX12_costOf_107 (by decide) (lv_topi (fun v36 e36 => ?_))
        refine lv_bipush (v := 10) hx hb dX12_costOf_108 (by decide) ?_
        refine lv_irem hx hb dX12_costOf_110 (by decide) (lv_topi (fun v37 e37 => ?_))
        have t37 : -10 < v37.toInt ∧ v37.toInt < 10 := by rw [e37]; exact i_remb (by decide) (by decide)
        refine lv_iconst (v := 1) hx hb dX12_costOf_111 (by decide) ?_
        refine lv_icmp_ne (tgt := 124) hx hb dX12_costOf_112 (by decide) (fun c38 => ?_) (fun c38 => ?_)
        · have f38 : ¬ v37.toInt = 1 := f_ne rfl (by decide) c38
          refine lv_iconst (v := 0) hx hb dX12_costOf_124 (by decide) ?_
          refine lv_iadd hx hb dX12_costOf_125 (lv_topi (fun v39 e39 => ?_))
          rw [hQ]
          exact x_i cx hr () hP hD hS (show v39 = J_X12_costOf sm tm p0 p1 p2 p3 from by subst k5 e7 w10 e11 e13 e15 e18 e19 e20 e21 e31 e33 e34 e35 e36 e37 e39; first | (refine Eq.symm ?_; refine Eq.trans (if_pos c12) ?_; refine Eq.trans (if_neg c16) ?_; refine Eq.trans (if_neg c22) ?_; refine Eq.trans (if_neg c38) ?_; rfl) | (unfold J_X12_costOf; try dsimp only; rw [if_pos c12, if_neg c16, if_neg c22, if_neg c38])) dX12_costOf_126
        · have f38 : v37.toInt = 1 := f_eq rfl (by decide) c38
          refine lv_aload_n hx hb dX12_costOf_115 rfl (lv_at hl 2 rfl) ?_
          refine g_get cx hP iw_X12_costOf_X12 0 rfl rfl 1 (by decide) rfl fw_X12_costOf_13 rfl dX12_costOf_116 ?_
          refine lv_iconst (v := 5) hx hb dX12_costOf_119 (by decide) ?_
          have hn40 : vp_in 5 26 := f_in (a := 5) (by decide) (by omega) (by omega)
          refine va_iald hx hb cx.2.1 hP 2 0 rfl rfl hn40 dX12_costOf_120 (lv_topi (fun v41 e41 => ?_))
          have uv41 : v41.toInt = ((sm 2) 5).toInt := congrArg Int32.toInt e41
          refine lv_goto (tgt := 125) hx hb dX12_costOf_121 (by decide) ?_
          refine lv_iadd hx hb dX12_costOf_125 (lv_topi (fun v42 e42 => ?_))
          rw [hQ]
          exact x_i cx hr () hP hD hS (show v42 = J_X12_costOf sm tm p0 p1 p2 p3 from by subst k5 e7 w10 e11 e13 e15 e18 e19 e20 e21 e31 e33 e34 e35 e36 e37 e41 e42; first | (refine Eq.symm ?_; refine Eq.trans (if_pos c12) ?_; refine Eq.trans (if_neg c16) ?_; refine Eq.trans (if_neg c22) ?_; refine Eq.trans (if_pos c38) ?_; rfl) | (unfold J_X12_costOf; try dsimp only; rw [if_pos c12, if_neg c16, if_neg c22, if_pos c38])) dX12_costOf_126
    · have f16 : v15.toInt = (-9) := f_eq rfl (by decide) c16
      refine lv_iconst (v := 0) hx hb dX12_costOf_55 (by decide) ?_
      refine lv_goto (tgt := 66) hx hb dX12_costOf_56 (by decide) ?_
      refine lv_imul hx hb dX12_costOf_66 (lv_topi (fun v43 e43 => ?_))
      have t43 : v43.toInt = p2.toInt * 0 := by rw [e43]; exact i_mul rfl (by decide) (by omega) (by omega)
      refine lv_iadd hx hb dX12_costOf_67 (lv_topi (fun v44 e44 => ?_))
      refine lv_istore (lv' := [(6, .int v44), (5, .int r2), (0, .ref (qm 0)), (1, .int p0), (2, .int p1), (3, .int p2), (4, .int p3)]) hx hb dX12_costOf_68 hl (by decide) rfl (fun ls hl => ?_)
      refine lv_iload hx hb dX12_costOf_70 (lv_at hl 0 rfl) ?_
      refine lv_iload hx hb dX12_costOf_72 (lv_at hl 6 rfl) ?_
      refine lv_sipush (v := 1000) hx hb dX12_costOf_74 (by decide) ?_
      refine lv_idiv hx hb dX12_costOf_77 (by decide) (lv_topi (fun v45 e45 => ?_))
      refine lv_if_le (tgt := 97) hx hb dX12_costOf_78 (by decide) (fun c46 => ?_) (fun c46 => ?_)
      · have f46 : v45.toInt ≤ 0 := f_le rfl (by decide) c46
        refine lv_iconst (v := 0) hx hb dX12_costOf_97 (by decide) ?_
        refine lv_iadd hx hb dX12_costOf_98 (lv_topi (fun v47 e47 => ?_))
        refine lv_istore (lv' := [(6, .int v47), (5, .int r2), (0, .ref (qm 0)), (1, .int p0), (2, .int p1), (3, .int p2), (4, .int p3)]) hx hb dX12_costOf_99 hl (by decide) rfl (fun ls hl => ?_)
        refine lv_iload hx hb dX12_costOf_101 (lv_at hl 0 rfl) ?_
        refine lv_iload hx hb dX12_costOf_103 (lv_at hl 6 rfl) ?_
        refine lv_bipush (v := 10) hx hb dX12_costOf_105 (by decide) ?_
        refine lv_idiv hx hb dX12_costOf_107 (by decide) (lv_topi (fun v48 e48 => ?_))
        refine lv_bipush (v := 10) hx hb dX12_costOf_108 (by decide) ?_
        refine lv_irem hx hb dX12_costOf_110 (by decide) (lv_topi (fun v49 e49 => ?_))
        have t49 : -10 < v49.toInt ∧ v49.toInt < 10 := by rw [e49]; exact i_remb (by decide) (by decide)
        refine lv_iconst (v := 1) hx hb dX12_costOf_111 (by decide) ?_
        refine lv_icmp_ne (tgt := 124) hx hb dX12_costOf_112 (by decide) (fun c50 => ?_) (fun c50 => ?_)
        · have f50 : ¬ v49.toInt = 1 := f_ne rfl (by decide) c50
          refine lv_iconst (v := 0) hx hb dX12_costOf_124 (by decide) ?_
          refine lv_iadd hx hb dX12_costOf_125 (lv_topi (fun v51 e51 => ?_))
          rw [hQ]
          exact x_i cx hr () hP hD hS (show v51 = J_X12_costOf sm tm p0 p1 p2 p3 from by subst k5 e7 w10 e11 e13 e15 e43 e44 e45 e47 e48 e49 e51; first | (refine Eq.symm ?_; refine Eq.trans (if_pos c12) ?_; refine Eq.trans (if_pos c16) ?_; refine Eq.trans (if_pos c46) ?_; refine Eq.trans (if_neg c50) ?_; rfl) | (unfold J_X12_costOf; try dsimp only; rw [if_pos c12, if_pos c16, if_pos c46, if_neg c50])) dX12_costOf_126
        · have f50 : v49.toInt = 1 := f_eq rfl (by decide) c50
          refine lv_aload_n hx hb dX12_costOf_115 rfl (lv_at hl 2 rfl) ?_
          refine g_get cx hP iw_X12_costOf_X12 0 rfl rfl 1 (by decide) rfl fw_X12_costOf_13 rfl dX12_costOf_116 ?_
          refine lv_iconst (v := 5) hx hb dX12_costOf_119 (by decide) ?_
          have hn52 : vp_in 5 26 := f_in (a := 5) (by decide) (by omega) (by omega)
          refine va_iald hx hb cx.2.1 hP 2 0 rfl rfl hn52 dX12_costOf_120 (lv_topi (fun v53 e53 => ?_))
          have uv53 : v53.toInt = ((sm 2) 5).toInt := congrArg Int32.toInt e53
          refine lv_goto (tgt := 125) hx hb dX12_costOf_121 (by decide) ?_
          refine lv_iadd hx hb dX12_costOf_125 (lv_topi (fun v54 e54 => ?_))
          rw [hQ]
          exact x_i cx hr () hP hD hS (show v54 = J_X12_costOf sm tm p0 p1 p2 p3 from by subst k5 e7 w10 e11 e13 e15 e43 e44 e45 e47 e48 e49 e53 e54; first | (refine Eq.symm ?_; refine Eq.trans (if_pos c12) ?_; refine Eq.trans (if_pos c16) ?_; refine Eq.trans (if_pos c46) ?_; refine Eq.trans (if_pos c50) ?_; rfl) | (unfold J_X12_costOf; try dsimp only; rw [if_pos c12, if_pos c16, if_pos c46, if_pos c50])) dX12_costOf_126
      · have f46 : 0 < v45.toInt := f_nle rfl (by decide) c46
        refine lv_iload hx hb dX12_costOf_81 (lv_at hl 6 rfl) ?_
        refine lv_sipush (v := 1000) hx hb dX12_costOf_83 (by decide) ?_
        refine lv_idiv hx hb dX12_costOf_86 (by decide) (lv_topi (fun v55 e55 => ?_))
        refine lv_aload_n hx hb dX12_costOf_87 rfl (lv_at hl 2 rfl) ?_
        refine g_get cx hP iw_X12_costOf_X12 0 rfl rfl 1 (by decide) rfl fw_X12_costOf_13 rfl dX12_costOf_88 ?_
        refine lv_iconst (v := 4) hx hb dX12_costOf_91 (by decide) ?_
        have hn56 : vp_in 4 26 := f_in (a := 4) (by decide) (by omega) (by omega)
        refine va_iald hx hb cx.2.1 hP 2 0 rfl rfl hn56 dX12_costOf_92 (lv_topi (fun v57 e57 => ?_))
        have uv57 : v57.toInt = ((sm 2) 4).toInt := congrArg Int32.toInt e57
        refine lv_imul hx hb dX12_costOf_93 (lv_topi (fun v58 e58 => ?_))
        refine lv_goto (tgt := 98) hx hb dX12_costOf_94 (by decide) ?_
        refine lv_iadd hx hb dX12_costOf_98 (lv_topi (fun v59 e59 => ?_))
        refine lv_istore (lv' := [(6, .int v59), (5, .int r2), (0, .ref (qm 0)), (1, .int p0), (2, .int p1), (3, .int p2), (4, .int p3)]) hx hb dX12_costOf_99 hl (by decide) rfl (fun ls hl => ?_)
        refine lv_iload hx hb dX12_costOf_101 (lv_at hl 0 rfl) ?_
        refine lv_iload hx hb dX12_costOf_103 (lv_at hl 6 rfl) ?_
        refine lv_bipush (v := 10) hx hb dX12_costOf_105 (by decide) ?_
        refine lv_idiv hx hb dX12_costOf_107 (by decide) (lv_topi (fun v60 e60 => ?_))
        refine lv_bipush (v := 10) hx hb dX12_costOf_108 (by decide) ?_
        refine lv_irem hx hb dX12_costOf_110 (by decide) (lv_topi (fun v61 e61 => ?_))
        have t61 : -10 < v61.toInt ∧ v61.toInt < 10 := by rw [e61]; exact i_remb (by decide) (by decide)
        refine lv_iconst (v := 1) hx hb dX12_costOf_111 (by decide) ?_
        refine lv_icmp_ne (tgt := 124) hx hb dX12_costOf_112 (by decide) (fun c62 => ?_) (fun c62 => ?_)
        · have f62 : ¬ v61.toInt = 1 := f_ne rfl (by decide) c62
          refine lv_iconst (v := 0) hx hb dX12_costOf_124 (by decide) ?_
          refine lv_iadd hx hb dX12_costOf_125 (lv_topi (fun v63 e63 => ?_))
          rw [hQ]
          exact x_i cx hr () hP hD hS (show v63 = J_X12_costOf sm tm p0 p1 p2 p3 from by subst k5 e7 w10 e11 e13 e15 e43 e44 e45 e55 e57 e58 e59 e60 e61 e63; first | (refine Eq.symm ?_; refine Eq.trans (if_pos c12) ?_; refine Eq.trans (if_pos c16) ?_; refine Eq.trans (if_neg c46) ?_; refine Eq.trans (if_neg c62) ?_; rfl) | (unfold J_X12_costOf; try dsimp only; rw [if_pos c12, if_pos c16, if_neg c46, if_neg c62])) dX12_costOf_126
        · have f62 : v61.toInt = 1 := f_eq rfl (by decide) c62
          refine lv_aload_n hx hb dX12_costOf_115 rfl (lv_at hl 2 rfl) ?_
          refine g_get cx hP iw_X12_costOf_X12 0 rfl rfl 1 (by decide) rfl fw_X12_costOf_13 rfl dX12_costOf_116 ?_
          refine lv_iconst (v := 5) hx hb dX12_costOf_119 (by decide) ?_
          have hn64 : vp_in 5 26 := f_in (a := 5) (by decide) (by omega) (by omega)
          refine va_iald hx hb cx.2.1 hP 2 0 rfl rfl hn64 dX12_costOf_120 (lv_topi (fun v65 e65 => ?_))
          have uv65 : v65.toInt = ((sm 2) 5).toInt := congrArg Int32.toInt e65
          refine lv_goto (tgt := 125) hx hb dX12_costOf_121 (by decide) ?_
          refine lv_iadd hx hb dX12_costOf_125 (lv_topi (fun v66 e66 => ?_))
          rw [hQ]
          exact x_i cx hr () hP hD hS (show v66 = J_X12_costOf sm tm p0 p1 p2 p3 from by subst k5 e7 w10 e11 e13 e15 e43 e44 e45 e55 e57 e58 e59 e60 e61 e65 e66; first | (refine Eq.symm ?_; refine Eq.trans (if_pos c12) ?_; refine Eq.trans (if_pos c16) ?_; refine Eq.trans (if_neg c46) ?_; refine Eq.trans (if_pos c62) ?_; rfl) | (unfold J_X12_costOf; try dsimp only; rw [if_pos c12, if_pos c16, if_neg c46, if_pos c62])) dX12_costOf_126
  · have f12 : r2.toInt < 0 := f_nle (by decide) rfl c12
    refine lv_iload hx hb dX12_costOf_27 (lv_at hl 0 rfl) ?_
    refine lv_ineg hx hb dX12_costOf_29 (lv_topi (fun v67 e67 => ?_))
    refine lv_aload_n hx hb dX12_costOf_30 rfl (lv_at hl 1 rfl) ?_
    refine g_get cx hP iw_X12_costOf_X12 0 rfl rfl 1 (by decide) rfl fw_X12_costOf_13 rfl dX12_costOf_31 ?_
    refine lv_iconst (v := 3) hx hb dX12_costOf_34 (by decide) ?_
    have hn68 : vp_in 3 26 := f_in (a := 3) (by decide) (by omega) (by omega)
    refine va_iald hx hb cx.2.1 hP 2 0 rfl rfl hn68 dX12_costOf_35 (lv_topi (fun v69 e69 => ?_))
    have uv69 : v69.toInt = ((sm 2) 3).toInt := congrArg Int32.toInt e69
    refine lv_imul hx hb dX12_costOf_36 (lv_topi (fun v70 e70 => ?_))
    refine lv_goto (tgt := 41) hx hb dX12_costOf_37 (by decide) ?_
    refine lv_iadd hx hb dX12_costOf_41 (lv_topi (fun v71 e71 => ?_))
    refine lv_iload_n hx hb dX12_costOf_42 rfl (lv_at hl 4 rfl) ?_
    refine lv_aload_n hx hb dX12_costOf_43 rfl (lv_at hl 1 rfl) ?_
    refine g_get cx hP iw_X12_costOf_X12 0 rfl rfl 1 (by decide) rfl fw_X12_costOf_13 rfl dX12_costOf_44 ?_
    refine lv_bipush (v := 6) hx hb dX12_costOf_47 (by decide) ?_
    have hn72 : vp_in 6 26 := f_in (a := 6) (by decide) (by omega) (by omega)
    refine va_iald hx hb cx.2.1 hP 2 0 rfl rfl hn72 dX12_costOf_49 (lv_topi (fun v73 e73 => ?_))
    have uv73 : v73.toInt = ((sm 2) 6).toInt := congrArg Int32.toInt e73
    refine lv_bipush (v := (-9)) hx hb dX12_costOf_50 (by decide) ?_
    refine lv_icmp_ne (tgt := 59) hx hb dX12_costOf_52 (by decide) (fun c74 => ?_) (fun c74 => ?_)
    · have f74 : ¬ v73.toInt = (-9) := f_ne rfl (by decide) c74
      refine lv_aload_n hx hb dX12_costOf_59 rfl (lv_at hl 1 rfl) ?_
      refine g_get cx hP iw_X12_costOf_X12 0 rfl rfl 1 (by decide) rfl fw_X12_costOf_13 rfl dX12_costOf_60 ?_
      refine lv_bipush (v := 6) hx hb dX12_costOf_63 (by decide) ?_
      have hn75 : vp_in 6 26 := f_in (a := 6) (by decide) (by omega) (by omega)
      refine va_iald hx hb cx.2.1 hP 2 0 rfl rfl hn75 dX12_costOf_65 (lv_topi (fun v76 e76 => ?_))
      have qv76_ : v76.toInt = v73.toInt := congrArg Int32.toInt (e76.trans e73.symm)
      have uv76 : v76.toInt = ((sm 2) 6).toInt := congrArg Int32.toInt e76
      refine lv_imul hx hb dX12_costOf_66 (lv_topi (fun v77 e77 => ?_))
      refine lv_iadd hx hb dX12_costOf_67 (lv_topi (fun v78 e78 => ?_))
      refine lv_istore (lv' := [(6, .int v78), (5, .int r2), (0, .ref (qm 0)), (1, .int p0), (2, .int p1), (3, .int p2), (4, .int p3)]) hx hb dX12_costOf_68 hl (by decide) rfl (fun ls hl => ?_)
      refine lv_iload hx hb dX12_costOf_70 (lv_at hl 0 rfl) ?_
      refine lv_iload hx hb dX12_costOf_72 (lv_at hl 6 rfl) ?_
      refine lv_sipush (v := 1000) hx hb dX12_costOf_74 (by decide) ?_
      refine lv_idiv hx hb dX12_costOf_77 (by decide) (lv_topi (fun v79 e79 => ?_))
      refine lv_if_le (tgt := 97) hx hb dX12_costOf_78 (by decide) (fun c80 => ?_) (fun c80 => ?_)
      · have f80 : v79.toInt ≤ 0 := f_le rfl (by decide) c80
        refine lv_iconst (v := 0) hx hb dX12_costOf_97 (by decide) ?_
        refine lv_iadd hx hb dX12_costOf_98 (lv_topi (fun v81 e81 => ?_))
        refine lv_istore (lv' := [(6, .int v81), (5, .int r2), (0, .ref (qm 0)), (1, .int p0), (2, .int p1), (3, .int p2), (4, .int p3)]) hx hb dX12_costOf_99 hl (by decide) rfl (fun ls hl => ?_)
        refine lv_iload hx hb dX12_costOf_101 (lv_at hl 0 rfl) ?_
        refine lv_iload hx hb dX12_costOf_103 (lv_at hl 6 rfl) ?_
        refine lv_bipush (v := 10) hx hb dX12_costOf_105 (by decide) ?_
        refine lv_idiv hx hb dX12_costOf_107 (by decide) (lv_topi (fun v82 e82 => ?_))
        refine lv_bipush (v := 10) hx hb dX12_costOf_108 (by decide) ?_
        refine lv_irem hx hb dX12_costOf_110 (by decide) (lv_topi (fun v83 e83 => ?_))
        have t83 : -10 < v83.toInt ∧ v83.toInt < 10 := by rw [e83]; exact i_remb (by decide) (by decide)
        refine lv_iconst (v := 1) hx hb dX12_costOf_111 (by decide) ?_
        refine lv_icmp_ne (tgt := 124) hx hb dX12_costOf_112 (by decide) (fun c84 => ?_) (fun c84 => ?_)
        · have f84 : ¬ v83.toInt = 1 := f_ne rfl (by decide) c84
          refine lv_iconst (v := 0) hx hb dX12_costOf_124 (by decide) ?_
          refine lv_iadd hx hb dX12_costOf_125 (lv_topi (fun v85 e85 => ?_))
          rw [hQ]
          exact x_i cx hr () hP hD hS (show v85 = J_X12_costOf sm tm p0 p1 p2 p3 from by subst k5 e7 w10 e11 e67 e69 e70 e71 e73 e76 e77 e78 e79 e81 e82 e83 e85; first | (refine Eq.symm ?_; refine Eq.trans (if_neg c12) ?_; refine Eq.trans (if_neg c74) ?_; refine Eq.trans (if_pos c80) ?_; refine Eq.trans (if_neg c84) ?_; rfl) | (unfold J_X12_costOf; try dsimp only; rw [if_neg c12, if_neg c74, if_pos c80, if_neg c84])) dX12_costOf_126
        · have f84 : v83.toInt = 1 := f_eq rfl (by decide) c84
          refine lv_aload_n hx hb dX12_costOf_115 rfl (lv_at hl 2 rfl) ?_
          refine g_get cx hP iw_X12_costOf_X12 0 rfl rfl 1 (by decide) rfl fw_X12_costOf_13 rfl dX12_costOf_116 ?_
          refine lv_iconst (v := 5) hx hb dX12_costOf_119 (by decide) ?_
          have hn86 : vp_in 5 26 := f_in (a := 5) (by decide) (by omega) (by omega)
          refine va_iald hx hb cx.2.1 hP 2 0 rfl rfl hn86 dX12_costOf_120 (lv_topi (fun v87 e87 => ?_))
          have uv87 : v87.toInt = ((sm 2) 5).toInt := congrArg Int32.toInt e87
          refine lv_goto (tgt := 125) hx hb dX12_costOf_121 (by decide) ?_
          refine lv_iadd hx hb dX12_costOf_125 (lv_topi (fun v88 e88 => ?_))
          rw [hQ]
          exact x_i cx hr () hP hD hS (show v88 = J_X12_costOf sm tm p0 p1 p2 p3 from by subst k5 e7 w10 e11 e67 e69 e70 e71 e73 e76 e77 e78 e79 e81 e82 e83 e87 e88; first | (refine Eq.symm ?_; refine Eq.trans (if_neg c12) ?_; refine Eq.trans (if_neg c74) ?_; refine Eq.trans (if_pos c80) ?_; refine Eq.trans (if_pos c84) ?_; rfl) | (unfold J_X12_costOf; try dsimp only; rw [if_neg c12, if_neg c74, if_pos c80, if_pos c84])) dX12_costOf_126
      · have f80 : 0 < v79.toInt := f_nle rfl (by decide) c80
        refine lv_iload hx hb dX12_costOf_81 (lv_at hl 6 rfl) ?_
        refine lv_sipush (v := 1000) hx hb dX12_costOf_83 (by decide) ?_
        refine lv_idiv hx hb dX12_costOf_86 (by decide) (lv_topi (fun v89 e89 => ?_))
        refine lv_aload_n hx hb dX12_costOf_87 rfl (lv_at hl 2 rfl) ?_
        refine g_get cx hP iw_X12_costOf_X12 0 rfl rfl 1 (by decide) rfl fw_X12_costOf_13 rfl dX12_costOf_88 ?_
        refine lv_iconst (v := 4) hx hb dX12_costOf_91 (by decide) ?_
        have hn90 : vp_in 4 26 := f_in (a := 4) (by decide) (by omega) (by omega)
        refine va_iald hx hb cx.2.1 hP 2 0 rfl rfl hn90 dX12_costOf_92 (lv_topi (fun v91 e91 => ?_))
        have uv91 : v91.toInt = ((sm 2) 4).toInt := congrArg Int32.toInt e91
        refine lv_imul hx hb dX12_costOf_93 (lv_topi (fun v92 e92 => ?_))
        refine lv_goto (tgt := 98) hx hb dX12_costOf_94 (by decide) ?_
        refine lv_iadd hx hb dX12_costOf_98 (lv_topi (fun v93 e93 => ?_))
        refine lv_istore (lv' := [(6, .int v93), (5, .int r2), (0, .ref (qm 0)), (1, .int p0), (2, .int p1), (3, .int p2), (4, .int p3)]) hx hb dX12_costOf_99 hl (by decide) rfl (fun ls hl => ?_)
        refine lv_iload hx hb dX12_costOf_101 (lv_at hl 0 rfl) ?_
        refine lv_iload hx hb dX12_costOf_103 (lv_at hl 6 rfl) ?_
        refine lv_bipush (v := 10) hx hb dX12_costOf_105 (by decide) ?_
        refine lv_idiv hx hb dX12_costOf_107 (by decide) (lv_topi (fun v94 e94 => ?_))
        refine lv_bipush (v := 10) hx hb dX12_costOf_108 (by decide) ?_
        refine lv_irem hx hb dX12_costOf_110 (by decide) (lv_topi (fun v95 e95 => ?_))
        have t95 : -10 < v95.toInt ∧ v95.toInt < 10 := by rw [e95]; exact i_remb (by decide) (by decide)
        refine lv_iconst (v := 1) hx hb dX12_costOf_111 (by decide) ?_
        refine lv_icmp_ne (tgt := 124) hx hb dX12_costOf_112 (by decide) (fun c96 => ?_) (fun c96 => ?_)
        · have f96 : ¬ v95.toInt = 1 := f_ne rfl (by decide) c96
          refine lv_iconst (v := 0) hx hb dX12_costOf_124 (by decide) ?_
          refine lv_iadd hx hb dX12_costOf_125 (lv_topi (fun v97 e97 => ?_))
          rw [hQ]
          exact x_i cx hr () hP hD hS (show v97 = J_X12_costOf sm tm p0 p1 p2 p3 from by subst k5 e7 w10 e11 e67 e69 e70 e71 e73 e76 e77 e78 e79 e89 e91 e92 e93 e94 e95 e97; first | (refine Eq.symm ?_; refine Eq.trans (if_neg c12) ?_; refine Eq.trans (if_neg c74) ?_; refine Eq.trans (if_neg c80) ?_; refine Eq.trans (if_neg c96) ?_; rfl) | (unfold J_X12_costOf; try dsimp only; rw [if_neg c12, if_neg c74, if_neg c80, if_neg c96])) dX12_costOf_126
        · have f96 : v95.toInt = 1 := f_eq rfl (by decide) c96
          refine lv_aload_n hx hb dX12_costOf_115 rfl (lv_at hl 2 rfl) ?_
          refine g_get cx hP iw_X12_costOf_X12 0 rfl rfl 1 (by decide) rfl fw_X12_costOf_13 rfl dX12_costOf_116 ?_
          refine lv_iconst (v := 5) hx hb dX12_costOf_119 (by decide) ?_
          have hn98 : vp_in 5 26 := f_in (a := 5) (by decide) (by omega) (by omega)
          refine va_iald hx hb cx.2.1 hP 2 0 rfl rfl hn98 dX12_costOf_120 (lv_topi (fun v99 e99 => ?_))
          have uv99 : v99.toInt = ((sm 2) 5).toInt := congrArg Int32.toInt e99
          refine lv_goto (tgt := 125) hx hb dX12_costOf_121 (by decide) ?_
          refine lv_iadd hx hb dX12_costOf_125 (lv_topi (fun v100 e100 => ?_))
          rw [hQ]
          exact x_i cx hr () hP hD hS (show v100 = J_X12_costOf sm tm p0 p1 p2 p3 from by subst k5 e7 w10 e11 e67 e69 e70 e71 e73 e76 e77 e78 e79 e89 e91 e92 e93 e94 e95 e99 e100; first | (refine Eq.symm ?_; refine Eq.trans (if_neg c12) ?_; refine Eq.trans (if_neg c74) ?_; refine Eq.trans (if_neg c80) ?_; refine Eq.trans (if_pos c96) ?_; rfl) | (unfold J_X12_costOf; try dsimp only; rw [if_neg c12, if_neg c74, if_neg c80, if_pos c96])) dX12_costOf_126
    · have f74 : v73.toInt = (-9) := f_eq rfl (by decide) c74
      refine lv_iconst (v := 0) hx hb dX12_costOf_55 (by decide) ?_
      refine lv_goto (tgt := 66) hx hb dX12_costOf_56 (by decide) ?_
      refine lv_imul hx hb dX12_costOf_66 (lv_topi (fun v101 e101 => ?_))
      have t101 : v101.toInt = p2.toInt * 0 := by rw [e101]; exact i_mul rfl (by decide) (by omega) (by omega)
      refine lv_iadd hx hb dX12_costOf_67 (lv_topi (fun v102 e102 => ?_))
      refine lv_istore (lv' := [(6, .int v102), (5, .int r2), (0, .ref (qm 0)), (1, .int p0), (2, .int p1), (3, .int p2), (4, .int p3)]) hx hb dX12_costOf_68 hl (by decide) rfl (fun ls hl => ?_)
      refine lv_iload hx hb dX12_costOf_70 (lv_at hl 0 rfl) ?_
      refine lv_iload hx hb dX12_costOf_72 (lv_at hl 6 rfl) ?_
      refine lv_sipush (v := 1000) hx hb dX12_costOf_74 (by decide) ?_
      refine lv_idiv hx hb dX12_costOf_77 (by decide) (lv_topi (fun v103 e103 => ?_))
      refine lv_if_le (tgt := 97) hx hb dX12_costOf_78 (by decide) (fun c104 => ?_) (fun c104 => ?_)
      · have f104 : v103.toInt ≤ 0 := f_le rfl (by decide) c104
        refine lv_iconst (v := 0) hx hb dX12_costOf_97 (by decide) ?_
        refine lv_iadd hx hb dX12_costOf_98 (lv_topi (fun v105 e105 => ?_))
        refine lv_istore (lv' := [(6, .int v105), (5, .int r2), (0, .ref (qm 0)), (1, .int p0), (2, .int p1), (3, .int p2), (4, .int p3)]) hx hb dX12_costOf_99 hl (by decide) rfl (fun ls hl => ?_)
        refine lv_iload hx hb dX12_costOf_101 (lv_at hl 0 rfl) ?_
        refine lv_iload hx hb dX12_costOf_103 (lv_at hl 6 rfl) ?_
        refine lv_bipush (v := 10) hx hb dX12_costOf_105 (by decide) ?_
        refine lv_idiv hx hb dX12_costOf_107 (by decide) (lv_topi (fun v106 e106 => ?_))
        refine lv_bipush (v := 10) hx hb dX12_costOf_108 (by decide) ?_
        refine lv_irem hx hb dX12_costOf_110 (by decide) (lv_topi (fun v107 e107 => ?_))
        have t107 : -10 < v107.toInt ∧ v107.toInt < 10 := by rw [e107]; exact i_remb (by decide) (by decide)
        refine lv_iconst (v := 1) hx hb dX12_costOf_111 (by decide) ?_
        refine lv_icmp_ne (tgt := 124) hx hb dX12_costOf_112 (by decide) (fun c108 => ?_) (fun c108 => ?_)
        · have f108 : ¬ v107.toInt = 1 := f_ne rfl (by decide) c108
          refine lv_iconst (v := 0) hx hb dX12_costOf_124 (by decide) ?_
          refine lv_iadd hx hb dX12_costOf_125 (lv_topi (fun v109 e109 => ?_))
          rw [hQ]
          exact x_i cx hr () hP hD hS (show v109 = J_X12_costOf sm tm p0 p1 p2 p3 from by subst k5 e7 w10 e11 e67 e69 e70 e71 e73 e101 e102 e103 e105 e106 e107 e109; first | (refine Eq.symm ?_; refine Eq.trans (if_neg c12) ?_; refine Eq.trans (if_pos c74) ?_; refine Eq.trans (if_pos c104) ?_; refine Eq.trans (if_neg c108) ?_; rfl) | (unfold J_X12_costOf; try dsimp only; rw [if_neg c12, if_pos c74, if_pos c104, if_neg c108])) dX12_costOf_126
        · have f108 : v107.toInt = 1 := f_eq rfl (by decide) c108
          refine lv_aload_n hx hb dX12_costOf_115 rfl (lv_at hl 2 rfl) ?_
          refine g_get cx hP iw_X12_costOf_X12 0 rfl rfl 1 (by decide) rfl fw_X12_costOf_13 rfl dX12_costOf_116 ?_
          refine lv_iconst (v := 5) hx hb dX12_costOf_119 (by decide) ?_
          have hn110 : vp_in 5 26 := f_in (a := 5) (by decide) (by omega) (by omega)
          refine va_iald hx hb cx.2.1 hP 2 0 rfl rfl hn110 dX12_costOf_120 (lv_topi (fun v111 e111 => ?_))
          have uv111 : v111.toInt = ((sm 2) 5).toInt := congrArg Int32.toInt e111
          refine lv_goto (tgt := 125) hx hb dX12_costOf_121 (by decide) ?_
          refine lv_iadd hx hb dX12_costOf_125 (lv_topi (fun v112 e112 => ?_))
          rw [hQ]
          exact x_i cx hr () hP hD hS (show v112 = J_X12_costOf sm tm p0 p1 p2 p3 from by subst k5 e7 w10 e11 e67 e69 e70 e71 e73 e101 e102 e103 e105 e106 e107 e111 e112; first | (refine Eq.symm ?_; refine Eq.trans (if_neg c12) ?_; refine Eq.trans (if_pos c74) ?_; refine Eq.trans (if_pos c104) ?_; refine Eq.trans (if_pos c108) ?_; rfl) | (unfold J_X12_costOf; try dsimp only; rw [if_neg c12, if_pos c74, if_pos c104, if_pos c108])) dX12_costOf_126
      · have f104 : 0 < v103.toInt := f_nle rfl (by decide) c104
        refine lv_iload hx hb dX12_costOf_81 (lv_at hl 6 rfl) ?_
        refine lv_sipush (v := 1000) hx hb dX12_costOf_83 (by decide) ?_
        refine lv_idiv hx hb dX12_costOf_86 (by decide) (lv_topi (fun v113 e113 => ?_))
        refine lv_aload_n hx hb dX12_costOf_87 rfl (lv_at hl 2 rfl) ?_
        refine g_get cx hP iw_X12_costOf_X12 0 rfl rfl 1 (by decide) rfl fw_X12_costOf_13 rfl dX12_costOf_88 ?_
        refine lv_iconst (v := 4) hx hb dX12_costOf_91 (by decide) ?_
        have hn114 : vp_in 4 26 := f_in (a := 4) (by decide) (by omega) (by omega)
        refine va_iald hx hb cx.2.1 hP 2 0 rfl rfl hn114 dX12_costOf_92 (lv_topi (fun v115 e115 => ?_))
        have uv115 : v115.toInt = ((sm 2) 4).toInt := congrArg Int32.toInt e115
        refine lv_imul hx hb dX12_costOf_93 (lv_topi (fun v116 e116 => ?_))
        refine lv_goto (tgt := 98) hx hb dX12_costOf_94 (by decide) ?_
        refine lv_iadd hx hb dX12_costOf_98 (lv_topi (fun v117 e117 => ?_))
        refine lv_istore (lv' := [(6, .int v117), (5, .int r2), (0, .ref (qm 0)), (1, .int p0), (2, .int p1), (3, .int p2), (4, .int p3)]) hx hb dX12_costOf_99 hl (by decide) rfl (fun ls hl => ?_)
        refine lv_iload hx hb dX12_costOf_101 (lv_at hl 0 rfl) ?_
        refine lv_iload hx hb dX12_costOf_103 (lv_at hl 6 rfl) ?_
        refine lv_bipush (v := 10) hx hb dX12_costOf_105 (by decide) ?_
        refine lv_idiv hx hb dX12_costOf_107 (by decide) (lv_topi (fun v118 e118 => ?_))
        refine lv_bipush (v := 10) hx hb dX12_costOf_108 (by decide) ?_
        refine lv_irem hx hb dX12_costOf_110 (by decide) (lv_topi (fun v119 e119 => ?_))
        have t119 : -10 < v119.toInt ∧ v119.toInt < 10 := by rw [e119]; exact i_remb (by decide) (by decide)
        refine lv_iconst (v := 1) hx hb dX12_costOf_111 (by decide) ?_
        refine lv_icmp_ne (tgt := 124) hx hb dX12_costOf_112 (by decide) (fun c120 => ?_) (fun c120 => ?_)
        · have f120 : ¬ v119.toInt = 1 := f_ne rfl (by decide) c120
          refine lv_iconst (v := 0) hx hb dX12_costOf_124 (by decide) ?_
          refine lv_iadd hx hb dX12_costOf_125 (lv_topi (fun v121 e121 => ?_))
          rw [hQ]
          exact x_i cx hr () hP hD hS (show v121 = J_X12_costOf sm tm p0 p1 p2 p3 from by subst k5 e7 w10 e11 e67 e69 e70 e71 e73 e101 e102 e103 e113 e115 e116 e117 e118 e119 e121; first | (refine Eq.symm ?_; refine Eq.trans (if_neg c12) ?_; refine Eq.trans (if_pos c74) ?_; refine Eq.trans (if_neg c104) ?_; refine Eq.trans (if_neg c120) ?_; rfl) | (unfold J_X12_costOf; try dsimp only; rw [if_neg c12, if_pos c74, if_neg c104, if_neg c120])) dX12_costOf_126
        · have f120 : v119.toInt = 1 := f_eq rfl (by decide) c120
          refine lv_aload_n hx hb dX12_costOf_115 rfl (lv_at hl 2 rfl) ?_
          refine g_get cx hP iw_X12_costOf_X12 0 rfl rfl 1 (by decide) rfl fw_X12_costOf_13 rfl dX12_costOf_116 ?_
          refine lv_iconst (v := 5) hx hb dX12_costOf_119 (by decide) ?_
          have hn122 : vp_in 5 26 := f_in (a := 5) (by decide) (by omega) (by omega)
          refine va_iald hx hb cx.2.1 hP 2 0 rfl rfl hn122 dX12_costOf_120 (lv_topi (fun v123 e123 => ?_))
          have uv123 : v123.toInt = ((sm 2) 5).toInt := congrArg Int32.toInt e123
          refine lv_goto (tgt := 125) hx hb dX12_costOf_121 (by decide) ?_
          refine lv_iadd hx hb dX12_costOf_125 (lv_topi (fun v124 e124 => ?_))
          rw [hQ]
          exact x_i cx hr () hP hD hS (show v124 = J_X12_costOf sm tm p0 p1 p2 p3 from by subst k5 e7 w10 e11 e67 e69 e70 e71 e73 e101 e102 e103 e113 e115 e116 e117 e118 e119 e123 e124; first | (refine Eq.symm ?_; refine Eq.trans (if_neg c12) ?_; refine Eq.trans (if_pos c74) ?_; refine Eq.trans (if_neg c104) ?_; refine Eq.trans (if_pos c120) ?_; rfl) | (unfold J_X12_costOf; try dsimp only; rw [if_neg c12, if_pos c74, if_neg c104, if_pos c120])) dX12_costOf_126
