theorem nd_X0_ordered : yX0_ordered.cls ≠ "java/lang/invoke/MethodHandle" ∧ yX0_ordered.cls ≠ "java/lang/invoke/VarHandle" ∧ (parseMethodDescriptor yX0_ordered.desc).map (fun d => d.parameters.length) = some 1 := by decide +kernel
theorem nd_X4_mostLetGo : yX4_mostLetGo.cls = RX4 ∧ yX4_mostLetGo.cls ≠ "java/lang/invoke/MethodHandle" ∧ yX4_mostLetGo.cls ≠ "java/lang/invoke/VarHandle" ∧ (parseMethodDescriptor yX4_mostLetGo.desc).map (fun d => d.parameters.length) = some 1 := by decide +kernel
theorem nd_X4_mostOrdered : yX4_mostOrdered.cls = RX4 ∧ yX4_mostOrdered.cls ≠ "java/lang/invoke/MethodHandle" ∧ yX4_mostOrdered.cls ≠ "java/lang/invoke/VarHandle" ∧ (parseMethodDescriptor yX4_mostOrdered.desc).map (fun d => d.parameters.length) = some 1 := by decide +kernel
theorem nd_X4_mostTaken : yX4_mostTaken.cls = RX4 ∧ yX4_mostTaken.cls ≠ "java/lang/invoke/MethodHandle" ∧ yX4_mostTaken.cls ≠ "java/lang/invoke/VarHandle" ∧ (parseMethodDescriptor yX4_mostTaken.desc).map (fun d => d.parameters.length) = some 2 := by decide +kernel
theorem nd_X4_mostTaught : yX4_mostTaught.cls = RX4 ∧ yX4_mostTaught.cls ≠ "java/lang/invoke/MethodHandle" ∧ yX4_mostTaught.cls ≠ "java/lang/invoke/VarHandle" ∧ (parseMethodDescriptor yX4_mostTaught.desc).map (fun d => d.parameters.length) = some 1 := by decide +kernel
def J_X4_allows (sh : Nat → Nat → Int32) (p0 : Int32) (p1 : Int32) (p2 : Int32) : Int32 := let y8 := J_X4_mostLetGo sh p1; if (J_X0_letGo p2) ≤ y8 then let y25 := J_X4_mostTaken sh p0 (J_X3_lessYoungestFirst p1 (J_X0_letGo p2)); if (J_X0_taken p2) ≤ y25 then let y40 := J_X4_mostTaught sh (((J_X3_lessYoungestFirst p1 (J_X0_letGo p2)) + ((100 : Int32) * (J_X0_taken p2)))); if y40 < (J_X0_taught p2) then (0 : Int32) else let y51 := J_X4_mostOrdered sh p0; if y51 < (J_X0_ordered p2) then (0 : Int32) else (1 : Int32) else (0 : Int32) else (0 : Int32)
set_option maxHeartbeats 4000000 in
set_option maxRecDepth 100000 in
theorem c_X4_allows (l : Launch) (D : va_G) (k : Nat → ClassId) (b : Nat → Nat) (qh : Nat → Nat) (sh : Nat → Nat → Int32) (sz : Nat) (p0 : Int32) (p1 : Int32) (p2 : Int32) (h_wk : 0 ≤ (sh 0 0).toInt ∧ (sh 0 0).toInt ≤ 5) (h_hk : 0 ≤ (sh 0 1).toInt ∧ (sh 0 1).toInt ≤ 4) (h_fl : 0 ≤ (sh 0 12).toInt ∧ (sh 0 12).toInt ≤ 5) (h_of : ∀ j, 0 ≤ (sh 2 j).toInt ∧ (sh 2 j).toInt ≤ 4) (h_go : ∀ j, 0 ≤ (sh 3 j).toInt ∧ (sh 3 j).toInt ≤ 5) (hv : 0 ≤ p1.toInt ∧ p1.toInt ≤ 400 ∧ tot p1 ≤ 4) (ha : 0 ≤ p2.toInt) (hp0 : 0 ≤ p0.toInt ∧ p0.toInt ≤ 4) : MetI l D k b yX4_allows wsX4_allows ({ frames := 2, cells := 0, slots := 0, locals := 44 } : Room) [cell32_ qh sh, cell0_ k qh sh, cell1_ k qh sh, cell4_ k qh sh, cell3_ k qh sh, cell2_ k qh sh] sz [.ref (qh 0), .int p0, .int p1, .int p2] (fun (r : Int32) (u : Unit) => (0 ≤ r.toInt ∧ r.toInt ≤ 1) ∧ (Imp (r.toInt = 1) (0 ≤ (J_X0_done p1 p2).toInt ∧ (J_X0_done p1 p2).toInt ≤ 400 ∧ tot (J_X0_done p1 p2) ≤ 4)) ∧ (r = J_X4_allows sh p0 p1 p2)) (fun u => [cell32_ qh sh, cell0_ k qh sh, cell1_ k qh sh, cell4_ k qh sh, cell3_ k qh sh, cell2_ k qh sh]) := by
  refine g_enter (cc := cX4_allows) (maxL := 5) (ret := (some .boolean)) (by decide) rfl (Nat.le_of_ble_eq_true rfl) ?_
  intro p e s m below meth c A hsz hAe cx hr hP hD hS ls hl
  rw [hAe]
  refine g_q (fun Q hQ => ?_)
  have hx := cx.1.1
  have hb := cx.1.2.1
  have bp0 := i_rng p0
  have bp1 := i_rng p1
  have bp2 := i_rng p2
  have hl : lv_has ls 5 [(0, .ref (qh 0)), (1, .int p0), (2, .int p1), (3, .int p2)] := hl
  obtain ⟨H, eH⟩ : ∃ H : Heap, H = s.heap := ⟨_, rfl⟩
  obtain ⟨locs, el⟩ : ∃ L : List Loc, L = [] := ⟨_, rfl⟩
  have hP : va_P D vwCl [cell32_ qh sh, cell0_ k qh sh, cell1_ k qh sh, cell4_ k qh sh, cell3_ k qh sh, cell2_ k qh sh] H := by rw [eH]; exact hP
  have hD : va_D A [cell32_ qh sh, cell0_ k qh sh, cell1_ k qh sh, cell4_ k qh sh, cell3_ k qh sh, cell2_ k qh sh] := hD
  have hS : va_S A s.heap H locs := by rw [eH, el]; exact hS
  suffices goal : W p l e ({ frames := 2, cells := 0, slots := 0, locals := 44 } : Room) s m ([.ref (qh 0), .int p0, .int p1, .int p2] : List Value).toArray below meth c H locs 0 0 Q (F0 m 0 ls []) by rw [eH, el] at goal; exact goal
  refine lv_iload_n hx hb dX4_allows_0 rfl (lv_at hl 3 rfl) ?_
  refine g_ir (g_runS (wc := []) (rest := []) cx hP hD hS [] rfl (by decide) [.int p2] (c_X0_letGo l D k b H.size p2) gX4_allows_X0_letGo rfl rfl rfl nd_X0_letGo ⟨Nat.le_of_ble_eq_true rfl, Nat.le_of_ble_eq_true rfl⟩ rfl hl.1 rfl (Nat.le_of_ble_eq_true rfl) ⟨Nat.zero_le _, Nat.zero_le _⟩ dX4_allows_1) cx.2.2.1 hP hD hS [] rfl rfl (fun r2 H locs hw1 hP hS => ?_)
  have w3 : r2 = J_X0_letGo p2 := hw1
  clear hw1
  have zr2 := lg_b w3 (show 0 ≤ p2.toInt from by omega)
  have g1w := w3
  refine lv_aload_n hx hb dX4_allows_4 rfl (lv_at hl 0 rfl) ?_
  refine lv_iload_n hx hb dX4_allows_5 rfl (lv_at hl 2 rfl) ?_
  refine g_iF (w1 := fun (_ : Unit) => [cell32_ qh sh, cell0_ k qh sh, cell1_ k qh sh, cell4_ k qh sh, cell3_ k qh sh, cell2_ k qh sh]) (g_runVF (ws := [cell32_ qh sh, cell0_ k qh sh, cell1_ k qh sh, cell4_ k qh sh, cell3_ k qh sh, cell2_ k qh sh]) (rest := [.int r2]) cx hP hD hS [.int p1] (c_X4_mostLetGo l D k b qh sh H.size p1 (show 0 ≤ p1.toInt ∧ p1.toInt ≤ 400 ∧ tot p1 ≤ 4 from by first | decide | omega)) gX4_allows_X4_mostLetGo rfl rfl rfl nd_X4_mostLetGo ⟨Nat.le_of_ble_eq_true rfl, Nat.le_of_ble_eq_true rfl⟩ (ci := 2) (q0 := 0) rfl rfl rfl hl.1 rfl (Nat.le_of_ble_eq_true rfl) ⟨Nat.zero_le _, Nat.zero_le _⟩ dX4_allows_6) cx.2.2.1 hD hS (fun r5 _ H locs hw4 hP hD hS => ?_)
  replace hw4 : (0 ≤ r5.toInt ∧ r5.toInt ≤ tot p1) ∧ (r5 = J_X4_mostLetGo sh p1) := hw4
  obtain ⟨w6, w7⟩ := hw4
  have k9 : r5 = (J_X4_mostLetGo sh p1) := congrArg (fun z => z) w7
  refine lv_icmp_le (tgt := 14) hx hb dX4_allows_9 (by decide) (fun c10 => ?_) (fun c10 => ?_)
  · have f10 : r2.toInt ≤ r5.toInt := f_le rfl rfl c10
    refine lv_iload_n hx hb dX4_allows_14 rfl (lv_at hl 2 rfl) ?_
    refine lv_iload_n hx hb dX4_allows_15 rfl (lv_at hl 3 rfl) ?_
    refine g_ir (g_runS (wc := []) (rest := [.int p1]) cx hP hD hS [] rfl (by decide) [.int p2] (c_X0_letGo l D k b H.size p2) gX4_allows_X0_letGo rfl rfl rfl nd_X0_letGo ⟨Nat.le_of_ble_eq_true rfl, Nat.le_of_ble_eq_true rfl⟩ rfl hl.1 rfl (Nat.le_of_ble_eq_true rfl) ⟨Nat.zero_le _, Nat.zero_le _⟩ dX4_allows_16) cx.2.2.1 hP hD hS [] rfl rfl (fun r12 H locs hw11 hP hS => ?_)
    have w13 : r12 = J_X0_letGo p2 := hw11
    clear hw11
    have zr12 := lg_b w13 (show 0 ≤ p2.toInt from by omega)
    have g2w := w13
    have g2e : r12.toInt = r2.toInt := by rw [g1w, g2w]
    refine g_ir (g_runS (wc := []) (rest := []) cx hP hD hS [] rfl (by decide) [.int p1, .int r12] (c_X3_lessYoungestFirst l D k b H.size p1 r12) gX4_allows_X3_lessYoungestFirst rfl rfl rfl nd_X3_lessYoungestFirst ⟨Nat.le_of_ble_eq_true rfl, Nat.le_of_ble_eq_true rfl⟩ rfl hl.1 rfl (Nat.le_of_ble_eq_true rfl) ⟨Nat.zero_le _, Nat.zero_le _⟩ dX4_allows_19) cx.2.2.1 hP hD hS [] rfl rfl (fun r15 H locs hw14 hP hS => ?_)
    have w16 : r15 = J_X3_lessYoungestFirst p1 r12 := hw14
    clear hw14
    have lw := w16
    have lt := less_t w16 hv ⟨by omega, by omega⟩
    refine lv_istore (lv' := [(4, .int r15), (0, .ref (qh 0)), (1, .int p0), (2, .int p1), (3, .int p2)]) hx hb dX4_allows_22 hl (by decide) rfl (fun ls hl => ?_)
    refine lv_iload_n hx hb dX4_allows_24 rfl (lv_at hl 4 rfl) ?_
    refine g_ir (g_runS (wc := []) (rest := []) cx hP hD hS [] rfl (by decide) [.int p2] (c_X0_taken l D k b H.size p2) gX4_allows_X0_taken rfl rfl rfl nd_X0_taken ⟨Nat.le_of_ble_eq_true rfl, Nat.le_of_ble_eq_true rfl⟩ rfl hl.1 rfl (Nat.le_of_ble_eq_true rfl) ⟨Nat.zero_le _, Nat.zero_le _⟩ dX4_allows_25) cx.2.2.1 hP hD hS [] rfl rfl (fun r18 H locs hw17 hP hS => ?_)
    have w19 : r18 = J_X0_taken p2 := hw17
    clear hw17
    have zr18 := tk_b w19 (show 0 ≤ p2.toInt from by omega)
    have t1w := w19
    refine lv_aload_n hx hb dX4_allows_28 rfl (lv_at hl 1 rfl) ?_
    refine lv_iload_n hx hb dX4_allows_29 rfl (lv_at hl 2 rfl) ?_
    refine lv_iload hx hb dX4_allows_30 (lv_at hl 0 rfl) ?_
    refine g_iF (w1 := fun (_ : Unit) => [cell32_ qh sh, cell0_ k qh sh, cell1_ k qh sh, cell4_ k qh sh, cell3_ k qh sh, cell2_ k qh sh]) (g_runVF (ws := [cell32_ qh sh, cell0_ k qh sh, cell1_ k qh sh, cell4_ k qh sh, cell3_ k qh sh, cell2_ k qh sh]) (rest := [.int r18]) cx hP hD hS [.int p0, .int r15] (c_X4_mostTaken l D k b qh sh H.size p0 r15 (show 0 ≤ (sh 0 1).toInt ∧ (sh 0 1).toInt ≤ 4 from by first | decide | omega) h_of (show 0 ≤ r15.toInt ∧ r15.toInt ≤ 400 ∧ tot r15 ≤ 4 from by first | decide | omega) (show 0 ≤ p0.toInt ∧ p0.toInt ≤ 4 from by first | decide | omega)) gX4_allows_X4_mostTaken rfl rfl rfl nd_X4_mostTaken ⟨Nat.le_of_ble_eq_true rfl, Nat.le_of_ble_eq_true rfl⟩ (ci := 2) (q0 := 0) rfl rfl rfl hl.1 rfl (Nat.le_of_ble_eq_true rfl) ⟨Nat.zero_le _, Nat.zero_le _⟩ dX4_allows_32) cx.2.2.1 hD hS (fun r21 _ H locs hw20 hP hD hS => ?_)
    replace hw20 : (-4 ≤ r21.toInt ∧ r21.toInt ≤ 4 ∧ r21.toInt ≤ (sh 0 1).toInt - (tot r15)) ∧ ((sh 0 1).toInt < tot r15 ∨ 0 ≤ r21.toInt) ∧ (r21 = J_X4_mostTaken sh p0 r15) := hw20
    obtain ⟨w22, w23, w24⟩ := hw20
    have k26 : r21 = (J_X4_mostTaken sh p0 r15) := congrArg (fun z => z) w24
    refine lv_icmp_le (tgt := 40) hx hb dX4_allows_35 (by decide) (fun c27 => ?_) (fun c27 => ?_)
    · have f27 : r18.toInt ≤ r21.toInt := f_le rfl rfl c27
      refine lv_iload_n hx hb dX4_allows_40 rfl (lv_at hl 4 rfl) ?_
      refine g_ir (g_runS (wc := []) (rest := []) cx hP hD hS [] rfl (by decide) [.int p2] (c_X0_taught l D k b H.size p2) gX4_allows_X0_taught rfl rfl rfl nd_X0_taught ⟨Nat.le_of_ble_eq_true rfl, Nat.le_of_ble_eq_true rfl⟩ rfl hl.1 rfl (Nat.le_of_ble_eq_true rfl) ⟨Nat.zero_le _, Nat.zero_le _⟩ dX4_allows_41) cx.2.2.1 hP hD hS [] rfl rfl (fun r29 H locs hw28 hP hS => ?_)
      have w30 : r29 = J_X0_taught p2 := hw28
      clear hw28
      have zr29 := tg_b w30 (show 0 ≤ p2.toInt from by omega)
      have tgw := w30
      refine lv_aload_n hx hb dX4_allows_44 rfl (lv_at hl 1 rfl) ?_
      refine lv_iload hx hb dX4_allows_45 (lv_at hl 0 rfl) ?_
      refine lv_bipush (v := 100) hx hb dX4_allows_47 (by decide) ?_
      refine lv_iload_n hx hb dX4_allows_49 rfl (lv_at hl 4 rfl) ?_
      refine g_ir (g_runS (wc := []) (rest := [.int 100, .int r15, .ref (qh 0), .int r29]) cx hP hD hS [] rfl (by decide) [.int p2] (c_X0_taken l D k b H.size p2) gX4_allows_X0_taken rfl rfl rfl nd_X0_taken ⟨Nat.le_of_ble_eq_true rfl, Nat.le_of_ble_eq_true rfl⟩ rfl hl.1 rfl (Nat.le_of_ble_eq_true rfl) ⟨Nat.zero_le _, Nat.zero_le _⟩ dX4_allows_50) cx.2.2.1 hP hD hS [] rfl rfl (fun r32 H locs hw31 hP hS => ?_)
      have w33 : r32 = J_X0_taken p2 := hw31
      clear hw31
      have zr32 := tk_b w33 (show 0 ≤ p2.toInt from by omega)
      have t2e : r32.toInt = r18.toInt := by rw [t1w, w33]
      refine lv_imul hx hb dX4_allows_53 (lv_topi (fun v34 e34 => ?_))
      have t34 : v34.toInt = 100 * r32.toInt := by rw [e34]; exact i_mul (by decide) rfl (by omega) (by omega)
      refine lv_iadd hx hb dX4_allows_54 (lv_topi (fun v35 e35 => ?_))
      have t35 : v35.toInt = r15.toInt + v34.toInt := by rw [e35]; exact i_add rfl rfl (by omega) (by omega)
      refine g_iF (w1 := fun (_ : Unit) => [cell32_ qh sh, cell0_ k qh sh, cell1_ k qh sh, cell4_ k qh sh, cell3_ k qh sh, cell2_ k qh sh]) (g_runVF (ws := [cell32_ qh sh, cell0_ k qh sh, cell1_ k qh sh, cell4_ k qh sh, cell3_ k qh sh, cell2_ k qh sh]) (rest := [.int r29]) cx hP hD hS [.int v35] (c_X4_mostTaught l D k b qh sh H.size v35 (show 0 ≤ v35.toInt ∧ v35.toInt ≤ 9999 from by first | decide | omega)) gX4_allows_X4_mostTaught rfl rfl rfl nd_X4_mostTaught ⟨Nat.le_of_ble_eq_true rfl, Nat.le_of_ble_eq_true rfl⟩ (ci := 2) (q0 := 0) rfl rfl rfl hl.1 rfl (Nat.le_of_ble_eq_true rfl) ⟨Nat.zero_le _, Nat.zero_le _⟩ dX4_allows_55) cx.2.2.1 hD hS (fun r37 _ H locs hw36 hP hD hS => ?_)
      replace hw36 : (r37.toInt = 0 ∨ (r37.toInt = 1 ∧ 0 < v35.toInt / 100)) ∧ (r37 = J_X4_mostTaught sh v35) := hw36
      obtain ⟨w38, w39⟩ := hw36
      have k41 : r37 = (J_X4_mostTaught sh v35) := congrArg (fun z => z) w39
      refine lv_icmp_gt (tgt := 77) hx hb dX4_allows_58 (by decide) (fun c42 => ?_) (fun c42 => ?_)
      · have f42 : r37.toInt < r29.toInt := f_lt rfl rfl c42
        refine lv_iconst (v := 0) hx hb dX4_allows_77 (by decide) ?_
        have hlit43 : (0 : Int32).toInt = 0 := by decide
        rw [hQ]
        exact x_z cx hr (by decide) () hP hD hS ⟨(show 0 ≤ (0 : Int32).toInt ∧ (0 : Int32).toInt ≤ 1 from by omega), (show Imp ((0 : Int32).toInt = 1) (0 ≤ (J_X0_done p1 p2).toInt ∧ (J_X0_done p1 p2).toInt ≤ 400 ∧ tot (J_X0_done p1 p2) ≤ 4) from fun h => by first | exact absurd h (by decide) | exact dn.1), (show (0 : Int32) = J_X4_allows sh p0 p1 p2 from by subst w3 k9 w13 w16 w19 k26 w30 w33 e34 e35 k41; first | (refine Eq.symm ?_; refine Eq.trans (if_pos c10) ?_; refine Eq.trans (if_pos c27) ?_; refine Eq.trans (if_pos c42) ?_; rfl) | (unfold J_X4_allows; try dsimp only; rw [if_pos c10, if_pos c27, if_pos c42]))⟩ dX4_allows_78
      · have f42 : r29.toInt ≤ r37.toInt := f_nlt rfl rfl c42
        refine lv_iload_n hx hb dX4_allows_61 rfl (lv_at hl 4 rfl) ?_
        refine g_ir (g_runS (wc := []) (rest := []) cx hP hD hS [] rfl (by decide) [.int p2] (c_X0_ordered l D k b H.size p2) gX4_allows_X0_ordered rfl rfl rfl nd_X0_ordered ⟨Nat.le_of_ble_eq_true rfl, Nat.le_of_ble_eq_true rfl⟩ rfl hl.1 rfl (Nat.le_of_ble_eq_true rfl) ⟨Nat.zero_le _, Nat.zero_le _⟩ dX4_allows_62) cx.2.2.1 hP hD hS [] rfl rfl (fun r45 H locs hw44 hP hS => ?_)
        have w46 : r45 = J_X0_ordered p2 := hw44
        clear hw44
        have zr45 := or_b w46 (show 0 ≤ p2.toInt from by omega)
        refine lv_aload_n hx hb dX4_allows_65 rfl (lv_at hl 1 rfl) ?_
        refine lv_iload_n hx hb dX4_allows_66 rfl (lv_at hl 2 rfl) ?_
        refine g_iF (w1 := fun (_ : Unit) => [cell32_ qh sh, cell0_ k qh sh, cell1_ k qh sh, cell4_ k qh sh, cell3_ k qh sh, cell2_ k qh sh]) (g_runVF (ws := [cell32_ qh sh, cell0_ k qh sh, cell1_ k qh sh, cell4_ k qh sh, cell3_ k qh sh, cell2_ k qh sh]) (rest := [.int r45]) cx hP hD hS [.int p0] (c_X4_mostOrdered l D k b qh sh H.size p0 (show 0 ≤ (sh 0 0).toInt ∧ (sh 0 0).toInt ≤ 5 from by first | decide | omega)) gX4_allows_X4_mostOrdered rfl rfl rfl nd_X4_mostOrdered ⟨Nat.le_of_ble_eq_true rfl, Nat.le_of_ble_eq_true rfl⟩ (ci := 2) (q0 := 0) rfl rfl rfl hl.1 rfl (Nat.le_of_ble_eq_true rfl) ⟨Nat.zero_le _, Nat.zero_le _⟩ dX4_allows_67) cx.2.2.1 hD hS (fun r48 _ H locs hw47 hP hD hS => ?_)
        replace hw47 : (0 ≤ r48.toInt ∧ r48.toInt ≤ 2) ∧ (r48 = J_X4_mostOrdered sh p0) := hw47
        obtain ⟨w49, w50⟩ := hw47
        have k52 : r48 = (J_X4_mostOrdered sh p0) := congrArg (fun z => z) w50
        refine lv_icmp_gt (tgt := 77) hx hb dX4_allows_70 (by decide) (fun c53 => ?_) (fun c53 => ?_)
        · have f53 : r48.toInt < r45.toInt := f_lt rfl rfl c53
          refine lv_iconst (v := 0) hx hb dX4_allows_77 (by decide) ?_
          have hlit54 : (0 : Int32).toInt = 0 := by decide
          rw [hQ]
          exact x_z cx hr (by decide) () hP hD hS ⟨(show 0 ≤ (0 : Int32).toInt ∧ (0 : Int32).toInt ≤ 1 from by omega), (show Imp ((0 : Int32).toInt = 1) (0 ≤ (J_X0_done p1 p2).toInt ∧ (J_X0_done p1 p2).toInt ≤ 400 ∧ tot (J_X0_done p1 p2) ≤ 4) from fun h => by first | exact absurd h (by decide) | exact dn.1), (show (0 : Int32) = J_X4_allows sh p0 p1 p2 from by subst w3 k9 w13 w16 w19 k26 w30 w33 e34 e35 k41 w46 k52; first | (refine Eq.symm ?_; refine Eq.trans (if_pos c10) ?_; refine Eq.trans (if_pos c27) ?_; refine Eq.trans (if_neg c42) ?_; refine Eq.trans (if_pos c53) ?_; rfl) | (unfold J_X4_allows; try dsimp only; rw [if_pos c10, if_pos c27, if_neg c42, if_pos c53]))⟩ dX4_allows_78
        · have f53 : r45.toInt ≤ r48.toInt := f_nlt rfl rfl c53
          have dn := done_t (X := v35.toInt) (hook := (sh 0 1).toInt) hv g2w t1w tgw lw (by omega) (by omega) (by omega) (by omega) (by omega) (by omega) (by omega) (Eq.refl (J_X0_done p1 p2))
          refine lv_iconst (v := 1) hx hb dX4_allows_73 (by decide) ?_
          refine lv_goto (tgt := 78) hx hb dX4_allows_74 (by decide) ?_
          have hlit55 : (1 : Int32).toInt = 1 := by decide
          rw [hQ]
          exact x_z cx hr (by decide) () hP hD hS ⟨(show 0 ≤ (1 : Int32).toInt ∧ (1 : Int32).toInt ≤ 1 from by omega), (show Imp ((1 : Int32).toInt = 1) (0 ≤ (J_X0_done p1 p2).toInt ∧ (J_X0_done p1 p2).toInt ≤ 400 ∧ tot (J_X0_done p1 p2) ≤ 4) from fun h => by first | exact absurd h (by decide) | exact dn.1), (show (1 : Int32) = J_X4_allows sh p0 p1 p2 from by subst w3 k9 w13 w16 w19 k26 w30 w33 e34 e35 k41 w46 k52; first | (refine Eq.symm ?_; refine Eq.trans (if_pos c10) ?_; refine Eq.trans (if_pos c27) ?_; refine Eq.trans (if_neg c42) ?_; refine Eq.trans (if_neg c53) ?_; rfl) | (unfold J_X4_allows; try dsimp only; rw [if_pos c10, if_pos c27, if_neg c42, if_neg c53]))⟩ dX4_allows_78
    · have f27 : r21.toInt < r18.toInt := f_nle rfl rfl c27
      refine lv_iconst (v := 0) hx hb dX4_allows_38 (by decide) ?_
      have hlit56 : (0 : Int32).toInt = 0 := by decide
      rw [hQ]
      exact x_z cx hr (by decide) () hP hD hS ⟨(show 0 ≤ (0 : Int32).toInt ∧ (0 : Int32).toInt ≤ 1 from by omega), (show Imp ((0 : Int32).toInt = 1) (0 ≤ (J_X0_done p1 p2).toInt ∧ (J_X0_done p1 p2).toInt ≤ 400 ∧ tot (J_X0_done p1 p2) ≤ 4) from fun h => absurd h (by decide)), (show (0 : Int32) = J_X4_allows sh p0 p1 p2 from by subst w3 k9 w13 w16 w19 k26; first | (refine Eq.symm ?_; refine Eq.trans (if_pos c10) ?_; refine Eq.trans (if_neg c27) ?_; rfl) | (unfold J_X4_allows; try dsimp only; rw [if_pos c10, if_neg c27]))⟩ dX4_allows_39
  · have f10 : r5.toInt < r2.toInt := f_nle rfl rfl c10
    refine lv_iconst (v := 0) hx hb dX4_allows_12 (by decide) ?_
    have hlit57 : (0 : Int32).toInt = 0 := by decide
    rw [hQ]
    exact x_z cx hr (by decide) () hP hD hS ⟨(show 0 ≤ (0 : Int32).toInt ∧ (0 : Int32).toInt ≤ 1 from by omega), (show Imp ((0 : Int32).toInt = 1) (0 ≤ (J_X0_done p1 p2).toInt ∧ (J_X0_done p1 p2).toInt ≤ 400 ∧ tot (J_X0_done p1 p2) ≤ 4) from fun h => absurd h (by decide)), (show (0 : Int32) = J_X4_allows sh p0 p1 p2 from by subst w3 k9; first | (refine Eq.symm ?_; refine Eq.trans (if_neg c10) ?_; rfl) | (unfold J_X4_allows; try dsimp only; rw [if_neg c10]))⟩ dX4_allows_13
