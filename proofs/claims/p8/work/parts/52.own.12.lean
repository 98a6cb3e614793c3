theorem fw_X11_firstAgainst_368 : Cond.fieldLink RX11 368 "StillInAugust$Hands" "ALL" "[I" ∈ wsX11_firstAgainst := by decide +kernel
theorem fw_X11_firstAgainst_39 : Cond.fieldLink RX11 39 "StillInAugust" "house" "LStillInAugust$House;" ∈ wsX11_firstAgainst := by decide +kernel
theorem fw_X11_firstAgainst_59 : Cond.fieldLink RX11 59 "StillInAugust" "plan" "LStillInAugust$Plan;" ∈ wsX11_firstAgainst := by decide +kernel
theorem nd_X6_firstAct : yX6_firstAct.cls = RX6 ∧ yX6_firstAct.cls ≠ "java/lang/invoke/MethodHandle" ∧ yX6_firstAct.cls ≠ "java/lang/invoke/VarHandle" ∧ (parseMethodDescriptor yX6_firstAct.desc).map (fun d => d.parameters.length) = some 3 := by decide +kernel
theorem iw_X11_firstAgainst_X11 : ∀ w ∈ u_ws RX11 TX11 17, w ∈ wsX11_firstAgainst := fun _ h => List.mem_cons_of_mem _ (List.mem_append_left _ (List.mem_append_left _ (List.mem_append_right _ h)))
set_option maxHeartbeats 4000000 in
set_option maxRecDepth 100000 in
theorem c_X11_firstAgainst (l : Launch) (D : va_G) (k : Nat → ClassId) (b : Nat → Nat) (qx : Nat → Nat) (sx : Nat → Nat → Int32) (qh : Nat → Nat) (sh : Nat → Nat → Int32) (qpl : Nat → Nat) (spl : Nat → Nat → Int32) (tpl : Nat → Nat → Int64) (sz : Nat) (p0 : Int32) (p1 : Int32) (h_wk : 0 ≤ (sh 0 0).toInt ∧ (sh 0 0).toInt ≤ 5) (h_hk : 0 ≤ (sh 0 1).toInt ∧ (sh 0 1).toInt ≤ 4) (h_fl : 0 ≤ (sh 0 12).toInt ∧ (sh 0 12).toInt ≤ 5) (h_of : ∀ j, 0 ≤ (sh 2 j).toInt ∧ (sh 2 j).toInt ≤ 4) (h_go : ∀ j, 0 ≤ (sh 3 j).toInt ∧ (sh 3 j).toInt ≤ 5) (h_su : SUok (sh 5)) (hp0 : 0 ≤ p0.toInt ∧ p0.toInt ≤ 4) : MetI l D k b yX11_firstAgainst wsX11_firstAgainst ({ frames := 3, cells := 0, slots := 0, locals := 66 } : Room) [cell30_ qx sx, cell28_ k qx sx, cell29_ k qx sx, cell31_ qx sh qh, cell0_ k qh sh, cell1_ k qh sh, cell4_ k qh sh, cell3_ k qh sh, cell2_ k qh sh, cell42_ qx spl qpl, cell26_ k qpl tpl, cell23_ k qpl spl, cell24_ k qpl tpl, cell25_ k qpl spl] sz [.ref (qx 0), .int p0, .int p1] (fun (r : Int32) (u : Unit) => True) (fun u => [cell30_ qx sx, cell28_ k qx sx, cell29_ k qx sx, cell31_ qx sh qh, cell0_ k qh sh, cell1_ k qh sh, cell4_ k qh sh, cell3_ k qh sh, cell2_ k qh sh, cell42_ qx spl qpl, cell26_ k qpl tpl, cell23_ k qpl spl, cell24_ k qpl tpl, cell25_ k qpl spl]) := by
  refine g_enter (cc := cX11_firstAgainst) (maxL := 7) (ret := (some .int)) (by decide) rfl (Nat.le_of_ble_eq_true rfl) ?_
  intro p e s m below meth c A hsz hAe cx hr hP hD hS ls hl
  rw [hAe]
  refine g_q (fun Q hQ => ?_)
  have hx := cx.1.1
  have hb := cx.1.2.1
  have bp0 := i_rng p0
  have bp1 := i_rng p1
  have hl : lv_has ls 7 [(0, .ref (qx 0)), (1, .int p0), (2, .int p1)] := hl
  obtain ⟨H, eH⟩ : ∃ H : Heap, H = s.heap := ⟨_, rfl⟩
  obtain ⟨locs, el⟩ : ∃ L : List Loc, L = [] := ⟨_, rfl⟩
  have hP : va_P D vwCl [cell30_ qx sx, cell28_ k qx sx, cell29_ k qx sx, cell31_ qx sh qh, cell0_ k qh sh, cell1_ k qh sh, cell4_ k qh sh, cell3_ k qh sh, cell2_ k qh sh, cell42_ qx spl qpl, cell26_ k qpl tpl, cell23_ k qpl spl, cell24_ k qpl tpl, cell25_ k qpl spl] H := by rw [eH]; exact hP
  have hD : va_D A [cell30_ qx sx, cell28_ k qx sx, cell29_ k qx sx, cell31_ qx sh qh, cell0_ k qh sh, cell1_ k qh sh, cell4_ k qh sh, cell3_ k qh sh, cell2_ k qh sh, cell42_ qx spl qpl, cell26_ k qpl tpl, cell23_ k qpl spl, cell24_ k qpl tpl, cell25_ k qpl spl] := hD
  have hS : va_S A s.heap H locs := by rw [eH, el]; exact hS
  suffices goal : W p l e ({ frames := 3, cells := 0, slots := 0, locals := 66 } : Room) s m ([.ref (qx 0), .int p0, .int p1] : List Value).toArray below meth c H locs 0 0 Q (F0 m 0 ls []) by rw [eH, el] at goal; exact goal
  refine va_gets hx hb cx.2.2.2.t0.1 hS cx.1.2.2.2.1 (cx.1.2.2.2.2 _ fw_X11_firstAgainst_368) (fun _ h => h) dX11_firstAgainst_0 ?_
  refine lv_astore_n (lv' := [(3, .ref (b 0)), (0, .ref (qx 0)), (1, .int p0), (2, .int p1)]) hx hb dX11_firstAgainst_3 rfl hl (by decide) rfl (fun ls hl => ?_)
  refine lv_aload_n hx hb dX11_firstAgainst_4 rfl (lv_at hl 0 rfl) ?_
  refine va_tlen hx hb cx.2.2.2.t0.2 hS (v := 35) (by decide) dX11_firstAgainst_5 ?_
  refine lv_istore (lv' := [(4, .int 35), (3, .ref (b 0)), (0, .ref (qx 0)), (1, .int p0), (2, .int p1)]) hx hb dX11_firstAgainst_6 hl (by decide) rfl (fun ls hl => ?_)
  refine lv_iconst (v := 0) hx hb dX11_firstAgainst_8 (by decide) ?_
  refine lv_istore (lv' := [(5, .int 0), (4, .int 35), (3, .ref (b 0)), (0, .ref (qx 0)), (1, .int p0), (2, .int p1)]) hx hb dX11_firstAgainst_9 hl (by decide) rfl (fun ls hl => ?_)
  have hL11 : ∀ (n24 : Nat) (v23 : Int32) (H : Heap) (locs : List Loc) (ls : Array Slot), 35 - v23.toInt < (n24 : Int) → (0 ≤ v23.toInt ∧ v23.toInt ≤ 35) → va_P D vwCl [cell30_ qx sx, cell28_ k qx sx, cell29_ k qx sx, cell31_ qx sh qh, cell0_ k qh sh, cell1_ k qh sh, cell4_ k qh sh, cell3_ k qh sh, cell2_ k qh sh, cell42_ qx spl qpl, cell26_ k qpl tpl, cell23_ k qpl spl, cell24_ k qpl tpl, cell25_ k qpl spl] H → va_D A [cell30_ qx sx, cell28_ k qx sx, cell29_ k qx sx, cell31_ qx sh qh, cell0_ k qh sh, cell1_ k qh sh, cell4_ k qh sh, cell3_ k qh sh, cell2_ k qh sh, cell42_ qx spl qpl, cell26_ k qpl tpl, cell23_ k qpl spl, cell24_ k qpl tpl, cell25_ k qpl spl] → va_S A s.heap H locs → lv_has ls 7 [(5, .int v23), (4, .int 35), (3, .ref (b 0)), (0, .ref (qx 0)), (1, .int p0), (2, .int p1)] → W p l e ({ frames := 3, cells := 0, slots := 0, locals := 66 } : Room) s m ([.ref (qx 0), .int p0, .int p1] : List Value).toArray below meth c H locs 0 0 Q (F0 m 11 ls []) := by
    intro n24
    induction n24 with
    | zero => intro v23 H locs ls hmn24 bv23 hP hD hS hl; exact absurd hmn24 (by omega)
    | succ n24 ih11 =>
      intro v23 H locs ls hmn24 bv23 hP hD hS hl
      refine lv_iload hx hb dX11_firstAgainst_11 (lv_at hl 0 rfl) ?_
      refine lv_iload hx hb dX11_firstAgainst_13 (lv_at hl 1 rfl) ?_
      refine lv_icmp_ge (tgt := 70) hx hb dX11_firstAgainst_15 (by decide) (fun c25 => ?_) (fun c25 => ?_)
      · have f25 : 35 ≤ v23.toInt := f_le (by decide) rfl c25
        refine lv_bipush (v := (-9)) hx hb dX11_firstAgainst_70 (by decide) ?_
        have hlit26 : ((-9) : Int32).toInt = -9 := by decide
        rw [hQ]
        exact x_i cx hr () hP hD hS trivial dX11_firstAgainst_72
      · have f25 : v23.toInt < 35 := f_nle (by decide) rfl c25
        refine lv_aload_n hx hb dX11_firstAgainst_18 rfl (lv_at hl 2 rfl) ?_
        refine lv_iload hx hb dX11_firstAgainst_19 (lv_at hl 0 rfl) ?_
        have hn27 : vp_in v23 35 := f_in (a := v23.toInt) rfl (by omega) (by omega)
        refine va_ti hx hb cx.2.2.2.t0.2 hS hn27 rfl dX11_firstAgainst_21 (lv_topi (fun v28 e28 => ?_))
        have t28 : 0 ≤ v28.toInt ∧ v28.toInt ≤ 400 ∧ v28.toInt / 100 + v28.toInt / 10 % 10 + v28.toInt % 10 ≤ 4 := by rw [e28]; exact zALL_v _
        refine lv_istore (lv' := [(6, .int v28), (5, .int v23), (4, .int 35), (3, .ref (b 0)), (0, .ref (qx 0)), (1, .int p0), (2, .int p1)]) hx hb dX11_firstAgainst_22 hl (by decide) rfl (fun ls hl => ?_)
        refine lv_aload_n hx hb dX11_firstAgainst_24 rfl (lv_at hl 4 rfl) ?_
        refine lv_iload hx hb dX11_firstAgainst_25 (lv_at hl 0 rfl) ?_
        refine g_ir (g_runV (wc := [cell30_ qx sx, cell28_ k qx sx, cell29_ k qx sx, cell31_ qx sh qh, cell0_ k qh sh, cell1_ k qh sh, cell4_ k qh sh, cell3_ k qh sh, cell2_ k qh sh]) (rest := []) cx hP hD hS [0, 1, 2, 3, 4, 5, 6, 7, 8] rfl (by decide) [.int v28] (c_X11_isHands l D k b qx sx (lq [0, qh 1, qh 2, qh 3, qh 4, qh 5]) (lS [(lI [(sh 0 0), (sh 0 1), 0, 0, 0, 0, (sh 0 6), (sh 0 7), (sh 0 8), (sh 0 9), (sh 0 10), (sh 0 11), (sh 0 12)]), (sh 1), (sh 2), (sh 3), (sh 4), (sh 5)]) H.size v28 (show 0 ≤ (sh 0 1).toInt ∧ (sh 0 1).toInt ≤ 4 from by first | decide | omega)) gX11_firstAgainst_X11_isHands rfl rfl rfl nd_X11_isHands ⟨Nat.le_of_ble_eq_true rfl, Nat.le_of_ble_eq_true rfl⟩ (ci := 9) (q0 := 0) rfl rfl rfl hl.1 rfl (Nat.le_of_ble_eq_true rfl) ⟨Nat.zero_le _, Nat.zero_le _⟩ dX11_firstAgainst_27) cx.2.2.1 hP hD hS [0, 1, 2, 3, 4, 5, 6, 7, 8] rfl rfl (fun r30 H locs hw29 hP hS => ?_)
        replace hw29 : (0 ≤ r30.toInt ∧ r30.toInt ≤ 1) ∧ (Imp (r30.toInt = 1) ((0 ≤ v28.toInt ∧ v28.toInt ≤ 400 ∧ tot v28 ≤ 4) ∧ tot v28 ≤ (sh 0 1).toInt)) ∧ (r30 = J_X11_isHands sx (lS [(lI [(sh 0 0), (sh 0 1), 0, 0, 0, 0, (sh 0 6), (sh 0 7), (sh 0 8), (sh 0 9), (sh 0 10), (sh 0 11), (sh 0 12)]), (sh 1), (sh 2), (sh 3), (sh 4), (sh 5)]) v28) := hw29
        obtain ⟨w31, w32, w33⟩ := hw29
        have k35 : r30 = (J_X11_isHands sx (lS [(lI [(sh 0 0), (sh 0 1), 0, 0, 0, 0, (sh 0 6), (sh 0 7), (sh 0 8), (sh 0 9), (sh 0 10), (sh 0 11), (sh 0 12)]), (sh 1), (sh 2), (sh 3), (sh 4), (sh 5)]) v28) := congrArg (fun z => z) w33
        have zr30 : 0 ≤ r30.toInt ∧ r30.toInt ≤ 1 := w31
        have hJ64 : ∀  (H : Heap) (locs : List Loc) (ls : Array Slot), va_P D vwCl [cell30_ qx sx, cell28_ k qx sx, cell29_ k qx sx, cell31_ qx sh qh, cell0_ k qh sh, cell1_ k qh sh, cell4_ k qh sh, cell3_ k qh sh, cell2_ k qh sh, cell42_ qx spl qpl, cell26_ k qpl tpl, cell23_ k qpl spl, cell24_ k qpl tpl, cell25_ k qpl spl] H → va_D A [cell30_ qx sx, cell28_ k qx sx, cell29_ k qx sx, cell31_ qx sh qh, cell0_ k qh sh, cell1_ k qh sh, cell4_ k qh sh, cell3_ k qh sh, cell2_ k qh sh, cell42_ qx spl qpl, cell26_ k qpl tpl, cell23_ k qpl spl, cell24_ k qpl tpl, cell25_ k qpl spl] → va_S A s.heap H locs → lv_has ls 7 [(5, .int v23), (4, .int 35), (3, .ref (b 0)), (0, .ref (qx 0)), (1, .int p0), (2, .int p1)] → W p l e ({ frames := 3, cells := 0, slots := 0, locals := 66 } : Room) s m ([.ref (qx 0), .int p0, .int p1] : List Value).toArray below meth c H locs 0 0 Q (F0 m 64 ls []) := by
          intro  H locs ls  hP hD hS hl
          obtain ⟨v48, e48⟩ : ∃ z : Int32, z = v23 + 1 := ⟨_, rfl⟩
          refine lv_iinc (v := v48) (lv' := [(5, .int v48), (4, .int 35), (3, .ref (b 0)), (0, .ref (qx 0)), (1, .int p0), (2, .int p1)]) hx hb dX11_firstAgainst_64 hl (k := 0) rfl (by rw [e48]; rfl) (by decide) rfl (fun ls hl => ?_)
          have t48 : v48.toInt = v23.toInt + 1 := by rw [e48]; exact i_add rfl (by decide) (by omega) (by omega)
          refine lv_goto (tgt := 11) hx hb dX11_firstAgainst_67 (by decide) ?_
          exact ih11 v48 _ _ _ (by omega) (by first | decide | omega) hP hD hS (lv_sub hl [0, 1, 2, 3, 4, 5] rfl)
        refine lv_if_eq (tgt := 64) hx hb dX11_firstAgainst_30 (by decide) (fun c49 => ?_) (fun c49 => ?_)
        · have f49 : r30.toInt = 0 := f_eq rfl (by decide) c49
          exact hJ64  _ _ _  hP hD hS (lv_sub hl [1, 2, 3, 4, 5, 6] rfl)
        · have f49 : ¬ r30.toInt = 0 := f_ne rfl (by decide) c49
          have k49 : ((0 ≤ v28.toInt ∧ v28.toInt ≤ 400 ∧ tot v28 ≤ 4) ∧ tot v28 ≤ (sh 0 1).toInt) := w32 (by omega)
          refine lv_aload_n hx hb dX11_firstAgainst_33 rfl (lv_at hl 4 rfl) ?_
          refine g_get cx hP iw_X11_firstAgainst_X11 0 rfl rfl 8 (by decide) rfl fw_X11_firstAgainst_59 rfl dX11_firstAgainst_34 ?_
          refine lv_iload_n hx hb dX11_firstAgainst_37 rfl (lv_at hl 5 rfl) ?_
          refine lv_iload hx hb dX11_firstAgainst_38 (lv_at hl 0 rfl) ?_
          refine lv_iconst (v := 0) hx hb dX11_firstAgainst_40 (by decide) ?_
          have hlit50 : (0 : Int32).toInt = 0 := by decide
          refine g_ir (g_runV (wc := [cell42_ qx spl qpl, cell26_ k qpl tpl, cell23_ k qpl spl, cell24_ k qpl tpl, cell25_ k qpl spl]) (rest := []) cx hP hD hS [9, 10, 11, 12, 13] rfl (by decide) [.int p0, .int v28, .int 0] (c_X6_firstAct l D k b (lq [qx 10, qpl 1, qpl 2, qpl 3, qpl 4]) (lS [(lI [(spl 0 0)]), (fun _ => 0), (spl 2), (fun _ => 0), (spl 4)]) (lT [(lJ []), (tpl 1), (fun _ => 0), (tpl 3), (fun _ => 0)]) H.size p0 v28 0 (show 0 ≤ v28.toInt ∧ v28.toInt ≤ 400 ∧ tot v28 ≤ 4 from by first | decide | omega) (show 0 ≤ p0.toInt ∧ p0.toInt ≤ 4 from by first | decide | omega) (show 0 ≤ (0 : Int32).toInt ∧ (0 : Int32).toInt ≤ 2 from by first | decide | omega)) gX11_firstAgainst_X6_firstAct rfl rfl rfl nd_X6_firstAct ⟨Nat.le_of_ble_eq_true rfl, Nat.le_of_ble_eq_true rfl⟩ (ci := 4) (q0 := 0) rfl rfl rfl hl.1 rfl (Nat.le_of_ble_eq_true rfl) ⟨Nat.zero_le _, Nat.zero_le _⟩ dX11_firstAgainst_41) cx.2.2.1 hP hD hS [9, 10, 11, 12, 13] rfl rfl (fun r52 H locs hw51 hP hS => ?_)
          clear hw51
          refine g_ir (g_runS (wc := []) (rest := []) cx hP hD hS [] rfl (by decide) [.int r52] (c_X0_taken l D k b H.size r52) gX11_firstAgainst_X0_taken rfl rfl rfl nd_X0_taken ⟨Nat.le_of_ble_eq_true rfl, Nat.le_of_ble_eq_true rfl⟩ rfl hl.1 rfl (Nat.le_of_ble_eq_true rfl) ⟨Nat.zero_le _, Nat.zero_le _⟩ dX11_firstAgainst_44) cx.2.2.1 hP hD hS [] rfl rfl (fun r54 H locs hw53 hP hS => ?_)
          have w55 : r54 = J_X0_taken r52 := hw53
          clear hw53
          refine lv_aload_n hx hb dX11_firstAgainst_47 rfl (lv_at hl 4 rfl) ?_
          refine g_get cx hP iw_X11_firstAgainst_X11 0 rfl rfl 4 (by decide) rfl fw_X11_firstAgainst_39 rfl dX11_firstAgainst_48 ?_
          refine lv_iload_n hx hb dX11_firstAgainst_51 rfl (lv_at hl 5 rfl) ?_
          refine lv_iload hx hb dX11_firstAgainst_52 (lv_at hl 0 rfl) ?_
          refine lv_iload_n hx hb dX11_firstAgainst_54 rfl (lv_at hl 6 rfl) ?_
          refine g_ir (g_runV (wc := [cell31_ qx sh qh, cell0_ k qh sh, cell1_ k qh sh, cell4_ k qh sh, cell3_ k qh sh, cell2_ k qh sh]) (rest := [.int r54]) cx hP hD hS [3, 4, 5, 6, 7, 8] rfl (by decide) [.int p0, .int v28, .int p1] (c_X4_takenByLevel l D k b (lq [qx 7, qh 1, qh 2, qh 3, qh 4, qh 5]) (lS [(lI [(sh 0 0), (sh 0 1), 0, 0, 0, 0, (sh 0 6), (sh 0 7), (sh 0 8), (sh 0 9), (sh 0 10), (sh 0 11), (sh 0 12)]), (sh 1), (sh 2), (sh 3), (sh 4), (sh 5)]) H.size p0 v28 p1 (show 0 ≤ (sh 0 1).toInt ∧ (sh 0 1).toInt ≤ 4 from by first | decide | omega) h_of (show 0 ≤ v28.toInt ∧ v28.toInt ≤ 400 ∧ tot v28 ≤ 4 from by first | decide | omega) (show tot v28 ≤ (sh 0 1).toInt from by first | decide | omega) (show 0 ≤ p0.toInt ∧ p0.toInt ≤ 4 from by first | decide | omega)) gX11_firstAgainst_X4_takenByLevel rfl rfl rfl nd_X4_takenByLevel ⟨Nat.le_of_ble_eq_true rfl, Nat.le_of_ble_eq_true rfl⟩ (ci := 2) (q0 := 0) rfl rfl rfl hl.1 rfl (Nat.le_of_ble_eq_true rfl) ⟨Nat.zero_le _, Nat.zero_le _⟩ dX11_firstAgainst_55) cx.2.2.1 hP hD hS [3, 4, 5, 6, 7, 8] rfl rfl (fun r57 H locs hw56 hP hS => ?_)
          replace hw56 : (0 ≤ r57.toInt ∧ r57.toInt ≤ 4 ∧ r57.toInt ≤ (sh 0 1).toInt - (tot v28)) ∧ (r57 = J_X4_takenByLevel (lS [(lI [(sh 0 0), (sh 0 1), 0, 0, 0, 0, (sh 0 6), (sh 0 7), (sh 0 8), (sh 0 9), (sh 0 10), (sh 0 11), (sh 0 12)]), (sh 1), (sh 2), (sh 3), (sh 4), (sh 5)]) p0 v28 p1) := hw56
          obtain ⟨w58, w59⟩ := hw56
          have k61 : r57 = (J_X4_takenByLevel (lS [(lI [(sh 0 0), (sh 0 1), 0, 0, 0, 0, (sh 0 6), (sh 0 7), (sh 0 8), (sh 0 9), (sh 0 10), (sh 0 11), (sh 0 12)]), (sh 1), (sh 2), (sh 3), (sh 4), (sh 5)]) p0 v28 p1) := congrArg (fun z => z) w59
          refine lv_icmp_eq (tgt := 64) hx hb dX11_firstAgainst_58 (by decide) (fun c62 => ?_) (fun c62 => ?_)
          · have f62 : r54.toInt = r57.toInt := f_eq rfl rfl c62
            exact hJ64  _ _ _  hP hD hS (lv_sub hl [1, 2, 3, 4, 5, 6] rfl)
          · have f62 : ¬ r54.toInt = r57.toInt := f_ne rfl rfl c62
            refine lv_iload hx hb dX11_firstAgainst_61 (lv_at hl 0 rfl) ?_
            rw [hQ]
            exact x_i cx hr () hP hD hS trivial dX11_firstAgainst_63
  have hlit63 : (0 : Int32).toInt = 0 := by decide
  exact hL11 (Int.toNat (35 - 0) + 1) 0 _ _ _ (by omega) (by first | decide | omega) hP hD hS (lv_sub hl [0, 1, 2, 3, 4, 5] rfl)

