theorem fw_X4_settle_26 : Cond.fieldLink RX4 26 "StillInAugust$House" "sundays" "[I" ∈ wsX4_settle := by decide +kernel
theorem fw_X4_settle_79 : Cond.fieldLink RX4 79 "StillInAugust$Hands" "ALL" "[I" ∈ wsX4_settle := by decide +kernel
theorem nd_X3_behindSunday : yX3_behindSunday.cls ≠ "java/lang/invoke/MethodHandle" ∧ yX3_behindSunday.cls ≠ "java/lang/invoke/VarHandle" ∧ (parseMethodDescriptor yX3_behindSunday.desc).map (fun d => d.parameters.length) = some 2 := by decide +kernel
theorem nd_X3_kind : yX3_kind.cls ≠ "java/lang/invoke/MethodHandle" ∧ yX3_kind.cls ≠ "java/lang/invoke/VarHandle" ∧ (parseMethodDescriptor yX3_kind.desc).map (fun d => d.parameters.length) = some 1 := by decide +kernel
theorem nd_X4_leaving : yX4_leaving.cls = RX4 ∧ yX4_leaving.cls ≠ "java/lang/invoke/MethodHandle" ∧ yX4_leaving.cls ≠ "java/lang/invoke/VarHandle" ∧ (parseMethodDescriptor yX4_leaving.desc).map (fun d => d.parameters.length) = some 2 := by decide +kernel
theorem iw_X4_settle_X4 : ∀ w ∈ u_ws RX4 TX4 14, w ∈ wsX4_settle := fun _ h => List.mem_cons_of_mem _ (List.mem_append_right _ h)
set_option maxHeartbeats 4000000 in
set_option maxRecDepth 100000 in
theorem c_X4_settle (l : Launch) (D : va_G) (k : Nat → ClassId) (b : Nat → Nat) (qh : Nat → Nat) (sh : Nat → Nat → Int32) (sz : Nat) (h_fl : 0 ≤ (sh 0 12).toInt ∧ (sh 0 12).toInt ≤ 5) (h_go : ∀ j, 0 ≤ (sh 3 j).toInt ∧ (sh 3 j).toInt ≤ 5) : MetV l D k b yX4_settle wsX4_settle ({ frames := 3, cells := 0, slots := 0, locals := 69 } : Room) [cell32_ qh sh, cell0_ k qh sh, cell1_ k qh sh, cell4_ k qh sh, cell3_ k qh sh, cell2_ k qh sh] sz [.ref (qh 0)] (fun (u : (Nat → Int32)) => SUok u) (fun u => [cell32_ qh sh, cell0_ k qh sh, cell1_ k qh sh, cell4_ k qh sh, cell3_ k qh sh, (qh 5, .inl (k 0, 525, .inl u))]) := by
  refine g_enter (cc := cX4_settle) (maxL := 8) (ret := none) (by decide) rfl (Nat.le_of_ble_eq_true rfl) ?_
  intro p e s m below meth c A hsz hAe cx hr hP hD hS ls hl
  rw [hAe]
  refine g_q (fun Q hQ => ?_)
  have hx := cx.1.1
  have hb := cx.1.2.1
  have hl : lv_has ls 8 [(0, .ref (qh 0))] := hl
  obtain ⟨H, eH⟩ : ∃ H : Heap, H = s.heap := ⟨_, rfl⟩
  obtain ⟨locs, el⟩ : ∃ L : List Loc, L = [] := ⟨_, rfl⟩
  have hP : va_P D vwCl [cell32_ qh sh, cell0_ k qh sh, cell1_ k qh sh, cell4_ k qh sh, cell3_ k qh sh, cell2_ k qh sh] H := by rw [eH]; exact hP
  have hD : va_D A [cell32_ qh sh, cell0_ k qh sh, cell1_ k qh sh, cell4_ k qh sh, cell3_ k qh sh, cell2_ k qh sh] := hD
  have hS : va_S A s.heap H locs := by rw [eH, el]; exact hS
  suffices goal : W p l e ({ frames := 3, cells := 0, slots := 0, locals := 69 } : Room) s m ([.ref (qh 0)] : List Value).toArray below meth c H locs 0 0 Q (F0 m 0 ls []) by rw [eH, el] at goal; exact goal
  refine lv_aload_n hx hb dX4_settle_0 rfl (lv_at hl 0 rfl) ?_
  refine g_get cx hP iw_X4_settle_X4 0 rfl rfl 13 (by decide) rfl fw_X4_settle_26 rfl dX4_settle_1 ?_
  refine lv_iconst (v := 0) hx hb dX4_settle_4 (by decide) ?_
  have hlit1 : (0 : Int32).toInt = 0 := by decide
  refine g_v (w1 := fun (u : (Nat → Int32)) => [(qh 5, .inl (k 0, 525, .inl u))]) (g_runS (wc := [cell2_ k qh sh]) (rest := []) cx hP hD hS [5] rfl (by decide) [.ref (qh 5), .int 0] (c_J7_fill_53178_525 l D k b (fun _ => qh 5) (fun _ => (sh 5)) H.size 0) gX4_settle_J7_fill_53178 rfl rfl rfl nd_J7_fill_53178 ⟨Nat.le_of_ble_eq_true rfl, Nat.le_of_ble_eq_true rfl⟩ rfl hl.1 rfl (Nat.le_of_ble_eq_true rfl) ⟨Nat.zero_le _, Nat.zero_le _⟩ dX4_settle_5) cx.2.2.1 hP hD hS [5] rfl (fun _ => rfl) (fun u3 H locs hw2 hP hD hS => ?_)
  obtain ⟨m4, rfl⟩ : ∃ z, z = u3 := ⟨_, rfl⟩
  have hP : va_P D vwCl [cell32_ qh sh, cell0_ k qh sh, cell1_ k qh sh, cell4_ k qh sh, cell3_ k qh sh, (qh 5, .inl (k 0, 525, .inl m4))] H := hP
  have hD : va_D A [cell32_ qh sh, cell0_ k qh sh, cell1_ k qh sh, cell4_ k qh sh, cell3_ k qh sh, (qh 5, .inl (k 0, 525, .inl m4))] := hD
  replace hw2 : (m4 = fillI 525 (0 : Int32) (sh 5)) ∧ (m4 = J_J7_fill_53178_525 (fun _ => (sh 5)) (0 : Int32)) := hw2
  obtain ⟨w5, w6⟩ := hw2
  have k8 : m4 = (J_J7_fill_53178_525 (fun _ => (sh 5)) (0 : Int32)) := congrArg (fun z => z) w6
  have su := SU_fill w5
  refine lv_iconst (v := 0) hx hb dX4_settle_8 (by decide) ?_
  refine lv_istore_n (lv' := [(1, .int 0), (0, .ref (qh 0))]) hx hb dX4_settle_9 rfl hl (by decide) rfl (fun ls hl => ?_)
  have hL10 : ∀ (n36 : Nat) (v34 : Int32) (g35 : Nat → Int32) (H : Heap) (locs : List Loc) (ls : Array Slot), 35 - v34.toInt < (n36 : Int) → (0 ≤ v34.toInt ∧ v34.toInt ≤ 35) → (SUok g35) → va_P D vwCl [cell32_ qh sh, cell0_ k qh sh, cell1_ k qh sh, cell4_ k qh sh, cell3_ k qh sh, (qh 5, .inl (k 0, 525, .inl g35))] H → va_D A [cell32_ qh sh, cell0_ k qh sh, cell1_ k qh sh, cell4_ k qh sh, cell3_ k qh sh, (qh 5, .inl (k 0, 525, .inl g35))] → va_S A s.heap H locs → lv_has ls 8 [(1, .int v34), (0, .ref (qh 0))] → W p l e ({ frames := 3, cells := 0, slots := 0, locals := 69 } : Room) s m ([.ref (qh 0)] : List Value).toArray below meth c H locs 0 0 Q (F0 m 10 ls []) := by
    intro n36
    induction n36 with
    | zero => intro v34 g35 H locs ls hmn36 bv34 su hP hD hS hl; exact absurd hmn36 (by omega)
    | succ n36 ih10 =>
      intro v34 g35 H locs ls hmn36 bv34 su hP hD hS hl
      refine lv_iload_n hx hb dX4_settle_10 rfl (lv_at hl 0 rfl) ?_
      refine lv_bipush (v := 35) hx hb dX4_settle_11 (by decide) ?_
      refine lv_icmp_ge (tgt := 100) hx hb dX4_settle_13 (by decide) (fun c37 => ?_) (fun c37 => ?_)
      · have f37 : 35 ≤ v34.toInt := f_le (by decide) rfl c37
        rw [hQ]
        exact x_v cx hr g35 hP hD hS (show SUok g35 from su) dX4_settle_100
      · have f37 : v34.toInt < 35 := f_nle (by decide) rfl c37
        refine va_gets hx hb cx.2.2.2.t0.1 hS cx.1.2.2.2.1 (cx.1.2.2.2.2 _ fw_X4_settle_79) (fun _ h => h) dX4_settle_16 ?_
        refine lv_iload_n hx hb dX4_settle_19 rfl (lv_at hl 0 rfl) ?_
        have hn38 : vp_in v34 35 := f_in (a := v34.toInt) rfl (by omega) (by omega)
        refine va_ti hx hb cx.2.2.2.t0.2 hS hn38 rfl dX4_settle_20 (lv_topi (fun v39 e39 => ?_))
        have t39 : 0 ≤ v39.toInt ∧ v39.toInt ≤ 400 ∧ tot v39 ≤ 4 := by rw [e39]; exact zALL_v _
        have tk : totN v34.toNatClampNeg = tot v39 := totN_of e39
        refine lv_istore_n (lv' := [(2, .int v39), (1, .int v34), (0, .ref (qh 0))]) hx hb dX4_settle_21 rfl hl (by decide) rfl (fun ls hl => ?_)
        refine va_gets hx hb cx.2.2.2.t0.1 hS cx.1.2.2.2.1 (cx.1.2.2.2.2 _ fw_X4_settle_79) (fun _ h => h) dX4_settle_22 ?_
        refine lv_astore_n (lv' := [(3, .ref (b 0)), (2, .int v39), (1, .int v34), (0, .ref (qh 0))]) hx hb dX4_settle_25 rfl hl (by decide) rfl (fun ls hl => ?_)
        refine lv_aload_n hx hb dX4_settle_26 rfl (lv_at hl 0 rfl) ?_
        refine va_tlen hx hb cx.2.2.2.t0.2 hS (v := 35) (by decide) dX4_settle_27 ?_
        refine lv_istore (lv' := [(4, .int 35), (3, .ref (b 0)), (2, .int v39), (1, .int v34), (0, .ref (qh 0))]) hx hb dX4_settle_28 hl (by decide) rfl (fun ls hl => ?_)
        refine lv_iconst (v := 0) hx hb dX4_settle_30 (by decide) ?_
        refine lv_istore (lv' := [(5, .int 0), (4, .int 35), (3, .ref (b 0)), (2, .int v39), (1, .int v34), (0, .ref (qh 0))]) hx hb dX4_settle_31 hl (by decide) rfl (fun ls hl => ?_)
        have hL33 : ∀ (n64 : Nat) (v62 : Int32) (g63 : Nat → Int32) (H : Heap) (locs : List Loc) (ls : Array Slot), 35 - v62.toInt < (n64 : Int) → (0 ≤ v62.toInt ∧ v62.toInt ≤ 35) → (SUok g63) → va_P D vwCl [cell32_ qh sh, cell0_ k qh sh, cell1_ k qh sh, cell4_ k qh sh, cell3_ k qh sh, (qh 5, .inl (k 0, 525, .inl g63))] H → va_D A [cell32_ qh sh, cell0_ k qh sh, cell1_ k qh sh, cell4_ k qh sh, cell3_ k qh sh, (qh 5, .inl (k 0, 525, .inl g63))] → va_S A s.heap H locs → lv_has ls 8 [(5, .int v62), (4, .int 35), (3, .ref (b 0)), (2, .int v39), (1, .int v34), (0, .ref (qh 0))] → W p l e ({ frames := 3, cells := 0, slots := 0, locals := 69 } : Room) s m ([.ref (qh 0)] : List Value).toArray below meth c H locs 0 0 Q (F0 m 33 ls []) := by
          intro n64
          induction n64 with
          | zero => intro v62 g63 H locs ls hmn64 bv62 su hP hD hS hl; exact absurd hmn64 (by omega)
          | succ n64 ih33 =>
            intro v62 g63 H locs ls hmn64 bv62 su hP hD hS hl
            refine lv_iload hx hb dX4_settle_33 (lv_at hl 0 rfl) ?_
            refine lv_iload hx hb dX4_settle_35 (lv_at hl 1 rfl) ?_
            refine lv_icmp_ge (tgt := 94) hx hb dX4_settle_37 (by decide) (fun c65 => ?_) (fun c65 => ?_)
            · have f65 : 35 ≤ v62.toInt := f_le (by decide) rfl c65
              obtain ⟨v66, e66⟩ : ∃ z : Int32, z = v34 + 1 := ⟨_, rfl⟩
              refine lv_iinc (v := v66) (lv' := [(1, .int v66), (5, .int v62), (4, .int 35), (3, .ref (b 0)), (2, .int v39), (0, .ref (qh 0))]) hx hb dX4_settle_94 hl (k := 4) rfl (by rw [e66]; rfl) (by decide) rfl (fun ls hl => ?_)
              have t66 : v66.toInt = v34.toInt + 1 := by rw [e66]; exact i_add rfl (by decide) (by omega) (by omega)
              refine lv_goto (tgt := 10) hx hb dX4_settle_97 (by decide) ?_
              exact ih10 v66 g63 _ _ _ (by omega) (by first | decide | omega) (by assumption) hP hD hS (lv_sub hl [0, 5] rfl)
            · have f65 : v62.toInt < 35 := f_nle (by decide) rfl c65
              refine lv_aload_n hx hb dX4_settle_40 rfl (lv_at hl 2 rfl) ?_
              refine lv_iload hx hb dX4_settle_41 (lv_at hl 0 rfl) ?_
              have hn67 : vp_in v62 35 := f_in (a := v62.toInt) rfl (by omega) (by omega)
              refine va_ti hx hb cx.2.2.2.t0.2 hS hn67 rfl dX4_settle_43 (lv_topi (fun v68 e68 => ?_))
              have t68 : 0 ≤ v68.toInt ∧ v68.toInt ≤ 400 ∧ v68.toInt / 100 + v68.toInt / 10 % 10 + v68.toInt % 10 ≤ 4 := by rw [e68]; exact zALL_v _
              refine lv_istore (lv' := [(6, .int v68), (5, .int v62), (4, .int 35), (3, .ref (b 0)), (2, .int v39), (1, .int v34), (0, .ref (qh 0))]) hx hb dX4_settle_44 hl (by decide) rfl (fun ls hl => ?_)
              refine lv_iload_n hx hb dX4_settle_46 rfl (lv_at hl 4 rfl) ?_
              refine lv_iload hx hb dX4_settle_47 (lv_at hl 0 rfl) ?_
              refine g_ir (g_runS (wc := []) (rest := []) cx hP hD hS [] rfl (by decide) [.int v39, .int v68] (c_X3_has l D k b H.size v39 v68) gX4_settle_X3_has rfl rfl rfl nd_X3_has ⟨Nat.le_of_ble_eq_true rfl, Nat.le_of_ble_eq_true rfl⟩ rfl hl.1 rfl (Nat.le_of_ble_eq_true rfl) ⟨Nat.zero_le _, Nat.zero_le _⟩ dX4_settle_49) cx.2.2.1 hP hD hS [] rfl rfl (fun r70 H locs hw69 hP hS => ?_)
              have w71 : r70 = J_X3_has v39 v68 := hw69
              clear hw69
              have zr70 := has_b w71
              have hJ88 : ∀ (g88 : Nat → Int32) (H : Heap) (locs : List Loc) (ls : Array Slot), (SUok g88) → va_P D vwCl [cell32_ qh sh, cell0_ k qh sh, cell1_ k qh sh, cell4_ k qh sh, cell3_ k qh sh, (qh 5, .inl (k 0, 525, .inl g88))] H → va_D A [cell32_ qh sh, cell0_ k qh sh, cell1_ k qh sh, cell4_ k qh sh, cell3_ k qh sh, (qh 5, .inl (k 0, 525, .inl g88))] → va_S A s.heap H locs → lv_has ls 8 [(5, .int v62), (4, .int 35), (3, .ref (b 0)), (2, .int v39), (1, .int v34), (0, .ref (qh 0))] → W p l e ({ frames := 3, cells := 0, slots := 0, locals := 69 } : Room) s m ([.ref (qh 0)] : List Value).toArray below meth c H locs 0 0 Q (F0 m 88 ls []) := by
                intro g88 H locs ls su hP hD hS hl
                obtain ⟨v89, e89⟩ : ∃ z : Int32, z = v62 + 1 := ⟨_, rfl⟩
                refine lv_iinc (v := v89) (lv' := [(5, .int v89), (4, .int 35), (3, .ref (b 0)), (2, .int v39), (1, .int v34), (0, .ref (qh 0))]) hx hb dX4_settle_88 hl (k := 0) rfl (by rw [e89]; rfl) (by decide) rfl (fun ls hl => ?_)
                have t89 : v89.toInt = v62.toInt + 1 := by rw [e89]; exact i_add rfl (by decide) (by omega) (by omega)
                refine lv_goto (tgt := 33) hx hb dX4_settle_91 (by decide) ?_
                exact ih33 v89 g88 _ _ _ (by omega) (by first | decide | omega) (by assumption) hP hD hS (lv_sub hl [0, 1, 2, 3, 4, 5] rfl)
              refine lv_if_eq (tgt := 88) hx hb dX4_settle_52 (by decide) (fun c90 => ?_) (fun c90 => ?_)
              · have f90 : r70.toInt = 0 := f_eq rfl (by decide) c90
                exact hJ88 g63 _ _ _ (by assumption) hP hD hS (lv_sub hl [1, 2, 3, 4, 5, 6] rfl)
              · have f90 : ¬ r70.toInt = 0 := f_ne rfl (by decide) c90
                have k90 : hasI v39 v68 := has_t w71 c90 (by omega) (by omega)
                refine lv_iload_n hx hb dX4_settle_55 rfl (lv_at hl 4 rfl) ?_
                refine lv_iload hx hb dX4_settle_56 (lv_at hl 0 rfl) ?_
                refine g_ir (g_runS (wc := []) (rest := []) cx hP hD hS [] rfl (by decide) [.int v39, .int v68] (c_X3_behindSunday l D k b H.size v39 v68) gX4_settle_X3_behindSunday rfl rfl rfl nd_X3_behindSunday ⟨Nat.le_of_ble_eq_true rfl, Nat.le_of_ble_eq_true rfl⟩ rfl hl.1 rfl (Nat.le_of_ble_eq_true rfl) ⟨Nat.zero_le _, Nat.zero_le _⟩ dX4_settle_58) cx.2.2.1 hP hD hS [] rfl rfl (fun r92 H locs hw91 hP hS => ?_)
                have w93 : r92 = J_X3_behindSunday v39 v68 := hw91
                clear hw91
                have bs := bs_t w93 ⟨by omega, by omega, by omega⟩ (by omega) (by assumption)
                refine g_ir (g_runS (wc := []) (rest := []) cx hP hD hS [] rfl (by decide) [.int r92] (c_X3_kind l D k b H.size r92 ⟨by first | decide | omega, by first | decide | omega, (show tot r92 ≤ 4 from by first | decide | omega)⟩) gX4_settle_X3_kind rfl rfl rfl nd_X3_kind ⟨Nat.le_of_ble_eq_true rfl, Nat.le_of_ble_eq_true rfl⟩ rfl hl.1 rfl (Nat.le_of_ble_eq_true rfl) ⟨Nat.zero_le _, Nat.zero_le _⟩ dX4_settle_61) cx.2.2.1 hP hD hS [] rfl rfl (fun r95 H locs hw94 hP hS => ?_)
                have w96 : r95 = J_X3_kind r92 := hw94
                clear hw94
                have zr95 := kind_t w96 ⟨by first | decide | omega, by first | decide | omega, (show tot r92 ≤ 4 from by first | decide | omega)⟩
                have bk : totN r95.toNatClampNeg = tot r92 := kind_all w96 ⟨by first | decide | omega, by first | decide | omega, (show tot r92 ≤ 4 from by first | decide | omega)⟩
                have bl : r95.toInt ≤ 14 := by omega
                refine lv_istore (lv' := [(7, .int r95), (6, .int v68), (5, .int v62), (4, .int 35), (3, .ref (b 0)), (2, .int v39), (1, .int v34), (0, .ref (qh 0))]) hx hb dX4_settle_64 hl (by decide) rfl (fun ls hl => ?_)
                refine lv_aload_n hx hb dX4_settle_66 rfl (lv_at hl 7 rfl) ?_
                refine g_get cx hP iw_X4_settle_X4 0 rfl rfl 13 (by decide) rfl fw_X4_settle_26 rfl dX4_settle_67 ?_
                refine lv_iload_n hx hb dX4_settle_70 rfl (lv_at hl 6 rfl) ?_
                refine lv_bipush (v := 15) hx hb dX4_settle_71 (by decide) ?_
                refine lv_imul hx hb dX4_settle_73 (lv_topi (fun v97 e97 => ?_))
                have t97 : v97.toInt = v34.toInt * 15 := by rw [e97]; exact i_mul rfl (by decide) (by omega) (by omega)
                refine lv_iload hx hb dX4_settle_74 (lv_at hl 0 rfl) ?_
                refine lv_iadd hx hb dX4_settle_76 (lv_topi (fun v98 e98 => ?_))
                have t98 : v98.toInt = v97.toInt + r95.toInt := by rw [e98]; exact i_add rfl rfl (by omega) (by omega)
                refine lv_dup2_11 hx hb dX4_settle_77 rfl rfl ?_
                have hn99 : vp_in v98 525 := f_in (a := v98.toInt) rfl (by omega) (by omega)
                refine va_iald hx hb cx.2.1 hP 5 0 rfl rfl hn99 dX4_settle_78 (lv_topi (fun v100 e100 => ?_))
                refine lv_aload_n hx hb dX4_settle_79 rfl (lv_at hl 7 rfl) ?_
                refine lv_iload_n hx hb dX4_settle_80 rfl (lv_at hl 5 rfl) ?_
                refine lv_iload hx hb dX4_settle_81 (lv_at hl 1 rfl) ?_
                refine g_iF (w1 := fun (_ : Unit) => [cell32_ qh sh, cell0_ k qh sh, cell1_ k qh sh, cell4_ k qh sh, cell3_ k qh sh, (qh 5, .inl (k 0, 525, .inl g63))]) (g_runVF (ws := [cell32_ qh sh, cell0_ k qh sh, cell1_ k qh sh, cell4_ k qh sh, cell3_ k qh sh, (qh 5, .inl (k 0, 525, .inl g63))]) (rest := [.int v100, .int v98, .ref (qh 5)]) cx hP hD hS [.int v39, .int v68] (c_X4_leaving l D k b qh (up2 sh 5 g63) H.size v39 v68 (show 0 ≤ (sh 0 12).toInt ∧ (sh 0 12).toInt ≤ 5 from by first | decide | omega) h_go (show 0 ≤ v39.toInt ∧ v39.toInt ≤ 400 ∧ tot v39 ≤ 4 from by first | decide | omega) (show 0 ≤ v68.toInt ∧ v68.toInt ≤ 444 from by first | decide | omega)) gX4_settle_X4_leaving rfl rfl rfl nd_X4_leaving ⟨Nat.le_of_ble_eq_true rfl, Nat.le_of_ble_eq_true rfl⟩ (ci := 2) (q0 := 0) rfl rfl rfl hl.1 rfl (Nat.le_of_ble_eq_true rfl) ⟨Nat.zero_le _, Nat.zero_le _⟩ dX4_settle_83) cx.2.2.1 hD hS (fun r102 _ H locs hw101 hP hD hS => ?_)
                have w103 : r102.toInt = 0 ∨ (hasI v39 v68) := hw101
                clear hw101
                refine lv_iadd hx hb dX4_settle_86 (lv_topi (fun v104 e104 => ?_))
                have hn105 : vp_in v98 525 := f_in (a := v98.toInt) rfl (by omega) (by omega)
                refine va_iast hx hb cx.2.1 hP hD hS 5 0 rfl rfl hn105 dX4_settle_87 (fun H locs hP hD hS => ?_)
                obtain ⟨g106, eg106⟩ : ∃ g : Nat → Int32, g = upd g63 (v98).toNatClampNeg v104 := ⟨_, rfl⟩
                rw [← eg106] at hP hD
                have hP : va_P D vwCl [cell32_ qh sh, cell0_ k qh sh, cell1_ k qh sh, cell4_ k qh sh, cell3_ k qh sh, (qh 5, .inl (k 0, 525, .inl g106))] H := hP
                have hD : va_D A [cell32_ qh sh, cell0_ k qh sh, cell1_ k qh sh, cell4_ k qh sh, cell3_ k qh sh, (qh 5, .inl (k 0, 525, .inl g106))] := hD
                have sug106 := SU_st (k := v34) (b := r95) eg106 su (by omega) ⟨by omega, by omega⟩ ⟨by omega, by omega⟩ (by omega)
                exact hJ88 g106 _ _ _ (by assumption) hP hD hS (lv_sub hl [2, 3, 4, 5, 6, 7] rfl)
        have hlit107 : (0 : Int32).toInt = 0 := by decide
        exact hL33 (Int.toNat (35 - 0) + 1) 0 g35 _ _ _ (by omega) (by first | decide | omega) su hP hD hS (lv_sub hl [0, 1, 2, 3, 4, 5] rfl)
  have hlit108 : (0 : Int32).toInt = 0 := by decide
  exact hL10 (Int.toNat (35 - 0) + 1) 0 m4 _ _ _ (by omega) (by first | decide | omega) su hP hD hS (lv_sub hl [0, 1] rfl)

