theorem fw_X12_onwardBest_38 : Cond.fieldLink RX12 38 "StillInAugustModel" "bests" "[J" ∈ wsX12_onwardBest := by decide +kernel
theorem iw_X12_onwardBest_X12 : ∀ w ∈ u_ws RX12 TX12 33, w ∈ wsX12_onwardBest := fun _ h => List.mem_cons_of_mem _ (List.mem_append_right _ h)
set_option maxHeartbeats 4000000 in
set_option maxRecDepth 100000 in
theorem c_X12_onwardBest (l : Launch) (D : va_G) (k : Nat → ClassId) (b : Nat → Nat) (qm : Nat → Nat) (sm : Nat → Nat → Int32) (tm : Nat → Nat → Int64) (sz : Nat) (p0 : Int32) (p1 : Int32) (h_k1 : 0 ≤ (sm 2 1).toInt ∧ (sm 2 1).toInt ≤ 4) (hp1 : 0 ≤ p1.toInt ∧ p1.toInt ≤ 2) : MetL l D k b yX12_onwardBest wsX12_onwardBest ({ frames := 3, cells := 0, slots := 0, locals := 75 } : Room) [cell22_ qm sm tm, cell5_ k qm sm, cell13_ k qm sm, cell8_ k qm sm, cell6_ k qm sm, cell15_ k qm sm, cell14_ k qm tm, cell12_ k qm tm, cell18_ k qm tm, cell17_ k qm tm, cell19_ k qm tm, cell21_ k qm tm, cell20_ k qm sm, cell16_ k qm sm, cell11_ k qm sm, cell10_ k qm sm, cell9_ k qm sm, cell7_ k qm sm] sz [.ref (qm 0), .int p0, .int p1] (fun (r : Int64) (u : Unit) => True) (fun u => [cell22_ qm sm tm, cell5_ k qm sm, cell13_ k qm sm, cell8_ k qm sm, cell6_ k qm sm, cell15_ k qm sm, cell14_ k qm tm, cell12_ k qm tm, cell18_ k qm tm, cell17_ k qm tm, cell19_ k qm tm, cell21_ k qm tm, cell20_ k qm sm, cell16_ k qm sm, cell11_ k qm sm, cell10_ k qm sm, cell9_ k qm sm, cell7_ k qm sm]) := by
  refine g_enter (cc := cX12_onwardBest) (maxL := 6) (ret := (some .long)) (by decide) rfl (Nat.le_of_ble_eq_true rfl) ?_
  intro p e s m below meth c A hsz hAe cx hr hP hD hS ls hl
  rw [hAe]
  refine g_q (fun Q hQ => ?_)
  have hx := cx.1.1
  have hb := cx.1.2.1
  have bp0 := i_rng p0
  have bp1 := i_rng p1
  have hl : lv_has ls 6 [(0, .ref (qm 0)), (1, .int p0), (2, .int p1)] := hl
  obtain ⟨H, eH⟩ : ∃ H : Heap, H = s.heap := ⟨_, rfl⟩
  obtain ⟨locs, el⟩ : ∃ L : List Loc, L = [] := ⟨_, rfl⟩
  have hP : va_P D vwCl [cell22_ qm sm tm, cell5_ k qm sm, cell13_ k qm sm, cell8_ k qm sm, cell6_ k qm sm, cell15_ k qm sm, cell14_ k qm tm, cell12_ k qm tm, cell18_ k qm tm, cell17_ k qm tm, cell19_ k qm tm, cell21_ k qm tm, cell20_ k qm sm, cell16_ k qm sm, cell11_ k qm sm, cell10_ k qm sm, cell9_ k qm sm, cell7_ k qm sm] H := by rw [eH]; exact hP
  have hD : va_D A [cell22_ qm sm tm, cell5_ k qm sm, cell13_ k qm sm, cell8_ k qm sm, cell6_ k qm sm, cell15_ k qm sm, cell14_ k qm tm, cell12_ k qm tm, cell18_ k qm tm, cell17_ k qm tm, cell19_ k qm tm, cell21_ k qm tm, cell20_ k qm sm, cell16_ k qm sm, cell11_ k qm sm, cell10_ k qm sm, cell9_ k qm sm, cell7_ k qm sm] := hD
  have hS : va_S A s.heap H locs := by rw [eH, el]; exact hS
  suffices goal : W p l e ({ frames := 3, cells := 0, slots := 0, locals := 75 } : Room) s m ([.ref (qm 0), .int p0, .int p1] : List Value).toArray below meth c H locs 0 0 Q (F0 m 0 ls []) by rw [eH, el] at goal; exact goal
  refine lv_lconst (v := 0) hx hb dX12_onwardBest_0 (by decide) ?_
  refine lv_lstore_n (lv' := [(3, .long 0), (0, .ref (qm 0)), (1, .int p0), (2, .int p1)]) hx hb dX12_onwardBest_1 rfl hl (by decide) rfl (fun ls hl => ?_)
  refine lv_iconst (v := 0) hx hb dX12_onwardBest_2 (by decide) ?_
  refine lv_istore (lv' := [(5, .int 0), (3, .long 0), (0, .ref (qm 0)), (1, .int p0), (2, .int p1)]) hx hb dX12_onwardBest_3 hl (by decide) rfl (fun ls hl => ?_)
  have hL5 : ∀ (n23 : Nat) (v21 : Int32) (v22 : Int64) (H : Heap) (locs : List Loc) (ls : Array Slot), 50 - v21.toInt < (n23 : Int) → (0 ≤ v21.toInt ∧ v21.toInt ≤ 50) → va_P D vwCl [cell22_ qm sm tm, cell5_ k qm sm, cell13_ k qm sm, cell8_ k qm sm, cell6_ k qm sm, cell15_ k qm sm, cell14_ k qm tm, cell12_ k qm tm, cell18_ k qm tm, cell17_ k qm tm, cell19_ k qm tm, cell21_ k qm tm, cell20_ k qm sm, cell16_ k qm sm, cell11_ k qm sm, cell10_ k qm sm, cell9_ k qm sm, cell7_ k qm sm] H → va_D A [cell22_ qm sm tm, cell5_ k qm sm, cell13_ k qm sm, cell8_ k qm sm, cell6_ k qm sm, cell15_ k qm sm, cell14_ k qm tm, cell12_ k qm tm, cell18_ k qm tm, cell17_ k qm tm, cell19_ k qm tm, cell21_ k qm tm, cell20_ k qm sm, cell16_ k qm sm, cell11_ k qm sm, cell10_ k qm sm, cell9_ k qm sm, cell7_ k qm sm] → va_S A s.heap H locs → lv_has ls 6 [(5, .int v21), (3, .long v22), (0, .ref (qm 0)), (1, .int p0), (2, .int p1)] → W p l e ({ frames := 3, cells := 0, slots := 0, locals := 75 } : Room) s m ([.ref (qm 0), .int p0, .int p1] : List Value).toArray below meth c H locs 0 0 Q (F0 m 5 ls []) := by
    intro n23
    induction n23 with
    | zero => intro v21 v22 H locs ls hmn23 bv21 hP hD hS hl; exact absurd hmn23 (by omega)
    | succ n23 ih5 =>
      intro v21 v22 H locs ls hmn23 bv21 hP hD hS hl
      refine lv_iload hx hb dX12_onwardBest_5 (lv_at hl 0 rfl) ?_
      refine lv_bipush (v := 50) hx hb dX12_onwardBest_7 (by decide) ?_
      refine lv_icmp_ge (tgt := 54) hx hb dX12_onwardBest_9 (by decide) (fun c24 => ?_) (fun c24 => ?_)
      · have f24 : 50 ≤ v21.toInt := f_le (by decide) rfl c24
        refine lv_lload_n hx hb dX12_onwardBest_54 rfl (lv_at hl 1 rfl) ?_
        rw [hQ]
        exact x_l cx hr () hP hD hS trivial dX12_onwardBest_55
      · have f24 : v21.toInt < 50 := f_nle (by decide) rfl c24
        refine lv_lload_n hx hb dX12_onwardBest_12 rfl (lv_at hl 1 rfl) ?_
        refine lv_aload_n hx hb dX12_onwardBest_13 rfl (lv_at hl 2 rfl) ?_
        refine lv_iload hx hb dX12_onwardBest_14 (lv_at hl 0 rfl) ?_
        refine g_iF (w1 := fun (_ : Unit) => [cell22_ qm sm tm, cell5_ k qm sm, cell13_ k qm sm, cell8_ k qm sm, cell6_ k qm sm, cell15_ k qm sm, cell14_ k qm tm, cell12_ k qm tm, cell18_ k qm tm, cell17_ k qm tm, cell19_ k qm tm, cell21_ k qm tm, cell20_ k qm sm, cell16_ k qm sm, cell11_ k qm sm, cell10_ k qm sm, cell9_ k qm sm, cell7_ k qm sm]) (g_runVF (ws := [cell22_ qm sm tm, cell5_ k qm sm, cell13_ k qm sm, cell8_ k qm sm, cell6_ k qm sm, cell15_ k qm sm, cell14_ k qm tm, cell12_ k qm tm, cell18_ k qm tm, cell17_ k qm tm, cell19_ k qm tm, cell21_ k qm tm, cell20_ k qm sm, cell16_ k qm sm, cell11_ k qm sm, cell10_ k qm sm, cell9_ k qm sm, cell7_ k qm sm]) (rest := [.long v22]) cx hP hD hS [.int v21] (c_X12_isHands l D k b qm sm tm H.size v21 (show 0 ≤ ((sm 2) 1).toInt ∧ ((sm 2) 1).toInt ≤ 4 from by first | decide | omega)) gX12_onwardBest_X12_isHands rfl rfl rfl nd_X12_isHands ⟨Nat.le_of_ble_eq_true rfl, Nat.le_of_ble_eq_true rfl⟩ (ci := 10) (q0 := 0) rfl rfl rfl hl.1 rfl (Nat.le_of_ble_eq_true rfl) ⟨Nat.zero_le _, Nat.zero_le _⟩ dX12_onwardBest_16) cx.2.2.1 hD hS (fun r26 _ H locs hw25 hP hD hS => ?_)
        replace hw25 : (0 ≤ r26.toInt ∧ r26.toInt ≤ 1) ∧ (Imp (r26.toInt = 1) (0 ≤ v21.toInt ∧ v21.toInt ≤ 400)) ∧ (r26 = J_X12_isHands sm tm v21) := hw25
        obtain ⟨w27, w28, w29⟩ := hw25
        have k31 : r26 = (J_X12_isHands sm tm v21) := congrArg (fun z => z) w29
        have zr26 : 0 ≤ r26.toInt ∧ r26.toInt ≤ 1 := w27
        have hJ46 : ∀ (v43 : Int64) (H : Heap) (locs : List Loc) (ls : Array Slot), va_P D vwCl [cell22_ qm sm tm, cell5_ k qm sm, cell13_ k qm sm, cell8_ k qm sm, cell6_ k qm sm, cell15_ k qm sm, cell14_ k qm tm, cell12_ k qm tm, cell18_ k qm tm, cell17_ k qm tm, cell19_ k qm tm, cell21_ k qm tm, cell20_ k qm sm, cell16_ k qm sm, cell11_ k qm sm, cell10_ k qm sm, cell9_ k qm sm, cell7_ k qm sm] H → va_D A [cell22_ qm sm tm, cell5_ k qm sm, cell13_ k qm sm, cell8_ k qm sm, cell6_ k qm sm, cell15_ k qm sm, cell14_ k qm tm, cell12_ k qm tm, cell18_ k qm tm, cell17_ k qm tm, cell19_ k qm tm, cell21_ k qm tm, cell20_ k qm sm, cell16_ k qm sm, cell11_ k qm sm, cell10_ k qm sm, cell9_ k qm sm, cell7_ k qm sm] → va_S A s.heap H locs → lv_has ls 6 [(5, .int v21), (0, .ref (qm 0)), (1, .int p0), (2, .int p1)] → W p l e ({ frames := 3, cells := 0, slots := 0, locals := 75 } : Room) s m ([.ref (qm 0), .int p0, .int p1] : List Value).toArray below meth c H locs 0 0 Q (F0 m 46 ls [.long v43, .long v22]) := by
          intro v43 H locs ls  hP hD hS hl
          refine lv_ladd hx hb dX12_onwardBest_46 (lv_topl (fun v44 e44 => ?_))
          refine lv_lstore_n (lv' := [(3, .long v44), (5, .int v21), (0, .ref (qm 0)), (1, .int p0), (2, .int p1)]) hx hb dX12_onwardBest_47 rfl hl (by decide) rfl (fun ls hl => ?_)
          obtain ⟨v45, e45⟩ : ∃ z : Int32, z = v21 + 1 := ⟨_, rfl⟩
          refine lv_iinc (v := v45) (lv' := [(5, .int v45), (3, .long v44), (0, .ref (qm 0)), (1, .int p0), (2, .int p1)]) hx hb dX12_onwardBest_48 hl (k := 1) rfl (by rw [e45]; rfl) (by decide) rfl (fun ls hl => ?_)
          have t45 : v45.toInt = v21.toInt + 1 := by rw [e45]; exact i_add rfl (by decide) (by omega) (by omega)
          refine lv_goto (tgt := 5) hx hb dX12_onwardBest_51 (by decide) ?_
          exact ih5 v45 v44 _ _ _ (by omega) (by first | decide | omega) hP hD hS (lv_sub hl [0, 1, 2, 3, 4] rfl)
        refine lv_if_eq (tgt := 45) hx hb dX12_onwardBest_19 (by decide) (fun c46 => ?_) (fun c46 => ?_)
        · have f46 : r26.toInt = 0 := f_eq rfl (by decide) c46
          refine lv_lconst (v := 0) hx hb dX12_onwardBest_45 (by decide) ?_
          have hlit47 : (0 : Int32).toInt = 0 := by decide
          exact hJ46 0 _ _ _  hP hD hS (lv_sub hl [0, 2, 3, 4] rfl)
        · have f46 : ¬ r26.toInt = 0 := f_ne rfl (by decide) c46
          have k46 : (0 ≤ v21.toInt ∧ v21.toInt ≤ 400) := w28 (by omega)
          refine lv_aload_n hx hb dX12_onwardBest_22 rfl (lv_at hl 2 rfl) ?_
          refine lv_iload_n hx hb dX12_onwardBest_23 rfl (lv_at hl 3 rfl) ?_
          refine lv_iload hx hb dX12_onwardBest_24 (lv_at hl 0 rfl) ?_
          refine g_iF (w1 := fun (_ : Unit) => [cell22_ qm sm tm, cell5_ k qm sm, cell13_ k qm sm, cell8_ k qm sm, cell6_ k qm sm, cell15_ k qm sm, cell14_ k qm tm, cell12_ k qm tm, cell18_ k qm tm, cell17_ k qm tm, cell19_ k qm tm, cell21_ k qm tm, cell20_ k qm sm, cell16_ k qm sm, cell11_ k qm sm, cell10_ k qm sm, cell9_ k qm sm, cell7_ k qm sm]) (g_runVF (ws := [cell22_ qm sm tm, cell5_ k qm sm, cell13_ k qm sm, cell8_ k qm sm, cell6_ k qm sm, cell15_ k qm sm, cell14_ k qm tm, cell12_ k qm tm, cell18_ k qm tm, cell17_ k qm tm, cell19_ k qm tm, cell21_ k qm tm, cell20_ k qm sm, cell16_ k qm sm, cell11_ k qm sm, cell10_ k qm sm, cell9_ k qm sm, cell7_ k qm sm]) (rest := [.long v22]) cx hP hD hS [.int p0, .int v21] (c_X12_sundayOf l D k b qm sm tm H.size p0 v21) gX12_onwardBest_X12_sundayOf rfl rfl rfl nd_X12_sundayOf ⟨Nat.le_of_ble_eq_true rfl, Nat.le_of_ble_eq_true rfl⟩ (ci := 10) (q0 := 0) rfl rfl rfl hl.1 rfl (Nat.le_of_ble_eq_true rfl) ⟨Nat.zero_le _, Nat.zero_le _⟩ dX12_onwardBest_26) cx.2.2.1 hD hS (fun r49 _ H locs hw48 hP hD hS => ?_)
          have w50 : r49 = J_X12_sundayOf sm tm p0 v21 := hw48
          clear hw48
          have k52 : r49 = (J_X12_sundayOf sm tm p0 v21) := congrArg (fun z => z) w50
          obtain ⟨v53, e53⟩ : ∃ z : Int64, z = (r49 : Int32).toInt64 := ⟨_, rfl⟩
          refine lv_i2l (v := v53) hx hb dX12_onwardBest_29 e53.symm ?_
          refine lv_aload_n hx hb dX12_onwardBest_30 rfl (lv_at hl 2 rfl) ?_
          refine g_get cx hP iw_X12_onwardBest_X12 0 rfl rfl 18 (by decide) rfl fw_X12_onwardBest_38 rfl dX12_onwardBest_31 ?_
          refine lv_iconst (v := 3) hx hb dX12_onwardBest_34 (by decide) ?_
          refine lv_iload hx hb dX12_onwardBest_35 (lv_at hl 0 rfl) ?_
          refine lv_imul hx hb dX12_onwardBest_37 (lv_topi (fun v54 e54 => ?_))
          have t54 : v54.toInt = 3 * v21.toInt := by rw [e54]; exact i_mul (by decide) rfl (by omega) (by omega)
          refine lv_iload_n hx hb dX12_onwardBest_38 rfl (lv_at hl 4 rfl) ?_
          refine lv_iadd hx hb dX12_onwardBest_39 (lv_topi (fun v55 e55 => ?_))
          have t55 : v55.toInt = v54.toInt + p1.toInt := by rw [e55]; exact i_add rfl rfl (by omega) (by omega)
          have hn56 : vp_in v55 1500 := f_in (a := v55.toInt) rfl (by omega) (by omega)
          refine va_lald hx hb cx.2.1 hP 10 1 rfl rfl hn56 dX12_onwardBest_40 (lv_topl (fun v57 e57 => ?_))
          refine lv_lmul hx hb dX12_onwardBest_41 (lv_topl (fun v58 e58 => ?_))
          refine lv_goto (tgt := 46) hx hb dX12_onwardBest_42 (by decide) ?_
          exact hJ46 v58 _ _ _  hP hD hS (lv_sub hl [0, 2, 3, 4] rfl)
  have hlit59 : (0 : Int32).toInt = 0 := by decide
  have hlit60 : (0 : Int32).toInt = 0 := by decide
  exact hL5 (Int.toNat (50 - 0) + 1) 0 0 _ _ _ (by omega) (by first | decide | omega) hP hD hS (lv_sub hl [0, 1, 2, 3, 4] rfl)
theorem fw_X12_layBestOf_41 : Cond.fieldLink RX12 41 "StillInAugustModel" "bestsBefore" "[J" ∈ wsX12_layBestOf := by decide +kernel
theorem fw_X12_layBestOf_44 : Cond.fieldLink RX12 44 "StillInAugustModel" "bestActs" "[I" ∈ wsX12_layBestOf := by decide +kernel
theorem kJ_X12_layBestOf_221 : Cond.constantLong RX12 221 (-1) ∈ wsX12_layBestOf := by decide +kernel
theorem nd_X12_onwardBest : yX12_onwardBest.cls = RX12 ∧ yX12_onwardBest.cls ≠ "java/lang/invoke/MethodHandle" ∧ yX12_onwardBest.cls ≠ "java/lang/invoke/VarHandle" ∧ (parseMethodDescriptor yX12_onwardBest.desc).map (fun d => d.parameters.length) = some 2 := by decide +kernel
theorem iw_X12_layBestOf_X12 : ∀ w ∈ u_ws RX12 TX12 33, w ∈ wsX12_layBestOf := fun _ h => List.mem_cons_of_mem _ (List.mem_append_right _ h)
set_option maxHeartbeats 4000000 in
set_option maxRecDepth 100000 in
theorem c_X12_layBestOf (l : Launch) (D : va_G) (k : Nat → ClassId) (b : Nat → Nat) (qm : Nat → Nat) (sm : Nat → Nat → Int32) (tm : Nat → Nat → Int64) (sz : Nat) (p0 : Int32) (p1 : Int32) (p2 : Int64) (h_w0 : 0 ≤ (sm 2 0).toInt ∧ (sm 2 0).toInt ≤ 5) (h_k1 : 0 ≤ (sm 2 1).toInt ∧ (sm 2 1).toInt ≤ 4) (hp0 : 0 ≤ p0.toInt ∧ p0.toInt ≤ 4) (hp1 : 0 ≤ p1.toInt ∧ p1.toInt ≤ 400) : MetV l D k b yX12_layBestOf wsX12_layBestOf ({ frames := 4, cells := 0, slots := 0, locals := 100 } : Room) [cell22_ qm sm tm, cell5_ k qm sm, cell13_ k qm sm, cell8_ k qm sm, cell6_ k qm sm, cell15_ k qm sm, cell14_ k qm tm, cell12_ k qm tm, cell18_ k qm tm, cell17_ k qm tm, cell19_ k qm tm, cell21_ k qm tm, cell20_ k qm sm, cell16_ k qm sm, cell11_ k qm sm, cell10_ k qm sm, cell9_ k qm sm, cell7_ k qm sm] sz [.ref (qm 0), .int p0, .int p1, .long p2] (fun (u : (Nat → Int64) × (Nat → Int32)) => True) (fun u => [cell22_ qm sm tm, cell5_ k qm sm, cell13_ k qm sm, cell8_ k qm sm, cell6_ k qm sm, cell15_ k qm sm, cell14_ k qm tm, cell12_ k qm tm, cell18_ k qm tm, cell17_ k qm tm, cell19_ k qm tm, cell122_ k qm (u.1), cell123_ k qm (u.2), cell16_ k qm sm, cell11_ k qm sm, cell10_ k qm sm, cell9_ k qm sm, cell7_ k qm sm]) := by
  refine g_enter (cc := cX12_layBestOf) (maxL := 13) (ret := none) (by decide) rfl (Nat.le_of_ble_eq_true rfl) ?_
  intro p e s m below meth c A hsz hAe cx hr hP hD hS ls hl
  rw [hAe]
  refine g_q (fun Q hQ => ?_)
  have hx := cx.1.1
  have hb := cx.1.2.1
  have bp0 := i_rng p0
  have bp1 := i_rng p1
  have hl : lv_has ls 13 [(0, .ref (qm 0)), (1, .int p0), (2, .int p1), (3, .long p2)] := hl
  obtain ⟨H, eH⟩ : ∃ H : Heap, H = s.heap := ⟨_, rfl⟩
  obtain ⟨locs, el⟩ : ∃ L : List Loc, L = [] := ⟨_, rfl⟩
  have hP : va_P D vwCl [cell22_ qm sm tm, cell5_ k qm sm, cell13_ k qm sm, cell8_ k qm sm, cell6_ k qm sm, cell15_ k qm sm, cell14_ k qm tm, cell12_ k qm tm, cell18_ k qm tm, cell17_ k qm tm, cell19_ k qm tm, cell21_ k qm tm, cell20_ k qm sm, cell16_ k qm sm, cell11_ k qm sm, cell10_ k qm sm, cell9_ k qm sm, cell7_ k qm sm] H := by rw [eH]; exact hP
  have hD : va_D A [cell22_ qm sm tm, cell5_ k qm sm, cell13_ k qm sm, cell8_ k qm sm, cell6_ k qm sm, cell15_ k qm sm, cell14_ k qm tm, cell12_ k qm tm, cell18_ k qm tm, cell17_ k qm tm, cell19_ k qm tm, cell21_ k qm tm, cell20_ k qm sm, cell16_ k qm sm, cell11_ k qm sm, cell10_ k qm sm, cell9_ k qm sm, cell7_ k qm sm] := hD
  have hS : va_S A s.heap H locs := by rw [eH, el]; exact hS
  suffices goal : W p l e ({ frames := 4, cells := 0, slots := 0, locals := 100 } : Room) s m ([.ref (qm 0), .int p0, .int p1, .long p2] : List Value).toArray below meth c H locs 0 0 Q (F0 m 0 ls []) by rw [eH, el] at goal; exact goal
  refine lv_iconst (v := 0) hx hb dX12_layBestOf_0 (by decide) ?_
  refine lv_istore (lv' := [(5, .int 0), (0, .ref (qm 0)), (1, .int p0), (2, .int p1), (3, .long p2)]) hx hb dX12_layBestOf_1 hl (by decide) rfl (fun ls hl => ?_)
  have hL3 : ∀ (n8 : Nat) (v6 : Int32) (g7 : Nat → Int64) (H : Heap) (locs : List Loc) (ls : Array Slot), 3 - v6.toInt < (n8 : Int) → (0 ≤ v6.toInt ∧ v6.toInt ≤ 3) → va_P D vwCl [cell22_ qm sm tm, cell5_ k qm sm, cell13_ k qm sm, cell8_ k qm sm, cell6_ k qm sm, cell15_ k qm sm, cell14_ k qm tm, cell12_ k qm tm, cell18_ k qm tm, cell17_ k qm tm, cell19_ k qm tm, (qm 11, .inl (k 1, 1500, .inr (.inl g7))), cell20_ k qm sm, cell16_ k qm sm, cell11_ k qm sm, cell10_ k qm sm, cell9_ k qm sm, cell7_ k qm sm] H → va_D A [cell22_ qm sm tm, cell5_ k qm sm, cell13_ k qm sm, cell8_ k qm sm, cell6_ k qm sm, cell15_ k qm sm, cell14_ k qm tm, cell12_ k qm tm, cell18_ k qm tm, cell17_ k qm tm, cell19_ k qm tm, (qm 11, .inl (k 1, 1500, .inr (.inl g7))), cell20_ k qm sm, cell16_ k qm sm, cell11_ k qm sm, cell10_ k qm sm, cell9_ k qm sm, cell7_ k qm sm] → va_S A s.heap H locs → lv_has ls 13 [(5, .int v6), (0, .ref (qm 0)), (1, .int p0), (2, .int p1), (3, .long p2)] → W p l e ({ frames := 4, cells := 0, slots := 0, locals := 100 } : Room) s m ([.ref (qm 0), .int p0, .int p1, .long p2] : List Value).toArray below meth c H locs 0 0 Q (F0 m 3 ls []) := by
    intro n8
    induction n8 with
    | zero => intro v6 g7 H locs ls hmn8 bv6 hP hD hS hl; exact absurd hmn8 (by omega)
    | succ n8 ih3 =>
      intro v6 g7 H locs ls hmn8 bv6 hP hD hS hl
      refine lv_iload hx hb dX12_layBestOf_3 (lv_at hl 0 rfl) ?_
      refine lv_iconst (v := 3) hx hb dX12_layBestOf_5 (by decide) ?_
      refine lv_icmp_ge (tgt := 29) hx hb dX12_layBestOf_6 (by decide) (fun c9 => ?_) (fun c9 => ?_)
      · have f9 : 3 ≤ v6.toInt := f_le (by decide) rfl c9
        refine lv_iconst (v := 0) hx hb dX12_layBestOf_29 (by decide) ?_
        refine lv_istore (lv' := [(5, .int 0), (0, .ref (qm 0)), (1, .int p0), (2, .int p1), (3, .long p2)]) hx hb dX12_layBestOf_30 hl (by decide) rfl (fun ls hl => ?_)
        have hL32 : ∀ (n61 : Nat) (v58 : Int32) (g59 : Nat → Int64) (g60 : Nat → Int32) (H : Heap) (locs : List Loc) (ls : Array Slot), 150 - v58.toInt < (n61 : Int) → (0 ≤ v58.toInt ∧ v58.toInt ≤ 150) → va_P D vwCl [cell22_ qm sm tm, cell5_ k qm sm, cell13_ k qm sm, cell8_ k qm sm, cell6_ k qm sm, cell15_ k qm sm, cell14_ k qm tm, cell12_ k qm tm, cell18_ k qm tm, cell17_ k qm tm, cell19_ k qm tm, (qm 11, .inl (k 1, 1500, .inr (.inl g59))), (qm 12, .inl (k 0, 1500, .inl g60)), cell16_ k qm sm, cell11_ k qm sm, cell10_ k qm sm, cell9_ k qm sm, cell7_ k qm sm] H → va_D A [cell22_ qm sm tm, cell5_ k qm sm, cell13_ k qm sm, cell8_ k qm sm, cell6_ k qm sm, cell15_ k qm sm, cell14_ k qm tm, cell12_ k qm tm, cell18_ k qm tm, cell17_ k qm tm, cell19_ k qm tm, (qm 11, .inl (k 1, 1500, .inr (.inl g59))), (qm 12, .inl (k 0, 1500, .inl g60)), cell16_ k qm sm, cell11_ k qm sm, cell10_ k qm sm, cell9_ k qm sm, cell7_ k qm sm] → va_S A s.heap H locs → lv_has ls 13 [(5, .int v58), (0, .ref (qm 0)), (1, .int p0), (2, .int p1), (3, .long p2)] → W p l e ({ frames := 4, cells := 0, slots := 0, locals := 100 } : Room) s m ([.ref (qm 0), .int p0, .int p1, .long p2] : List Value).toArray below meth c H locs 0 0 Q (F0 m 32 ls []) := by
          intro n61
          induction n61 with
          | zero => intro v58 g59 g60 H locs ls hmn61 bv58 hP hD hS hl; exact absurd hmn61 (by omega)
          | succ n61 ih32 =>
            intro v58 g59 g60 H locs ls hmn61 bv58 hP hD hS hl
            refine lv_iload hx hb dX12_layBestOf_32 (lv_at hl 0 rfl) ?_
            refine lv_sipush (v := 150) hx hb dX12_layBestOf_34 (by decide) ?_
            refine lv_icmp_ge (tgt := 206) hx hb dX12_layBestOf_37 (by decide) (fun c62 => ?_) (fun c62 => ?_)
            · have f62 : 150 ≤ v58.toInt := f_le (by decide) rfl c62
              rw [hQ]
              exact x_v cx hr (g59, g60) hP hD hS trivial dX12_layBestOf_206
            · have f62 : v58.toInt < 150 := f_nle (by decide) rfl c62
              refine lv_sipush (v := 1000) hx hb dX12_layBestOf_40 (by decide) ?_
              refine lv_iload hx hb dX12_layBestOf_43 (lv_at hl 0 rfl) ?_
              refine lv_bipush (v := 30) hx hb dX12_layBestOf_45 (by decide) ?_
              refine lv_idiv hx hb dX12_layBestOf_47 (by decide) (lv_topi (fun v63 e63 => ?_))
              have t63 : v63.toInt = v58.toInt / 30 := by rw [e63]; exact i_div rfl (by decide) (by omega) (by omega) (by omega)
              refine lv_imul hx hb dX12_layBestOf_48 (lv_topi (fun v64 e64 => ?_))
              have t64 : v64.toInt = 1000 * v63.toInt := by rw [e64]; exact i_mul (by decide) rfl (by omega) (by omega)
              refine lv_bipush (v := 100) hx hb dX12_layBestOf_49 (by decide) ?_
              refine lv_iload hx hb dX12_layBestOf_51 (lv_at hl 0 rfl) ?_
              refine lv_bipush (v := 6) hx hb dX12_layBestOf_53 (by decide) ?_
              refine lv_idiv hx hb dX12_layBestOf_55 (by decide) (lv_topi (fun v65 e65 => ?_))
              have t65 : v65.toInt = v58.toInt / 6 := by rw [e65]; exact i_div rfl (by decide) (by omega) (by omega) (by omega)
              refine lv_iconst (v := 5) hx hb dX12_layBestOf_56 (by decide) ?_
              refine lv_irem hx hb dX12_layBestOf_57 (by decide) (lv_topi (fun v66 e66 => ?_))
              have t66 : v66.toInt = v65.toInt % 5 := by rw [e66]; exact i_rem rfl (by decide) (by omega) (by omega) (by omega) (by omega)
              refine lv_imul hx hb dX12_layBestOf_58 (lv_topi (fun v67 e67 => ?_))
              have t67 : v67.toInt = 100 * v66.toInt := by rw [e67]; exact i_mul (by decide) rfl (by omega) (by omega)
              refine lv_iadd hx hb dX12_layBestOf_59 (lv_topi (fun v68 e68 => ?_))
              have t68 : v68.toInt = v64.toInt + v67.toInt := by rw [e68]; exact i_add rfl rfl (by omega) (by omega)
              refine lv_bipush (v := 10) hx hb dX12_layBestOf_60 (by decide) ?_
              refine lv_iload hx hb dX12_layBestOf_62 (lv_at hl 0 rfl) ?_
              refine lv_iconst (v := 3) hx hb dX12_layBestOf_64 (by decide) ?_
              refine lv_idiv hx hb dX12_layBestOf_65 (by decide) (lv_topi (fun v69 e69 => ?_))
              have t69 : v69.toInt = v58.toInt / 3 := by rw [e69]; exact i_div rfl (by decide) (by omega) (by omega) (by omega)
              refine lv_iconst (v := 2) hx hb dX12_layBestOf_66 (by decide) ?_
              refine lv_irem hx hb dX12_layBestOf_67 (by decide) (lv_topi (fun v70 e70 => ?_))
              have t70 : v70.toInt = v69.toInt % 2 := by rw [e70]; exact i_rem rfl (by decide) (by omega) (by omega) (by omega) (by omega)
              refine lv_imul hx hb dX12_layBestOf_68 (lv_topi (fun v71 e71 => ?_))
              have t71 : v71.toInt = 10 * v70.toInt := by rw [e71]; exact i_mul (by decide) rfl (by omega) (by omega)
              refine lv_iadd hx hb dX12_layBestOf_69 (lv_topi (fun v72 e72 => ?_))
              have t72 : v72.toInt = v68.toInt + v71.toInt := by rw [e72]; exact i_add rfl rfl (by omega) (by omega)
              refine lv_iload hx hb dX12_layBestOf_70 (lv_at hl 0 rfl) ?_
              refine lv_iconst (v := 3) hx hb dX12_layBestOf_72 (by decide) ?_
              refine lv_irem hx hb dX12_layBestOf_73 (by decide) (lv_topi (fun v73 e73 => ?_))
              have t73 : v73.toInt = v58.toInt % 3 := by rw [e73]; exact i_rem rfl (by decide) (by omega) (by omega) (by omega) (by omega)
              refine lv_iadd hx hb dX12_layBestOf_74 (lv_topi (fun v74 e74 => ?_))
              have t74 : v74.toInt = v72.toInt + v73.toInt := by rw [e74]; exact i_add rfl rfl (by omega) (by omega)
              refine lv_istore (lv' := [(6, .int v74), (5, .int v58), (0, .ref (qm 0)), (1, .int p0), (2, .int p1), (3, .long p2)]) hx hb dX12_layBestOf_75 hl (by decide) rfl (fun ls hl => ?_)
              refine lv_aload_n hx hb dX12_layBestOf_77 rfl (lv_at hl 2 rfl) ?_
              refine lv_iload_n hx hb dX12_layBestOf_78 rfl (lv_at hl 3 rfl) ?_
              refine lv_iload_n hx hb dX12_layBestOf_79 rfl (lv_at hl 4 rfl) ?_
              refine lv_iload hx hb dX12_layBestOf_80 (lv_at hl 0 rfl) ?_
              refine g_iF (w1 := fun (_ : Unit) => [cell22_ qm sm tm, cell5_ k qm sm, cell13_ k qm sm, cell8_ k qm sm, cell6_ k qm sm, cell15_ k qm sm, cell14_ k qm tm, cell12_ k qm tm, cell18_ k qm tm, cell17_ k qm tm, cell19_ k qm tm, (qm 11, .inl (k 1, 1500, .inr (.inl g59))), (qm 12, .inl (k 0, 1500, .inl g60)), cell16_ k qm sm, cell11_ k qm sm, cell10_ k qm sm, cell9_ k qm sm, cell7_ k qm sm]) (g_runVF (ws := [cell22_ qm sm tm, cell5_ k qm sm, cell13_ k qm sm, cell8_ k qm sm, cell6_ k qm sm, cell15_ k qm sm, cell14_ k qm tm, cell12_ k qm tm, cell18_ k qm tm, cell17_ k qm tm, cell19_ k qm tm, (qm 11, .inl (k 1, 1500, .inr (.inl g59))), (qm 12, .inl (k 0, 1500, .inl g60)), cell16_ k qm sm, cell11_ k qm sm, cell10_ k qm sm, cell9_ k qm sm, cell7_ k qm sm]) (rest := []) cx hP hD hS [.int p0, .int p1, .int v74] (c_X12_after l D k b qm (up2 sm 12 g60) (up2L tm 11 g59) H.size p0 p1 v74 (show 0 ≤ ((sm 2) 0).toInt ∧ ((sm 2) 0).toInt ≤ 5 from by first | decide | omega) (show 0 ≤ p0.toInt ∧ p0.toInt ≤ 4 from by first | decide | omega)) gX12_layBestOf_X12_after rfl rfl rfl nd_X12_after ⟨Nat.le_of_ble_eq_true rfl, Nat.le_of_ble_eq_true rfl⟩ (ci := 10) (q0 := 0) rfl rfl rfl hl.1 rfl (Nat.le_of_ble_eq_true rfl) ⟨Nat.zero_le _, Nat.zero_le _⟩ dX12_layBestOf_82) cx.2.2.1 hD hS (fun r76 _ H locs hw75 hP hD hS => ?_)
              have w77 : r76 = J_X12_after (up2 sm 12 g60) (up2L tm 11 g59) p0 p1 v74 := hw75
              clear hw75
              have k79 : r76 = (J_X12_after (up2 sm 12 g60) (up2L tm 11 g59) p0 p1 v74) := congrArg (fun z => z) w77
              refine lv_istore (lv' := [(7, .int r76), (6, .int v74), (5, .int v58), (0, .ref (qm 0)), (1, .int p0), (2, .int p1), (3, .long p2)]) hx hb dX12_layBestOf_85 hl (by decide) rfl (fun ls hl => ?_)
              refine lv_iload hx hb dX12_layBestOf_87 (lv_at hl 0 rfl) ?_
              refine lv_bipush (v := (-9)) hx hb dX12_layBestOf_89 (by decide) ?_
              have hJ200 : ∀ (g150 : Nat → Int64) (g151 : Nat → Int32) (H : Heap) (locs : List Loc) (ls : Array Slot), va_P D vwCl [cell22_ qm sm tm, cell5_ k qm sm, cell13_ k qm sm, cell8_ k qm sm, cell6_ k qm sm, cell15_ k qm sm, cell14_ k qm tm, cell12_ k qm tm, cell18_ k qm tm, cell17_ k qm tm, cell19_ k qm tm, (qm 11, .inl (k 1, 1500, .inr (.inl g150))), (qm 12, .inl (k 0, 1500, .inl g151)), cell16_ k qm sm, cell11_ k qm sm, cell10_ k qm sm, cell9_ k qm sm, cell7_ k qm sm] H → va_D A [cell22_ qm sm tm, cell5_ k qm sm, cell13_ k qm sm, cell8_ k qm sm, cell6_ k qm sm, cell15_ k qm sm, cell14_ k qm tm, cell12_ k qm tm, cell18_ k qm tm, cell17_ k qm tm, cell19_ k qm tm, (qm 11, .inl (k 1, 1500, .inr (.inl g150))), (qm 12, .inl (k 0, 1500, .inl g151)), cell16_ k qm sm, cell11_ k qm sm, cell10_ k qm sm, cell9_ k qm sm, cell7_ k qm sm] → va_S A s.heap H locs → lv_has ls 13 [(5, .int v58), (0, .ref (qm 0)), (1, .int p0), (2, .int p1), (3, .long p2)] → W p l e ({ frames := 4, cells := 0, slots := 0, locals := 100 } : Room) s m ([.ref (qm 0), .int p0, .int p1, .long p2] : List Value).toArray below meth c H locs 0 0 Q (F0 m 200 ls []) := by
                intro g150 g151 H locs ls  hP hD hS hl
                obtain ⟨v152, e152⟩ : ∃ z : Int32, z = v58 + 1 := ⟨_, rfl⟩
                refine lv_iinc (v := v152) (lv' := [(5, .int v152), (0, .ref (qm 0)), (1, .int p0), (2, .int p1), (3, .long p2)]) hx hb dX12_layBestOf_200 hl (k := 0) rfl (by rw [e152]; rfl) (by decide) rfl (fun ls hl => ?_)
                have t152 : v152.toInt = v58.toInt + 1 := by rw [e152]; exact i_add rfl (by decide) (by omega) (by omega)
                refine lv_goto (tgt := 32) hx hb dX12_layBestOf_203 (by decide) ?_
                exact ih32 v152 g150 g151 _ _ _ (by omega) (by first | decide | omega) hP hD hS (lv_sub hl [0, 1, 2, 3, 4] rfl)
              refine lv_icmp_eq (tgt := 200) hx hb dX12_layBestOf_91 (by decide) (fun c153 => ?_) (fun c153 => ?_)
              · have f153 : r76.toInt = (-9) := f_eq rfl (by decide) c153
                exact hJ200 g59 g60 _ _ _  hP hD hS (lv_sub hl [2, 3, 4, 5, 6] rfl)
              · have f153 : ¬ r76.toInt = (-9) := f_ne rfl (by decide) c153
                refine lv_aload_n hx hb dX12_layBestOf_94 rfl (lv_at hl 3 rfl) ?_
                refine lv_iload hx hb dX12_layBestOf_95 (lv_at hl 0 rfl) ?_
                refine lv_iload hx hb dX12_layBestOf_97 (lv_at hl 1 rfl) ?_
                refine lv_bipush (v := 10) hx hb dX12_layBestOf_99 (by decide) ?_
                refine lv_irem hx hb dX12_layBestOf_101 (by decide) (lv_topi (fun v154 e154 => ?_))
                have t154 : v154.toInt = v74.toInt % 10 := by rw [e154]; exact i_rem rfl (by decide) (by omega) (by omega) (by omega) (by omega)
                refine g_lF (w1 := fun (_ : Unit) => [cell22_ qm sm tm, cell5_ k qm sm, cell13_ k qm sm, cell8_ k qm sm, cell6_ k qm sm, cell15_ k qm sm, cell14_ k qm tm, cell12_ k qm tm, cell18_ k qm tm, cell17_ k qm tm, cell19_ k qm tm, (qm 11, .inl (k 1, 1500, .inr (.inl g59))), (qm 12, .inl (k 0, 1500, .inl g60)), cell16_ k qm sm, cell11_ k qm sm, cell10_ k qm sm, cell9_ k qm sm, cell7_ k qm sm]) (g_runVF (ws := [cell22_ qm sm tm, cell5_ k qm sm, cell13_ k qm sm, cell8_ k qm sm, cell6_ k qm sm, cell15_ k qm sm, cell14_ k qm tm, cell12_ k qm tm, cell18_ k qm tm, cell17_ k qm tm, cell19_ k qm tm, (qm 11, .inl (k 1, 1500, .inr (.inl g59))), (qm 12, .inl (k 0, 1500, .inl g60)), cell16_ k qm sm, cell11_ k qm sm, cell10_ k qm sm, cell9_ k qm sm, cell7_ k qm sm]) (rest := []) cx hP hD hS [.int r76, .int v154] (c_X12_onwardBest l D k b qm (up2 sm 12 g60) (up2L tm 11 g59) H.size r76 v154 (show 0 ≤ ((sm 2) 1).toInt ∧ ((sm 2) 1).toInt ≤ 4 from by first | decide | omega) (show 0 ≤ v154.toInt ∧ v154.toInt ≤ 2 from by first | decide | omega)) gX12_layBestOf_X12_onwardBest rfl rfl rfl nd_X12_onwardBest ⟨Nat.le_of_ble_eq_true rfl, Nat.le_of_ble_eq_true rfl⟩ (ci := 10) (q0 := 0) rfl rfl rfl hl.1 rfl (Nat.le_of_ble_eq_true rfl) ⟨Nat.zero_le _, Nat.zero_le _⟩ dX12_layBestOf_102) cx.2.2.1 hD hS (fun r156 _ H locs hw155 hP hD hS => ?_)
                refine lv_lstore (lv' := [(8, .long r156), (7, .int r76), (6, .int v74), (5, .int v58), (0, .ref (qm 0)), (1, .int p0), (2, .int p1), (3, .long p2)]) hx hb dX12_layBestOf_105 hl (by decide) rfl (fun ls hl => ?_)
                refine lv_iconst (v := 0) hx hb dX12_layBestOf_107 (by decide) ?_
                refine lv_istore (lv' := [(10, .int 0), (8, .long r156), (7, .int r76), (6, .int v74), (5, .int v58), (0, .ref (qm 0)), (1, .int p0), (2, .int p1), (3, .long p2)]) hx hb dX12_layBestOf_108 hl (by decide) rfl (fun ls hl => ?_)
                have hL110 : ∀ (n187 : Nat) (v184 : Int32) (g185 : Nat → Int64) (g186 : Nat → Int32) (H : Heap) (locs : List Loc) (ls : Array Slot), 3 - v184.toInt < (n187 : Int) → (0 ≤ v184.toInt ∧ v184.toInt ≤ 3) → va_P D vwCl [cell22_ qm sm tm, cell5_ k qm sm, cell13_ k qm sm, cell8_ k qm sm, cell6_ k qm sm, cell15_ k qm sm, cell14_ k qm tm, cell12_ k qm tm, cell18_ k qm tm, cell17_ k qm tm, cell19_ k qm tm, (qm 11, .inl (k 1, 1500, .inr (.inl g185))), (qm 12, .inl (k 0, 1500, .inl g186)), cell16_ k qm sm, cell11_ k qm sm, cell10_ k qm sm, cell9_ k qm sm, cell7_ k qm sm] H → va_D A [cell22_ qm sm tm, cell5_ k qm sm, cell13_ k qm sm, cell8_ k qm sm, cell6_ k qm sm, cell15_ k qm sm, cell14_ k qm tm, cell12_ k qm tm, cell18_ k qm tm, cell17_ k qm tm, cell19_ k qm tm, (qm 11, .inl (k 1, 1500, .inr (.inl g185))), (qm 12, .inl (k 0, 1500, .inl g186)), cell16_ k qm sm, cell11_ k qm sm, cell10_ k qm sm, cell9_ k qm sm, cell7_ k qm sm] → va_S A s.heap H locs → lv_has ls 13 [(10, .int v184), (8, .long r156), (7, .int r76), (6, .int v74), (5, .int v58), (0, .ref (qm 0)), (1, .int p0), (2, .int p1), (3, .long p2)] → W p l e ({ frames := 4, cells := 0, slots := 0, locals := 100 } : Room) s m ([.ref (qm 0), .int p0, .int p1, .long p2] : List Value).toArray below meth c H locs 0 0 Q (F0 m 110 ls []) := by
                  intro n187
                  induction n187 with
                  | zero => intro v184 g185 g186 H locs ls hmn187 bv184 hP hD hS hl; exact absurd hmn187 (by omega)
                  | succ n187 ih110 =>
                    intro v184 g185 g186 H locs ls hmn187 bv184 hP hD hS hl
                    refine lv_iload hx hb dX12_layBestOf_110 (lv_at hl 0 rfl) ?_
                    refine lv_iconst (v := 3) hx hb dX12_layBestOf_112 (by decide) ?_
                    refine lv_icmp_ge (tgt := 200) hx hb dX12_layBestOf_113 (by decide) (fun c188 => ?_) (fun c188 => ?_)
                    · have f188 : 3 ≤ v184.toInt := f_le (by decide) rfl c188
                      exact hJ200 g185 g186 _ _ _  hP hD hS (lv_sub hl [4, 5, 6, 7, 8] rfl)
                    · have f188 : v184.toInt < 3 := f_nle (by decide) rfl c188
                      refine lv_aload_n hx hb dX12_layBestOf_116 rfl (lv_at hl 5 rfl) ?_
                      refine lv_iload_n hx hb dX12_layBestOf_117 rfl (lv_at hl 6 rfl) ?_
                      refine lv_iload hx hb dX12_layBestOf_118 (lv_at hl 2 rfl) ?_
                      refine lv_iload hx hb dX12_layBestOf_120 (lv_at hl 0 rfl) ?_
                      refine lv_iload hx hb dX12_layBestOf_122 (lv_at hl 3 rfl) ?_
                      refine g_iF (w1 := fun (_ : Unit) => [cell22_ qm sm tm, cell5_ k qm sm, cell13_ k qm sm, cell8_ k qm sm, cell6_ k qm sm, cell15_ k qm sm, cell14_ k qm tm, cell12_ k qm tm, cell18_ k qm tm, cell17_ k qm tm, cell19_ k qm tm, (qm 11, .inl (k 1, 1500, .inr (.inl g185))), (qm 12, .inl (k 0, 1500, .inl g186)), cell16_ k qm sm, cell11_ k qm sm, cell10_ k qm sm, cell9_ k qm sm, cell7_ k qm sm]) (g_runVF (ws := [cell22_ qm sm tm, cell5_ k qm sm, cell13_ k qm sm, cell8_ k qm sm, cell6_ k qm sm, cell15_ k qm sm, cell14_ k qm tm, cell12_ k qm tm, cell18_ k qm tm, cell17_ k qm tm, cell19_ k qm tm, (qm 11, .inl (k 1, 1500, .inr (.inl g185))), (qm 12, .inl (k 0, 1500, .inl g186)), cell16_ k qm sm, cell11_ k qm sm, cell10_ k qm sm, cell9_ k qm sm, cell7_ k qm sm]) (rest := []) cx hP hD hS [.int p0, .int r76, .int v184, .int v74] (c_X12_costOf l D k b qm (up2 sm 12 g186) (up2L tm 11 g185) H.size p0 r76 v184 v74 (show 0 ≤ p0.toInt ∧ p0.toInt ≤ 4 from by first | decide | omega)) gX12_layBestOf_X12_costOf rfl rfl rfl nd_X12_costOf ⟨Nat.le_of_ble_eq_true rfl, Nat.le_of_ble_eq_true rfl⟩ (ci := 10) (q0 := 0) rfl rfl rfl hl.1 rfl (Nat.le_of_ble_eq_true rfl) ⟨Nat.zero_le _, Nat.zero_le _⟩ dX12_layBestOf_124) cx.2.2.1 hD hS (fun r190 _ H locs hw189 hP hD hS => ?_)
                      have w191 : r190 = J_X12_costOf (up2 sm 12 g186) (up2L tm 11 g185) p0 r76 v184 v74 := hw189
                      clear hw189
                      have k193 : r190 = (J_X12_costOf (up2 sm 12 g186) (up2L tm 11 g185) p0 r76 v184 v74) := congrArg (fun z => z) w191
                      obtain ⟨v194, e194⟩ : ∃ z : Int64, z = (r190 : Int32).toInt64 := ⟨_, rfl⟩
                      refine lv_i2l (v := v194) hx hb dX12_layBestOf_127 e194.symm ?_
                      refine lv_lload_n hx hb dX12_layBestOf_128 rfl (lv_at hl 8 rfl) ?_
                      refine lv_lmul hx hb dX12_layBestOf_129 (lv_topl (fun v195 e195 => ?_))
                      refine lv_lload hx hb dX12_layBestOf_130 (lv_at hl 1 rfl) ?_
                      refine lv_ladd hx hb dX12_layBestOf_132 (lv_topl (fun v196 e196 => ?_))
                      refine lv_lstore (lv' := [(11, .long v196), (10, .int v184), (8, .long r156), (7, .int r76), (6, .int v74), (5, .int v58), (0, .ref (qm 0)), (1, .int p0), (2, .int p1), (3, .long p2)]) hx hb dX12_layBestOf_133 hl (by decide) rfl (fun ls hl => ?_)
                      refine lv_aload_n hx hb dX12_layBestOf_135 rfl (lv_at hl 6 rfl) ?_
                      refine g_get cx hP iw_X12_layBestOf_X12 0 rfl rfl 19 (by decide) rfl fw_X12_layBestOf_41 rfl dX12_layBestOf_136 ?_
                      refine lv_iconst (v := 3) hx hb dX12_layBestOf_139 (by decide) ?_
                      refine lv_iload_n hx hb dX12_layBestOf_140 rfl (lv_at hl 8 rfl) ?_
                      refine lv_imul hx hb dX12_layBestOf_141 (lv_topi (fun v197 e197 => ?_))
                      have t197 : v197.toInt = 3 * p1.toInt := by rw [e197]; exact i_mul (by decide) rfl (by omega) (by omega)
                      refine lv_iload hx hb dX12_layBestOf_142 (lv_at hl 1 rfl) ?_
                      refine lv_iadd hx hb dX12_layBestOf_144 (lv_topi (fun v198 e198 => ?_))
                      have t198 : v198.toInt = v197.toInt + v184.toInt := by rw [e198]; exact i_add rfl rfl (by omega) (by omega)
                      have hn199 : vp_in v198 1500 := f_in (a := v198.toInt) rfl (by omega) (by omega)
                      refine va_lald hx hb cx.2.1 hP 11 1 rfl rfl hn199 dX12_layBestOf_145 (lv_topl (fun v200 e200 => ?_))
                      refine lv_lconst (v := 0) hx hb dX12_layBestOf_146 (by decide) ?_
                      refine W.lcmp hx hb dX12_layBestOf_147 (lv_topi (fun v201 e201 => ?_))
                      have hJ194 : ∀ (g223 : Nat → Int64) (g224 : Nat → Int32) (H : Heap) (locs : List Loc) (ls : Array Slot), va_P D vwCl [cell22_ qm sm tm, cell5_ k qm sm, cell13_ k qm sm, cell8_ k qm sm, cell6_ k qm sm, cell15_ k qm sm, cell14_ k qm tm, cell12_ k qm tm, cell18_ k qm tm, cell17_ k qm tm, cell19_ k qm tm, (qm 11, .inl (k 1, 1500, .inr (.inl g223))), (qm 12, .inl (k 0, 1500, .inl g224)), cell16_ k qm sm, cell11_ k qm sm, cell10_ k qm sm, cell9_ k qm sm, cell7_ k qm sm] H → va_D A [cell22_ qm sm tm, cell5_ k qm sm, cell13_ k qm sm, cell8_ k qm sm, cell6_ k qm sm, cell15_ k qm sm, cell14_ k qm tm, cell12_ k qm tm, cell18_ k qm tm, cell17_ k qm tm, cell19_ k qm tm, (qm 11, .inl (k 1, 1500, .inr (.inl g223))), (qm 12, .inl (k 0, 1500, .inl g224)), cell16_ k qm sm, cell11_ k qm sm, cell10_ k qm sm, cell9_ k qm sm, cell7_ k qm sm] → va_S A s.heap H locs → lv_has ls 13 [(10, .int v184), (8, .long r156), (7, .int r76), (6, .int v74), (5, .int v58), (0, .ref (qm 0)), (1, .int p0), (2, .int p1), (3, .long p2)] → W p l e ({ frames := 4, cells := 0, slots := 0, locals := 100 } : Room) s m ([.ref (qm 0), .int p0, .int p1, .long p2] : List Value).toArray below meth c H locs 0 0 Q (F0 m 194 ls []) := by
                        intro g223 g224 H locs ls  hP hD hS hl
                        obtain ⟨v225, e225⟩ : ∃ z : Int32, z = v184 + 1 := ⟨_, rfl⟩
                        refine lv_iinc (v := v225) (lv' := [(10, .int v225), (8, .long r156), (7, .int r76), (6, .int v74), (5, .int v58), (0, .ref (qm 0)), (1, .int p0), (2, .int p1), (3, .long p2)]) hx hb dX12_layBestOf_194 hl (k := 0) rfl (by rw [e225]; rfl) (by decide) rfl (fun ls hl => ?_)
                        have t225 : v225.toInt = v184.toInt + 1 := by rw [e225]; exact i_add rfl (by decide) (by omega) (by omega)
                        refine lv_goto (tgt := 110) hx hb dX12_layBestOf_197 (by decide) ?_
                        exact ih110 v225 g223 g224 _ _ _ (by omega) (by first | decide | omega) hP hD hS (lv_sub hl [0, 1, 2, 3, 4, 5, 6, 7, 8] rfl)
                      have hJ168 : ∀  (H : Heap) (locs : List Loc) (ls : Array Slot), va_P D vwCl [cell22_ qm sm tm, cell5_ k qm sm, cell13_ k qm sm, cell8_ k qm sm, cell6_ k qm sm, cell15_ k qm sm, cell14_ k qm tm, cell12_ k qm tm, cell18_ k qm tm, cell17_ k qm tm, cell19_ k qm tm, (qm 11, .inl (k 1, 1500, .inr (.inl g185))), (qm 12, .inl (k 0, 1500, .inl g186)), cell16_ k qm sm, cell11_ k qm sm, cell10_ k qm sm, cell9_ k qm sm, cell7_ k qm sm] H → va_D A [cell22_ qm sm tm, cell5_ k qm sm, cell13_ k qm sm, cell8_ k qm sm, cell6_ k qm sm, cell15_ k qm sm, cell14_ k qm tm, cell12_ k qm tm, cell18_ k qm tm, cell17_ k qm tm, cell19_ k qm tm, (qm 11, .inl (k 1, 1500, .inr (.inl g185))), (qm 12, .inl (k 0, 1500, .inl g186)), cell16_ k qm sm, cell11_ k qm sm, cell10_ k qm sm, cell9_ k qm sm, cell7_ k qm sm] → va_S A s.heap H locs → lv_has ls 13 [(11, .long v196), (10, .int v184), (8, .long r156), (7, .int r76), (6, .int v74), (5, .int v58), (0, .ref (qm 0)), (1, .int p0), (2, .int p1), (3, .long p2)] → W p l e ({ frames := 4, cells := 0, slots := 0, locals := 100 } : Room) s m ([.ref (qm 0), .int p0, .int p1, .long p2] : List Value).toArray below meth c H locs 0 0 Q (F0 m 168 ls []) := by
                        intro  H locs ls  hP hD hS hl
                        refine lv_aload_n hx hb dX12_layBestOf_168 rfl (lv_at hl 6 rfl) ?_
                        refine g_get cx hP iw_X12_layBestOf_X12 0 rfl rfl 19 (by decide) rfl fw_X12_layBestOf_41 rfl dX12_layBestOf_169 ?_
                        refine lv_iconst (v := 3) hx hb dX12_layBestOf_172 (by decide) ?_
                        refine lv_iload_n hx hb dX12_layBestOf_173 rfl (lv_at hl 8 rfl) ?_
                        refine lv_imul hx hb dX12_layBestOf_174 (lv_topi (fun v231 e231 => ?_))
                        have t231 : v231.toInt = 3 * p1.toInt := by rw [e231]; exact i_mul (by decide) rfl (by omega) (by omega)
                        refine lv_iload hx hb dX12_layBestOf_175 (lv_at hl 1 rfl) ?_
                        refine lv_iadd hx hb dX12_layBestOf_177 (lv_topi (fun v232 e232 => ?_))
                        have t232 : v232.toInt = v231.toInt + v184.toInt := by rw [e232]; exact i_add rfl rfl (by omega) (by omega)
                        refine lv_lload hx hb dX12_layBestOf_178 (lv_at hl 0 rfl) ?_
                        have hn233 : vp_in v232 1500 := f_in (a := v232.toInt) rfl (by omega) (by omega)
                        refine va_last hx hb cx.2.1 hP hD hS 11 1 rfl rfl hn233 dX12_layBestOf_180 (fun H locs hP hD hS => ?_)
                        obtain ⟨g234, eg234⟩ : ∃ g : Nat → Int64, g = vp_updL g185 (v232).toNatClampNeg v196 := ⟨_, rfl⟩
                        rw [← eg234] at hP hD
                        have hP : va_P D vwCl [cell22_ qm sm tm, cell5_ k qm sm, cell13_ k qm sm, cell8_ k qm sm, cell6_ k qm sm, cell15_ k qm sm, cell14_ k qm tm, cell12_ k qm tm, cell18_ k qm tm, cell17_ k qm tm, cell19_ k qm tm, (qm 11, .inl (k 1, 1500, .inr (.inl g234))), (qm 12, .inl (k 0, 1500, .inl g186)), cell16_ k qm sm, cell11_ k qm sm, cell10_ k qm sm, cell9_ k qm sm, cell7_ k qm sm] H := hP
                        have hD : va_D A [cell22_ qm sm tm, cell5_ k qm sm, cell13_ k qm sm, cell8_ k qm sm, cell6_ k qm sm, cell15_ k qm sm, cell14_ k qm tm, cell12_ k qm tm, cell18_ k qm tm, cell17_ k qm tm, cell19_ k qm tm, (qm 11, .inl (k 1, 1500, .inr (.inl g234))), (qm 12, .inl (k 0, 1500, .inl g186)), cell16_ k qm sm, cell11_ k qm sm, cell10_ k qm sm, cell9_ k qm sm, cell7_ k qm sm] := hD
                        refine lv_aload_n hx hb dX12_layBestOf_181 rfl (lv_at hl 6 rfl) ?_
                        refine g_get cx hP iw_X12_layBestOf_X12 0 rfl rfl 20 (by decide) rfl fw_X12_layBestOf_44 rfl dX12_layBestOf_182 ?_
                        refine lv_iconst (v := 3) hx hb dX12_layBestOf_185 (by decide) ?_
                        refine lv_iload_n hx hb dX12_layBestOf_186 rfl (lv_at hl 8 rfl) ?_
                        refine lv_imul hx hb dX12_layBestOf_187 (lv_topi (fun v235 e235 => ?_))
                        have t235 : v235.toInt = 3 * p1.toInt := by rw [e235]; exact i_mul (by decide) rfl (by omega) (by omega)
                        refine lv_iload hx hb dX12_layBestOf_188 (lv_at hl 1 rfl) ?_
                        refine lv_iadd hx hb dX12_layBestOf_190 (lv_topi (fun v236 e236 => ?_))
                        have t236 : v236.toInt = v235.toInt + v184.toInt := by rw [e236]; exact i_add rfl rfl (by omega) (by omega)
                        refine lv_iload hx hb dX12_layBestOf_191 (lv_at hl 4 rfl) ?_
                        have hn237 : vp_in v236 1500 := f_in (a := v236.toInt) rfl (by omega) (by omega)
                        refine va_iast hx hb cx.2.1 hP hD hS 12 0 rfl rfl hn237 dX12_layBestOf_193 (fun H locs hP hD hS => ?_)
                        obtain ⟨g238, eg238⟩ : ∃ g : Nat → Int32, g = upd g186 (v236).toNatClampNeg v74 := ⟨_, rfl⟩
                        rw [← eg238] at hP hD
                        have hP : va_P D vwCl [cell22_ qm sm tm, cell5_ k qm sm, cell13_ k qm sm, cell8_ k qm sm, cell6_ k qm sm, cell15_ k qm sm, cell14_ k qm tm, cell12_ k qm tm, cell18_ k qm tm, cell17_ k qm tm, cell19_ k qm tm, (qm 11, .inl (k 1, 1500, .inr (.inl g234))), (qm 12, .inl (k 0, 1500, .inl g238)), cell16_ k qm sm, cell11_ k qm sm, cell10_ k qm sm, cell9_ k qm sm, cell7_ k qm sm] H := hP
                        have hD : va_D A [cell22_ qm sm tm, cell5_ k qm sm, cell13_ k qm sm, cell8_ k qm sm, cell6_ k qm sm, cell15_ k qm sm, cell14_ k qm tm, cell12_ k qm tm, cell18_ k qm tm, cell17_ k qm tm, cell19_ k qm tm, (qm 11, .inl (k 1, 1500, .inr (.inl g234))), (qm 12, .inl (k 0, 1500, .inl g238)), cell16_ k qm sm, cell11_ k qm sm, cell10_ k qm sm, cell9_ k qm sm, cell7_ k qm sm] := hD
                        exact hJ194 g234 g238 _ _ _  hP hD hS (lv_sub hl [1, 2, 3, 4, 5, 6, 7, 8, 9] rfl)
                      refine lv_if_lt (tgt := 168) hx hb dX12_layBestOf_148 (by decide) (fun c239 => ?_) (fun c239 => ?_)
                      · have f239 : v201.toInt < 0 := f_lt rfl (by decide) c239
                        exact hJ168  _ _ _  hP hD hS (lv_sub hl [0, 1, 2, 3, 4, 5, 6, 7, 8, 9] rfl)
                      · have f239 : 0 ≤ v201.toInt := f_nlt rfl (by decide) c239
                        refine lv_lload hx hb dX12_layBestOf_151 (lv_at hl 0 rfl) ?_
                        refine lv_aload_n hx hb dX12_layBestOf_153 rfl (lv_at hl 6 rfl) ?_
                        refine g_get cx hP iw_X12_layBestOf_X12 0 rfl rfl 19 (by decide) rfl fw_X12_layBestOf_41 rfl dX12_layBestOf_154 ?_
                        refine lv_iconst (v := 3) hx hb dX12_layBestOf_157 (by decide) ?_
                        refine lv_iload_n hx hb dX12_layBestOf_158 rfl (lv_at hl 8 rfl) ?_
                        refine lv_imul hx hb dX12_layBestOf_159 (lv_topi (fun v240 e240 => ?_))
                        have t240 : v240.toInt = 3 * p1.toInt := by rw [e240]; exact i_mul (by decide) rfl (by omega) (by omega)
                        refine lv_iload hx hb dX12_layBestOf_160 (lv_at hl 1 rfl) ?_
                        refine lv_iadd hx hb dX12_layBestOf_162 (lv_topi (fun v241 e241 => ?_))
                        have t241 : v241.toInt = v240.toInt + v184.toInt := by rw [e241]; exact i_add rfl rfl (by omega) (by omega)
                        have hn242 : vp_in v241 1500 := f_in (a := v241.toInt) rfl (by omega) (by omega)
                        refine va_lald hx hb cx.2.1 hP 11 1 rfl rfl hn242 dX12_layBestOf_163 (lv_topl (fun v243 e243 => ?_))
                        refine W.lcmp hx hb dX12_layBestOf_164 (lv_topi (fun v244 e244 => ?_))
                        refine lv_if_ge (tgt := 194) hx hb dX12_layBestOf_165 (by decide) (fun c245 => ?_) (fun c245 => ?_)
                        · have f245 : 0 ≤ v244.toInt := f_le (by decide) rfl c245
                          exact hJ194 g185 g186 _ _ _  hP hD hS (lv_sub hl [1, 2, 3, 4, 5, 6, 7, 8, 9] rfl)
                        · have f245 : v244.toInt < 0 := f_nle (by decide) rfl c245
                          exact hJ168  _ _ _  hP hD hS (lv_sub hl [0, 1, 2, 3, 4, 5, 6, 7, 8, 9] rfl)
                have hlit246 : (0 : Int32).toInt = 0 := by decide
                exact hL110 (Int.toNat (3 - 0) + 1) 0 g59 g60 _ _ _ (by omega) (by first | decide | omega) hP hD hS (lv_sub hl [0, 1, 2, 3, 4, 5, 6, 7, 8] rfl)
        have hlit247 : (0 : Int32).toInt = 0 := by decide
        exact hL32 (Int.toNat (150 - 0) + 1) 0 g7 (sm 12) _ _ _ (by omega) (by first | decide | omega) hP hD hS (lv_sub hl [0, 1, 2, 3, 4] rfl)
      · have f9 : v6.toInt < 3 := f_nle (by decide) rfl c9
        refine lv_aload_n hx hb dX12_layBestOf_9 rfl (lv_at hl 1 rfl) ?_
        refine g_get cx hP iw_X12_layBestOf_X12 0 rfl rfl 19 (by decide) rfl fw_X12_layBestOf_41 rfl dX12_layBestOf_10 ?_
        refine lv_iconst (v := 3) hx hb dX12_layBestOf_13 (by decide) ?_
        refine lv_iload_n hx hb dX12_layBestOf_14 rfl (lv_at hl 3 rfl) ?_
        refine lv_imul hx hb dX12_layBestOf_15 (lv_topi (fun v248 e248 => ?_))
        have t248 : v248.toInt = 3 * p1.toInt := by rw [e248]; exact i_mul (by decide) rfl (by omega) (by omega)
        refine lv_iload hx hb dX12_layBestOf_16 (lv_at hl 0 rfl) ?_
        refine lv_iadd hx hb dX12_layBestOf_18 (lv_topi (fun v249 e249 => ?_))
        have t249 : v249.toInt = v248.toInt + v6.toInt := by rw [e249]; exact i_add rfl rfl (by omega) (by omega)
        refine lv_ldc2 (v := (-1)) hx hb cx.1.2.2.2.1 (cx.1.2.2.2.2 _ kJ_X12_layBestOf_221) dX12_layBestOf_19 ?_
        have hn250 : vp_in v249 1500 := f_in (a := v249.toInt) rfl (by omega) (by omega)
        refine va_last hx hb cx.2.1 hP hD hS 11 1 rfl rfl hn250 dX12_layBestOf_22 (fun H locs hP hD hS => ?_)
        obtain ⟨g251, eg251⟩ : ∃ g : Nat → Int64, g = vp_updL g7 (v249).toNatClampNeg (-1) := ⟨_, rfl⟩
        rw [← eg251] at hP hD
        have hP : va_P D vwCl [cell22_ qm sm tm, cell5_ k qm sm, cell13_ k qm sm, cell8_ k qm sm, cell6_ k qm sm, cell15_ k qm sm, cell14_ k qm tm, cell12_ k qm tm, cell18_ k qm tm, cell17_ k qm tm, cell19_ k qm tm, (qm 11, .inl (k 1, 1500, .inr (.inl g251))), cell20_ k qm sm, cell16_ k qm sm, cell11_ k qm sm, cell10_ k qm sm, cell9_ k qm sm, cell7_ k qm sm] H := hP
        have hD : va_D A [cell22_ qm sm tm, cell5_ k qm sm, cell13_ k qm sm, cell8_ k qm sm, cell6_ k qm sm, cell15_ k qm sm, cell14_ k qm tm, cell12_ k qm tm, cell18_ k qm tm, cell17_ k qm tm, cell19_ k qm tm, (qm 11, .inl (k 1, 1500, .inr (.inl g251))), cell20_ k qm sm, cell16_ k qm sm, cell11_ k qm sm, cell10_ k qm sm, cell9_ k qm sm, cell7_ k qm sm] := hD
        obtain ⟨v252, e252⟩ : ∃ z : Int32, z = v6 + 1 := ⟨_, rfl⟩
        refine lv_iinc (v := v252) (lv' := [(5, .int v252), (0, .ref (qm 0)), (1, .int p0), (2, .int p1), (3, .long p2)]) hx hb dX12_layBestOf_23 hl (k := 0) rfl (by rw [e252]; rfl) (by decide) rfl (fun ls hl => ?_)
        have t252 : v252.toInt = v6.toInt + 1 := by rw [e252]; exact i_add rfl (by decide) (by omega) (by omega)
        refine lv_goto (tgt := 3) hx hb dX12_layBestOf_26 (by decide) ?_
        exact ih3 v252 g251 _ _ _ (by omega) (by first | decide | omega) hP hD hS (lv_sub hl [0, 1, 2, 3, 4] rfl)
  have hlit253 : (0 : Int32).toInt = 0 := by decide
  exact hL3 (Int.toNat (3 - 0) + 1) 0 (tm 11) _ _ _ (by omega) (by first | decide | omega) hP hD hS (lv_sub hl [0, 1, 2, 3, 4] rfl)
theorem fw_X12_layBest_13 : Cond.fieldLink RX12 13 "StillInAugustModel" "house" "[I" ∈ wsX12_layBest := by decide +kernel
theorem fw_X12_layBest_38 : Cond.fieldLink RX12 38 "StillInAugustModel" "bests" "[J" ∈ wsX12_layBest := by decide +kernel
theorem fw_X12_layBest_41 : Cond.fieldLink RX12 41 "StillInAugustModel" "bestsBefore" "[J" ∈ wsX12_layBest := by decide +kernel
theorem nd_X12_layBestOf : yX12_layBestOf.cls = RX12 ∧ yX12_layBestOf.cls ≠ "java/lang/invoke/MethodHandle" ∧ yX12_layBestOf.cls ≠ "java/lang/invoke/VarHandle" ∧ (parseMethodDescriptor yX12_layBestOf.desc).map (fun d => d.parameters.length) = some 3 := by decide +kernel
theorem iw_X12_layBest_X12 : ∀ w ∈ u_ws RX12 TX12 33, w ∈ wsX12_layBest := fun _ h => List.mem_cons_of_mem _ (List.mem_append_right _ h)
set_option maxHeartbeats 4000000 in
set_option maxRecDepth 100000 in
theorem c_X12_layBest (l : Launch) (D : va_G) (k : Nat → ClassId) (b : Nat → Nat) (qm : Nat → Nat) (sm : Nat → Nat → Int32) (tm : Nat → Nat → Int64) (sz : Nat) (p0 : Int32) (h_w0 : 0 ≤ (sm 2 0).toInt ∧ (sm 2 0).toInt ≤ 5) (h_k1 : 0 ≤ (sm 2 1).toInt ∧ (sm 2 1).toInt ≤ 4) (hp0 : 0 ≤ p0.toInt ∧ p0.toInt ≤ 4) : MetV l D k b yX12_layBest wsX12_layBest ({ frames := 5, cells := 0, slots := 0, locals := 132 } : Room) [cell22_ qm sm tm, cell5_ k qm sm, cell13_ k qm sm, cell8_ k qm sm, cell6_ k qm sm, cell15_ k qm sm, cell14_ k qm tm, cell12_ k qm tm, cell18_ k qm tm, cell17_ k qm tm, cell19_ k qm tm, cell21_ k qm tm, cell20_ k qm sm, cell16_ k qm sm, cell11_ k qm sm, cell10_ k qm sm, cell9_ k qm sm, cell7_ k qm sm] sz [.ref (qm 0), .int p0] (fun (u : (Nat → Int64) × (Nat → Int64) × (Nat → Int32)) => True) (fun u => [cell22_ qm sm tm, cell5_ k qm sm, cell13_ k qm sm, cell8_ k qm sm, cell6_ k qm sm, cell15_ k qm sm, cell14_ k qm tm, cell12_ k qm tm, cell18_ k qm tm, cell17_ k qm tm, cell130_ k qm (u.1), cell122_ k qm (u.2.1), cell123_ k qm (u.2.2), cell16_ k qm sm, cell11_ k qm sm, cell10_ k qm sm, cell9_ k qm sm, cell7_ k qm sm]) := by
  refine g_enter (cc := cX12_layBest) (maxL := 6) (ret := none) (by decide) rfl (Nat.le_of_ble_eq_true rfl) ?_
  intro p e s m below meth c A hsz hAe cx hr hP hD hS ls hl
  rw [hAe]
  refine g_q (fun Q hQ => ?_)
  have hx := cx.1.1
  have hb := cx.1.2.1
  have bp0 := i_rng p0
  have hl : lv_has ls 6 [(0, .ref (qm 0)), (1, .int p0)] := hl
  obtain ⟨H, eH⟩ : ∃ H : Heap, H = s.heap := ⟨_, rfl⟩
  obtain ⟨locs, el⟩ : ∃ L : List Loc, L = [] := ⟨_, rfl⟩
  have hP : va_P D vwCl [cell22_ qm sm tm, cell5_ k qm sm, cell13_ k qm sm, cell8_ k qm sm, cell6_ k qm sm, cell15_ k qm sm, cell14_ k qm tm, cell12_ k qm tm, cell18_ k qm tm, cell17_ k qm tm, cell19_ k qm tm, cell21_ k qm tm, cell20_ k qm sm, cell16_ k qm sm, cell11_ k qm sm, cell10_ k qm sm, cell9_ k qm sm, cell7_ k qm sm] H := by rw [eH]; exact hP
  have hD : va_D A [cell22_ qm sm tm, cell5_ k qm sm, cell13_ k qm sm, cell8_ k qm sm, cell6_ k qm sm, cell15_ k qm sm, cell14_ k qm tm, cell12_ k qm tm, cell18_ k qm tm, cell17_ k qm tm, cell19_ k qm tm, cell21_ k qm tm, cell20_ k qm sm, cell16_ k qm sm, cell11_ k qm sm, cell10_ k qm sm, cell9_ k qm sm, cell7_ k qm sm] := hD
  have hS : va_S A s.heap H locs := by rw [eH, el]; exact hS
  suffices goal : W p l e ({ frames := 5, cells := 0, slots := 0, locals := 132 } : Room) s m ([.ref (qm 0), .int p0] : List Value).toArray below meth c H locs 0 0 Q (F0 m 0 ls []) by rw [eH, el] at goal; exact goal
  refine lv_iconst (v := 0) hx hb dX12_layBest_0 (by decide) ?_
  refine lv_istore_n (lv' := [(2, .int 0), (0, .ref (qm 0)), (1, .int p0)]) hx hb dX12_layBest_1 rfl hl (by decide) rfl (fun ls hl => ?_)
  have hL2 : ∀ (n21 : Nat) (v19 : Int32) (g20 : Nat → Int64) (H : Heap) (locs : List Loc) (ls : Array Slot), 1500 - v19.toInt < (n21 : Int) → (0 ≤ v19.toInt ∧ v19.toInt ≤ 1500) → va_P D vwCl [cell22_ qm sm tm, cell5_ k qm sm, cell13_ k qm sm, cell8_ k qm sm, cell6_ k qm sm, cell15_ k qm sm, cell14_ k qm tm, cell12_ k qm tm, cell18_ k qm tm, cell17_ k qm tm, (qm 10, .inl (k 1, 1500, .inr (.inl g20))), cell21_ k qm tm, cell20_ k qm sm, cell16_ k qm sm, cell11_ k qm sm, cell10_ k qm sm, cell9_ k qm sm, cell7_ k qm sm] H → va_D A [cell22_ qm sm tm, cell5_ k qm sm, cell13_ k qm sm, cell8_ k qm sm, cell6_ k qm sm, cell15_ k qm sm, cell14_ k qm tm, cell12_ k qm tm, cell18_ k qm tm, cell17_ k qm tm, (qm 10, .inl (k 1, 1500, .inr (.inl g20))), cell21_ k qm tm, cell20_ k qm sm, cell16_ k qm sm, cell11_ k qm sm, cell10_ k qm sm, cell9_ k qm sm, cell7_ k qm sm] → va_S A s.heap H locs → lv_has ls 6 [(2, .int v19), (0, .ref (qm 0)), (1, .int p0)] → W p l e ({ frames := 5, cells := 0, slots := 0, locals := 132 } : Room) s m ([.ref (qm 0), .int p0] : List Value).toArray below meth c H locs 0 0 Q (F0 m 2 ls []) := by
    intro n21
    induction n21 with
    | zero => intro v19 g20 H locs ls hmn21 bv19 hP hD hS hl; exact absurd hmn21 (by omega)
    | succ n21 ih2 =>
      intro v19 g20 H locs ls hmn21 bv19 hP hD hS hl
      refine lv_iload_n hx hb dX12_layBest_2 rfl (lv_at hl 0 rfl) ?_
      refine lv_sipush (v := 1500) hx hb dX12_layBest_3 (by decide) ?_
      refine lv_icmp_ge (tgt := 43) hx hb dX12_layBest_6 (by decide) (fun c22 => ?_) (fun c22 => ?_)
      · have f22 : 1500 ≤ v19.toInt := f_le (by decide) rfl c22
        refine lv_aload_n hx hb dX12_layBest_43 rfl (lv_at hl 1 rfl) ?_
        refine g_get cx hP iw_X12_layBest_X12 0 rfl rfl 1 (by decide) rfl fw_X12_layBest_13 rfl dX12_layBest_44 ?_
        refine lv_iconst (v := 0) hx hb dX12_layBest_47 (by decide) ?_
        have hn23 : vp_in 0 26 := f_in (a := 0) (by decide) (by omega) (by omega)
        refine va_iald hx hb cx.2.1 hP 2 0 rfl rfl hn23 dX12_layBest_48 (lv_topi (fun v24 e24 => ?_))
        have uv24 : v24.toInt = ((sm 2) 0).toInt := congrArg Int32.toInt e24
        have t24 : 0 ≤ v24.toInt ∧ v24.toInt ≤ 5 := by rw [e24]; exact h_w0
        refine lv_iconst (v := 1) hx hb dX12_layBest_49 (by decide) ?_
        refine lv_isub hx hb dX12_layBest_50 (lv_topi (fun v25 e25 => ?_))
        have t25 : v25.toInt = v24.toInt - 1 := by rw [e25]; exact i_sub rfl (by decide) (by omega) (by omega)
        refine lv_istore_n (lv' := [(2, .int v25), (0, .ref (qm 0)), (1, .int p0)]) hx hb dX12_layBest_51 rfl hl (by decide) rfl (fun ls hl => ?_)
        have hL52 : ∀ (n57 : Nat) (v53 : Int32) (g54 : Nat → Int64) (g55 : Nat → Int64) (g56 : Nat → Int32) (H : Heap) (locs : List Loc) (ls : Array Slot), v53.toInt + 1 < (n57 : Int) → (-1 ≤ v53.toInt ∧ v53.toInt ≤ 4) → va_P D vwCl [cell22_ qm sm tm, cell5_ k qm sm, cell13_ k qm sm, cell8_ k qm sm, cell6_ k qm sm, cell15_ k qm sm, cell14_ k qm tm, cell12_ k qm tm, cell18_ k qm tm, cell17_ k qm tm, (qm 10, .inl (k 1, 1500, .inr (.inl g54))), (qm 11, .inl (k 1, 1500, .inr (.inl g55))), (qm 12, .inl (k 0, 1500, .inl g56)), cell16_ k qm sm, cell11_ k qm sm, cell10_ k qm sm, cell9_ k qm sm, cell7_ k qm sm] H → va_D A [cell22_ qm sm tm, cell5_ k qm sm, cell13_ k qm sm, cell8_ k qm sm, cell6_ k qm sm, cell15_ k qm sm, cell14_ k qm tm, cell12_ k qm tm, cell18_ k qm tm, cell17_ k qm tm, (qm 10, .inl (k 1, 1500, .inr (.inl g54))), (qm 11, .inl (k 1, 1500, .inr (.inl g55))), (qm 12, .inl (k 0, 1500, .inl g56)), cell16_ k qm sm, cell11_ k qm sm, cell10_ k qm sm, cell9_ k qm sm, cell7_ k qm sm] → va_S A s.heap H locs → lv_has ls 6 [(2, .int v53), (0, .ref (qm 0)), (1, .int p0)] → W p l e ({ frames := 5, cells := 0, slots := 0, locals := 132 } : Room) s m ([.ref (qm 0), .int p0] : List Value).toArray below meth c H locs 0 0 Q (F0 m 52 ls []) := by
          intro n57
          induction n57 with
          | zero => intro v53 g54 g55 g56 H locs ls hmn57 bv53 hP hD hS hl; exact absurd hmn57 (by omega)
          | succ n57 ih52 =>
            intro v53 g54 g55 g56 H locs ls hmn57 bv53 hP hD hS hl
            refine lv_iload_n hx hb dX12_layBest_52 rfl (lv_at hl 0 rfl) ?_
            refine lv_iload_n hx hb dX12_layBest_53 rfl (lv_at hl 2 rfl) ?_
            refine lv_icmp_lt (tgt := 140) hx hb dX12_layBest_54 (by decide) (fun c58 => ?_) (fun c58 => ?_)
            · have f58 : v53.toInt < p0.toInt := f_lt rfl rfl c58
              rw [hQ]
              exact x_v cx hr (g54, g55, g56) hP hD hS trivial dX12_layBest_140
            · have f58 : p0.toInt ≤ v53.toInt := f_nlt rfl rfl c58
              refine lv_aload_n hx hb dX12_layBest_57 rfl (lv_at hl 1 rfl) ?_
              refine g_get cx hP iw_X12_layBest_X12 0 rfl rfl 1 (by decide) rfl fw_X12_layBest_13 rfl dX12_layBest_58 ?_
              refine lv_iconst (v := 0) hx hb dX12_layBest_61 (by decide) ?_
              have hn59 : vp_in 0 26 := f_in (a := 0) (by decide) (by omega) (by omega)
              refine va_iald hx hb cx.2.1 hP 2 0 rfl rfl hn59 dX12_layBest_62 (lv_topi (fun v60 e60 => ?_))
              obtain rfl : v24 = v60 := e24.trans e60.symm
              refine lv_iload_n hx hb dX12_layBest_63 rfl (lv_at hl 0 rfl) ?_
              refine lv_isub hx hb dX12_layBest_64 (lv_topi (fun v61 e61 => ?_))
              have t61 : v61.toInt = v24.toInt - v53.toInt := by rw [e61]; exact i_sub rfl rfl (by omega) (by omega)
              refine g_lr (g_runS (wc := []) (rest := []) cx hP hD hS [] rfl (by decide) [.int v61] (c_X12_parts l D k b H.size v61) gX12_layBest_X12_parts rfl rfl rfl nd_X12_parts ⟨Nat.le_of_ble_eq_true rfl, Nat.le_of_ble_eq_true rfl⟩ rfl hl.1 rfl (Nat.le_of_ble_eq_true rfl) ⟨Nat.zero_le _, Nat.zero_le _⟩ dX12_layBest_65) cx.2.2.1 hP hD hS [] rfl rfl (fun r63 H locs hw62 hP hS => ?_)
              replace hw62 : (r63.toInt % 2 = 1) ∧ (r63 = J_X12_parts v61) := hw62
              obtain ⟨w64, w65⟩ := hw62
              have k67 : r63 = (J_X12_parts v61) := congrArg (fun z => z) w65
              refine lv_lstore_n (lv' := [(3, .long r63), (2, .int v53), (0, .ref (qm 0)), (1, .int p0)]) hx hb dX12_layBest_68 rfl hl (by decide) rfl (fun ls hl => ?_)
              refine lv_iconst (v := 0) hx hb dX12_layBest_69 (by decide) ?_
              refine lv_istore (lv' := [(5, .int 0), (3, .long r63), (2, .int v53), (0, .ref (qm 0)), (1, .int p0)]) hx hb dX12_layBest_70 hl (by decide) rfl (fun ls hl => ?_)
              have hL72 : ∀ (n83 : Nat) (v80 : Int32) (g81 : Nat → Int64) (g82 : Nat → Int32) (H : Heap) (locs : List Loc) (ls : Array Slot), 500 - v80.toInt < (n83 : Int) → (0 ≤ v80.toInt ∧ v80.toInt ≤ 500) → va_P D vwCl [cell22_ qm sm tm, cell5_ k qm sm, cell13_ k qm sm, cell8_ k qm sm, cell6_ k qm sm, cell15_ k qm sm, cell14_ k qm tm, cell12_ k qm tm, cell18_ k qm tm, cell17_ k qm tm, (qm 10, .inl (k 1, 1500, .inr (.inl g54))), (qm 11, .inl (k 1, 1500, .inr (.inl g81))), (qm 12, .inl (k 0, 1500, .inl g82)), cell16_ k qm sm, cell11_ k qm sm, cell10_ k qm sm, cell9_ k qm sm, cell7_ k qm sm] H → va_D A [cell22_ qm sm tm, cell5_ k qm sm, cell13_ k qm sm, cell8_ k qm sm, cell6_ k qm sm, cell15_ k qm sm, cell14_ k qm tm, cell12_ k qm tm, cell18_ k qm tm, cell17_ k qm tm, (qm 10, .inl (k 1, 1500, .inr (.inl g54))), (qm 11, .inl (k 1, 1500, .inr (.inl g81))), (qm 12, .inl (k 0, 1500, .inl g82)), cell16_ k qm sm, cell11_ k qm sm, cell10_ k qm sm, cell9_ k qm sm, cell7_ k qm sm] → va_S A s.heap H locs → lv_has ls 6 [(5, .int v80), (3, .long r63), (2, .int v53), (0, .ref (qm 0)), (1, .int p0)] → W p l e ({ frames := 5, cells := 0, slots := 0, locals := 132 } : Room) s m ([.ref (qm 0), .int p0] : List Value).toArray below meth c H locs 0 0 Q (F0 m 72 ls []) := by
                intro n83
                induction n83 with
                | zero => intro v80 g81 g82 H locs ls hmn83 bv80 hP hD hS hl; exact absurd hmn83 (by omega)
                | succ n83 ih72 =>
                  intro v80 g81 g82 H locs ls hmn83 bv80 hP hD hS hl
                  refine lv_iload hx hb dX12_layBest_72 (lv_at hl 0 rfl) ?_
                  refine lv_sipush (v := 500) hx hb dX12_layBest_74 (by decide) ?_
                  refine lv_icmp_ge (tgt := 103) hx hb dX12_layBest_77 (by decide) (fun c84 => ?_) (fun c84 => ?_)
                  · have f84 : 500 ≤ v80.toInt := f_le (by decide) rfl c84
                    refine lv_iconst (v := 0) hx hb dX12_layBest_103 (by decide) ?_
                    refine lv_istore (lv' := [(5, .int 0), (3, .long r63), (2, .int v53), (0, .ref (qm 0)), (1, .int p0)]) hx hb dX12_layBest_104 hl (by decide) rfl (fun ls hl => ?_)
                    have hL106 : ∀ (n92 : Nat) (v90 : Int32) (g91 : Nat → Int64) (H : Heap) (locs : List Loc) (ls : Array Slot), 1500 - v90.toInt < (n92 : Int) → (0 ≤ v90.toInt ∧ v90.toInt ≤ 1500) → va_P D vwCl [cell22_ qm sm tm, cell5_ k qm sm, cell13_ k qm sm, cell8_ k qm sm, cell6_ k qm sm, cell15_ k qm sm, cell14_ k qm tm, cell12_ k qm tm, cell18_ k qm tm, cell17_ k qm tm, (qm 10, .inl (k 1, 1500, .inr (.inl g91))), (qm 11, .inl (k 1, 1500, .inr (.inl g81))), (qm 12, .inl (k 0, 1500, .inl g82)), cell16_ k qm sm, cell11_ k qm sm, cell10_ k qm sm, cell9_ k qm sm, cell7_ k qm sm] H → va_D A [cell22_ qm sm tm, cell5_ k qm sm, cell13_ k qm sm, cell8_ k qm sm, cell6_ k qm sm, cell15_ k qm sm, cell14_ k qm tm, cell12_ k qm tm, cell18_ k qm tm, cell17_ k qm tm, (qm 10, .inl (k 1, 1500, .inr (.inl g91))), (qm 11, .inl (k 1, 1500, .inr (.inl g81))), (qm 12, .inl (k 0, 1500, .inl g82)), cell16_ k qm sm, cell11_ k qm sm, cell10_ k qm sm, cell9_ k qm sm, cell7_ k qm sm] → va_S A s.heap H locs → lv_has ls 6 [(5, .int v90), (2, .int v53), (0, .ref (qm 0)), (1, .int p0)] → W p l e ({ frames := 5, cells := 0, slots := 0, locals := 132 } : Room) s m ([.ref (qm 0), .int p0] : List Value).toArray below meth c H locs 0 0 Q (F0 m 106 ls []) := by
                      intro n92
                      induction n92 with
                      | zero => intro v90 g91 H locs ls hmn92 bv90 hP hD hS hl; exact absurd hmn92 (by omega)
                      | succ n92 ih106 =>
                        intro v90 g91 H locs ls hmn92 bv90 hP hD hS hl
                        refine lv_iload hx hb dX12_layBest_106 (lv_at hl 0 rfl) ?_
                        refine lv_sipush (v := 1500) hx hb dX12_layBest_108 (by decide) ?_
                        refine lv_icmp_ge (tgt := 134) hx hb dX12_layBest_111 (by decide) (fun c93 => ?_) (fun c93 => ?_)
                        · have f93 : 1500 ≤ v90.toInt := f_le (by decide) rfl c93
                          obtain ⟨v94, e94⟩ : ∃ z : Int32, z = v53 + (-1) := ⟨_, rfl⟩
                          refine lv_iinc (v := v94) (lv' := [(2, .int v94), (5, .int v90), (0, .ref (qm 0)), (1, .int p0)]) hx hb dX12_layBest_134 hl (k := 1) rfl (by rw [e94]; rfl) (by decide) rfl (fun ls hl => ?_)
                          have t94 : v94.toInt = v53.toInt + (-1) := by rw [e94]; exact i_add rfl (by decide) (by omega) (by omega)
                          refine lv_goto (tgt := 52) hx hb dX12_layBest_137 (by decide) ?_
                          exact ih52 v94 g91 g81 g82 _ _ _ (by omega) (by first | decide | omega) hP hD hS (lv_sub hl [0, 2, 3] rfl)
                        · have f93 : v90.toInt < 1500 := f_nle (by decide) rfl c93
                          refine lv_aload_n hx hb dX12_layBest_114 rfl (lv_at hl 2 rfl) ?_
                          refine g_get cx hP iw_X12_layBest_X12 0 rfl rfl 18 (by decide) rfl fw_X12_layBest_38 rfl dX12_layBest_115 ?_
                          refine lv_iload hx hb dX12_layBest_118 (lv_at hl 0 rfl) ?_
                          refine lv_aload_n hx hb dX12_layBest_120 rfl (lv_at hl 2 rfl) ?_
                          refine g_get cx hP iw_X12_layBest_X12 0 rfl rfl 19 (by decide) rfl fw_X12_layBest_41 rfl dX12_layBest_121 ?_
                          refine lv_iload hx hb dX12_layBest_124 (lv_at hl 0 rfl) ?_
                          have hn95 : vp_in v90 1500 := f_in (a := v90.toInt) rfl (by omega) (by omega)
                          refine va_lald hx hb cx.2.1 hP 11 1 rfl rfl hn95 dX12_layBest_126 (lv_topl (fun v96 e96 => ?_))
                          have hn97 : vp_in v90 1500 := f_in (a := v90.toInt) rfl (by omega) (by omega)
                          refine va_last hx hb cx.2.1 hP hD hS 10 1 rfl rfl hn97 dX12_layBest_127 (fun H locs hP hD hS => ?_)
                          obtain ⟨g98, eg98⟩ : ∃ g : Nat → Int64, g = vp_updL g91 (v90).toNatClampNeg v96 := ⟨_, rfl⟩
                          rw [← eg98] at hP hD
                          have hP : va_P D vwCl [cell22_ qm sm tm, cell5_ k qm sm, cell13_ k qm sm, cell8_ k qm sm, cell6_ k qm sm, cell15_ k qm sm, cell14_ k qm tm, cell12_ k qm tm, cell18_ k qm tm, cell17_ k qm tm, (qm 10, .inl (k 1, 1500, .inr (.inl g98))), (qm 11, .inl (k 1, 1500, .inr (.inl g81))), (qm 12, .inl (k 0, 1500, .inl g82)), cell16_ k qm sm, cell11_ k qm sm, cell10_ k qm sm, cell9_ k qm sm, cell7_ k qm sm] H := hP
                          have hD : va_D A [cell22_ qm sm tm, cell5_ k qm sm, cell13_ k qm sm, cell8_ k qm sm, cell6_ k qm sm, cell15_ k qm sm, cell14_ k qm tm, cell12_ k qm tm, cell18_ k qm tm, cell17_ k qm tm, (qm 10, .inl (k 1, 1500, .inr (.inl g98))), (qm 11, .inl (k 1, 1500, .inr (.inl g81))), (qm 12, .inl (k 0, 1500, .inl g82)), cell16_ k qm sm, cell11_ k qm sm, cell10_ k qm sm, cell9_ k qm sm, cell7_ k qm sm] := hD
                          obtain ⟨v99, e99⟩ : ∃ z : Int32, z = v90 + 1 := ⟨_, rfl⟩
                          refine lv_iinc (v := v99) (lv' := [(5, .int v99), (2, .int v53), (0, .ref (qm 0)), (1, .int p0)]) hx hb dX12_layBest_128 hl (k := 0) rfl (by rw [e99]; rfl) (by decide) rfl (fun ls hl => ?_)
                          have t99 : v99.toInt = v90.toInt + 1 := by rw [e99]; exact i_add rfl (by decide) (by omega) (by omega)
                          refine lv_goto (tgt := 106) hx hb dX12_layBest_131 (by decide) ?_
                          exact ih106 v99 g98 _ _ _ (by omega) (by first | decide | omega) hP hD hS (lv_sub hl [0, 1, 2, 3] rfl)
                    have hlit100 : (0 : Int32).toInt = 0 := by decide
                    exact hL106 (Int.toNat (1500 - 0) + 1) 0 g54 _ _ _ (by omega) (by first | decide | omega) hP hD hS (lv_sub hl [0, 2, 3, 4] rfl)
                  · have f84 : v80.toInt < 500 := f_nle (by decide) rfl c84
                    refine lv_aload_n hx hb dX12_layBest_80 rfl (lv_at hl 3 rfl) ?_
                    refine lv_iload hx hb dX12_layBest_81 (lv_at hl 0 rfl) ?_
                    refine g_iF (w1 := fun (_ : Unit) => [cell22_ qm sm tm, cell5_ k qm sm, cell13_ k qm sm, cell8_ k qm sm, cell6_ k qm sm, cell15_ k qm sm, cell14_ k qm tm, cell12_ k qm tm, cell18_ k qm tm, cell17_ k qm tm, (qm 10, .inl (k 1, 1500, .inr (.inl g54))), (qm 11, .inl (k 1, 1500, .inr (.inl g81))), (qm 12, .inl (k 0, 1500, .inl g82)), cell16_ k qm sm, cell11_ k qm sm, cell10_ k qm sm, cell9_ k qm sm, cell7_ k qm sm]) (g_runVF (ws := [cell22_ qm sm tm, cell5_ k qm sm, cell13_ k qm sm, cell8_ k qm sm, cell6_ k qm sm, cell15_ k qm sm, cell14_ k qm tm, cell12_ k qm tm, cell18_ k qm tm, cell17_ k qm tm, (qm 10, .inl (k 1, 1500, .inr (.inl g54))), (qm 11, .inl (k 1, 1500, .inr (.inl g81))), (qm 12, .inl (k 0, 1500, .inl g82)), cell16_ k qm sm, cell11_ k qm sm, cell10_ k qm sm, cell9_ k qm sm, cell7_ k qm sm]) (rest := []) cx hP hD hS [.int v80] (c_X12_isHands l D k b qm (up2 sm 12 g82) (up2L (up2L tm 10 g54) 11 g81) H.size v80 (show 0 ≤ ((sm 2) 1).toInt ∧ ((sm 2) 1).toInt ≤ 4 from by first | decide | omega)) gX12_layBest_X12_isHands rfl rfl rfl nd_X12_isHands ⟨Nat.le_of_ble_eq_true rfl, Nat.le_of_ble_eq_true rfl⟩ (ci := 10) (q0 := 0) rfl rfl rfl hl.1 rfl (Nat.le_of_ble_eq_true rfl) ⟨Nat.zero_le _, Nat.zero_le _⟩ dX12_layBest_83) cx.2.2.1 hD hS (fun r102 _ H locs hw101 hP hD hS => ?_)
                    replace hw101 : (0 ≤ r102.toInt ∧ r102.toInt ≤ 1) ∧ (Imp (r102.toInt = 1) (0 ≤ v80.toInt ∧ v80.toInt ≤ 400)) ∧ (r102 = J_X12_isHands (up2 sm 12 g82) (up2L (up2L tm 10 g54) 11 g81) v80) := hw101
                    obtain ⟨w103, w104, w105⟩ := hw101
                    have k107 : r102 = (J_X12_isHands (up2 sm 12 g82) (up2L (up2L tm 10 g54) 11 g81) v80) := congrArg (fun z => z) w105
                    have zr102 : 0 ≤ r102.toInt ∧ r102.toInt ≤ 1 := w103
                    have hJ97 : ∀ (g112 : Nat → Int64) (g113 : Nat → Int32) (H : Heap) (locs : List Loc) (ls : Array Slot), va_P D vwCl [cell22_ qm sm tm, cell5_ k qm sm, cell13_ k qm sm, cell8_ k qm sm, cell6_ k qm sm, cell15_ k qm sm, cell14_ k qm tm, cell12_ k qm tm, cell18_ k qm tm, cell17_ k qm tm, (qm 10, .inl (k 1, 1500, .inr (.inl g54))), (qm 11, .inl (k 1, 1500, .inr (.inl g112))), (qm 12, .inl (k 0, 1500, .inl g113)), cell16_ k qm sm, cell11_ k qm sm, cell10_ k qm sm, cell9_ k qm sm, cell7_ k qm sm] H → va_D A [cell22_ qm sm tm, cell5_ k qm sm, cell13_ k qm sm, cell8_ k qm sm, cell6_ k qm sm, cell15_ k qm sm, cell14_ k qm tm, cell12_ k qm tm, cell18_ k qm tm, cell17_ k qm tm, (qm 10, .inl (k 1, 1500, .inr (.inl g54))), (qm 11, .inl (k 1, 1500, .inr (.inl g112))), (qm 12, .inl (k 0, 1500, .inl g113)), cell16_ k qm sm, cell11_ k qm sm, cell10_ k qm sm, cell9_ k qm sm, cell7_ k qm sm] → va_S A s.heap H locs → lv_has ls 6 [(5, .int v80), (3, .long r63), (2, .int v53), (0, .ref (qm 0)), (1, .int p0)] → W p l e ({ frames := 5, cells := 0, slots := 0, locals := 132 } : Room) s m ([.ref (qm 0), .int p0] : List Value).toArray below meth c H locs 0 0 Q (F0 m 97 ls []) := by
                      intro g112 g113 H locs ls  hP hD hS hl
                      obtain ⟨v114, e114⟩ : ∃ z : Int32, z = v80 + 1 := ⟨_, rfl⟩
                      refine lv_iinc (v := v114) (lv' := [(5, .int v114), (3, .long r63), (2, .int v53), (0, .ref (qm 0)), (1, .int p0)]) hx hb dX12_layBest_97 hl (k := 0) rfl (by rw [e114]; rfl) (by decide) rfl (fun ls hl => ?_)
                      have t114 : v114.toInt = v80.toInt + 1 := by rw [e114]; exact i_add rfl (by decide) (by omega) (by omega)
                      refine lv_goto (tgt := 72) hx hb dX12_layBest_100 (by decide) ?_
                      exact ih72 v114 g112 g113 _ _ _ (by omega) (by first | decide | omega) hP hD hS (lv_sub hl [0, 1, 2, 3, 4] rfl)
                    refine lv_if_eq (tgt := 97) hx hb dX12_layBest_86 (by decide) (fun c115 => ?_) (fun c115 => ?_)
                    · have f115 : r102.toInt = 0 := f_eq rfl (by decide) c115
                      exact hJ97 g81 g82 _ _ _  hP hD hS (lv_sub hl [0, 1, 2, 3, 4] rfl)
                    · have f115 : ¬ r102.toInt = 0 := f_ne rfl (by decide) c115
                      have k115 : (0 ≤ v80.toInt ∧ v80.toInt ≤ 400) := w104 (by omega)
                      refine lv_aload_n hx hb dX12_layBest_89 rfl (lv_at hl 3 rfl) ?_
                      refine lv_iload_n hx hb dX12_layBest_90 rfl (lv_at hl 2 rfl) ?_
                      refine lv_iload hx hb dX12_layBest_91 (lv_at hl 0 rfl) ?_
                      refine lv_lload_n hx hb dX12_layBest_93 rfl (lv_at hl 1 rfl) ?_
                      refine g_vF (w1 := fun (u : (Nat → Int64) × (Nat → Int32)) => [cell22_ qm sm tm, cell5_ k qm sm, cell13_ k qm sm, cell8_ k qm sm, cell6_ k qm sm, cell15_ k qm sm, cell14_ k qm tm, cell12_ k qm tm, cell18_ k qm tm, cell17_ k qm tm, (qm 10, .inl (k 1, 1500, .inr (.inl g54))), cell122_ k qm (u.1), cell123_ k qm (u.2), cell16_ k qm sm, cell11_ k qm sm, cell10_ k qm sm, cell9_ k qm sm, cell7_ k qm sm]) (g_runVF (ws := [cell22_ qm sm tm, cell5_ k qm sm, cell13_ k qm sm, cell8_ k qm sm, cell6_ k qm sm, cell15_ k qm sm, cell14_ k qm tm, cell12_ k qm tm, cell18_ k qm tm, cell17_ k qm tm, (qm 10, .inl (k 1, 1500, .inr (.inl g54))), (qm 11, .inl (k 1, 1500, .inr (.inl g81))), (qm 12, .inl (k 0, 1500, .inl g82)), cell16_ k qm sm, cell11_ k qm sm, cell10_ k qm sm, cell9_ k qm sm, cell7_ k qm sm]) (rest := []) cx hP hD hS [.int v53, .int v80, .long r63] (c_X12_layBestOf l D k b qm (up2 sm 12 g82) (up2L (up2L tm 10 g54) 11 g81) H.size v53 v80 r63 (show 0 ≤ ((sm 2) 0).toInt ∧ ((sm 2) 0).toInt ≤ 5 from by first | decide | omega) (show 0 ≤ ((sm 2) 1).toInt ∧ ((sm 2) 1).toInt ≤ 4 from by first | decide | omega) (show 0 ≤ v53.toInt ∧ v53.toInt ≤ 4 from by first | decide | omega) (show 0 ≤ v80.toInt ∧ v80.toInt ≤ 400 from by first | decide | omega)) gX12_layBest_X12_layBestOf rfl rfl rfl nd_X12_layBestOf ⟨Nat.le_of_ble_eq_true rfl, Nat.le_of_ble_eq_true rfl⟩ (ci := 10) (q0 := 0) rfl rfl rfl hl.1 rfl (Nat.le_of_ble_eq_true rfl) ⟨Nat.zero_le _, Nat.zero_le _⟩ dX12_layBest_94) cx.2.2.1 hD hS (fun u117 H locs hw116 hP hD hS => ?_)
                      obtain ⟨m118, m119⟩ := u117
                      have hP : va_P D vwCl [cell22_ qm sm tm, cell5_ k qm sm, cell13_ k qm sm, cell8_ k qm sm, cell6_ k qm sm, cell15_ k qm sm, cell14_ k qm tm, cell12_ k qm tm, cell18_ k qm tm, cell17_ k qm tm, (qm 10, .inl (k 1, 1500, .inr (.inl g54))), (qm 11, .inl (k 1, 1500, .inr (.inl m118))), (qm 12, .inl (k 0, 1500, .inl m119)), cell16_ k qm sm, cell11_ k qm sm, cell10_ k qm sm, cell9_ k qm sm, cell7_ k qm sm] H := hP
                      have hD : va_D A [cell22_ qm sm tm, cell5_ k qm sm, cell13_ k qm sm, cell8_ k qm sm, cell6_ k qm sm, cell15_ k qm sm, cell14_ k qm tm, cell12_ k qm tm, cell18_ k qm tm, cell17_ k qm tm, (qm 10, .inl (k 1, 1500, .inr (.inl g54))), (qm 11, .inl (k 1, 1500, .inr (.inl m118))), (qm 12, .inl (k 0, 1500, .inl m119)), cell16_ k qm sm, cell11_ k qm sm, cell10_ k qm sm, cell9_ k qm sm, cell7_ k qm sm] := hD
                      exact hJ97 m118 m119 _ _ _  hP hD hS (lv_sub hl [0, 1, 2, 3, 4] rfl)
              have hlit120 : (0 : Int32).toInt = 0 := by decide
              exact hL72 (Int.toNat (500 - 0) + 1) 0 g55 g56 _ _ _ (by omega) (by first | decide | omega) hP hD hS (lv_sub hl [0, 1, 2, 3, 4] rfl)
        exact hL52 (Int.toNat (v25.toInt + 1) + 1) v25 g20 (tm 11) (sm 12) _ _ _ (by omega) (by first | decide | omega) hP hD hS (lv_sub hl [0, 1, 2] rfl)
      · have f22 : v19.toInt < 1500 := f_nle (by decide) rfl c22
        refine lv_aload_n hx hb dX12_layBest_9 rfl (lv_at hl 1 rfl) ?_
        refine g_get cx hP iw_X12_layBest_X12 0 rfl rfl 18 (by decide) rfl fw_X12_layBest_38 rfl dX12_layBest_10 ?_
        refine lv_iload_n hx hb dX12_layBest_13 rfl (lv_at hl 0 rfl) ?_
        refine lv_aload_n hx hb dX12_layBest_14 rfl (lv_at hl 1 rfl) ?_
        refine lv_iload_n hx hb dX12_layBest_15 rfl (lv_at hl 0 rfl) ?_
        refine lv_iconst (v := 3) hx hb dX12_layBest_16 (by decide) ?_
        refine lv_idiv hx hb dX12_layBest_17 (by decide) (lv_topi (fun v121 e121 => ?_))
        have t121 : v121.toInt = v19.toInt / 3 := by rw [e121]; exact i_div rfl (by decide) (by omega) (by omega) (by omega)
        refine g_iF (w1 := fun (_ : Unit) => [cell22_ qm sm tm, cell5_ k qm sm, cell13_ k qm sm, cell8_ k qm sm, cell6_ k qm sm, cell15_ k qm sm, cell14_ k qm tm, cell12_ k qm tm, cell18_ k qm tm, cell17_ k qm tm, (qm 10, .inl (k 1, 1500, .inr (.inl g20))), cell21_ k qm tm, cell20_ k qm sm, cell16_ k qm sm, cell11_ k qm sm, cell10_ k qm sm, cell9_ k qm sm, cell7_ k qm sm]) (g_runVF (ws := [cell22_ qm sm tm, cell5_ k qm sm, cell13_ k qm sm, cell8_ k qm sm, cell6_ k qm sm, cell15_ k qm sm, cell14_ k qm tm, cell12_ k qm tm, cell18_ k qm tm, cell17_ k qm tm, (qm 10, .inl (k 1, 1500, .inr (.inl g20))), cell21_ k qm tm, cell20_ k qm sm, cell16_ k qm sm, cell11_ k qm sm, cell10_ k qm sm, cell9_ k qm sm, cell7_ k qm sm]) (rest := [.int v19, .ref (qm 10)]) cx hP hD hS [.int v121] (c_X12_isHands l D k b qm sm (up2L tm 10 g20) H.size v121 (show 0 ≤ ((sm 2) 1).toInt ∧ ((sm 2) 1).toInt ≤ 4 from by first | decide | omega)) gX12_layBest_X12_isHands rfl rfl rfl nd_X12_isHands ⟨Nat.le_of_ble_eq_true rfl, Nat.le_of_ble_eq_true rfl⟩ (ci := 10) (q0 := 0) rfl rfl rfl hl.1 rfl (Nat.le_of_ble_eq_true rfl) ⟨Nat.zero_le _, Nat.zero_le _⟩ dX12_layBest_18) cx.2.2.1 hD hS (fun r123 _ H locs hw122 hP hD hS => ?_)
        replace hw122 : (0 ≤ r123.toInt ∧ r123.toInt ≤ 1) ∧ (Imp (r123.toInt = 1) (0 ≤ v121.toInt ∧ v121.toInt ≤ 400)) ∧ (r123 = J_X12_isHands sm (up2L tm 10 g20) v121) := hw122
        obtain ⟨w124, w125, w126⟩ := hw122
        have k128 : r123 = (J_X12_isHands sm (up2L tm 10 g20) v121) := congrArg (fun z => z) w126
        have zr123 : 0 ≤ r123.toInt ∧ r123.toInt ≤ 1 := w124
        have hJ36 : ∀ (v136 : Int64) (H : Heap) (locs : List Loc) (ls : Array Slot), va_P D vwCl [cell22_ qm sm tm, cell5_ k qm sm, cell13_ k qm sm, cell8_ k qm sm, cell6_ k qm sm, cell15_ k qm sm, cell14_ k qm tm, cell12_ k qm tm, cell18_ k qm tm, cell17_ k qm tm, (qm 10, .inl (k 1, 1500, .inr (.inl g20))), cell21_ k qm tm, cell20_ k qm sm, cell16_ k qm sm, cell11_ k qm sm, cell10_ k qm sm, cell9_ k qm sm, cell7_ k qm sm] H → va_D A [cell22_ qm sm tm, cell5_ k qm sm, cell13_ k qm sm, cell8_ k qm sm, cell6_ k qm sm, cell15_ k qm sm, cell14_ k qm tm, cell12_ k qm tm, cell18_ k qm tm, cell17_ k qm tm, (qm 10, .inl (k 1, 1500, .inr (.inl g20))), cell21_ k qm tm, cell20_ k qm sm, cell16_ k qm sm, cell11_ k qm sm, cell10_ k qm sm, cell9_ k qm sm, cell7_ k qm sm] → va_S A s.heap H locs → lv_has ls 6 [(2, .int v19), (0, .ref (qm 0)), (1, .int p0)] → W p l e ({ frames := 5, cells := 0, slots := 0, locals := 132 } : Room) s m ([.ref (qm 0), .int p0] : List Value).toArray below meth c H locs 0 0 Q (F0 m 36 ls [.long v136, .int v19, .ref (qm 10)]) := by
          intro v136 H locs ls  hP hD hS hl
          have hn137 : vp_in v19 1500 := f_in (a := v19.toInt) rfl (by omega) (by omega)
          refine va_last hx hb cx.2.1 hP hD hS 10 1 rfl rfl hn137 dX12_layBest_36 (fun H locs hP hD hS => ?_)
          obtain ⟨g138, eg138⟩ : ∃ g : Nat → Int64, g = vp_updL g20 (v19).toNatClampNeg v136 := ⟨_, rfl⟩
          rw [← eg138] at hP hD
          have hP : va_P D vwCl [cell22_ qm sm tm, cell5_ k qm sm, cell13_ k qm sm, cell8_ k qm sm, cell6_ k qm sm, cell15_ k qm sm, cell14_ k qm tm, cell12_ k qm tm, cell18_ k qm tm, cell17_ k qm tm, (qm 10, .inl (k 1, 1500, .inr (.inl g138))), cell21_ k qm tm, cell20_ k qm sm, cell16_ k qm sm, cell11_ k qm sm, cell10_ k qm sm, cell9_ k qm sm, cell7_ k qm sm] H := hP
          have hD : va_D A [cell22_ qm sm tm, cell5_ k qm sm, cell13_ k qm sm, cell8_ k qm sm, cell6_ k qm sm, cell15_ k qm sm, cell14_ k qm tm, cell12_ k qm tm, cell18_ k qm tm, cell17_ k qm tm, (qm 10, .inl (k 1, 1500, .inr (.inl g138))), cell21_ k qm tm, cell20_ k qm sm, cell16_ k qm sm, cell11_ k qm sm, cell10_ k qm sm, cell9_ k qm sm, cell7_ k qm sm] := hD
          obtain ⟨v139, e139⟩ : ∃ z : Int32, z = v19 + 1 := ⟨_, rfl⟩
          refine lv_iinc (v := v139) (lv' := [(2, .int v139), (0, .ref (qm 0)), (1, .int p0)]) hx hb dX12_layBest_37 hl (k := 0) rfl (by rw [e139]; rfl) (by decide) rfl (fun ls hl => ?_)
          have t139 : v139.toInt = v19.toInt + 1 := by rw [e139]; exact i_add rfl (by decide) (by omega) (by omega)
          refine lv_goto (tgt := 2) hx hb dX12_layBest_40 (by decide) ?_
          exact ih2 v139 g138 _ _ _ (by omega) (by first | decide | omega) hP hD hS (lv_sub hl [0, 1, 2] rfl)
        refine lv_if_eq (tgt := 35) hx hb dX12_layBest_21 (by decide) (fun c140 => ?_) (fun c140 => ?_)
        · have f140 : r123.toInt = 0 := f_eq rfl (by decide) c140
          refine lv_lconst (v := 0) hx hb dX12_layBest_35 (by decide) ?_
          have hlit141 : (0 : Int32).toInt = 0 := by decide
          exact hJ36 0 _ _ _  hP hD hS (lv_sub hl [0, 1, 2] rfl)
        · have f140 : ¬ r123.toInt = 0 := f_ne rfl (by decide) c140
          have k140 : (0 ≤ v121.toInt ∧ v121.toInt ≤ 400) := w125 (by omega)
          refine lv_aload_n hx hb dX12_layBest_24 rfl (lv_at hl 1 rfl) ?_
          refine lv_iload_n hx hb dX12_layBest_25 rfl (lv_at hl 0 rfl) ?_
          refine lv_iconst (v := 3) hx hb dX12_layBest_26 (by decide) ?_
          refine lv_idiv hx hb dX12_layBest_27 (by decide) (lv_topi (fun v142 e142 => ?_))
          have t142 : v142.toInt = v19.toInt / 3 := by rw [e142]; exact i_div rfl (by decide) (by omega) (by omega) (by omega)
          refine g_iF (w1 := fun (_ : Unit) => [cell22_ qm sm tm, cell5_ k qm sm, cell13_ k qm sm, cell8_ k qm sm, cell6_ k qm sm, cell15_ k qm sm, cell14_ k qm tm, cell12_ k qm tm, cell18_ k qm tm, cell17_ k qm tm, (qm 10, .inl (k 1, 1500, .inr (.inl g20))), cell21_ k qm tm, cell20_ k qm sm, cell16_ k qm sm, cell11_ k qm sm, cell10_ k qm sm, cell9_ k qm sm, cell7_ k qm sm]) (g_runVF (ws := [cell22_ qm sm tm, cell5_ k qm sm, cell13_ k qm sm, cell8_ k qm sm, cell6_ k qm sm, cell15_ k qm sm, cell14_ k qm tm, cell12_ k qm tm, cell18_ k qm tm, cell17_ k qm tm, (qm 10, .inl (k 1, 1500, .inr (.inl g20))), cell21_ k qm tm, cell20_ k qm sm, cell16_ k qm sm, cell11_ k qm sm, cell10_ k qm sm, cell9_ k qm sm, cell7_ k qm sm]) (rest := [.int v19, .ref (qm 10)]) cx hP hD hS [.int v142] (c_X12_bonus l D k b qm sm (up2L tm 10 g20) H.size v142) gX12_layBest_X12_bonus rfl rfl rfl nd_X12_bonus ⟨Nat.le_of_ble_eq_true rfl, Nat.le_of_ble_eq_true rfl⟩ (ci := 10) (q0 := 0) rfl rfl rfl hl.1 rfl (Nat.le_of_ble_eq_true rfl) ⟨Nat.zero_le _, Nat.zero_le _⟩ dX12_layBest_28) cx.2.2.1 hD hS (fun r144 _ H locs hw143 hP hD hS => ?_)
          have w145 : r144 = J_X12_bonus sm (up2L tm 10 g20) v142 := hw143
          clear hw143
          have k147 : r144 = (J_X12_bonus sm (up2L tm 10 g20) v142) := congrArg (fun z => z) w145
          obtain ⟨v148, e148⟩ : ∃ z : Int64, z = (r144 : Int32).toInt64 := ⟨_, rfl⟩
          refine lv_i2l (v := v148) hx hb dX12_layBest_31 e148.symm ?_
          refine lv_goto (tgt := 36) hx hb dX12_layBest_32 (by decide) ?_
          exact hJ36 v148 _ _ _  hP hD hS (lv_sub hl [0, 1, 2] rfl)
  have hlit149 : (0 : Int32).toInt = 0 := by decide
  exact hL2 (Int.toNat (1500 - 0) + 1) 0 (tm 10) _ _ _ (by omega) (by first | decide | omega) hP hD hS (lv_sub hl [0, 1, 2] rfl)
theorem fw_X12_best_13 : Cond.fieldLink RX12 13 "StillInAugustModel" "house" "[I" ∈ wsX12_best := by decide +kernel
theorem fw_X12_best_38 : Cond.fieldLink RX12 38 "StillInAugustModel" "bests" "[J" ∈ wsX12_best := by decide +kernel
theorem kJ_X12_best_206 : Cond.constantLong RX12 206 (-2) ∈ wsX12_best := by decide +kernel
theorem kJ_X12_best_221 : Cond.constantLong RX12 221 (-1) ∈ wsX12_best := by decide +kernel
theorem nd_X12_layBest : yX12_layBest.cls = RX12 ∧ yX12_layBest.cls ≠ "java/lang/invoke/MethodHandle" ∧ yX12_layBest.cls ≠ "java/lang/invoke/VarHandle" ∧ (parseMethodDescriptor yX12_layBest.desc).map (fun d => d.parameters.length) = some 1 := by decide +kernel
theorem iw_X12_best_X12 : ∀ w ∈ u_ws RX12 TX12 33, w ∈ wsX12_best := fun _ h => List.mem_cons_of_mem _ (List.mem_append_right _ h)
set_option maxHeartbeats 4000000 in
set_option maxRecDepth 100000 in
theorem c_X12_best (l : Launch) (D : va_G) (k : Nat → ClassId) (b : Nat → Nat) (qm : Nat → Nat) (sm : Nat → Nat → Int32) (tm : Nat → Nat → Int64) (sz : Nat) (p0 : Int32) (p1 : Int32) (p2 : Int32) (p3 : Int32) (h_w0 : 0 ≤ (sm 2 0).toInt ∧ (sm 2 0).toInt ≤ 5) (h_k1 : 0 ≤ (sm 2 1).toInt ∧ (sm 2 1).toInt ≤ 4) : MetL l D k b yX12_best wsX12_best ({ frames := 6, cells := 0, slots := 0, locals := 157 } : Room) [cell22_ qm sm tm, cell5_ k qm sm, cell13_ k qm sm, cell8_ k qm sm, cell6_ k qm sm, cell15_ k qm sm, cell14_ k qm tm, cell12_ k qm tm, cell18_ k qm tm, cell17_ k qm tm, cell19_ k qm tm, cell21_ k qm tm, cell20_ k qm sm, cell16_ k qm sm, cell11_ k qm sm, cell10_ k qm sm, cell9_ k qm sm, cell7_ k qm sm] sz [.ref (qm 0), .int p0, .int p1, .int p2, .int p3] (fun (r : Int64) (u : (Nat → Int64) × (Nat → Int64) × (Nat → Int32)) => True) (fun u => [cell22_ qm sm tm, cell5_ k qm sm, cell13_ k qm sm, cell8_ k qm sm, cell6_ k qm sm, cell15_ k qm sm, cell14_ k qm tm, cell12_ k qm tm, cell18_ k qm tm, cell17_ k qm tm, cell130_ k qm (u.1), cell122_ k qm (u.2.1), cell123_ k qm (u.2.2), cell16_ k qm sm, cell11_ k qm sm, cell10_ k qm sm, cell9_ k qm sm, cell7_ k qm sm]) := by
  refine g_enter (cc := cX12_best) (maxL := 5) (ret := (some .long)) (by decide) rfl (Nat.le_of_ble_eq_true rfl) ?_
  intro p e s m below meth c A hsz hAe cx hr hP hD hS ls hl
  rw [hAe]
  refine g_q (fun Q hQ => ?_)
  have hx := cx.1.1
  have hb := cx.1.2.1
  have bp0 := i_rng p0
  have bp1 := i_rng p1
  have bp2 := i_rng p2
  have bp3 := i_rng p3
  have hl : lv_has ls 5 [(0, .ref (qm 0)), (1, .int p0), (2, .int p1), (3, .int p2), (4, .int p3)] := hl
  obtain ⟨H, eH⟩ : ∃ H : Heap, H = s.heap := ⟨_, rfl⟩
  obtain ⟨locs, el⟩ : ∃ L : List Loc, L = [] := ⟨_, rfl⟩
  have hP : va_P D vwCl [cell22_ qm sm tm, cell5_ k qm sm, cell13_ k qm sm, cell8_ k qm sm, cell6_ k qm sm, cell15_ k qm sm, cell14_ k qm tm, cell12_ k qm tm, cell18_ k qm tm, cell17_ k qm tm, cell19_ k qm tm, cell21_ k qm tm, cell20_ k qm sm, cell16_ k qm sm, cell11_ k qm sm, cell10_ k qm sm, cell9_ k qm sm, cell7_ k qm sm] H := by rw [eH]; exact hP
  have hD : va_D A [cell22_ qm sm tm, cell5_ k qm sm, cell13_ k qm sm, cell8_ k qm sm, cell6_ k qm sm, cell15_ k qm sm, cell14_ k qm tm, cell12_ k qm tm, cell18_ k qm tm, cell17_ k qm tm, cell19_ k qm tm, cell21_ k qm tm, cell20_ k qm sm, cell16_ k qm sm, cell11_ k qm sm, cell10_ k qm sm, cell9_ k qm sm, cell7_ k qm sm] := hD
  have hS : va_S A s.heap H locs := by rw [eH, el]; exact hS
  suffices goal : W p l e ({ frames := 6, cells := 0, slots := 0, locals := 157 } : Room) s m ([.ref (qm 0), .int p0, .int p1, .int p2, .int p3] : List Value).toArray below meth c H locs 0 0 Q (F0 m 0 ls []) by rw [eH, el] at goal; exact goal
  refine lv_aload_n hx hb dX12_best_0 rfl (lv_at hl 0 rfl) ?_
  refine lv_iload_n hx hb dX12_best_1 rfl (lv_at hl 1 rfl) ?_
  refine g_iF (w1 := fun (_ : Unit) => [cell22_ qm sm tm, cell5_ k qm sm, cell13_ k qm sm, cell8_ k qm sm, cell6_ k qm sm, cell15_ k qm sm, cell14_ k qm tm, cell12_ k qm tm, cell18_ k qm tm, cell17_ k qm tm, cell19_ k qm tm, cell21_ k qm tm, cell20_ k qm sm, cell16_ k qm sm, cell11_ k qm sm, cell10_ k qm sm, cell9_ k qm sm, cell7_ k qm sm]) (g_runVF (ws := [cell22_ qm sm tm, cell5_ k qm sm, cell13_ k qm sm, cell8_ k qm sm, cell6_ k qm sm, cell15_ k qm sm, cell14_ k qm tm, cell12_ k qm tm, cell18_ k qm tm, cell17_ k qm tm, cell19_ k qm tm, cell21_ k qm tm, cell20_ k qm sm, cell16_ k qm sm, cell11_ k qm sm, cell10_ k qm sm, cell9_ k qm sm, cell7_ k qm sm]) (rest := []) cx hP hD hS [.int p0] (c_X12_isWeek l D k b qm sm tm H.size p0 (show 0 ≤ ((sm 2) 0).toInt ∧ ((sm 2) 0).toInt ≤ 5 from by first | decide | omega)) gX12_best_X12_isWeek rfl rfl rfl nd_X12_isWeek ⟨Nat.le_of_ble_eq_true rfl, Nat.le_of_ble_eq_true rfl⟩ (ci := 10) (q0 := 0) rfl rfl rfl hl.1 rfl (Nat.le_of_ble_eq_true rfl) ⟨Nat.zero_le _, Nat.zero_le _⟩ dX12_best_2) cx.2.2.1 hD hS (fun r2 _ H locs hw1 hP hD hS => ?_)
  replace hw1 : (0 ≤ r2.toInt ∧ r2.toInt ≤ 1) ∧ (Imp (r2.toInt = 1) (0 ≤ p0.toInt ∧ p0.toInt ≤ 4)) ∧ (r2 = J_X12_isWeek sm tm p0) := hw1
  obtain ⟨w3, w4, w5⟩ := hw1
  have k7 : r2 = (J_X12_isWeek sm tm p0) := congrArg (fun z => z) w5
  have zr2 : 0 ≤ r2.toInt ∧ r2.toInt ≤ 1 := w3
  refine lv_if_ne (tgt := 12) hx hb dX12_best_5 (by decide) (fun c8 => ?_) (fun c8 => ?_)
  · have f8 : ¬ r2.toInt = 0 := f_ne rfl (by decide) c8
    have k8 : (0 ≤ p0.toInt ∧ p0.toInt ≤ 4) := w4 (by omega)
    refine lv_aload_n hx hb dX12_best_12 rfl (lv_at hl 0 rfl) ?_
    refine lv_iload_n hx hb dX12_best_13 rfl (lv_at hl 2 rfl) ?_
    refine g_iF (w1 := fun (_ : Unit) => [cell22_ qm sm tm, cell5_ k qm sm, cell13_ k qm sm, cell8_ k qm sm, cell6_ k qm sm, cell15_ k qm sm, cell14_ k qm tm, cell12_ k qm tm, cell18_ k qm tm, cell17_ k qm tm, cell19_ k qm tm, cell21_ k qm tm, cell20_ k qm sm, cell16_ k qm sm, cell11_ k qm sm, cell10_ k qm sm, cell9_ k qm sm, cell7_ k qm sm]) (g_runVF (ws := [cell22_ qm sm tm, cell5_ k qm sm, cell13_ k qm sm, cell8_ k qm sm, cell6_ k qm sm, cell15_ k qm sm, cell14_ k qm tm, cell12_ k qm tm, cell18_ k qm tm, cell17_ k qm tm, cell19_ k qm tm, cell21_ k qm tm, cell20_ k qm sm, cell16_ k qm sm, cell11_ k qm sm, cell10_ k qm sm, cell9_ k qm sm, cell7_ k qm sm]) (rest := []) cx hP hD hS [.int p1] (c_X12_isHands l D k b qm sm tm H.size p1 (show 0 ≤ ((sm 2) 1).toInt ∧ ((sm 2) 1).toInt ≤ 4 from by first | decide | omega)) gX12_best_X12_isHands rfl rfl rfl nd_X12_isHands ⟨Nat.le_of_ble_eq_true rfl, Nat.le_of_ble_eq_true rfl⟩ (ci := 10) (q0 := 0) rfl rfl rfl hl.1 rfl (Nat.le_of_ble_eq_true rfl) ⟨Nat.zero_le _, Nat.zero_le _⟩ dX12_best_14) cx.2.2.1 hD hS (fun r10 _ H locs hw9 hP hD hS => ?_)
    replace hw9 : (0 ≤ r10.toInt ∧ r10.toInt ≤ 1) ∧ (Imp (r10.toInt = 1) (0 ≤ p1.toInt ∧ p1.toInt ≤ 400)) ∧ (r10 = J_X12_isHands sm tm p1) := hw9
    obtain ⟨w11, w12, w13⟩ := hw9
    have k15 : r10 = (J_X12_isHands sm tm p1) := congrArg (fun z => z) w13
    have zr10 : 0 ≤ r10.toInt ∧ r10.toInt ≤ 1 := w11
    refine lv_if_eq (tgt := 28) hx hb dX12_best_17 (by decide) (fun c16 => ?_) (fun c16 => ?_)
    · have f16 : r10.toInt = 0 := f_eq rfl (by decide) c16
      refine lv_ldc2 (v := (-2)) hx hb cx.1.2.2.2.1 (cx.1.2.2.2.2 _ kJ_X12_best_206) dX12_best_28 ?_
      rw [hQ]
      exact x_l cx hr ((tm 10), (tm 11), (sm 12)) hP hD hS trivial dX12_best_31
    · have f16 : ¬ r10.toInt = 0 := f_ne rfl (by decide) c16
      have k16 : (0 ≤ p1.toInt ∧ p1.toInt ≤ 400) := w12 (by omega)
      refine lv_aload_n hx hb dX12_best_20 rfl (lv_at hl 0 rfl) ?_
      refine lv_iload_n hx hb dX12_best_21 rfl (lv_at hl 3 rfl) ?_
      refine g_iF (w1 := fun (_ : Unit) => [cell22_ qm sm tm, cell5_ k qm sm, cell13_ k qm sm, cell8_ k qm sm, cell6_ k qm sm, cell15_ k qm sm, cell14_ k qm tm, cell12_ k qm tm, cell18_ k qm tm, cell17_ k qm tm, cell19_ k qm tm, cell21_ k qm tm, cell20_ k qm sm, cell16_ k qm sm, cell11_ k qm sm, cell10_ k qm sm, cell9_ k qm sm, cell7_ k qm sm]) (g_runVF (ws := [cell22_ qm sm tm, cell5_ k qm sm, cell13_ k qm sm, cell8_ k qm sm, cell6_ k qm sm, cell15_ k qm sm, cell14_ k qm tm, cell12_ k qm tm, cell18_ k qm tm, cell17_ k qm tm, cell19_ k qm tm, cell21_ k qm tm, cell20_ k qm sm, cell16_ k qm sm, cell11_ k qm sm, cell10_ k qm sm, cell9_ k qm sm, cell7_ k qm sm]) (rest := []) cx hP hD hS [.int p2] (c_X12_isComing l D k b qm sm tm H.size p2) gX12_best_X12_isComing rfl rfl rfl nd_X12_isComing ⟨Nat.le_of_ble_eq_true rfl, Nat.le_of_ble_eq_true rfl⟩ (ci := 10) (q0 := 0) rfl rfl rfl hl.1 rfl (Nat.le_of_ble_eq_true rfl) ⟨Nat.zero_le _, Nat.zero_le _⟩ dX12_best_22) cx.2.2.1 hD hS (fun r18 _ H locs hw17 hP hD hS => ?_)
      replace hw17 : (0 ≤ r18.toInt ∧ r18.toInt ≤ 1) ∧ (Imp (r18.toInt = 1) (0 ≤ p2.toInt ∧ p2.toInt ≤ 2)) ∧ (r18 = J_X12_isComing sm tm p2) := hw17
      obtain ⟨w19, w20, w21⟩ := hw17
      have k23 : r18 = (J_X12_isComing sm tm p2) := congrArg (fun z => z) w21
      have zr18 : 0 ≤ r18.toInt ∧ r18.toInt ≤ 1 := w19
      refine lv_if_ne (tgt := 32) hx hb dX12_best_25 (by decide) (fun c24 => ?_) (fun c24 => ?_)
      · have f24 : ¬ r18.toInt = 0 := f_ne rfl (by decide) c24
        have k24 : (0 ≤ p2.toInt ∧ p2.toInt ≤ 2) := w20 (by omega)
        refine lv_aload_n hx hb dX12_best_32 rfl (lv_at hl 0 rfl) ?_
        refine lv_iload_n hx hb dX12_best_33 rfl (lv_at hl 1 rfl) ?_
        refine g_vF (w1 := fun (u : (Nat → Int64) × (Nat → Int64) × (Nat → Int32)) => [cell22_ qm sm tm, cell5_ k qm sm, cell13_ k qm sm, cell8_ k qm sm, cell6_ k qm sm, cell15_ k qm sm, cell14_ k qm tm, cell12_ k qm tm, cell18_ k qm tm, cell17_ k qm tm, cell130_ k qm (u.1), cell122_ k qm (u.2.1), cell123_ k qm (u.2.2), cell16_ k qm sm, cell11_ k qm sm, cell10_ k qm sm, cell9_ k qm sm, cell7_ k qm sm]) (g_runVF (ws := [cell22_ qm sm tm, cell5_ k qm sm, cell13_ k qm sm, cell8_ k qm sm, cell6_ k qm sm, cell15_ k qm sm, cell14_ k qm tm, cell12_ k qm tm, cell18_ k qm tm, cell17_ k qm tm, cell19_ k qm tm, cell21_ k qm tm, cell20_ k qm sm, cell16_ k qm sm, cell11_ k qm sm, cell10_ k qm sm, cell9_ k qm sm, cell7_ k qm sm]) (rest := []) cx hP hD hS [.int p0] (c_X12_layBest l D k b qm sm tm H.size p0 (show 0 ≤ ((sm 2) 0).toInt ∧ ((sm 2) 0).toInt ≤ 5 from by first | decide | omega) (show 0 ≤ ((sm 2) 1).toInt ∧ ((sm 2) 1).toInt ≤ 4 from by first | decide | omega) (show 0 ≤ p0.toInt ∧ p0.toInt ≤ 4 from by first | decide | omega)) gX12_best_X12_layBest rfl rfl rfl nd_X12_layBest ⟨Nat.le_of_ble_eq_true rfl, Nat.le_of_ble_eq_true rfl⟩ (ci := 10) (q0 := 0) rfl rfl rfl hl.1 rfl (Nat.le_of_ble_eq_true rfl) ⟨Nat.zero_le _, Nat.zero_le _⟩ dX12_best_34) cx.2.2.1 hD hS (fun u26 H locs hw25 hP hD hS => ?_)
        obtain ⟨m27, m28, m29⟩ := u26
        have hP : va_P D vwCl [cell22_ qm sm tm, cell5_ k qm sm, cell13_ k qm sm, cell8_ k qm sm, cell6_ k qm sm, cell15_ k qm sm, cell14_ k qm tm, cell12_ k qm tm, cell18_ k qm tm, cell17_ k qm tm, (qm 10, .inl (k 1, 1500, .inr (.inl m27))), (qm 11, .inl (k 1, 1500, .inr (.inl m28))), (qm 12, .inl (k 0, 1500, .inl m29)), cell16_ k qm sm, cell11_ k qm sm, cell10_ k qm sm, cell9_ k qm sm, cell7_ k qm sm] H := hP
        have hD : va_D A [cell22_ qm sm tm, cell5_ k qm sm, cell13_ k qm sm, cell8_ k qm sm, cell6_ k qm sm, cell15_ k qm sm, cell14_ k qm tm, cell12_ k qm tm, cell18_ k qm tm, cell17_ k qm tm, (qm 10, .inl (k 1, 1500, .inr (.inl m27))), (qm 11, .inl (k 1, 1500, .inr (.inl m28))), (qm 12, .inl (k 0, 1500, .inl m29)), cell16_ k qm sm, cell11_ k qm sm, cell10_ k qm sm, cell9_ k qm sm, cell7_ k qm sm] := hD
        refine lv_aload_n hx hb dX12_best_37 rfl (lv_at hl 0 rfl) ?_
        refine g_get cx hP iw_X12_best_X12 0 rfl rfl 18 (by decide) rfl fw_X12_best_38 rfl dX12_best_38 ?_
        refine lv_iconst (v := 3) hx hb dX12_best_41 (by decide) ?_
        refine lv_iload_n hx hb dX12_best_42 rfl (lv_at hl 2 rfl) ?_
        refine lv_imul hx hb dX12_best_43 (lv_topi (fun v30 e30 => ?_))
        have t30 : v30.toInt = 3 * p1.toInt := by rw [e30]; exact i_mul (by decide) rfl (by omega) (by omega)
        refine lv_iload_n hx hb dX12_best_44 rfl (lv_at hl 3 rfl) ?_
        refine lv_iadd hx hb dX12_best_45 (lv_topi (fun v31 e31 => ?_))
        have t31 : v31.toInt = v30.toInt + p2.toInt := by rw [e31]; exact i_add rfl rfl (by omega) (by omega)
        have hn32 : vp_in v31 1500 := f_in (a := v31.toInt) rfl (by omega) (by omega)
        refine va_lald hx hb cx.2.1 hP 10 1 rfl rfl hn32 dX12_best_46 (lv_topl (fun v33 e33 => ?_))
        refine lv_aload_n hx hb dX12_best_47 rfl (lv_at hl 0 rfl) ?_
        refine g_get cx hP iw_X12_best_X12 0 rfl rfl 1 (by decide) rfl fw_X12_best_13 rfl dX12_best_48 ?_
        refine lv_iconst (v := 0) hx hb dX12_best_51 (by decide) ?_
        have hn34 : vp_in 0 26 := f_in (a := 0) (by decide) (by omega) (by omega)
        refine va_iald hx hb cx.2.1 hP 2 0 rfl rfl hn34 dX12_best_52 (lv_topi (fun v35 e35 => ?_))
        have uv35 : v35.toInt = ((sm 2) 0).toInt := congrArg Int32.toInt e35
        have t35 : 0 ≤ v35.toInt ∧ v35.toInt ≤ 5 := by rw [e35]; exact h_w0
        refine lv_iload_n hx hb dX12_best_53 rfl (lv_at hl 1 rfl) ?_
        refine lv_isub hx hb dX12_best_54 (lv_topi (fun v36 e36 => ?_))
        have t36 : v36.toInt = v35.toInt - p0.toInt := by rw [e36]; exact i_sub rfl rfl (by omega) (by omega)
        refine g_lr (g_runS (wc := []) (rest := [.long v33]) cx hP hD hS [] rfl (by decide) [.int v36] (c_X12_parts l D k b H.size v36) gX12_best_X12_parts rfl rfl rfl nd_X12_parts ⟨Nat.le_of_ble_eq_true rfl, Nat.le_of_ble_eq_true rfl⟩ rfl hl.1 rfl (Nat.le_of_ble_eq_true rfl) ⟨Nat.zero_le _, Nat.zero_le _⟩ dX12_best_55) cx.2.2.1 hP hD hS [] rfl rfl (fun r38 H locs hw37 hP hS => ?_)
        replace hw37 : (r38.toInt % 2 = 1) ∧ (r38 = J_X12_parts v36) := hw37
        obtain ⟨w39, w40⟩ := hw37
        have k42 : r38 = (J_X12_parts v36) := congrArg (fun z => z) w40
        refine lv_iload hx hb dX12_best_58 (lv_at hl 4 rfl) ?_
        refine g_lr (g_runS (wc := []) (rest := []) cx hP hD hS [] rfl (by decide) [.long v33, .long r38, .int p3] (c_X12_told l D k b H.size v33 r38 p3 (show ¬ r38.toInt = 0 from by first | decide | omega)) gX12_best_X12_told rfl rfl rfl nd_X12_told ⟨Nat.le_of_ble_eq_true rfl, Nat.le_of_ble_eq_true rfl⟩ rfl hl.1 rfl (Nat.le_of_ble_eq_true rfl) ⟨Nat.zero_le _, Nat.zero_le _⟩ dX12_best_60) cx.2.2.1 hP hD hS [] rfl rfl (fun r44 H locs hw43 hP hS => ?_)
        have w45 : r44 = J_X12_told v33 r38 p3 := hw43
        clear hw43
        have k47 : r44 = (J_X12_told v33 r38 p3) := congrArg (fun z => z) w45
        rw [hQ]
        exact x_l cx hr (m27, m28, m29) hP hD hS trivial dX12_best_63
      · have f24 : r18.toInt = 0 := f_eq rfl (by decide) c24
        refine lv_ldc2 (v := (-2)) hx hb cx.1.2.2.2.1 (cx.1.2.2.2.2 _ kJ_X12_best_206) dX12_best_28 ?_
        rw [hQ]
        exact x_l cx hr ((tm 10), (tm 11), (sm 12)) hP hD hS trivial dX12_best_31
  · have f8 : r2.toInt = 0 := f_eq rfl (by decide) c8
    refine lv_ldc2 (v := (-1)) hx hb cx.1.2.2.2.1 (cx.1.2.2.2.2 _ kJ_X12_best_221) dX12_best_8 ?_
    rw [hQ]
    exact x_l cx hr ((tm 10), (tm 11), (sm 12)) hP hD hS trivial dX12_best_11
theorem fw_X12_bestAct_44 : Cond.fieldLink RX12 44 "StillInAugustModel" "bestActs" "[I" ∈ wsX12_bestAct := by decide +kernel
theorem iw_X12_bestAct_X12 : ∀ w ∈ u_ws RX12 TX12 33, w ∈ wsX12_bestAct := fun _ h => List.mem_cons_of_mem _ (List.mem_append_right _ h)
set_option maxHeartbeats 4000000 in
set_option maxRecDepth 100000 in
theorem c_X12_bestAct (l : Launch) (D : va_G) (k : Nat → ClassId) (b : Nat → Nat) (qm : Nat → Nat) (sm : Nat → Nat → Int32) (tm : Nat → Nat → Int64) (sz : Nat) (p0 : Int32) (p1 : Int32) (p2 : Int32) (h_w0 : 0 ≤ (sm 2 0).toInt ∧ (sm 2 0).toInt ≤ 5) (h_k1 : 0 ≤ (sm 2 1).toInt ∧ (sm 2 1).toInt ≤ 4) : MetI l D k b yX12_bestAct wsX12_bestAct ({ frames := 6, cells := 0, slots := 0, locals := 157 } : Room) [cell22_ qm sm tm, cell5_ k qm sm, cell13_ k qm sm, cell8_ k qm sm, cell6_ k qm sm, cell15_ k qm sm, cell14_ k qm tm, cell12_ k qm tm, cell18_ k qm tm, cell17_ k qm tm, cell19_ k qm tm, cell21_ k qm tm, cell20_ k qm sm, cell16_ k qm sm, cell11_ k qm sm, cell10_ k qm sm, cell9_ k qm sm, cell7_ k qm sm] sz [.ref (qm 0), .int p0, .int p1, .int p2] (fun (r : Int32) (u : (Nat → Int64) × (Nat → Int64) × (Nat → Int32)) => True) (fun u => [cell22_ qm sm tm, cell5_ k qm sm, cell13_ k qm sm, cell8_ k qm sm, cell6_ k qm sm, cell15_ k qm sm, cell14_ k qm tm, cell12_ k qm tm, cell18_ k qm tm, cell17_ k qm tm, cell130_ k qm (u.1), cell122_ k qm (u.2.1), cell123_ k qm (u.2.2), cell16_ k qm sm, cell11_ k qm sm, cell10_ k qm sm, cell9_ k qm sm, cell7_ k qm sm]) := by
  refine g_enter (cc := cX12_bestAct) (maxL := 4) (ret := (some .int)) (by decide) rfl (Nat.le_of_ble_eq_true rfl) ?_
  intro p e s m below meth c A hsz hAe cx hr hP hD hS ls hl
  rw [hAe]
  refine g_q (fun Q hQ => ?_)
  have hx := cx.1.1
  have hb := cx.1.2.1
  have bp0 := i_rng p0
  have bp1 := i_rng p1
  have bp2 := i_rng p2
  have hl : lv_has ls 4 [(0, .ref (qm 0)), (1, .int p0), (2, .int p1), (3, .int p2)] := hl
  obtain ⟨H, eH⟩ : ∃ H : Heap, H = s.heap := ⟨_, rfl⟩
  obtain ⟨locs, el⟩ : ∃ L : List Loc, L = [] := ⟨_, rfl⟩
  have hP : va_P D vwCl [cell22_ qm sm tm, cell5_ k qm sm, cell13_ k qm sm, cell8_ k qm sm, cell6_ k qm sm, cell15_ k qm sm, cell14_ k qm tm, cell12_ k qm tm, cell18_ k qm tm, cell17_ k qm tm, cell19_ k qm tm, cell21_ k qm tm, cell20_ k qm sm, cell16_ k qm sm, cell11_ k qm sm, cell10_ k qm sm, cell9_ k qm sm, cell7_ k qm sm] H := by rw [eH]; exact hP
  have hD : va_D A [cell22_ qm sm tm, cell5_ k qm sm, cell13_ k qm sm, cell8_ k qm sm, cell6_ k qm sm, cell15_ k qm sm, cell14_ k qm tm, cell12_ k qm tm, cell18_ k qm tm, cell17_ k qm tm, cell19_ k qm tm, cell21_ k qm tm, cell20_ k qm sm, cell16_ k qm sm, cell11_ k qm sm, cell10_ k qm sm, cell9_ k qm sm, cell7_ k qm sm] := hD
  have hS : va_S A s.heap H locs := by rw [eH, el]; exact hS
  suffices goal : W p l e ({ frames := 6, cells := 0, slots := 0, locals := 157 } : Room) s m ([.ref (qm 0), .int p0, .int p1, .int p2] : List Value).toArray below meth c H locs 0 0 Q (F0 m 0 ls []) by rw [eH, el] at goal; exact goal
  refine lv_aload_n hx hb dX12_bestAct_0 rfl (lv_at hl 0 rfl) ?_
  refine lv_iload_n hx hb dX12_bestAct_1 rfl (lv_at hl 1 rfl) ?_
  refine g_iF (w1 := fun (_ : Unit) => [cell22_ qm sm tm, cell5_ k qm sm, cell13_ k qm sm, cell8_ k qm sm, cell6_ k qm sm, cell15_ k qm sm, cell14_ k qm tm, cell12_ k qm tm, cell18_ k qm tm, cell17_ k qm tm, cell19_ k qm tm, cell21_ k qm tm, cell20_ k qm sm, cell16_ k qm sm, cell11_ k qm sm, cell10_ k qm sm, cell9_ k qm sm, cell7_ k qm sm]) (g_runVF (ws := [cell22_ qm sm tm, cell5_ k qm sm, cell13_ k qm sm, cell8_ k qm sm, cell6_ k qm sm, cell15_ k qm sm, cell14_ k qm tm, cell12_ k qm tm, cell18_ k qm tm, cell17_ k qm tm, cell19_ k qm tm, cell21_ k qm tm, cell20_ k qm sm, cell16_ k qm sm, cell11_ k qm sm, cell10_ k qm sm, cell9_ k qm sm, cell7_ k qm sm]) (rest := []) cx hP hD hS [.int p0] (c_X12_isWeek l D k b qm sm tm H.size p0 (show 0 ≤ ((sm 2) 0).toInt ∧ ((sm 2) 0).toInt ≤ 5 from by first | decide | omega)) gX12_bestAct_X12_isWeek rfl rfl rfl nd_X12_isWeek ⟨Nat.le_of_ble_eq_true rfl, Nat.le_of_ble_eq_true rfl⟩ (ci := 10) (q0 := 0) rfl rfl rfl hl.1 rfl (Nat.le_of_ble_eq_true rfl) ⟨Nat.zero_le _, Nat.zero_le _⟩ dX12_bestAct_2) cx.2.2.1 hD hS (fun r2 _ H locs hw1 hP hD hS => ?_)
  replace hw1 : (0 ≤ r2.toInt ∧ r2.toInt ≤ 1) ∧ (Imp (r2.toInt = 1) (0 ≤ p0.toInt ∧ p0.toInt ≤ 4)) ∧ (r2 = J_X12_isWeek sm tm p0) := hw1
  obtain ⟨w3, w4, w5⟩ := hw1
  have k7 : r2 = (J_X12_isWeek sm tm p0) := congrArg (fun z => z) w5
  have zr2 : 0 ≤ r2.toInt ∧ r2.toInt ≤ 1 := w3
  refine lv_if_ne (tgt := 10) hx hb dX12_bestAct_5 (by decide) (fun c8 => ?_) (fun c8 => ?_)
  · have f8 : ¬ r2.toInt = 0 := f_ne rfl (by decide) c8
    have k8 : (0 ≤ p0.toInt ∧ p0.toInt ≤ 4) := w4 (by omega)
    refine lv_aload_n hx hb dX12_bestAct_10 rfl (lv_at hl 0 rfl) ?_
    refine lv_iload_n hx hb dX12_bestAct_11 rfl (lv_at hl 2 rfl) ?_
    refine g_iF (w1 := fun (_ : Unit) => [cell22_ qm sm tm, cell5_ k qm sm, cell13_ k qm sm, cell8_ k qm sm, cell6_ k qm sm, cell15_ k qm sm, cell14_ k qm tm, cell12_ k qm tm, cell18_ k qm tm, cell17_ k qm tm, cell19_ k qm tm, cell21_ k qm tm, cell20_ k qm sm, cell16_ k qm sm, cell11_ k qm sm, cell10_ k qm sm, cell9_ k qm sm, cell7_ k qm sm]) (g_runVF (ws := [cell22_ qm sm tm, cell5_ k qm sm, cell13_ k qm sm, cell8_ k qm sm, cell6_ k qm sm, cell15_ k qm sm, cell14_ k qm tm, cell12_ k qm tm, cell18_ k qm tm, cell17_ k qm tm, cell19_ k qm tm, cell21_ k qm tm, cell20_ k qm sm, cell16_ k qm sm, cell11_ k qm sm, cell10_ k qm sm, cell9_ k qm sm, cell7_ k qm sm]) (rest := []) cx hP hD hS [.int p1] (c_X12_isHands l D k b qm sm tm H.size p1 (show 0 ≤ ((sm 2) 1).toInt ∧ ((sm 2) 1).toInt ≤ 4 from by first | decide | omega)) gX12_bestAct_X12_isHands rfl rfl rfl nd_X12_isHands ⟨Nat.le_of_ble_eq_true rfl, Nat.le_of_ble_eq_true rfl⟩ (ci := 10) (q0 := 0) rfl rfl rfl hl.1 rfl (Nat.le_of_ble_eq_true rfl) ⟨Nat.zero_le _, Nat.zero_le _⟩ dX12_bestAct_12) cx.2.2.1 hD hS (fun r10 _ H locs hw9 hP hD hS => ?_)
    replace hw9 : (0 ≤ r10.toInt ∧ r10.toInt ≤ 1) ∧ (Imp (r10.toInt = 1) (0 ≤ p1.toInt ∧ p1.toInt ≤ 400)) ∧ (r10 = J_X12_isHands sm tm p1) := hw9
    obtain ⟨w11, w12, w13⟩ := hw9
    have k15 : r10 = (J_X12_isHands sm tm p1) := congrArg (fun z => z) w13
    have zr10 : 0 ≤ r10.toInt ∧ r10.toInt ≤ 1 := w11
    refine lv_if_eq (tgt := 26) hx hb dX12_bestAct_15 (by decide) (fun c16 => ?_) (fun c16 => ?_)
    · have f16 : r10.toInt = 0 := f_eq rfl (by decide) c16
      refine lv_bipush (v := (-2)) hx hb dX12_bestAct_26 (by decide) ?_
      have hlit17 : ((-2) : Int32).toInt = -2 := by decide
      rw [hQ]
      exact x_i cx hr ((tm 10), (tm 11), (sm 12)) hP hD hS trivial dX12_bestAct_28
    · have f16 : ¬ r10.toInt = 0 := f_ne rfl (by decide) c16
      have k16 : (0 ≤ p1.toInt ∧ p1.toInt ≤ 400) := w12 (by omega)
      refine lv_aload_n hx hb dX12_bestAct_18 rfl (lv_at hl 0 rfl) ?_
      refine lv_iload_n hx hb dX12_bestAct_19 rfl (lv_at hl 3 rfl) ?_
      refine g_iF (w1 := fun (_ : Unit) => [cell22_ qm sm tm, cell5_ k qm sm, cell13_ k qm sm, cell8_ k qm sm, cell6_ k qm sm, cell15_ k qm sm, cell14_ k qm tm, cell12_ k qm tm, cell18_ k qm tm, cell17_ k qm tm, cell19_ k qm tm, cell21_ k qm tm, cell20_ k qm sm, cell16_ k qm sm, cell11_ k qm sm, cell10_ k qm sm, cell9_ k qm sm, cell7_ k qm sm]) (g_runVF (ws := [cell22_ qm sm tm, cell5_ k qm sm, cell13_ k qm sm, cell8_ k qm sm, cell6_ k qm sm, cell15_ k qm sm, cell14_ k qm tm, cell12_ k qm tm, cell18_ k qm tm, cell17_ k qm tm, cell19_ k qm tm, cell21_ k qm tm, cell20_ k qm sm, cell16_ k qm sm, cell11_ k qm sm, cell10_ k qm sm, cell9_ k qm sm, cell7_ k qm sm]) (rest := []) cx hP hD hS [.int p2] (c_X12_isComing l D k b qm sm tm H.size p2) gX12_bestAct_X12_isComing rfl rfl rfl nd_X12_isComing ⟨Nat.le_of_ble_eq_true rfl, Nat.le_of_ble_eq_true rfl⟩ (ci := 10) (q0 := 0) rfl rfl rfl hl.1 rfl (Nat.le_of_ble_eq_true rfl) ⟨Nat.zero_le _, Nat.zero_le _⟩ dX12_bestAct_20) cx.2.2.1 hD hS (fun r19 _ H locs hw18 hP hD hS => ?_)
      replace hw18 : (0 ≤ r19.toInt ∧ r19.toInt ≤ 1) ∧ (Imp (r19.toInt = 1) (0 ≤ p2.toInt ∧ p2.toInt ≤ 2)) ∧ (r19 = J_X12_isComing sm tm p2) := hw18
      obtain ⟨w20, w21, w22⟩ := hw18
      have k24 : r19 = (J_X12_isComing sm tm p2) := congrArg (fun z => z) w22
      have zr19 : 0 ≤ r19.toInt ∧ r19.toInt ≤ 1 := w20
      refine lv_if_ne (tgt := 29) hx hb dX12_bestAct_23 (by decide) (fun c25 => ?_) (fun c25 => ?_)
      · have f25 : ¬ r19.toInt = 0 := f_ne rfl (by decide) c25
        have k25 : (0 ≤ p2.toInt ∧ p2.toInt ≤ 2) := w21 (by omega)
        refine lv_aload_n hx hb dX12_bestAct_29 rfl (lv_at hl 0 rfl) ?_
        refine lv_iload_n hx hb dX12_bestAct_30 rfl (lv_at hl 1 rfl) ?_
        refine g_vF (w1 := fun (u : (Nat → Int64) × (Nat → Int64) × (Nat → Int32)) => [cell22_ qm sm tm, cell5_ k qm sm, cell13_ k qm sm, cell8_ k qm sm, cell6_ k qm sm, cell15_ k qm sm, cell14_ k qm tm, cell12_ k qm tm, cell18_ k qm tm, cell17_ k qm tm, cell130_ k qm (u.1), cell122_ k qm (u.2.1), cell123_ k qm (u.2.2), cell16_ k qm sm, cell11_ k qm sm, cell10_ k qm sm, cell9_ k qm sm, cell7_ k qm sm]) (g_runVF (ws := [cell22_ qm sm tm, cell5_ k qm sm, cell13_ k qm sm, cell8_ k qm sm, cell6_ k qm sm, cell15_ k qm sm, cell14_ k qm tm, cell12_ k qm tm, cell18_ k qm tm, cell17_ k qm tm, cell19_ k qm tm, cell21_ k qm tm, cell20_ k qm sm, cell16_ k qm sm, cell11_ k qm sm, cell10_ k qm sm, cell9_ k qm sm, cell7_ k qm sm]) (rest := []) cx hP hD hS [.int p0] (c_X12_layBest l D k b qm sm tm H.size p0 (show 0 ≤ ((sm 2) 0).toInt ∧ ((sm 2) 0).toInt ≤ 5 from by first | decide | omega) (show 0 ≤ ((sm 2) 1).toInt ∧ ((sm 2) 1).toInt ≤ 4 from by first | decide | omega) (show 0 ≤ p0.toInt ∧ p0.toInt ≤ 4 from by first | decide | omega)) gX12_bestAct_X12_layBest rfl rfl rfl nd_X12_layBest ⟨Nat.le_of_ble_eq_true rfl, Nat.le_of_ble_eq_true rfl⟩ (ci := 10) (q0 := 0) rfl rfl rfl hl.1 rfl (Nat.le_of_ble_eq_true rfl) ⟨Nat.zero_le _, Nat.zero_le _⟩ dX12_bestAct_31) cx.2.2.1 hD hS (fun u27 H locs hw26 hP hD hS => ?_)
        obtain ⟨m28, m29, m30⟩ := u27
        have hP : va_P D vwCl [cell22_ qm sm tm, cell5_ k qm sm, cell13_ k qm sm, cell8_ k qm sm, cell6_ k qm sm, cell15_ k qm sm, cell14_ k qm tm, cell12_ k qm tm, cell18_ k qm tm, cell17_ k qm tm, (qm 10, .inl (k 1, 1500, .inr (.inl m28))), (qm 11, .inl (k 1, 1500, .inr (.inl m29))), (qm 12, .inl (k 0, 1500, .inl m30)), cell16_ k qm sm, cell11_ k qm sm, cell10_ k qm sm, cell9_ k qm sm, cell7_ k qm sm] H := hP
        have hD : va_D A [cell22_ qm sm tm, cell5_ k qm sm, cell13_ k qm sm, cell8_ k qm sm, cell6_ k qm sm, cell15_ k qm sm, cell14_ k qm tm, cell12_ k qm tm, cell18_ k qm tm, cell17_ k qm tm, (qm 10, .inl (k 1, 1500, .inr (.inl m28))), (qm 11, .inl (k 1, 1500, .inr (.inl m29))), (qm 12, .inl (k 0, 1500, .inl m30)), cell16_ k qm sm, cell11_ k qm sm, cell10_ k qm sm, cell9_ k qm sm, cell7_ k qm sm] := hD
        refine lv_aload_n hx hb dX12_bestAct_34 rfl (lv_at hl 0 rfl) ?_
        refine g_get cx hP iw_X12_bestAct_X12 0 rfl rfl 20 (by decide) rfl fw_X12_bestAct_44 rfl dX12_bestAct_35 ?_
        refine lv_iconst (v := 3) hx hb dX12_bestAct_38 (by decide) ?_
        refine lv_iload_n hx hb dX12_bestAct_39 rfl (lv_at hl 2 rfl) ?_
        refine lv_imul hx hb dX12_bestAct_40 (lv_topi (fun v31 e31 => ?_))
        have t31 : v31.toInt = 3 * p1.toInt := by rw [e31]; exact i_mul (by decide) rfl (by omega) (by omega)
        refine lv_iload_n hx hb dX12_bestAct_41 rfl (lv_at hl 3 rfl) ?_
        refine lv_iadd hx hb dX12_bestAct_42 (lv_topi (fun v32 e32 => ?_))
        have t32 : v32.toInt = v31.toInt + p2.toInt := by rw [e32]; exact i_add rfl rfl (by omega) (by omega)
        have hn33 : vp_in v32 1500 := f_in (a := v32.toInt) rfl (by omega) (by omega)
        refine va_iald hx hb cx.2.1 hP 12 0 rfl rfl hn33 dX12_bestAct_43 (lv_topi (fun v34 e34 => ?_))
        rw [hQ]
        exact x_i cx hr (m28, m29, m30) hP hD hS trivial dX12_bestAct_44
      · have f25 : r19.toInt = 0 := f_eq rfl (by decide) c25
        refine lv_bipush (v := (-2)) hx hb dX12_bestAct_26 (by decide) ?_
        have hlit35 : ((-2) : Int32).toInt = -2 := by decide
        rw [hQ]
        exact x_i cx hr ((tm 10), (tm 11), (sm 12)) hP hD hS trivial dX12_bestAct_28
  · have f8 : r2.toInt = 0 := f_eq rfl (by decide) c8
    refine lv_iconst (v := (-1)) hx hb dX12_bestAct_8 (by decide) ?_
    have hlit36 : ((-1) : Int32).toInt = -1 := by decide
    rw [hQ]
    exact x_i cx hr ((tm 10), (tm 11), (sm 12)) hP hD hS trivial dX12_bestAct_9
theorem fw_X12_againstOf_13 : Cond.fieldLink RX12 13 "StillInAugustModel" "house" "[I" ∈ wsX12_againstOf := by decide +kernel
theorem fw_X12_againstOf_44 : Cond.fieldLink RX12 44 "StillInAugustModel" "bestActs" "[I" ∈ wsX12_againstOf := by decide +kernel
theorem iw_X12_againstOf_X12 : ∀ w ∈ u_ws RX12 TX12 33, w ∈ wsX12_againstOf := fun _ h => List.mem_cons_of_mem _ (List.mem_append_right _ h)
set_option maxHeartbeats 4000000 in
set_option maxRecDepth 100000 in
theorem c_X12_againstOf (l : Launch) (D : va_G) (k : Nat → ClassId) (b : Nat → Nat) (qm : Nat → Nat) (sm : Nat → Nat → Int32) (tm : Nat → Nat → Int64) (sz : Nat) (p0 : Int32) (p1 : Int32) (h_k1 : 0 ≤ (sm 2 1).toInt ∧ (sm 2 1).toInt ≤ 4) (hp0 : 0 ≤ p0.toInt ∧ p0.toInt ≤ 4) : MetI l D k b yX12_againstOf wsX12_againstOf ({ frames := 2, cells := 0, slots := 0, locals := 46 } : Room) [cell22_ qm sm tm, cell5_ k qm sm, cell13_ k qm sm, cell8_ k qm sm, cell6_ k qm sm, cell15_ k qm sm, cell14_ k qm tm, cell12_ k qm tm, cell18_ k qm tm, cell17_ k qm tm, cell19_ k qm tm, cell21_ k qm tm, cell20_ k qm sm, cell16_ k qm sm, cell11_ k qm sm, cell10_ k qm sm, cell9_ k qm sm, cell7_ k qm sm] sz [.ref (qm 0), .int p0, .int p1] (fun (r : Int32) (u : Unit) => True) (fun u => [cell22_ qm sm tm, cell5_ k qm sm, cell13_ k qm sm, cell8_ k qm sm, cell6_ k qm sm, cell15_ k qm sm, cell14_ k qm tm, cell12_ k qm tm, cell18_ k qm tm, cell17_ k qm tm, cell19_ k qm tm, cell21_ k qm tm, cell20_ k qm sm, cell16_ k qm sm, cell11_ k qm sm, cell10_ k qm sm, cell9_ k qm sm, cell7_ k qm sm]) := by
  refine g_enter (cc := cX12_againstOf) (maxL := 7) (ret := (some .int)) (by decide) rfl (Nat.le_of_ble_eq_true rfl) ?_
  intro p e s m below meth c A hsz hAe cx hr hP hD hS ls hl
  rw [hAe]
  refine g_q (fun Q hQ => ?_)
  have hx := cx.1.1
  have hb := cx.1.2.1
  have bp0 := i_rng p0
  have bp1 := i_rng p1
  have hl : lv_has ls 7 [(0, .ref (qm 0)), (1, .int p0), (2, .int p1)] := hl
  obtain ⟨H, eH⟩ : ∃ H : Heap, H = s.heap := ⟨_, rfl⟩
  obtain ⟨locs, el⟩ : ∃ L : List Loc, L = [] := ⟨_, rfl⟩
  have hP : va_P D vwCl [cell22_ qm sm tm, cell5_ k qm sm, cell13_ k qm sm, cell8_ k qm sm, cell6_ k qm sm, cell15_ k qm sm, cell14_ k qm tm, cell12_ k qm tm, cell18_ k qm tm, cell17_ k qm tm, cell19_ k qm tm, cell21_ k qm tm, cell20_ k qm sm, cell16_ k qm sm, cell11_ k qm sm, cell10_ k qm sm, cell9_ k qm sm, cell7_ k qm sm] H := by rw [eH]; exact hP
  have hD : va_D A [cell22_ qm sm tm, cell5_ k qm sm, cell13_ k qm sm, cell8_ k qm sm, cell6_ k qm sm, cell15_ k qm sm, cell14_ k qm tm, cell12_ k qm tm, cell18_ k qm tm, cell17_ k qm tm, cell19_ k qm tm, cell21_ k qm tm, cell20_ k qm sm, cell16_ k qm sm, cell11_ k qm sm, cell10_ k qm sm, cell9_ k qm sm, cell7_ k qm sm] := hD
  have hS : va_S A s.heap H locs := by rw [eH, el]; exact hS
  suffices goal : W p l e ({ frames := 2, cells := 0, slots := 0, locals := 46 } : Room) s m ([.ref (qm 0), .int p0, .int p1] : List Value).toArray below meth c H locs 0 0 Q (F0 m 0 ls []) by rw [eH, el] at goal; exact goal
  refine lv_iconst (v := 0) hx hb dX12_againstOf_0 (by decide) ?_
  refine lv_istore_n (lv' := [(3, .int 0), (0, .ref (qm 0)), (1, .int p0), (2, .int p1)]) hx hb dX12_againstOf_1 rfl hl (by decide) rfl (fun ls hl => ?_)
  have hL2 : ∀ (n31 : Nat) (v30 : Int32) (H : Heap) (locs : List Loc) (ls : Array Slot), 500 - v30.toInt < (n31 : Int) → (0 ≤ v30.toInt ∧ v30.toInt ≤ 500) → va_P D vwCl [cell22_ qm sm tm, cell5_ k qm sm, cell13_ k qm sm, cell8_ k qm sm, cell6_ k qm sm, cell15_ k qm sm, cell14_ k qm tm, cell12_ k qm tm, cell18_ k qm tm, cell17_ k qm tm, cell19_ k qm tm, cell21_ k qm tm, cell20_ k qm sm, cell16_ k qm sm, cell11_ k qm sm, cell10_ k qm sm, cell9_ k qm sm, cell7_ k qm sm] H → va_D A [cell22_ qm sm tm, cell5_ k qm sm, cell13_ k qm sm, cell8_ k qm sm, cell6_ k qm sm, cell15_ k qm sm, cell14_ k qm tm, cell12_ k qm tm, cell18_ k qm tm, cell17_ k qm tm, cell19_ k qm tm, cell21_ k qm tm, cell20_ k qm sm, cell16_ k qm sm, cell11_ k qm sm, cell10_ k qm sm, cell9_ k qm sm, cell7_ k qm sm] → va_S A s.heap H locs → lv_has ls 7 [(3, .int v30), (0, .ref (qm 0)), (1, .int p0), (2, .int p1)] → W p l e ({ frames := 2, cells := 0, slots := 0, locals := 46 } : Room) s m ([.ref (qm 0), .int p0, .int p1] : List Value).toArray below meth c H locs 0 0 Q (F0 m 2 ls []) := by
    intro n31
    induction n31 with
    | zero => intro v30 H locs ls hmn31 bv30 hP hD hS hl; exact absurd hmn31 (by omega)
    | succ n31 ih2 =>
      intro v30 H locs ls hmn31 bv30 hP hD hS hl
      refine lv_iload_n hx hb dX12_againstOf_2 rfl (lv_at hl 0 rfl) ?_
      refine lv_sipush (v := 500) hx hb dX12_againstOf_3 (by decide) ?_
      refine lv_icmp_ge (tgt := 120) hx hb dX12_againstOf_6 (by decide) (fun c32 => ?_) (fun c32 => ?_)
      · have f32 : 500 ≤ v30.toInt := f_le (by decide) rfl c32
        refine lv_bipush (v := (-9)) hx hb dX12_againstOf_120 (by decide) ?_
        have hlit33 : ((-9) : Int32).toInt = -9 := by decide
        rw [hQ]
        exact x_i cx hr () hP hD hS trivial dX12_againstOf_122
      · have f32 : v30.toInt < 500 := f_nle (by decide) rfl c32
        refine lv_aload_n hx hb dX12_againstOf_9 rfl (lv_at hl 1 rfl) ?_
        refine lv_iload_n hx hb dX12_againstOf_10 rfl (lv_at hl 0 rfl) ?_
        refine g_iF (w1 := fun (_ : Unit) => [cell22_ qm sm tm, cell5_ k qm sm, cell13_ k qm sm, cell8_ k qm sm, cell6_ k qm sm, cell15_ k qm sm, cell14_ k qm tm, cell12_ k qm tm, cell18_ k qm tm, cell17_ k qm tm, cell19_ k qm tm, cell21_ k qm tm, cell20_ k qm sm, cell16_ k qm sm, cell11_ k qm sm, cell10_ k qm sm, cell9_ k qm sm, cell7_ k qm sm]) (g_runVF (ws := [cell22_ qm sm tm, cell5_ k qm sm, cell13_ k qm sm, cell8_ k qm sm, cell6_ k qm sm, cell15_ k qm sm, cell14_ k qm tm, cell12_ k qm tm, cell18_ k qm tm, cell17_ k qm tm, cell19_ k qm tm, cell21_ k qm tm, cell20_ k qm sm, cell16_ k qm sm, cell11_ k qm sm, cell10_ k qm sm, cell9_ k qm sm, cell7_ k qm sm]) (rest := []) cx hP hD hS [.int v30] (c_X12_isHands l D k b qm sm tm H.size v30 (show 0 ≤ ((sm 2) 1).toInt ∧ ((sm 2) 1).toInt ≤ 4 from by first | decide | omega)) gX12_againstOf_X12_isHands rfl rfl rfl nd_X12_isHands ⟨Nat.le_of_ble_eq_true rfl, Nat.le_of_ble_eq_true rfl⟩ (ci := 10) (q0 := 0) rfl rfl rfl hl.1 rfl (Nat.le_of_ble_eq_true rfl) ⟨Nat.zero_le _, Nat.zero_le _⟩ dX12_againstOf_11) cx.2.2.1 hD hS (fun r35 _ H locs hw34 hP hD hS => ?_)
        replace hw34 : (0 ≤ r35.toInt ∧ r35.toInt ≤ 1) ∧ (Imp (r35.toInt = 1) (0 ≤ v30.toInt ∧ v30.toInt ≤ 400)) ∧ (r35 = J_X12_isHands sm tm v30) := hw34
        obtain ⟨w36, w37, w38⟩ := hw34
        have k40 : r35 = (J_X12_isHands sm tm v30) := congrArg (fun z => z) w38
        have zr35 : 0 ≤ r35.toInt ∧ r35.toInt ≤ 1 := w36
        have hJ114 : ∀  (H : Heap) (locs : List Loc) (ls : Array Slot), va_P D vwCl [cell22_ qm sm tm, cell5_ k qm sm, cell13_ k qm sm, cell8_ k qm sm, cell6_ k qm sm, cell15_ k qm sm, cell14_ k qm tm, cell12_ k qm tm, cell18_ k qm tm, cell17_ k qm tm, cell19_ k qm tm, cell21_ k qm tm, cell20_ k qm sm, cell16_ k qm sm, cell11_ k qm sm, cell10_ k qm sm, cell9_ k qm sm, cell7_ k qm sm] H → va_D A [cell22_ qm sm tm, cell5_ k qm sm, cell13_ k qm sm, cell8_ k qm sm, cell6_ k qm sm, cell15_ k qm sm, cell14_ k qm tm, cell12_ k qm tm, cell18_ k qm tm, cell17_ k qm tm, cell19_ k qm tm, cell21_ k qm tm, cell20_ k qm sm, cell16_ k qm sm, cell11_ k qm sm, cell10_ k qm sm, cell9_ k qm sm, cell7_ k qm sm] → va_S A s.heap H locs → lv_has ls 7 [(3, .int v30), (0, .ref (qm 0)), (1, .int p0), (2, .int p1)] → W p l e ({ frames := 2, cells := 0, slots := 0, locals := 46 } : Room) s m ([.ref (qm 0), .int p0, .int p1] : List Value).toArray below meth c H locs 0 0 Q (F0 m 114 ls []) := by
          intro  H locs ls  hP hD hS hl
          obtain ⟨v77, e77⟩ : ∃ z : Int32, z = v30 + 1 := ⟨_, rfl⟩
          refine lv_iinc (v := v77) (lv' := [(3, .int v77), (0, .ref (qm 0)), (1, .int p0), (2, .int p1)]) hx hb dX12_againstOf_114 hl (k := 0) rfl (by rw [e77]; rfl) (by decide) rfl (fun ls hl => ?_)
          have t77 : v77.toInt = v30.toInt + 1 := by rw [e77]; exact i_add rfl (by decide) (by omega) (by omega)
          refine lv_goto (tgt := 2) hx hb dX12_againstOf_117 (by decide) ?_
          exact ih2 v77 _ _ _ (by omega) (by first | decide | omega) hP hD hS (lv_sub hl [0, 1, 2, 3] rfl)
        refine lv_if_eq (tgt := 114) hx hb dX12_againstOf_14 (by decide) (fun c78 => ?_) (fun c78 => ?_)
        · have f78 : r35.toInt = 0 := f_eq rfl (by decide) c78
          exact hJ114  _ _ _  hP hD hS (lv_sub hl [0, 1, 2, 3] rfl)
        · have f78 : ¬ r35.toInt = 0 := f_ne rfl (by decide) c78
          have k78 : (0 ≤ v30.toInt ∧ v30.toInt ≤ 400) := w37 (by omega)
          refine lv_iload_n hx hb dX12_againstOf_17 rfl (lv_at hl 3 rfl) ?_
          refine lv_iload_n hx hb dX12_againstOf_18 rfl (lv_at hl 0 rfl) ?_
          refine g_ir (g_runS (wc := []) (rest := [.int p1]) cx hP hD hS [] rfl (by decide) [.int v30] (c_X12_all l D k b H.size v30) gX12_againstOf_X12_all rfl rfl rfl nd_X12_all ⟨Nat.le_of_ble_eq_true rfl, Nat.le_of_ble_eq_true rfl⟩ rfl hl.1 rfl (Nat.le_of_ble_eq_true rfl) ⟨Nat.zero_le _, Nat.zero_le _⟩ dX12_againstOf_19) cx.2.2.1 hP hD hS [] rfl rfl (fun r80 H locs hw79 hP hS => ?_)
          have w81 : r80 = J_X12_all v30 := hw79
          clear hw79
          have zr80 := all_t w81 (show 0 ≤ v30.toInt from by omega)
          refine lv_isub hx hb dX12_againstOf_22 (lv_topi (fun v82 e82 => ?_))
          refine lv_istore (lv' := [(4, .int v82), (3, .int v30), (0, .ref (qm 0)), (1, .int p0), (2, .int p1)]) hx hb dX12_againstOf_23 hl (by decide) rfl (fun ls hl => ?_)
          refine lv_aload_n hx hb dX12_againstOf_25 rfl (lv_at hl 2 rfl) ?_
          refine g_get cx hP iw_X12_againstOf_X12 0 rfl rfl 1 (by decide) rfl fw_X12_againstOf_13 rfl dX12_againstOf_26 ?_
          refine lv_iconst (v := 1) hx hb dX12_againstOf_29 (by decide) ?_
          have hn83 : vp_in 1 26 := f_in (a := 1) (by decide) (by omega) (by omega)
          refine va_iald hx hb cx.2.1 hP 2 0 rfl rfl hn83 dX12_againstOf_30 (lv_topi (fun v84 e84 => ?_))
          have uv84 : v84.toInt = ((sm 2) 1).toInt := congrArg Int32.toInt e84
          have t84 : 0 ≤ v84.toInt ∧ v84.toInt ≤ 4 := by rw [e84]; exact h_k1
          refine lv_iload_n hx hb dX12_againstOf_31 rfl (lv_at hl 1 rfl) ?_
          refine g_ir (g_runS (wc := []) (rest := [.int v84]) cx hP hD hS [] rfl (by decide) [.int v30] (c_X12_all l D k b H.size v30) gX12_againstOf_X12_all rfl rfl rfl nd_X12_all ⟨Nat.le_of_ble_eq_true rfl, Nat.le_of_ble_eq_true rfl⟩ rfl hl.1 rfl (Nat.le_of_ble_eq_true rfl) ⟨Nat.zero_le _, Nat.zero_le _⟩ dX12_againstOf_32) cx.2.2.1 hP hD hS [] rfl rfl (fun r86 H locs hw85 hP hS => ?_)
          have w87 : r86 = J_X12_all v30 := hw85
          clear hw85
          have zr86 := all_t w87 (show 0 ≤ v30.toInt from by omega)
          refine lv_isub hx hb dX12_againstOf_35 (lv_topi (fun v88 e88 => ?_))
          have t88 : v88.toInt = v84.toInt - r86.toInt := by rw [e88]; exact i_sub rfl rfl (by omega) (by omega)
          refine lv_istore (lv' := [(5, .int v88), (4, .int v82), (3, .int v30), (0, .ref (qm 0)), (1, .int p0), (2, .int p1)]) hx hb dX12_againstOf_36 hl (by decide) rfl (fun ls hl => ?_)
          refine lv_iload hx hb dX12_againstOf_38 (lv_at hl 1 rfl) ?_
          refine lv_aload_n hx hb dX12_againstOf_40 rfl (lv_at hl 3 rfl) ?_
          refine g_get cx hP iw_X12_againstOf_X12 0 rfl rfl 1 (by decide) rfl fw_X12_againstOf_13 rfl dX12_againstOf_41 ?_
          refine lv_bipush (v := 15) hx hb dX12_againstOf_44 (by decide) ?_
          refine lv_iload_n hx hb dX12_againstOf_46 rfl (lv_at hl 4 rfl) ?_
          refine lv_iadd hx hb dX12_againstOf_47 (lv_topi (fun v89 e89 => ?_))
          have t89 : v89.toInt = 15 + p0.toInt := by rw [e89]; exact i_add (by decide) rfl (by omega) (by omega)
          have hn90 : vp_in v89 26 := f_in (a := v89.toInt) rfl (by omega) (by omega)
          refine va_iald hx hb cx.2.1 hP 2 0 rfl rfl hn90 dX12_againstOf_48 (lv_topi (fun v91 e91 => ?_))
          have hJ66 : ∀ (v95 : Int32) (H : Heap) (locs : List Loc) (ls : Array Slot), va_P D vwCl [cell22_ qm sm tm, cell5_ k qm sm, cell13_ k qm sm, cell8_ k qm sm, cell6_ k qm sm, cell15_ k qm sm, cell14_ k qm tm, cell12_ k qm tm, cell18_ k qm tm, cell17_ k qm tm, cell19_ k qm tm, cell21_ k qm tm, cell20_ k qm sm, cell16_ k qm sm, cell11_ k qm sm, cell10_ k qm sm, cell9_ k qm sm, cell7_ k qm sm] H → va_D A [cell22_ qm sm tm, cell5_ k qm sm, cell13_ k qm sm, cell8_ k qm sm, cell6_ k qm sm, cell15_ k qm sm, cell14_ k qm tm, cell12_ k qm tm, cell18_ k qm tm, cell17_ k qm tm, cell19_ k qm tm, cell21_ k qm tm, cell20_ k qm sm, cell16_ k qm sm, cell11_ k qm sm, cell10_ k qm sm, cell9_ k qm sm, cell7_ k qm sm] → va_S A s.heap H locs → lv_has ls 7 [(5, .int v88), (3, .int v30), (0, .ref (qm 0)), (1, .int p0), (2, .int p1)] → W p l e ({ frames := 2, cells := 0, slots := 0, locals := 46 } : Room) s m ([.ref (qm 0), .int p0, .int p1] : List Value).toArray below meth c H locs 0 0 Q (F0 m 66 ls [.int v95]) := by
            intro v95 H locs ls  hP hD hS hl
            refine lv_istore (lv' := [(6, .int v95), (5, .int v88), (3, .int v30), (0, .ref (qm 0)), (1, .int p0), (2, .int p1)]) hx hb dX12_againstOf_66 hl (by decide) rfl (fun ls hl => ?_)
            refine lv_iload hx hb dX12_againstOf_68 (lv_at hl 0 rfl) ?_
            refine lv_iload hx hb dX12_againstOf_70 (lv_at hl 1 rfl) ?_
            have hJ82 : ∀ (v96 : Int32) (H : Heap) (locs : List Loc) (ls : Array Slot), (v96.toInt ≤ 4) → va_P D vwCl [cell22_ qm sm tm, cell5_ k qm sm, cell13_ k qm sm, cell8_ k qm sm, cell6_ k qm sm, cell15_ k qm sm, cell14_ k qm tm, cell12_ k qm tm, cell18_ k qm tm, cell17_ k qm tm, cell19_ k qm tm, cell21_ k qm tm, cell20_ k qm sm, cell16_ k qm sm, cell11_ k qm sm, cell10_ k qm sm, cell9_ k qm sm, cell7_ k qm sm] H → va_D A [cell22_ qm sm tm, cell5_ k qm sm, cell13_ k qm sm, cell8_ k qm sm, cell6_ k qm sm, cell15_ k qm sm, cell14_ k qm tm, cell12_ k qm tm, cell18_ k qm tm, cell17_ k qm tm, cell19_ k qm tm, cell21_ k qm tm, cell20_ k qm sm, cell16_ k qm sm, cell11_ k qm sm, cell10_ k qm sm, cell9_ k qm sm, cell7_ k qm sm] → va_S A s.heap H locs → lv_has ls 7 [(3, .int v30), (0, .ref (qm 0)), (1, .int p0), (2, .int p1)] → W p l e ({ frames := 2, cells := 0, slots := 0, locals := 46 } : Room) s m ([.ref (qm 0), .int p0, .int p1] : List Value).toArray below meth c H locs 0 0 Q (F0 m 82 ls [.int v96]) := by
              intro v96 H locs ls bv96 hP hD hS hl
              refine lv_istore (lv' := [(6, .int v96), (3, .int v30), (0, .ref (qm 0)), (1, .int p0), (2, .int p1)]) hx hb dX12_againstOf_82 hl (by decide) rfl (fun ls hl => ?_)
              refine lv_aload_n hx hb dX12_againstOf_84 rfl (lv_at hl 2 rfl) ?_
              refine g_get cx hP iw_X12_againstOf_X12 0 rfl rfl 20 (by decide) rfl fw_X12_againstOf_44 rfl dX12_againstOf_85 ?_
              refine lv_iconst (v := 3) hx hb dX12_againstOf_88 (by decide) ?_
              refine lv_iload_n hx hb dX12_againstOf_89 rfl (lv_at hl 1 rfl) ?_
              refine lv_imul hx hb dX12_againstOf_90 (lv_topi (fun v97 e97 => ?_))
              have t97 : v97.toInt = 3 * v30.toInt := by rw [e97]; exact i_mul (by decide) rfl (by omega) (by omega)
              have hn98 : vp_in v97 1500 := f_in (a := v97.toInt) rfl (by omega) (by omega)
              refine va_iald hx hb cx.2.1 hP 12 0 rfl rfl hn98 dX12_againstOf_91 (lv_topi (fun v99 e99 => ?_))
              refine lv_bipush (v := 100) hx hb dX12_againstOf_92 (by decide) ?_
              refine lv_idiv hx hb dX12_againstOf_94 (by decide) (lv_topi (fun v100 e100 => ?_))
              refine lv_bipush (v := 10) hx hb dX12_againstOf_95 (by decide) ?_
              refine lv_irem hx hb dX12_againstOf_97 (by decide) (lv_topi (fun v101 e101 => ?_))
              have t101 : -10 < v101.toInt ∧ v101.toInt < 10 := by rw [e101]; exact i_remb (by decide) (by decide)
              refine lv_iload hx hb dX12_againstOf_98 (lv_at hl 0 rfl) ?_
              have hJ109 : ∀ (v102 : Int32) (H : Heap) (locs : List Loc) (ls : Array Slot), (0 ≤ v102.toInt ∧ v102.toInt ≤ 4) → va_P D vwCl [cell22_ qm sm tm, cell5_ k qm sm, cell13_ k qm sm, cell8_ k qm sm, cell6_ k qm sm, cell15_ k qm sm, cell14_ k qm tm, cell12_ k qm tm, cell18_ k qm tm, cell17_ k qm tm, cell19_ k qm tm, cell21_ k qm tm, cell20_ k qm sm, cell16_ k qm sm, cell11_ k qm sm, cell10_ k qm sm, cell9_ k qm sm, cell7_ k qm sm] H → va_D A [cell22_ qm sm tm, cell5_ k qm sm, cell13_ k qm sm, cell8_ k qm sm, cell6_ k qm sm, cell15_ k qm sm, cell14_ k qm tm, cell12_ k qm tm, cell18_ k qm tm, cell17_ k qm tm, cell19_ k qm tm, cell21_ k qm tm, cell20_ k qm sm, cell16_ k qm sm, cell11_ k qm sm, cell10_ k qm sm, cell9_ k qm sm, cell7_ k qm sm] → va_S A s.heap H locs → lv_has ls 7 [(3, .int v30), (0, .ref (qm 0)), (1, .int p0), (2, .int p1)] → W p l e ({ frames := 2, cells := 0, slots := 0, locals := 46 } : Room) s m ([.ref (qm 0), .int p0, .int p1] : List Value).toArray below meth c H locs 0 0 Q (F0 m 109 ls [.int v102, .int v101]) := by
                intro v102 H locs ls bv102 hP hD hS hl
                refine lv_icmp_eq (tgt := 114) hx hb dX12_againstOf_109 (by decide) (fun c103 => ?_) (fun c103 => ?_)
                · have f103 : v101.toInt = v102.toInt := f_eq rfl rfl c103
                  exact hJ114  _ _ _  hP hD hS (lv_sub hl [0, 1, 2, 3] rfl)
                · have f103 : ¬ v101.toInt = v102.toInt := f_ne rfl rfl c103
                  refine lv_iload_n hx hb dX12_againstOf_112 rfl (lv_at hl 0 rfl) ?_
                  rw [hQ]
                  exact x_i cx hr () hP hD hS trivial dX12_againstOf_113
              refine lv_if_le (tgt := 108) hx hb dX12_againstOf_100 (by decide) (fun c104 => ?_) (fun c104 => ?_)
              · have f104 : v96.toInt ≤ 0 := f_le rfl (by decide) c104
                refine lv_iconst (v := 0) hx hb dX12_againstOf_108 (by decide) ?_
                have hlit105 : (0 : Int32).toInt = 0 := by decide
                exact hJ109 0 _ _ _ (by first | decide | omega) hP hD hS (lv_sub hl [1, 2, 3, 4] rfl)
              · have f104 : 0 < v96.toInt := f_nle rfl (by decide) c104
                refine lv_iload hx hb dX12_againstOf_103 (lv_at hl 0 rfl) ?_
                refine lv_goto (tgt := 109) hx hb dX12_againstOf_105 (by decide) ?_
                exact hJ109 v96 _ _ _ (by first | decide | omega) hP hD hS (lv_sub hl [1, 2, 3, 4] rfl)
            refine lv_icmp_ge (tgt := 80) hx hb dX12_againstOf_72 (by decide) (fun c106 => ?_) (fun c106 => ?_)
            · have f106 : v88.toInt ≤ v95.toInt := f_le rfl rfl c106
              refine lv_iload hx hb dX12_againstOf_80 (lv_at hl 1 rfl) ?_
              exact hJ82 v88 _ _ _ (by first | decide | omega) hP hD hS (lv_sub hl [2, 3, 4, 5] rfl)
            · have f106 : v95.toInt < v88.toInt := f_nle rfl rfl c106
              refine lv_iload hx hb dX12_againstOf_75 (lv_at hl 0 rfl) ?_
              refine lv_goto (tgt := 82) hx hb dX12_againstOf_77 (by decide) ?_
              exact hJ82 v95 _ _ _ (by first | decide | omega) hP hD hS (lv_sub hl [2, 3, 4, 5] rfl)
          refine lv_icmp_ge (tgt := 57) hx hb dX12_againstOf_49 (by decide) (fun c107 => ?_) (fun c107 => ?_)
          · have f107 : v91.toInt ≤ v82.toInt := f_le rfl rfl c107
            refine lv_aload_n hx hb dX12_againstOf_57 rfl (lv_at hl 3 rfl) ?_
            refine g_get cx hP iw_X12_againstOf_X12 0 rfl rfl 1 (by decide) rfl fw_X12_againstOf_13 rfl dX12_againstOf_58 ?_
            refine lv_bipush (v := 15) hx hb dX12_againstOf_61 (by decide) ?_
            refine lv_iload_n hx hb dX12_againstOf_63 rfl (lv_at hl 4 rfl) ?_
            refine lv_iadd hx hb dX12_againstOf_64 (lv_topi (fun v108 e108 => ?_))
            have t108 : v108.toInt = 15 + p0.toInt := by rw [e108]; exact i_add (by decide) rfl (by omega) (by omega)
            have hn109 : vp_in v108 26 := f_in (a := v108.toInt) rfl (by omega) (by omega)
            refine va_iald hx hb cx.2.1 hP 2 0 rfl rfl hn109 dX12_againstOf_65 (lv_topi (fun v110 e110 => ?_))
            exact hJ66 v110 _ _ _  hP hD hS (lv_sub hl [0, 2, 3, 4, 5] rfl)
          · have f107 : v82.toInt < v91.toInt := f_nle rfl rfl c107
            refine lv_iload hx hb dX12_againstOf_52 (lv_at hl 1 rfl) ?_
            refine lv_goto (tgt := 66) hx hb dX12_againstOf_54 (by decide) ?_
            exact hJ66 v82 _ _ _  hP hD hS (lv_sub hl [0, 2, 3, 4, 5] rfl)
  have hlit111 : (0 : Int32).toInt = 0 := by decide
  exact hL2 (Int.toNat (500 - 0) + 1) 0 _ _ _ (by omega) (by first | decide | omega) hP hD hS (lv_sub hl [0, 1, 2, 3] rfl)
theorem nd_X12_againstOf : yX12_againstOf.cls = RX12 ∧ yX12_againstOf.cls ≠ "java/lang/invoke/MethodHandle" ∧ yX12_againstOf.cls ≠ "java/lang/invoke/VarHandle" ∧ (parseMethodDescriptor yX12_againstOf.desc).map (fun d => d.parameters.length) = some 2 := by decide +kernel
set_option maxHeartbeats 4000000 in
set_option maxRecDepth 100000 in
theorem c_X12_shape (l : Launch) (D : va_G) (k : Nat → ClassId) (b : Nat → Nat) (qm : Nat → Nat) (sm : Nat → Nat → Int32) (tm : Nat → Nat → Int64) (sz : Nat) (p0 : Int32) (h_w0 : 0 ≤ (sm 2 0).toInt ∧ (sm 2 0).toInt ≤ 5) (h_k1 : 0 ≤ (sm 2 1).toInt ∧ (sm 2 1).toInt ≤ 4) : MetI l D k b yX12_shape wsX12_shape ({ frames := 6, cells := 0, slots := 0, locals := 157 } : Room) [cell22_ qm sm tm, cell5_ k qm sm, cell13_ k qm sm, cell8_ k qm sm, cell6_ k qm sm, cell15_ k qm sm, cell14_ k qm tm, cell12_ k qm tm, cell18_ k qm tm, cell17_ k qm tm, cell19_ k qm tm, cell21_ k qm tm, cell20_ k qm sm, cell16_ k qm sm, cell11_ k qm sm, cell10_ k qm sm, cell9_ k qm sm, cell7_ k qm sm] sz [.ref (qm 0), .int p0] (fun (r : Int32) (u : (Nat → Int64) × (Nat → Int64) × (Nat → Int32)) => True) (fun u => [cell22_ qm sm tm, cell5_ k qm sm, cell13_ k qm sm, cell8_ k qm sm, cell6_ k qm sm, cell15_ k qm sm, cell14_ k qm tm, cell12_ k qm tm, cell18_ k qm tm, cell17_ k qm tm, cell130_ k qm (u.1), cell122_ k qm (u.2.1), cell123_ k qm (u.2.2), cell16_ k qm sm, cell11_ k qm sm, cell10_ k qm sm, cell9_ k qm sm, cell7_ k qm sm]) := by
  refine g_enter (cc := cX12_shape) (maxL := 3) (ret := (some .int)) (by decide) rfl (Nat.le_of_ble_eq_true rfl) ?_
  intro p e s m below meth c A hsz hAe cx hr hP hD hS ls hl
  rw [hAe]
  refine g_q (fun Q hQ => ?_)
  have hx := cx.1.1
  have hb := cx.1.2.1
  have bp0 := i_rng p0
  have hl : lv_has ls 3 [(0, .ref (qm 0)), (1, .int p0)] := hl
  obtain ⟨H, eH⟩ : ∃ H : Heap, H = s.heap := ⟨_, rfl⟩
  obtain ⟨locs, el⟩ : ∃ L : List Loc, L = [] := ⟨_, rfl⟩
  have hP : va_P D vwCl [cell22_ qm sm tm, cell5_ k qm sm, cell13_ k qm sm, cell8_ k qm sm, cell6_ k qm sm, cell15_ k qm sm, cell14_ k qm tm, cell12_ k qm tm, cell18_ k qm tm, cell17_ k qm tm, cell19_ k qm tm, cell21_ k qm tm, cell20_ k qm sm, cell16_ k qm sm, cell11_ k qm sm, cell10_ k qm sm, cell9_ k qm sm, cell7_ k qm sm] H := by rw [eH]; exact hP
  have hD : va_D A [cell22_ qm sm tm, cell5_ k qm sm, cell13_ k qm sm, cell8_ k qm sm, cell6_ k qm sm, cell15_ k qm sm, cell14_ k qm tm, cell12_ k qm tm, cell18_ k qm tm, cell17_ k qm tm, cell19_ k qm tm, cell21_ k qm tm, cell20_ k qm sm, cell16_ k qm sm, cell11_ k qm sm, cell10_ k qm sm, cell9_ k qm sm, cell7_ k qm sm] := hD
  have hS : va_S A s.heap H locs := by rw [eH, el]; exact hS
  suffices goal : W p l e ({ frames := 6, cells := 0, slots := 0, locals := 157 } : Room) s m ([.ref (qm 0), .int p0] : List Value).toArray below meth c H locs 0 0 Q (F0 m 0 ls []) by rw [eH, el] at goal; exact goal
  refine lv_aload_n hx hb dX12_shape_0 rfl (lv_at hl 0 rfl) ?_
  refine lv_iload_n hx hb dX12_shape_1 rfl (lv_at hl 1 rfl) ?_
  refine g_iF (w1 := fun (_ : Unit) => [cell22_ qm sm tm, cell5_ k qm sm, cell13_ k qm sm, cell8_ k qm sm, cell6_ k qm sm, cell15_ k qm sm, cell14_ k qm tm, cell12_ k qm tm, cell18_ k qm tm, cell17_ k qm tm, cell19_ k qm tm, cell21_ k qm tm, cell20_ k qm sm, cell16_ k qm sm, cell11_ k qm sm, cell10_ k qm sm, cell9_ k qm sm, cell7_ k qm sm]) (g_runVF (ws := [cell22_ qm sm tm, cell5_ k qm sm, cell13_ k qm sm, cell8_ k qm sm, cell6_ k qm sm, cell15_ k qm sm, cell14_ k qm tm, cell12_ k qm tm, cell18_ k qm tm, cell17_ k qm tm, cell19_ k qm tm, cell21_ k qm tm, cell20_ k qm sm, cell16_ k qm sm, cell11_ k qm sm, cell10_ k qm sm, cell9_ k qm sm, cell7_ k qm sm]) (rest := []) cx hP hD hS [.int p0] (c_X12_isWeek l D k b qm sm tm H.size p0 (show 0 ≤ ((sm 2) 0).toInt ∧ ((sm 2) 0).toInt ≤ 5 from by first | decide | omega)) gX12_shape_X12_isWeek rfl rfl rfl nd_X12_isWeek ⟨Nat.le_of_ble_eq_true rfl, Nat.le_of_ble_eq_true rfl⟩ (ci := 10) (q0 := 0) rfl rfl rfl hl.1 rfl (Nat.le_of_ble_eq_true rfl) ⟨Nat.zero_le _, Nat.zero_le _⟩ dX12_shape_2) cx.2.2.1 hD hS (fun r2 _ H locs hw1 hP hD hS => ?_)
  replace hw1 : (0 ≤ r2.toInt ∧ r2.toInt ≤ 1) ∧ (Imp (r2.toInt = 1) (0 ≤ p0.toInt ∧ p0.toInt ≤ 4)) ∧ (r2 = J_X12_isWeek sm tm p0) := hw1
  obtain ⟨w3, w4, w5⟩ := hw1
  have k7 : r2 = (J_X12_isWeek sm tm p0) := congrArg (fun z => z) w5
  have zr2 : 0 ≤ r2.toInt ∧ r2.toInt ≤ 1 := w3
  refine lv_if_ne (tgt := 10) hx hb dX12_shape_5 (by decide) (fun c8 => ?_) (fun c8 => ?_)
  · have f8 : ¬ r2.toInt = 0 := f_ne rfl (by decide) c8
    have k8 : (0 ≤ p0.toInt ∧ p0.toInt ≤ 4) := w4 (by omega)
    refine lv_aload_n hx hb dX12_shape_10 rfl (lv_at hl 0 rfl) ?_
    refine lv_iload_n hx hb dX12_shape_11 rfl (lv_at hl 1 rfl) ?_
    refine g_vF (w1 := fun (u : (Nat → Int64) × (Nat → Int64) × (Nat → Int32)) => [cell22_ qm sm tm, cell5_ k qm sm, cell13_ k qm sm, cell8_ k qm sm, cell6_ k qm sm, cell15_ k qm sm, cell14_ k qm tm, cell12_ k qm tm, cell18_ k qm tm, cell17_ k qm tm, cell130_ k qm (u.1), cell122_ k qm (u.2.1), cell123_ k qm (u.2.2), cell16_ k qm sm, cell11_ k qm sm, cell10_ k qm sm, cell9_ k qm sm, cell7_ k qm sm]) (g_runVF (ws := [cell22_ qm sm tm, cell5_ k qm sm, cell13_ k qm sm, cell8_ k qm sm, cell6_ k qm sm, cell15_ k qm sm, cell14_ k qm tm, cell12_ k qm tm, cell18_ k qm tm, cell17_ k qm tm, cell19_ k qm tm, cell21_ k qm tm, cell20_ k qm sm, cell16_ k qm sm, cell11_ k qm sm, cell10_ k qm sm, cell9_ k qm sm, cell7_ k qm sm]) (rest := []) cx hP hD hS [.int p0] (c_X12_layBest l D k b qm sm tm H.size p0 (show 0 ≤ ((sm 2) 0).toInt ∧ ((sm 2) 0).toInt ≤ 5 from by first | decide | omega) (show 0 ≤ ((sm 2) 1).toInt ∧ ((sm 2) 1).toInt ≤ 4 from by first | decide | omega) (show 0 ≤ p0.toInt ∧ p0.toInt ≤ 4 from by first | decide | omega)) gX12_shape_X12_layBest rfl rfl rfl nd_X12_layBest ⟨Nat.le_of_ble_eq_true rfl, Nat.le_of_ble_eq_true rfl⟩ (ci := 10) (q0 := 0) rfl rfl rfl hl.1 rfl (Nat.le_of_ble_eq_true rfl) ⟨Nat.zero_le _, Nat.zero_le _⟩ dX12_shape_12) cx.2.2.1 hD hS (fun u10 H locs hw9 hP hD hS => ?_)
    obtain ⟨m11, m12, m13⟩ := u10
    have hP : va_P D vwCl [cell22_ qm sm tm, cell5_ k qm sm, cell13_ k qm sm, cell8_ k qm sm, cell6_ k qm sm, cell15_ k qm sm, cell14_ k qm tm, cell12_ k qm tm, cell18_ k qm tm, cell17_ k qm tm, (qm 10, .inl (k 1, 1500, .inr (.inl m11))), (qm 11, .inl (k 1, 1500, .inr (.inl m12))), (qm 12, .inl (k 0, 1500, .inl m13)), cell16_ k qm sm, cell11_ k qm sm, cell10_ k qm sm, cell9_ k qm sm, cell7_ k qm sm] H := hP
    have hD : va_D A [cell22_ qm sm tm, cell5_ k qm sm, cell13_ k qm sm, cell8_ k qm sm, cell6_ k qm sm, cell15_ k qm sm, cell14_ k qm tm, cell12_ k qm tm, cell18_ k qm tm, cell17_ k qm tm, (qm 10, .inl (k 1, 1500, .inr (.inl m11))), (qm 11, .inl (k 1, 1500, .inr (.inl m12))), (qm 12, .inl (k 0, 1500, .inl m13)), cell16_ k qm sm, cell11_ k qm sm, cell10_ k qm sm, cell9_ k qm sm, cell7_ k qm sm] := hD
    refine lv_iconst (v := 0) hx hb dX12_shape_15 (by decide) ?_
    refine lv_istore_n (lv' := [(2, .int 0), (0, .ref (qm 0)), (1, .int p0)]) hx hb dX12_shape_16 rfl hl (by decide) rfl (fun ls hl => ?_)
    have hL17 : ∀ (n18 : Nat) (v17 : Int32) (H : Heap) (locs : List Loc) (ls : Array Slot), 5 - v17.toInt < (n18 : Int) → (0 ≤ v17.toInt ∧ v17.toInt ≤ 5) → va_P D vwCl [cell22_ qm sm tm, cell5_ k qm sm, cell13_ k qm sm, cell8_ k qm sm, cell6_ k qm sm, cell15_ k qm sm, cell14_ k qm tm, cell12_ k qm tm, cell18_ k qm tm, cell17_ k qm tm, (qm 10, .inl (k 1, 1500, .inr (.inl m11))), (qm 11, .inl (k 1, 1500, .inr (.inl m12))), (qm 12, .inl (k 0, 1500, .inl m13)), cell16_ k qm sm, cell11_ k qm sm, cell10_ k qm sm, cell9_ k qm sm, cell7_ k qm sm] H → va_D A [cell22_ qm sm tm, cell5_ k qm sm, cell13_ k qm sm, cell8_ k qm sm, cell6_ k qm sm, cell15_ k qm sm, cell14_ k qm tm, cell12_ k qm tm, cell18_ k qm tm, cell17_ k qm tm, (qm 10, .inl (k 1, 1500, .inr (.inl m11))), (qm 11, .inl (k 1, 1500, .inr (.inl m12))), (qm 12, .inl (k 0, 1500, .inl m13)), cell16_ k qm sm, cell11_ k qm sm, cell10_ k qm sm, cell9_ k qm sm, cell7_ k qm sm] → va_S A s.heap H locs → lv_has ls 3 [(2, .int v17), (0, .ref (qm 0)), (1, .int p0)] → W p l e ({ frames := 6, cells := 0, slots := 0, locals := 157 } : Room) s m ([.ref (qm 0), .int p0] : List Value).toArray below meth c H locs 0 0 Q (F0 m 17 ls []) := by
      intro n18
      induction n18 with
      | zero => intro v17 H locs ls hmn18 bv17 hP hD hS hl; exact absurd hmn18 (by omega)
      | succ n18 ih17 =>
        intro v17 H locs ls hmn18 bv17 hP hD hS hl
        refine lv_iload_n hx hb dX12_shape_17 rfl (lv_at hl 0 rfl) ?_
        refine lv_iconst (v := 5) hx hb dX12_shape_18 (by decide) ?_
        refine lv_icmp_ge (tgt := 41) hx hb dX12_shape_19 (by decide) (fun c19 => ?_) (fun c19 => ?_)
        · have f19 : 5 ≤ v17.toInt := f_le (by decide) rfl c19
          refine lv_bipush (v := (-9)) hx hb dX12_shape_41 (by decide) ?_
          have hlit20 : ((-9) : Int32).toInt = -9 := by decide
          rw [hQ]
          exact x_i cx hr (m11, m12, m13) hP hD hS trivial dX12_shape_43
        · have f19 : v17.toInt < 5 := f_nle (by decide) rfl c19
          refine lv_aload_n hx hb dX12_shape_22 rfl (lv_at hl 1 rfl) ?_
          refine lv_iload_n hx hb dX12_shape_23 rfl (lv_at hl 2 rfl) ?_
          refine lv_iload_n hx hb dX12_shape_24 rfl (lv_at hl 0 rfl) ?_
          refine g_iF (w1 := fun (_ : Unit) => [cell22_ qm sm tm, cell5_ k qm sm, cell13_ k qm sm, cell8_ k qm sm, cell6_ k qm sm, cell15_ k qm sm, cell14_ k qm tm, cell12_ k qm tm, cell18_ k qm tm, cell17_ k qm tm, (qm 10, .inl (k 1, 1500, .inr (.inl m11))), (qm 11, .inl (k 1, 1500, .inr (.inl m12))), (qm 12, .inl (k 0, 1500, .inl m13)), cell16_ k qm sm, cell11_ k qm sm, cell10_ k qm sm, cell9_ k qm sm, cell7_ k qm sm]) (g_runVF (ws := [cell22_ qm sm tm, cell5_ k qm sm, cell13_ k qm sm, cell8_ k qm sm, cell6_ k qm sm, cell15_ k qm sm, cell14_ k qm tm, cell12_ k qm tm, cell18_ k qm tm, cell17_ k qm tm, (qm 10, .inl (k 1, 1500, .inr (.inl m11))), (qm 11, .inl (k 1, 1500, .inr (.inl m12))), (qm 12, .inl (k 0, 1500, .inl m13)), cell16_ k qm sm, cell11_ k qm sm, cell10_ k qm sm, cell9_ k qm sm, cell7_ k qm sm]) (rest := []) cx hP hD hS [.int p0, .int v17] (c_X12_againstOf l D k b qm (up2 sm 12 m13) (up2L (up2L tm 10 m11) 11 m12) H.size p0 v17 (show 0 ≤ ((sm 2) 1).toInt ∧ ((sm 2) 1).toInt ≤ 4 from by first | decide | omega) (show 0 ≤ p0.toInt ∧ p0.toInt ≤ 4 from by first | decide | omega)) gX12_shape_X12_againstOf rfl rfl rfl nd_X12_againstOf ⟨Nat.le_of_ble_eq_true rfl, Nat.le_of_ble_eq_true rfl⟩ (ci := 10) (q0 := 0) rfl rfl rfl hl.1 rfl (Nat.le_of_ble_eq_true rfl) ⟨Nat.zero_le _, Nat.zero_le _⟩ dX12_shape_25) cx.2.2.1 hD hS (fun r22 _ H locs hw21 hP hD hS => ?_)
          refine lv_bipush (v := (-9)) hx hb dX12_shape_28 (by decide) ?_
          refine lv_icmp_ne (tgt := 35) hx hb dX12_shape_30 (by decide) (fun c23 => ?_) (fun c23 => ?_)
          · have f23 : ¬ r22.toInt = (-9) := f_ne rfl (by decide) c23
            obtain ⟨v24, e24⟩ : ∃ z : Int32, z = v17 + 1 := ⟨_, rfl⟩
            refine lv_iinc (v := v24) (lv' := [(2, .int v24), (0, .ref (qm 0)), (1, .int p0)]) hx hb dX12_shape_35 hl (k := 0) rfl (by rw [e24]; rfl) (by decide) rfl (fun ls hl => ?_)
            have t24 : v24.toInt = v17.toInt + 1 := by rw [e24]; exact i_add rfl (by decide) (by omega) (by omega)
            refine lv_goto (tgt := 17) hx hb dX12_shape_38 (by decide) ?_
            exact ih17 v24 _ _ _ (by omega) (by first | decide | omega) hP hD hS (lv_sub hl [0, 1, 2] rfl)
          · have f23 : r22.toInt = (-9) := f_eq rfl (by decide) c23
            refine lv_iload_n hx hb dX12_shape_33 rfl (lv_at hl 0 rfl) ?_
            rw [hQ]
            exact x_i cx hr (m11, m12, m13) hP hD hS trivial dX12_shape_34
    have hlit25 : (0 : Int32).toInt = 0 := by decide
    exact hL17 (Int.toNat (5 - 0) + 1) 0 _ _ _ (by omega) (by first | decide | omega) hP hD hS (lv_sub hl [0, 1, 2] rfl)
  · have f8 : r2.toInt = 0 := f_eq rfl (by decide) c8
    refine lv_iconst (v := (-1)) hx hb dX12_shape_8 (by decide) ?_
    have hlit26 : ((-1) : Int32).toInt = -1 := by decide
    rw [hQ]
    exact x_i cx hr ((tm 10), (tm 11), (sm 12)) hP hD hS trivial dX12_shape_9
theorem kJ_X12_against_69 : Cond.constantLong RX12 69 (4) ∈ wsX12_against := by decide +kernel
set_option maxHeartbeats 4000000 in
set_option maxRecDepth 100000 in
theorem c_X12_against (l : Launch) (D : va_G) (k : Nat → ClassId) (b : Nat → Nat) (qm : Nat → Nat) (sm : Nat → Nat → Int32) (tm : Nat → Nat → Int64) (sz : Nat) (p0 : Int32) (p1 : Int32) (h_w0 : 0 ≤ (sm 2 0).toInt ∧ (sm 2 0).toInt ≤ 5) (h_k1 : 0 ≤ (sm 2 1).toInt ∧ (sm 2 1).toInt ≤ 4) : MetI l D k b yX12_against wsX12_against ({ frames := 6, cells := 0, slots := 0, locals := 157 } : Room) [cell22_ qm sm tm, cell5_ k qm sm, cell13_ k qm sm, cell8_ k qm sm, cell6_ k qm sm, cell15_ k qm sm, cell14_ k qm tm, cell12_ k qm tm, cell18_ k qm tm, cell17_ k qm tm, cell19_ k qm tm, cell21_ k qm tm, cell20_ k qm sm, cell16_ k qm sm, cell11_ k qm sm, cell10_ k qm sm, cell9_ k qm sm, cell7_ k qm sm] sz [.ref (qm 0), .int p0, .int p1] (fun (r : Int32) (u : (Nat → Int64) × (Nat → Int64) × (Nat → Int32)) => True) (fun u => [cell22_ qm sm tm, cell5_ k qm sm, cell13_ k qm sm, cell8_ k qm sm, cell6_ k qm sm, cell15_ k qm sm, cell14_ k qm tm, cell12_ k qm tm, cell18_ k qm tm, cell17_ k qm tm, cell130_ k qm (u.1), cell122_ k qm (u.2.1), cell123_ k qm (u.2.2), cell16_ k qm sm, cell11_ k qm sm, cell10_ k qm sm, cell9_ k qm sm, cell7_ k qm sm]) := by
  refine g_enter (cc := cX12_against) (maxL := 3) (ret := (some .int)) (by decide) rfl (Nat.le_of_ble_eq_true rfl) ?_
  intro p e s m below meth c A hsz hAe cx hr hP hD hS ls hl
  rw [hAe]
  refine g_q (fun Q hQ => ?_)
  have hx := cx.1.1
  have hb := cx.1.2.1
  have bp0 := i_rng p0
  have bp1 := i_rng p1
  have hl : lv_has ls 3 [(0, .ref (qm 0)), (1, .int p0), (2, .int p1)] := hl
  obtain ⟨H, eH⟩ : ∃ H : Heap, H = s.heap := ⟨_, rfl⟩
  obtain ⟨locs, el⟩ : ∃ L : List Loc, L = [] := ⟨_, rfl⟩
  have hP : va_P D vwCl [cell22_ qm sm tm, cell5_ k qm sm, cell13_ k qm sm, cell8_ k qm sm, cell6_ k qm sm, cell15_ k qm sm, cell14_ k qm tm, cell12_ k qm tm, cell18_ k qm tm, cell17_ k qm tm, cell19_ k qm tm, cell21_ k qm tm, cell20_ k qm sm, cell16_ k qm sm, cell11_ k qm sm, cell10_ k qm sm, cell9_ k qm sm, cell7_ k qm sm] H := by rw [eH]; exact hP
  have hD : va_D A [cell22_ qm sm tm, cell5_ k qm sm, cell13_ k qm sm, cell8_ k qm sm, cell6_ k qm sm, cell15_ k qm sm, cell14_ k qm tm, cell12_ k qm tm, cell18_ k qm tm, cell17_ k qm tm, cell19_ k qm tm, cell21_ k qm tm, cell20_ k qm sm, cell16_ k qm sm, cell11_ k qm sm, cell10_ k qm sm, cell9_ k qm sm, cell7_ k qm sm] := hD
  have hS : va_S A s.heap H locs := by rw [eH, el]; exact hS
  suffices goal : W p l e ({ frames := 6, cells := 0, slots := 0, locals := 157 } : Room) s m ([.ref (qm 0), .int p0, .int p1] : List Value).toArray below meth c H locs 0 0 Q (F0 m 0 ls []) by rw [eH, el] at goal; exact goal
  refine lv_aload_n hx hb dX12_against_0 rfl (lv_at hl 0 rfl) ?_
  refine lv_iload_n hx hb dX12_against_1 rfl (lv_at hl 1 rfl) ?_
  refine g_iF (w1 := fun (_ : Unit) => [cell22_ qm sm tm, cell5_ k qm sm, cell13_ k qm sm, cell8_ k qm sm, cell6_ k qm sm, cell15_ k qm sm, cell14_ k qm tm, cell12_ k qm tm, cell18_ k qm tm, cell17_ k qm tm, cell19_ k qm tm, cell21_ k qm tm, cell20_ k qm sm, cell16_ k qm sm, cell11_ k qm sm, cell10_ k qm sm, cell9_ k qm sm, cell7_ k qm sm]) (g_runVF (ws := [cell22_ qm sm tm, cell5_ k qm sm, cell13_ k qm sm, cell8_ k qm sm, cell6_ k qm sm, cell15_ k qm sm, cell14_ k qm tm, cell12_ k qm tm, cell18_ k qm tm, cell17_ k qm tm, cell19_ k qm tm, cell21_ k qm tm, cell20_ k qm sm, cell16_ k qm sm, cell11_ k qm sm, cell10_ k qm sm, cell9_ k qm sm, cell7_ k qm sm]) (rest := []) cx hP hD hS [.int p0] (c_X12_isWeek l D k b qm sm tm H.size p0 (show 0 ≤ ((sm 2) 0).toInt ∧ ((sm 2) 0).toInt ≤ 5 from by first | decide | omega)) gX12_against_X12_isWeek rfl rfl rfl nd_X12_isWeek ⟨Nat.le_of_ble_eq_true rfl, Nat.le_of_ble_eq_true rfl⟩ (ci := 10) (q0 := 0) rfl rfl rfl hl.1 rfl (Nat.le_of_ble_eq_true rfl) ⟨Nat.zero_le _, Nat.zero_le _⟩ dX12_against_2) cx.2.2.1 hD hS (fun r2 _ H locs hw1 hP hD hS => ?_)
  replace hw1 : (0 ≤ r2.toInt ∧ r2.toInt ≤ 1) ∧ (Imp (r2.toInt = 1) (0 ≤ p0.toInt ∧ p0.toInt ≤ 4)) ∧ (r2 = J_X12_isWeek sm tm p0) := hw1
  obtain ⟨w3, w4, w5⟩ := hw1
  have k7 : r2 = (J_X12_isWeek sm tm p0) := congrArg (fun z => z) w5
  have zr2 : 0 ≤ r2.toInt ∧ r2.toInt ≤ 1 := w3
  refine lv_if_ne (tgt := 10) hx hb dX12_against_5 (by decide) (fun c8 => ?_) (fun c8 => ?_)
  · have f8 : ¬ r2.toInt = 0 := f_ne rfl (by decide) c8
    have k8 : (0 ≤ p0.toInt ∧ p0.toInt ≤ 4) := w4 (by omega)
    refine lv_iload_n hx hb dX12_against_10 rfl (lv_at hl 2 rfl) ?_
    obtain ⟨v9, e9⟩ : ∃ z : Int64, z = (p1 : Int32).toInt64 := ⟨_, rfl⟩
    refine lv_i2l (v := v9) hx hb dX12_against_11 e9.symm ?_
    refine lv_lconst (v := 0) hx hb dX12_against_12 (by decide) ?_
    refine lv_ldc2 (v := 4) hx hb cx.1.2.2.2.1 (cx.1.2.2.2.2 _ kJ_X12_against_69) dX12_against_13 ?_
    refine g_ir (g_runS (wc := []) (rest := []) cx hP hD hS [] rfl (by decide) [.long v9, .long 0, .long 4] (c_X12_in l D k b H.size v9 0 4) gX12_against_X12_in rfl rfl rfl nd_X12_in ⟨Nat.le_of_ble_eq_true rfl, Nat.le_of_ble_eq_true rfl⟩ rfl hl.1 rfl (Nat.le_of_ble_eq_true rfl) ⟨Nat.zero_le _, Nat.zero_le _⟩ dX12_against_16) cx.2.2.1 hP hD hS [] rfl rfl (fun r11 H locs hw10 hP hS => ?_)
    have w12 : r11 = J_X12_in v9 (0 : Int64) (4 : Int64) := hw10
    clear hw10
    have zr11 := in_b w12
    refine lv_if_ne (tgt := 25) hx hb dX12_against_19 (by decide) (fun c13 => ?_) (fun c13 => ?_)
    · have f13 : ¬ r11.toInt = 0 := f_ne rfl (by decide) c13
      have k13 : 0 ≤ p1.toInt ∧ p1.toInt ≤ 4 := in_t (i2l_t rfl e9) (by decide) (by decide) w12 c13
      refine lv_aload_n hx hb dX12_against_25 rfl (lv_at hl 0 rfl) ?_
      refine lv_iload_n hx hb dX12_against_26 rfl (lv_at hl 1 rfl) ?_
      refine g_vF (w1 := fun (u : (Nat → Int64) × (Nat → Int64) × (Nat → Int32)) => [cell22_ qm sm tm, cell5_ k qm sm, cell13_ k qm sm, cell8_ k qm sm, cell6_ k qm sm, cell15_ k qm sm, cell14_ k qm tm, cell12_ k qm tm, cell18_ k qm tm, cell17_ k qm tm, cell130_ k qm (u.1), cell122_ k qm (u.2.1), cell123_ k qm (u.2.2), cell16_ k qm sm, cell11_ k qm sm, cell10_ k qm sm, cell9_ k qm sm, cell7_ k qm sm]) (g_runVF (ws := [cell22_ qm sm tm, cell5_ k qm sm, cell13_ k qm sm, cell8_ k qm sm, cell6_ k qm sm, cell15_ k qm sm, cell14_ k qm tm, cell12_ k qm tm, cell18_ k qm tm, cell17_ k qm tm, cell19_ k qm tm, cell21_ k qm tm, cell20_ k qm sm, cell16_ k qm sm, cell11_ k qm sm, cell10_ k qm sm, cell9_ k qm sm, cell7_ k qm sm]) (rest := []) cx hP hD hS [.int p0] (c_X12_layBest l D k b qm sm tm H.size p0 (show 0 ≤ ((sm 2) 0).toInt ∧ ((sm 2) 0).toInt ≤ 5 from by first | decide | omega) (show 0 ≤ ((sm 2) 1).toInt ∧ ((sm 2) 1).toInt ≤ 4 from by first | decide | omega) (show 0 ≤ p0.toInt ∧ p0.toInt ≤ 4 from by first | decide | omega)) gX12_against_X12_layBest rfl rfl rfl nd_X12_layBest ⟨Nat.le_of_ble_eq_true rfl, Nat.le_of_ble_eq_true rfl⟩ (ci := 10) (q0 := 0) rfl rfl rfl hl.1 rfl (Nat.le_of_ble_eq_true rfl) ⟨Nat.zero_le _, Nat.zero_le _⟩ dX12_against_27) cx.2.2.1 hD hS (fun u15 H locs hw14 hP hD hS => ?_)
      obtain ⟨m16, m17, m18⟩ := u15
      have hP : va_P D vwCl [cell22_ qm sm tm, cell5_ k qm sm, cell13_ k qm sm, cell8_ k qm sm, cell6_ k qm sm, cell15_ k qm sm, cell14_ k qm tm, cell12_ k qm tm, cell18_ k qm tm, cell17_ k qm tm, (qm 10, .inl (k 1, 1500, .inr (.inl m16))), (qm 11, .inl (k 1, 1500, .inr (.inl m17))), (qm 12, .inl (k 0, 1500, .inl m18)), cell16_ k qm sm, cell11_ k qm sm, cell10_ k qm sm, cell9_ k qm sm, cell7_ k qm sm] H := hP
      have hD : va_D A [cell22_ qm sm tm, cell5_ k qm sm, cell13_ k qm sm, cell8_ k qm sm, cell6_ k qm sm, cell15_ k qm sm, cell14_ k qm tm, cell12_ k qm tm, cell18_ k qm tm, cell17_ k qm tm, (qm 10, .inl (k 1, 1500, .inr (.inl m16))), (qm 11, .inl (k 1, 1500, .inr (.inl m17))), (qm 12, .inl (k 0, 1500, .inl m18)), cell16_ k qm sm, cell11_ k qm sm, cell10_ k qm sm, cell9_ k qm sm, cell7_ k qm sm] := hD
      refine lv_aload_n hx hb dX12_against_30 rfl (lv_at hl 0 rfl) ?_
      refine lv_iload_n hx hb dX12_against_31 rfl (lv_at hl 1 rfl) ?_
      refine lv_iload_n hx hb dX12_against_32 rfl (lv_at hl 2 rfl) ?_
      refine g_iF (w1 := fun (_ : Unit) => [cell22_ qm sm tm, cell5_ k qm sm, cell13_ k qm sm, cell8_ k qm sm, cell6_ k qm sm, cell15_ k qm sm, cell14_ k qm tm, cell12_ k qm tm, cell18_ k qm tm, cell17_ k qm tm, (qm 10, .inl (k 1, 1500, .inr (.inl m16))), (qm 11, .inl (k 1, 1500, .inr (.inl m17))), (qm 12, .inl (k 0, 1500, .inl m18)), cell16_ k qm sm, cell11_ k qm sm, cell10_ k qm sm, cell9_ k qm sm, cell7_ k qm sm]) (g_runVF (ws := [cell22_ qm sm tm, cell5_ k qm sm, cell13_ k qm sm, cell8_ k qm sm, cell6_ k qm sm, cell15_ k qm sm, cell14_ k qm tm, cell12_ k qm tm, cell18_ k qm tm, cell17_ k qm tm, (qm 10, .inl (k 1, 1500, .inr (.inl m16))), (qm 11, .inl (k 1, 1500, .inr (.inl m17))), (qm 12, .inl (k 0, 1500, .inl m18)), cell16_ k qm sm, cell11_ k qm sm, cell10_ k qm sm, cell9_ k qm sm, cell7_ k qm sm]) (rest := []) cx hP hD hS [.int p0, .int p1] (c_X12_againstOf l D k b qm (up2 sm 12 m18) (up2L (up2L tm 10 m16) 11 m17) H.size p0 p1 (show 0 ≤ ((sm 2) 1).toInt ∧ ((sm 2) 1).toInt ≤ 4 from by first | decide | omega) (show 0 ≤ p0.toInt ∧ p0.toInt ≤ 4 from by first | decide | omega)) gX12_against_X12_againstOf rfl rfl rfl nd_X12_againstOf ⟨Nat.le_of_ble_eq_true rfl, Nat.le_of_ble_eq_true rfl⟩ (ci := 10) (q0 := 0) rfl rfl rfl hl.1 rfl (Nat.le_of_ble_eq_true rfl) ⟨Nat.zero_le _, Nat.zero_le _⟩ dX12_against_33) cx.2.2.1 hD hS (fun r20 _ H locs hw19 hP hD hS => ?_)
      rw [hQ]
      exact x_i cx hr (m16, m17, m18) hP hD hS trivial dX12_against_36
    · have f13 : r11.toInt = 0 := f_eq rfl (by decide) c13
      have k13 : p1.toInt < 0 ∨ 4 < p1.toInt := in_f (i2l_t rfl e9) (by decide) (by decide) w12 c13
      refine lv_bipush (v := (-2)) hx hb dX12_against_22 (by decide) ?_
      have hlit21 : ((-2) : Int32).toInt = -2 := by decide
      rw [hQ]
      exact x_i cx hr ((tm 10), (tm 11), (sm 12)) hP hD hS trivial dX12_against_24
  · have f8 : r2.toInt = 0 := f_eq rfl (by decide) c8
    refine lv_iconst (v := (-1)) hx hb dX12_against_8 (by decide) ?_
    have hlit22 : ((-1) : Int32).toInt = -1 := by decide
    rw [hQ]
    exact x_i cx hr ((tm 10), (tm 11), (sm 12)) hP hD hS trivial dX12_against_9
/-- four places changed and laid back -/
theorem rest8 {f g1 g2 g3 g4 g5 g6 g7 g8 : Nat → Int32} {a b c d x y z w : Int32} (e1 : g1 = upd f (4 : Int32).toNatClampNeg a) (e2 : g2 = upd g1 (5 : Int32).toNatClampNeg b) (e3 : g3 = upd g2 (6 : Int32).toNatClampNeg c) (e4 : g4 = upd g3 (7 : Int32).toNatClampNeg d) (e5 : g5 = upd g4 (4 : Int32).toNatClampNeg x) (e6 : g6 = upd g5 (5 : Int32).toNatClampNeg y) (e7 : g7 = upd g6 (6 : Int32).toNatClampNeg z) (e8 : g8 = upd g7 (7 : Int32).toNatClampNeg w) (hx : x = f (4 : Int32).toNatClampNeg) (hy : y = f (5 : Int32).toNatClampNeg) (hz : z = f (6 : Int32).toNatClampNeg) (hw : w = f (7 : Int32).toNatClampNeg) : g8 = f := by
  have n4 : (4 : Int32).toNatClampNeg = 4 := by decide
  have n5 : (5 : Int32).toNatClampNeg = 5 := by decide
  have n6 : (6 : Int32).toNatClampNeg = 6 := by decide
  have n7 : (7 : Int32).toNatClampNeg = 7 := by decide
  rw [n4] at e1 e5 hx
  rw [n5] at e2 e6 hy
  rw [n6] at e3 e7 hz
  rw [n7] at e4 e8 hw
  funext j
  by_cases q7 : j = 7
  · rw [e8, q7, pk_us, hw]
  · by_cases q6 : j = 6
    · rw [e8, pk_un q7, e7, q6, pk_us, hz]
    · by_cases q5 : j = 5
      · rw [e8, pk_un q7, e7, pk_un q6, e6, q5, pk_us, hy]
      · by_cases q4 : j = 4
        · rw [e8, pk_un q7, e7, pk_un q6, e6, pk_un q5, e5, q4, pk_us, hx]
        · rw [e8, pk_un q7, e7, pk_un q6, e6, pk_un q5, e5, pk_un q4, e4, pk_un q7, e3, pk_un q6, e2, pk_un q5, e1, pk_un q4]
theorem fw_X12_without_13 : Cond.fieldLink RX12 13 "StillInAugustModel" "house" "[I" ∈ wsX12_without := by decide +kernel
theorem fw_X12_without_38 : Cond.fieldLink RX12 38 "StillInAugustModel" "bests" "[J" ∈ wsX12_without := by decide +kernel
theorem kJ_X12_without_206 : Cond.constantLong RX12 206 (-2) ∈ wsX12_without := by decide +kernel
theorem kJ_X12_without_77 : Cond.constantLong RX12 77 (15) ∈ wsX12_without := by decide +kernel
theorem iw_X12_without_X12 : ∀ w ∈ u_ws RX12 TX12 33, w ∈ wsX12_without := fun _ h => List.mem_cons_of_mem _ (List.mem_append_right _ h)
set_option maxHeartbeats 4000000 in
set_option maxRecDepth 100000 in
theorem c_X12_without (l : Launch) (D : va_G) (k : Nat → ClassId) (b : Nat → Nat) (qm : Nat → Nat) (sm : Nat → Nat → Int32) (tm : Nat → Nat → Int64) (sz : Nat) (p0 : Int32) (p1 : Int32) (h_w0 : 0 ≤ (sm 2 0).toInt ∧ (sm 2 0).toInt ≤ 5) (h_k1 : 0 ≤ (sm 2 1).toInt ∧ (sm 2 1).toInt ≤ 4) : MetL l D k b yX12_without wsX12_without ({ frames := 6, cells := 0, slots := 0, locals := 157 } : Room) [cell22_ qm sm tm, cell5_ k qm sm, cell13_ k qm sm, cell8_ k qm sm, cell6_ k qm sm, cell15_ k qm sm, cell14_ k qm tm, cell12_ k qm tm, cell18_ k qm tm, cell17_ k qm tm, cell19_ k qm tm, cell21_ k qm tm, cell20_ k qm sm, cell16_ k qm sm, cell11_ k qm sm, cell10_ k qm sm, cell9_ k qm sm, cell7_ k qm sm] sz [.ref (qm 0), .int p0, .int p1] (fun (r : Int64) (u : (Nat → Int64) × (Nat → Int64) × (Nat → Int32) × (Nat → Int32)) => (0 ≤ ((u.2.2.2) 0).toInt ∧ ((u.2.2.2) 0).toInt ≤ 5) ∧ (0 ≤ ((u.2.2.2) 1).toInt ∧ ((u.2.2.2) 1).toInt ≤ 4) ∧ ((u.2.2.2) = (sm 2))) (fun u => [cell22_ qm sm tm, cell5_ k qm sm, cell199_ k qm (u.2.2.2), cell8_ k qm sm, cell6_ k qm sm, cell15_ k qm sm, cell14_ k qm tm, cell12_ k qm tm, cell18_ k qm tm, cell17_ k qm tm, cell130_ k qm (u.1), cell122_ k qm (u.2.1), cell123_ k qm (u.2.2.1), cell16_ k qm sm, cell11_ k qm sm, cell10_ k qm sm, cell9_ k qm sm, cell7_ k qm sm]) := by
  refine g_enter (cc := cX12_without) (maxL := 7) (ret := (some .long)) (by decide) rfl (Nat.le_of_ble_eq_true rfl) ?_
  intro p e s m below meth c A hsz hAe cx hr hP hD hS ls hl
  rw [hAe]
  refine g_q (fun Q hQ => ?_)
  have hx := cx.1.1
  have hb := cx.1.2.1
  have bp0 := i_rng p0
  have bp1 := i_rng p1
  have hl : lv_has ls 7 [(0, .ref (qm 0)), (1, .int p0), (2, .int p1)] := hl
  obtain ⟨H, eH⟩ : ∃ H : Heap, H = s.heap := ⟨_, rfl⟩
  obtain ⟨locs, el⟩ : ∃ L : List Loc, L = [] := ⟨_, rfl⟩
  have hP : va_P D vwCl [cell22_ qm sm tm, cell5_ k qm sm, cell13_ k qm sm, cell8_ k qm sm, cell6_ k qm sm, cell15_ k qm sm, cell14_ k qm tm, cell12_ k qm tm, cell18_ k qm tm, cell17_ k qm tm, cell19_ k qm tm, cell21_ k qm tm, cell20_ k qm sm, cell16_ k qm sm, cell11_ k qm sm, cell10_ k qm sm, cell9_ k qm sm, cell7_ k qm sm] H := by rw [eH]; exact hP
  have hD : va_D A [cell22_ qm sm tm, cell5_ k qm sm, cell13_ k qm sm, cell8_ k qm sm, cell6_ k qm sm, cell15_ k qm sm, cell14_ k qm tm, cell12_ k qm tm, cell18_ k qm tm, cell17_ k qm tm, cell19_ k qm tm, cell21_ k qm tm, cell20_ k qm sm, cell16_ k qm sm, cell11_ k qm sm, cell10_ k qm sm, cell9_ k qm sm, cell7_ k qm sm] := hD
  have hS : va_S A s.heap H locs := by rw [eH, el]; exact hS
  suffices goal : W p l e ({ frames := 6, cells := 0, slots := 0, locals := 157 } : Room) s m ([.ref (qm 0), .int p0, .int p1] : List Value).toArray below meth c H locs 0 0 Q (F0 m 0 ls []) by rw [eH, el] at goal; exact goal
  refine lv_iload_n hx hb dX12_without_0 rfl (lv_at hl 1 rfl) ?_
  obtain ⟨v1, e1⟩ : ∃ z : Int64, z = (p0 : Int32).toInt64 := ⟨_, rfl⟩
  refine lv_i2l (v := v1) hx hb dX12_without_1 e1.symm ?_
  refine lv_lconst (v := 0) hx hb dX12_without_2 (by decide) ?_
  refine lv_ldc2 (v := 15) hx hb cx.1.2.2.2.1 (cx.1.2.2.2.2 _ kJ_X12_without_77) dX12_without_3 ?_
  refine g_ir (g_runS (wc := []) (rest := []) cx hP hD hS [] rfl (by decide) [.long v1, .long 0, .long 15] (c_X12_in l D k b H.size v1 0 15) gX12_without_X12_in rfl rfl rfl nd_X12_in ⟨Nat.le_of_ble_eq_true rfl, Nat.le_of_ble_eq_true rfl⟩ rfl hl.1 rfl (Nat.le_of_ble_eq_true rfl) ⟨Nat.zero_le _, Nat.zero_le _⟩ dX12_without_6) cx.2.2.1 hP hD hS [] rfl rfl (fun r3 H locs hw2 hP hS => ?_)
  have w4 : r3 = J_X12_in v1 (0 : Int64) (15 : Int64) := hw2
  clear hw2
  have zr3 := in_b w4
  refine lv_if_ne (tgt := 16) hx hb dX12_without_9 (by decide) (fun c5 => ?_) (fun c5 => ?_)
  · have f5 : ¬ r3.toInt = 0 := f_ne rfl (by decide) c5
    have k5 : 0 ≤ p0.toInt ∧ p0.toInt ≤ 15 := in_t (i2l_t rfl e1) (by decide) (by decide) w4 c5
    refine lv_aload_n hx hb dX12_without_16 rfl (lv_at hl 0 rfl) ?_
    refine g_get cx hP iw_X12_without_X12 0 rfl rfl 1 (by decide) rfl fw_X12_without_13 rfl dX12_without_17 ?_
    refine lv_iconst (v := 4) hx hb dX12_without_20 (by decide) ?_
    have hn6 : vp_in 4 26 := f_in (a := 4) (by decide) (by omega) (by omega)
    refine va_iald hx hb cx.2.1 hP 2 0 rfl rfl hn6 dX12_without_21 (lv_topi (fun v7 e7 => ?_))
    have uv7 : v7.toInt = ((sm 2) 4).toInt := congrArg Int32.toInt e7
    refine lv_istore_n (lv' := [(3, .int v7), (0, .ref (qm 0)), (1, .int p0), (2, .int p1)]) hx hb dX12_without_22 rfl hl (by decide) rfl (fun ls hl => ?_)
    refine lv_aload_n hx hb dX12_without_23 rfl (lv_at hl 1 rfl) ?_
    refine g_get cx hP iw_X12_without_X12 0 rfl rfl 1 (by decide) rfl fw_X12_without_13 rfl dX12_without_24 ?_
    refine lv_iconst (v := 5) hx hb dX12_without_27 (by decide) ?_
    have hn8 : vp_in 5 26 := f_in (a := 5) (by decide) (by omega) (by omega)
    refine va_iald hx hb cx.2.1 hP 2 0 rfl rfl hn8 dX12_without_28 (lv_topi (fun v9 e9 => ?_))
    have uv9 : v9.toInt = ((sm 2) 5).toInt := congrArg Int32.toInt e9
    refine lv_istore (lv' := [(4, .int v9), (3, .int v7), (0, .ref (qm 0)), (1, .int p0), (2, .int p1)]) hx hb dX12_without_29 hl (by decide) rfl (fun ls hl => ?_)
    refine lv_aload_n hx hb dX12_without_31 rfl (lv_at hl 2 rfl) ?_
    refine g_get cx hP iw_X12_without_X12 0 rfl rfl 1 (by decide) rfl fw_X12_without_13 rfl dX12_without_32 ?_
    refine lv_bipush (v := 6) hx hb dX12_without_35 (by decide) ?_
    have hn10 : vp_in 6 26 := f_in (a := 6) (by decide) (by omega) (by omega)
    refine va_iald hx hb cx.2.1 hP 2 0 rfl rfl hn10 dX12_without_37 (lv_topi (fun v11 e11 => ?_))
    have uv11 : v11.toInt = ((sm 2) 6).toInt := congrArg Int32.toInt e11
    refine lv_istore (lv' := [(5, .int v11), (4, .int v9), (3, .int v7), (0, .ref (qm 0)), (1, .int p0), (2, .int p1)]) hx hb dX12_without_38 hl (by decide) rfl (fun ls hl => ?_)
    refine lv_aload_n hx hb dX12_without_40 rfl (lv_at hl 3 rfl) ?_
    refine g_get cx hP iw_X12_without_X12 0 rfl rfl 1 (by decide) rfl fw_X12_without_13 rfl dX12_without_41 ?_
    refine lv_bipush (v := 7) hx hb dX12_without_44 (by decide) ?_
    have hn12 : vp_in 7 26 := f_in (a := 7) (by decide) (by omega) (by omega)
    refine va_iald hx hb cx.2.1 hP 2 0 rfl rfl hn12 dX12_without_46 (lv_topi (fun v13 e13 => ?_))
    have uv13 : v13.toInt = ((sm 2) 7).toInt := congrArg Int32.toInt e13
    refine lv_istore (lv' := [(6, .int v13), (5, .int v11), (4, .int v9), (3, .int v7), (0, .ref (qm 0)), (1, .int p0), (2, .int p1)]) hx hb dX12_without_47 hl (by decide) rfl (fun ls hl => ?_)
    refine lv_aload_n hx hb dX12_without_49 rfl (lv_at hl 4 rfl) ?_
    refine g_get cx hP iw_X12_without_X12 0 rfl rfl 1 (by decide) rfl fw_X12_without_13 rfl dX12_without_50 ?_
    refine lv_iconst (v := 4) hx hb dX12_without_53 (by decide) ?_
    refine lv_iload_n hx hb dX12_without_54 rfl (lv_at hl 5 rfl) ?_
    refine lv_iconst (v := 1) hx hb dX12_without_55 (by decide) ?_
    refine lv_iand hx hb dX12_without_56 (lv_topi (fun v14 e14 => ?_))
    have t14 : 0 ≤ v14.toInt ∧ v14.toInt ≤ p0.toInt := by rw [e14]; exact and_l rfl (by omega)
    refine lv_iconst (v := 1) hx hb dX12_without_57 (by decide) ?_
    have hJ67 : ∀ (v15 : Int32) (H : Heap) (locs : List Loc) (ls : Array Slot), va_P D vwCl [cell22_ qm sm tm, cell5_ k qm sm, cell13_ k qm sm, cell8_ k qm sm, cell6_ k qm sm, cell15_ k qm sm, cell14_ k qm tm, cell12_ k qm tm, cell18_ k qm tm, cell17_ k qm tm, cell19_ k qm tm, cell21_ k qm tm, cell20_ k qm sm, cell16_ k qm sm, cell11_ k qm sm, cell10_ k qm sm, cell9_ k qm sm, cell7_ k qm sm] H → va_D A [cell22_ qm sm tm, cell5_ k qm sm, cell13_ k qm sm, cell8_ k qm sm, cell6_ k qm sm, cell15_ k qm sm, cell14_ k qm tm, cell12_ k qm tm, cell18_ k qm tm, cell17_ k qm tm, cell19_ k qm tm, cell21_ k qm tm, cell20_ k qm sm, cell16_ k qm sm, cell11_ k qm sm, cell10_ k qm sm, cell9_ k qm sm, cell7_ k qm sm] → va_S A s.heap H locs → lv_has ls 7 [(6, .int v13), (5, .int v11), (4, .int v9), (3, .int v7), (0, .ref (qm 0)), (1, .int p0), (2, .int p1)] → W p l e ({ frames := 6, cells := 0, slots := 0, locals := 157 } : Room) s m ([.ref (qm 0), .int p0, .int p1] : List Value).toArray below meth c H locs 0 0 Q (F0 m 67 ls [.int v15, .int 4, .ref (qm 2)]) := by
      intro v15 H locs ls  hP hD hS hl
      have hn16 : vp_in 4 26 := f_in (a := 4) (by decide) (by omega) (by omega)
      refine va_iast hx hb cx.2.1 hP hD hS 2 0 rfl rfl hn16 dX12_without_67 (fun H locs hP hD hS => ?_)
      obtain ⟨g17, eg17⟩ : ∃ g : Nat → Int32, g = upd (sm 2) ((4 : Int32).toNatClampNeg) v15 := ⟨_, rfl⟩
      rw [← eg17] at hP hD
      have hP : va_P D vwCl [cell22_ qm sm tm, cell5_ k qm sm, (qm 2, .inl (k 0, 26, .inl g17)), cell8_ k qm sm, cell6_ k qm sm, cell15_ k qm sm, cell14_ k qm tm, cell12_ k qm tm, cell18_ k qm tm, cell17_ k qm tm, cell19_ k qm tm, cell21_ k qm tm, cell20_ k qm sm, cell16_ k qm sm, cell11_ k qm sm, cell10_ k qm sm, cell9_ k qm sm, cell7_ k qm sm] H := hP
      have hD : va_D A [cell22_ qm sm tm, cell5_ k qm sm, (qm 2, .inl (k 0, 26, .inl g17)), cell8_ k qm sm, cell6_ k qm sm, cell15_ k qm sm, cell14_ k qm tm, cell12_ k qm tm, cell18_ k qm tm, cell17_ k qm tm, cell19_ k qm tm, cell21_ k qm tm, cell20_ k qm sm, cell16_ k qm sm, cell11_ k qm sm, cell10_ k qm sm, cell9_ k qm sm, cell7_ k qm sm] := hD
      have s18 := updI eg17 (by decide) (show 0 ≤ 4 from by omega) 0
      have s19 := updI eg17 (by decide) (show 0 ≤ 4 from by omega) 1
      have el20 : 0 ≤ (g17 0).toInt ∧ (g17 0).toInt ≤ 5 := by omega
      have el21 : 0 ≤ (g17 1).toInt ∧ (g17 1).toInt ≤ 4 := by omega
      refine lv_aload_n hx hb dX12_without_68 rfl (lv_at hl 4 rfl) ?_
      refine g_get cx hP iw_X12_without_X12 0 rfl rfl 1 (by decide) rfl fw_X12_without_13 rfl dX12_without_69 ?_
      refine lv_iconst (v := 5) hx hb dX12_without_72 (by decide) ?_
      refine lv_iload_n hx hb dX12_without_73 rfl (lv_at hl 5 rfl) ?_
      refine lv_iconst (v := 2) hx hb dX12_without_74 (by decide) ?_
      refine lv_iand hx hb dX12_without_75 (lv_topi (fun v22 e22 => ?_))
      have t22 : 0 ≤ v22.toInt ∧ v22.toInt ≤ p0.toInt := by rw [e22]; exact and_l rfl (by omega)
      refine lv_iconst (v := 2) hx hb dX12_without_76 (by decide) ?_
      have hJ87 : ∀ (v23 : Int32) (H : Heap) (locs : List Loc) (ls : Array Slot), va_P D vwCl [cell22_ qm sm tm, cell5_ k qm sm, (qm 2, .inl (k 0, 26, .inl g17)), cell8_ k qm sm, cell6_ k qm sm, cell15_ k qm sm, cell14_ k qm tm, cell12_ k qm tm, cell18_ k qm tm, cell17_ k qm tm, cell19_ k qm tm, cell21_ k qm tm, cell20_ k qm sm, cell16_ k qm sm, cell11_ k qm sm, cell10_ k qm sm, cell9_ k qm sm, cell7_ k qm sm] H → va_D A [cell22_ qm sm tm, cell5_ k qm sm, (qm 2, .inl (k 0, 26, .inl g17)), cell8_ k qm sm, cell6_ k qm sm, cell15_ k qm sm, cell14_ k qm tm, cell12_ k qm tm, cell18_ k qm tm, cell17_ k qm tm, cell19_ k qm tm, cell21_ k qm tm, cell20_ k qm sm, cell16_ k qm sm, cell11_ k qm sm, cell10_ k qm sm, cell9_ k qm sm, cell7_ k qm sm] → va_S A s.heap H locs → lv_has ls 7 [(6, .int v13), (5, .int v11), (4, .int v9), (3, .int v7), (0, .ref (qm 0)), (1, .int p0), (2, .int p1)] → W p l e ({ frames := 6, cells := 0, slots := 0, locals := 157 } : Room) s m ([.ref (qm 0), .int p0, .int p1] : List Value).toArray below meth c H locs 0 0 Q (F0 m 87 ls [.int v23, .int 5, .ref (qm 2)]) := by
        intro v23 H locs ls  hP hD hS hl
        have hn24 : vp_in 5 26 := f_in (a := 5) (by decide) (by omega) (by omega)
        refine va_iast hx hb cx.2.1 hP hD hS 2 0 rfl rfl hn24 dX12_without_87 (fun H locs hP hD hS => ?_)
        obtain ⟨g25, eg25⟩ : ∃ g : Nat → Int32, g = upd g17 ((5 : Int32).toNatClampNeg) v23 := ⟨_, rfl⟩
        rw [← eg25] at hP hD
        have hP : va_P D vwCl [cell22_ qm sm tm, cell5_ k qm sm, (qm 2, .inl (k 0, 26, .inl g25)), cell8_ k qm sm, cell6_ k qm sm, cell15_ k qm sm, cell14_ k qm tm, cell12_ k qm tm, cell18_ k qm tm, cell17_ k qm tm, cell19_ k qm tm, cell21_ k qm tm, cell20_ k qm sm, cell16_ k qm sm, cell11_ k qm sm, cell10_ k qm sm, cell9_ k qm sm, cell7_ k qm sm] H := hP
        have hD : va_D A [cell22_ qm sm tm, cell5_ k qm sm, (qm 2, .inl (k 0, 26, .inl g25)), cell8_ k qm sm, cell6_ k qm sm, cell15_ k qm sm, cell14_ k qm tm, cell12_ k qm tm, cell18_ k qm tm, cell17_ k qm tm, cell19_ k qm tm, cell21_ k qm tm, cell20_ k qm sm, cell16_ k qm sm, cell11_ k qm sm, cell10_ k qm sm, cell9_ k qm sm, cell7_ k qm sm] := hD
        have s26 := updI eg25 (by decide) (show 0 ≤ 5 from by omega) 0
        have s27 := updI eg25 (by decide) (show 0 ≤ 5 from by omega) 1
        have el28 : 0 ≤ (g25 0).toInt ∧ (g25 0).toInt ≤ 5 := by omega
        have el29 : 0 ≤ (g25 1).toInt ∧ (g25 1).toInt ≤ 4 := by omega
        refine lv_aload_n hx hb dX12_without_88 rfl (lv_at hl 4 rfl) ?_
        refine g_get cx hP iw_X12_without_X12 0 rfl rfl 1 (by decide) rfl fw_X12_without_13 rfl dX12_without_89 ?_
        refine lv_bipush (v := 6) hx hb dX12_without_92 (by decide) ?_
        refine lv_iload_n hx hb dX12_without_94 rfl (lv_at hl 5 rfl) ?_
        refine lv_iconst (v := 4) hx hb dX12_without_95 (by decide) ?_
        refine lv_iand hx hb dX12_without_96 (lv_topi (fun v30 e30 => ?_))
        have t30 : 0 ≤ v30.toInt ∧ v30.toInt ≤ p0.toInt := by rw [e30]; exact and_l rfl (by omega)
        refine lv_iconst (v := 4) hx hb dX12_without_97 (by decide) ?_
        have hJ108 : ∀ (v31 : Int32) (H : Heap) (locs : List Loc) (ls : Array Slot), va_P D vwCl [cell22_ qm sm tm, cell5_ k qm sm, (qm 2, .inl (k 0, 26, .inl g25)), cell8_ k qm sm, cell6_ k qm sm, cell15_ k qm sm, cell14_ k qm tm, cell12_ k qm tm, cell18_ k qm tm, cell17_ k qm tm, cell19_ k qm tm, cell21_ k qm tm, cell20_ k qm sm, cell16_ k qm sm, cell11_ k qm sm, cell10_ k qm sm, cell9_ k qm sm, cell7_ k qm sm] H → va_D A [cell22_ qm sm tm, cell5_ k qm sm, (qm 2, .inl (k 0, 26, .inl g25)), cell8_ k qm sm, cell6_ k qm sm, cell15_ k qm sm, cell14_ k qm tm, cell12_ k qm tm, cell18_ k qm tm, cell17_ k qm tm, cell19_ k qm tm, cell21_ k qm tm, cell20_ k qm sm, cell16_ k qm sm, cell11_ k qm sm, cell10_ k qm sm, cell9_ k qm sm, cell7_ k qm sm] → va_S A s.heap H locs → lv_has ls 7 [(6, .int v13), (5, .int v11), (4, .int v9), (3, .int v7), (0, .ref (qm 0)), (1, .int p0), (2, .int p1)] → W p l e ({ frames := 6, cells := 0, slots := 0, locals := 157 } : Room) s m ([.ref (qm 0), .int p0, .int p1] : List Value).toArray below meth c H locs 0 0 Q (F0 m 108 ls [.int v31, .int 6, .ref (qm 2)]) := by
          intro v31 H locs ls  hP hD hS hl
          have hn32 : vp_in 6 26 := f_in (a := 6) (by decide) (by omega) (by omega)
          refine va_iast hx hb cx.2.1 hP hD hS 2 0 rfl rfl hn32 dX12_without_108 (fun H locs hP hD hS => ?_)
          obtain ⟨g33, eg33⟩ : ∃ g : Nat → Int32, g = upd g25 ((6 : Int32).toNatClampNeg) v31 := ⟨_, rfl⟩
          rw [← eg33] at hP hD
          have hP : va_P D vwCl [cell22_ qm sm tm, cell5_ k qm sm, (qm 2, .inl (k 0, 26, .inl g33)), cell8_ k qm sm, cell6_ k qm sm, cell15_ k qm sm, cell14_ k qm tm, cell12_ k qm tm, cell18_ k qm tm, cell17_ k qm tm, cell19_ k qm tm, cell21_ k qm tm, cell20_ k qm sm, cell16_ k qm sm, cell11_ k qm sm, cell10_ k qm sm, cell9_ k qm sm, cell7_ k qm sm] H := hP
          have hD : va_D A [cell22_ qm sm tm, cell5_ k qm sm, (qm 2, .inl (k 0, 26, .inl g33)), cell8_ k qm sm, cell6_ k qm sm, cell15_ k qm sm, cell14_ k qm tm, cell12_ k qm tm, cell18_ k qm tm, cell17_ k qm tm, cell19_ k qm tm, cell21_ k qm tm, cell20_ k qm sm, cell16_ k qm sm, cell11_ k qm sm, cell10_ k qm sm, cell9_ k qm sm, cell7_ k qm sm] := hD
          have s34 := updI eg33 (by decide) (show 0 ≤ 6 from by omega) 0
          have s35 := updI eg33 (by decide) (show 0 ≤ 6 from by omega) 1
          have el36 : 0 ≤ (g33 0).toInt ∧ (g33 0).toInt ≤ 5 := by omega
          have el37 : 0 ≤ (g33 1).toInt ∧ (g33 1).toInt ≤ 4 := by omega
          refine lv_aload_n hx hb dX12_without_109 rfl (lv_at hl 4 rfl) ?_
          refine g_get cx hP iw_X12_without_X12 0 rfl rfl 1 (by decide) rfl fw_X12_without_13 rfl dX12_without_110 ?_
          refine lv_bipush (v := 7) hx hb dX12_without_113 (by decide) ?_
          refine lv_iload_n hx hb dX12_without_115 rfl (lv_at hl 5 rfl) ?_
          refine lv_bipush (v := 8) hx hb dX12_without_116 (by decide) ?_
          refine lv_iand hx hb dX12_without_118 (lv_topi (fun v38 e38 => ?_))
          have t38 : 0 ≤ v38.toInt ∧ v38.toInt ≤ p0.toInt := by rw [e38]; exact and_l rfl (by omega)
          refine lv_bipush (v := 8) hx hb dX12_without_119 (by decide) ?_
          have hJ131 : ∀ (v39 : Int32) (H : Heap) (locs : List Loc) (ls : Array Slot), va_P D vwCl [cell22_ qm sm tm, cell5_ k qm sm, (qm 2, .inl (k 0, 26, .inl g33)), cell8_ k qm sm, cell6_ k qm sm, cell15_ k qm sm, cell14_ k qm tm, cell12_ k qm tm, cell18_ k qm tm, cell17_ k qm tm, cell19_ k qm tm, cell21_ k qm tm, cell20_ k qm sm, cell16_ k qm sm, cell11_ k qm sm, cell10_ k qm sm, cell9_ k qm sm, cell7_ k qm sm] H → va_D A [cell22_ qm sm tm, cell5_ k qm sm, (qm 2, .inl (k 0, 26, .inl g33)), cell8_ k qm sm, cell6_ k qm sm, cell15_ k qm sm, cell14_ k qm tm, cell12_ k qm tm, cell18_ k qm tm, cell17_ k qm tm, cell19_ k qm tm, cell21_ k qm tm, cell20_ k qm sm, cell16_ k qm sm, cell11_ k qm sm, cell10_ k qm sm, cell9_ k qm sm, cell7_ k qm sm] → va_S A s.heap H locs → lv_has ls 7 [(6, .int v13), (5, .int v11), (4, .int v9), (3, .int v7), (0, .ref (qm 0)), (2, .int p1)] → W p l e ({ frames := 6, cells := 0, slots := 0, locals := 157 } : Room) s m ([.ref (qm 0), .int p0, .int p1] : List Value).toArray below meth c H locs 0 0 Q (F0 m 131 ls [.int v39, .int 7, .ref (qm 2)]) := by
            intro v39 H locs ls  hP hD hS hl
            have hn40 : vp_in 7 26 := f_in (a := 7) (by decide) (by omega) (by omega)
            refine va_iast hx hb cx.2.1 hP hD hS 2 0 rfl rfl hn40 dX12_without_131 (fun H locs hP hD hS => ?_)
            obtain ⟨g41, eg41⟩ : ∃ g : Nat → Int32, g = upd g33 ((7 : Int32).toNatClampNeg) v39 := ⟨_, rfl⟩
            rw [← eg41] at hP hD
            have hP : va_P D vwCl [cell22_ qm sm tm, cell5_ k qm sm, (qm 2, .inl (k 0, 26, .inl g41)), cell8_ k qm sm, cell6_ k qm sm, cell15_ k qm sm, cell14_ k qm tm, cell12_ k qm tm, cell18_ k qm tm, cell17_ k qm tm, cell19_ k qm tm, cell21_ k qm tm, cell20_ k qm sm, cell16_ k qm sm, cell11_ k qm sm, cell10_ k qm sm, cell9_ k qm sm, cell7_ k qm sm] H := hP
            have hD : va_D A [cell22_ qm sm tm, cell5_ k qm sm, (qm 2, .inl (k 0, 26, .inl g41)), cell8_ k qm sm, cell6_ k qm sm, cell15_ k qm sm, cell14_ k qm tm, cell12_ k qm tm, cell18_ k qm tm, cell17_ k qm tm, cell19_ k qm tm, cell21_ k qm tm, cell20_ k qm sm, cell16_ k qm sm, cell11_ k qm sm, cell10_ k qm sm, cell9_ k qm sm, cell7_ k qm sm] := hD
            have s42 := updI eg41 (by decide) (show 0 ≤ 7 from by omega) 0
            have s43 := updI eg41 (by decide) (show 0 ≤ 7 from by omega) 1
            have el44 : 0 ≤ (g41 0).toInt ∧ (g41 0).toInt ≤ 5 := by omega
            have el45 : 0 ≤ (g41 1).toInt ∧ (g41 1).toInt ≤ 4 := by omega
            refine lv_aload_n hx hb dX12_without_132 rfl (lv_at hl 4 rfl) ?_
            refine lv_iconst (v := 0) hx hb dX12_without_133 (by decide) ?_
            refine g_vF (w1 := fun (u : (Nat → Int64) × (Nat → Int64) × (Nat → Int32)) => [cell22_ qm sm tm, cell5_ k qm sm, (qm 2, .inl (k 0, 26, .inl g41)), cell8_ k qm sm, cell6_ k qm sm, cell15_ k qm sm, cell14_ k qm tm, cell12_ k qm tm, cell18_ k qm tm, cell17_ k qm tm, cell130_ k qm (u.1), cell122_ k qm (u.2.1), cell123_ k qm (u.2.2), cell16_ k qm sm, cell11_ k qm sm, cell10_ k qm sm, cell9_ k qm sm, cell7_ k qm sm]) (g_runVF (ws := [cell22_ qm sm tm, cell5_ k qm sm, (qm 2, .inl (k 0, 26, .inl g41)), cell8_ k qm sm, cell6_ k qm sm, cell15_ k qm sm, cell14_ k qm tm, cell12_ k qm tm, cell18_ k qm tm, cell17_ k qm tm, cell19_ k qm tm, cell21_ k qm tm, cell20_ k qm sm, cell16_ k qm sm, cell11_ k qm sm, cell10_ k qm sm, cell9_ k qm sm, cell7_ k qm sm]) (rest := []) cx hP hD hS [.int 0] (c_X12_layBest l D k b qm (up2 sm 2 g41) tm H.size 0 (show 0 ≤ (g41 0).toInt ∧ (g41 0).toInt ≤ 5 from by first | decide | omega) (show 0 ≤ (g41 1).toInt ∧ (g41 1).toInt ≤ 4 from by first | decide | omega) (show 0 ≤ (0 : Int32).toInt ∧ (0 : Int32).toInt ≤ 4 from by first | decide | omega)) gX12_without_X12_layBest rfl rfl rfl nd_X12_layBest ⟨Nat.le_of_ble_eq_true rfl, Nat.le_of_ble_eq_true rfl⟩ (ci := 10) (q0 := 0) rfl rfl rfl hl.1 rfl (Nat.le_of_ble_eq_true rfl) ⟨Nat.zero_le _, Nat.zero_le _⟩ dX12_without_134) cx.2.2.1 hD hS (fun u47 H locs hw46 hP hD hS => ?_)
            obtain ⟨m48, m49, m50⟩ := u47
            have hP : va_P D vwCl [cell22_ qm sm tm, cell5_ k qm sm, (qm 2, .inl (k 0, 26, .inl g41)), cell8_ k qm sm, cell6_ k qm sm, cell15_ k qm sm, cell14_ k qm tm, cell12_ k qm tm, cell18_ k qm tm, cell17_ k qm tm, (qm 10, .inl (k 1, 1500, .inr (.inl m48))), (qm 11, .inl (k 1, 1500, .inr (.inl m49))), (qm 12, .inl (k 0, 1500, .inl m50)), cell16_ k qm sm, cell11_ k qm sm, cell10_ k qm sm, cell9_ k qm sm, cell7_ k qm sm] H := hP
            have hD : va_D A [cell22_ qm sm tm, cell5_ k qm sm, (qm 2, .inl (k 0, 26, .inl g41)), cell8_ k qm sm, cell6_ k qm sm, cell15_ k qm sm, cell14_ k qm tm, cell12_ k qm tm, cell18_ k qm tm, cell17_ k qm tm, (qm 10, .inl (k 1, 1500, .inr (.inl m48))), (qm 11, .inl (k 1, 1500, .inr (.inl m49))), (qm 12, .inl (k 0, 1500, .inl m50)), cell16_ k qm sm, cell11_ k qm sm, cell10_ k qm sm, cell9_ k qm sm, cell7_ k qm sm] := hD
            refine lv_aload_n hx hb dX12_without_137 rfl (lv_at hl 4 rfl) ?_
            refine g_get cx hP iw_X12_without_X12 0 rfl rfl 1 (by decide) rfl fw_X12_without_13 rfl dX12_without_138 ?_
            refine lv_iconst (v := 4) hx hb dX12_without_141 (by decide) ?_
            refine lv_iload_n hx hb dX12_without_142 rfl (lv_at hl 3 rfl) ?_
            have hn51 : vp_in 4 26 := f_in (a := 4) (by decide) (by omega) (by omega)
            refine va_iast hx hb cx.2.1 hP hD hS 2 0 rfl rfl hn51 dX12_without_143 (fun H locs hP hD hS => ?_)
            obtain ⟨g52, eg52⟩ : ∃ g : Nat → Int32, g = upd g41 ((4 : Int32).toNatClampNeg) v7 := ⟨_, rfl⟩
            rw [← eg52] at hP hD
            have hP : va_P D vwCl [cell22_ qm sm tm, cell5_ k qm sm, (qm 2, .inl (k 0, 26, .inl g52)), cell8_ k qm sm, cell6_ k qm sm, cell15_ k qm sm, cell14_ k qm tm, cell12_ k qm tm, cell18_ k qm tm, cell17_ k qm tm, (qm 10, .inl (k 1, 1500, .inr (.inl m48))), (qm 11, .inl (k 1, 1500, .inr (.inl m49))), (qm 12, .inl (k 0, 1500, .inl m50)), cell16_ k qm sm, cell11_ k qm sm, cell10_ k qm sm, cell9_ k qm sm, cell7_ k qm sm] H := hP
            have hD : va_D A [cell22_ qm sm tm, cell5_ k qm sm, (qm 2, .inl (k 0, 26, .inl g52)), cell8_ k qm sm, cell6_ k qm sm, cell15_ k qm sm, cell14_ k qm tm, cell12_ k qm tm, cell18_ k qm tm, cell17_ k qm tm, (qm 10, .inl (k 1, 1500, .inr (.inl m48))), (qm 11, .inl (k 1, 1500, .inr (.inl m49))), (qm 12, .inl (k 0, 1500, .inl m50)), cell16_ k qm sm, cell11_ k qm sm, cell10_ k qm sm, cell9_ k qm sm, cell7_ k qm sm] := hD
            have s53 := updI eg52 (by decide) (show 0 ≤ 4 from by omega) 0
            have s54 := updI eg52 (by decide) (show 0 ≤ 4 from by omega) 1
            have el55 : 0 ≤ (g52 0).toInt ∧ (g52 0).toInt ≤ 5 := by omega
            have el56 : 0 ≤ (g52 1).toInt ∧ (g52 1).toInt ≤ 4 := by omega
            refine lv_aload_n hx hb dX12_without_144 rfl (lv_at hl 4 rfl) ?_
            refine g_get cx hP iw_X12_without_X12 0 rfl rfl 1 (by decide) rfl fw_X12_without_13 rfl dX12_without_145 ?_
            refine lv_iconst (v := 5) hx hb dX12_without_148 (by decide) ?_
            refine lv_iload hx hb dX12_without_149 (lv_at hl 2 rfl) ?_
            have hn57 : vp_in 5 26 := f_in (a := 5) (by decide) (by omega) (by omega)
            refine va_iast hx hb cx.2.1 hP hD hS 2 0 rfl rfl hn57 dX12_without_151 (fun H locs hP hD hS => ?_)
            obtain ⟨g58, eg58⟩ : ∃ g : Nat → Int32, g = upd g52 ((5 : Int32).toNatClampNeg) v9 := ⟨_, rfl⟩
            rw [← eg58] at hP hD
            have hP : va_P D vwCl [cell22_ qm sm tm, cell5_ k qm sm, (qm 2, .inl (k 0, 26, .inl g58)), cell8_ k qm sm, cell6_ k qm sm, cell15_ k qm sm, cell14_ k qm tm, cell12_ k qm tm, cell18_ k qm tm, cell17_ k qm tm, (qm 10, .inl (k 1, 1500, .inr (.inl m48))), (qm 11, .inl (k 1, 1500, .inr (.inl m49))), (qm 12, .inl (k 0, 1500, .inl m50)), cell16_ k qm sm, cell11_ k qm sm, cell10_ k qm sm, cell9_ k qm sm, cell7_ k qm sm] H := hP
            have hD : va_D A [cell22_ qm sm tm, cell5_ k qm sm, (qm 2, .inl (k 0, 26, .inl g58)), cell8_ k qm sm, cell6_ k qm sm, cell15_ k qm sm, cell14_ k qm tm, cell12_ k qm tm, cell18_ k qm tm, cell17_ k qm tm, (qm 10, .inl (k 1, 1500, .inr (.inl m48))), (qm 11, .inl (k 1, 1500, .inr (.inl m49))), (qm 12, .inl (k 0, 1500, .inl m50)), cell16_ k qm sm, cell11_ k qm sm, cell10_ k qm sm, cell9_ k qm sm, cell7_ k qm sm] := hD
            have s59 := updI eg58 (by decide) (show 0 ≤ 5 from by omega) 0
            have s60 := updI eg58 (by decide) (show 0 ≤ 5 from by omega) 1
            have el61 : 0 ≤ (g58 0).toInt ∧ (g58 0).toInt ≤ 5 := by omega
            have el62 : 0 ≤ (g58 1).toInt ∧ (g58 1).toInt ≤ 4 := by omega
            refine lv_aload_n hx hb dX12_without_152 rfl (lv_at hl 4 rfl) ?_
            refine g_get cx hP iw_X12_without_X12 0 rfl rfl 1 (by decide) rfl fw_X12_without_13 rfl dX12_without_153 ?_
            refine lv_bipush (v := 6) hx hb dX12_without_156 (by decide) ?_
            refine lv_iload hx hb dX12_without_158 (lv_at hl 1 rfl) ?_
            have hn63 : vp_in 6 26 := f_in (a := 6) (by decide) (by omega) (by omega)
            refine va_iast hx hb cx.2.1 hP hD hS 2 0 rfl rfl hn63 dX12_without_160 (fun H locs hP hD hS => ?_)
            obtain ⟨g64, eg64⟩ : ∃ g : Nat → Int32, g = upd g58 ((6 : Int32).toNatClampNeg) v11 := ⟨_, rfl⟩
            rw [← eg64] at hP hD
            have hP : va_P D vwCl [cell22_ qm sm tm, cell5_ k qm sm, (qm 2, .inl (k 0, 26, .inl g64)), cell8_ k qm sm, cell6_ k qm sm, cell15_ k qm sm, cell14_ k qm tm, cell12_ k qm tm, cell18_ k qm tm, cell17_ k qm tm, (qm 10, .inl (k 1, 1500, .inr (.inl m48))), (qm 11, .inl (k 1, 1500, .inr (.inl m49))), (qm 12, .inl (k 0, 1500, .inl m50)), cell16_ k qm sm, cell11_ k qm sm, cell10_ k qm sm, cell9_ k qm sm, cell7_ k qm sm] H := hP
            have hD : va_D A [cell22_ qm sm tm, cell5_ k qm sm, (qm 2, .inl (k 0, 26, .inl g64)), cell8_ k qm sm, cell6_ k qm sm, cell15_ k qm sm, cell14_ k qm tm, cell12_ k qm tm, cell18_ k qm tm, cell17_ k qm tm, (qm 10, .inl (k 1, 1500, .inr (.inl m48))), (qm 11, .inl (k 1, 1500, .inr (.inl m49))), (qm 12, .inl (k 0, 1500, .inl m50)), cell16_ k qm sm, cell11_ k qm sm, cell10_ k qm sm, cell9_ k qm sm, cell7_ k qm sm] := hD
            have s65 := updI eg64 (by decide) (show 0 ≤ 6 from by omega) 0
            have s66 := updI eg64 (by decide) (show 0 ≤ 6 from by omega) 1
            have el67 : 0 ≤ (g64 0).toInt ∧ (g64 0).toInt ≤ 5 := by omega
            have el68 : 0 ≤ (g64 1).toInt ∧ (g64 1).toInt ≤ 4 := by omega
            refine lv_aload_n hx hb dX12_without_161 rfl (lv_at hl 4 rfl) ?_
            refine g_get cx hP iw_X12_without_X12 0 rfl rfl 1 (by decide) rfl fw_X12_without_13 rfl dX12_without_162 ?_
            refine lv_bipush (v := 7) hx hb dX12_without_165 (by decide) ?_
            refine lv_iload hx hb dX12_without_167 (lv_at hl 0 rfl) ?_
            have hn69 : vp_in 7 26 := f_in (a := 7) (by decide) (by omega) (by omega)
            refine va_iast hx hb cx.2.1 hP hD hS 2 0 rfl rfl hn69 dX12_without_169 (fun H locs hP hD hS => ?_)
            obtain ⟨g70, eg70⟩ : ∃ g : Nat → Int32, g = upd g64 ((7 : Int32).toNatClampNeg) v13 := ⟨_, rfl⟩
            rw [← eg70] at hP hD
            have hP : va_P D vwCl [cell22_ qm sm tm, cell5_ k qm sm, (qm 2, .inl (k 0, 26, .inl g70)), cell8_ k qm sm, cell6_ k qm sm, cell15_ k qm sm, cell14_ k qm tm, cell12_ k qm tm, cell18_ k qm tm, cell17_ k qm tm, (qm 10, .inl (k 1, 1500, .inr (.inl m48))), (qm 11, .inl (k 1, 1500, .inr (.inl m49))), (qm 12, .inl (k 0, 1500, .inl m50)), cell16_ k qm sm, cell11_ k qm sm, cell10_ k qm sm, cell9_ k qm sm, cell7_ k qm sm] H := hP
            have hD : va_D A [cell22_ qm sm tm, cell5_ k qm sm, (qm 2, .inl (k 0, 26, .inl g70)), cell8_ k qm sm, cell6_ k qm sm, cell15_ k qm sm, cell14_ k qm tm, cell12_ k qm tm, cell18_ k qm tm, cell17_ k qm tm, (qm 10, .inl (k 1, 1500, .inr (.inl m48))), (qm 11, .inl (k 1, 1500, .inr (.inl m49))), (qm 12, .inl (k 0, 1500, .inl m50)), cell16_ k qm sm, cell11_ k qm sm, cell10_ k qm sm, cell9_ k qm sm, cell7_ k qm sm] := hD
            have s71 := updI eg70 (by decide) (show 0 ≤ 7 from by omega) 0
            have s72 := updI eg70 (by decide) (show 0 ≤ 7 from by omega) 1
            have el73 : 0 ≤ (g70 0).toInt ∧ (g70 0).toInt ≤ 5 := by omega
            have el74 : 0 ≤ (g70 1).toInt ∧ (g70 1).toInt ≤ 4 := by omega
            refine lv_aload_n hx hb dX12_without_170 rfl (lv_at hl 4 rfl) ?_
            refine g_get cx hP iw_X12_without_X12 0 rfl rfl 18 (by decide) rfl fw_X12_without_38 rfl dX12_without_171 ?_
            refine lv_iconst (v := 0) hx hb dX12_without_174 (by decide) ?_
            have hn75 : vp_in 0 1500 := f_in (a := 0) (by decide) (by omega) (by omega)
            refine va_lald hx hb cx.2.1 hP 10 1 rfl rfl hn75 dX12_without_175 (lv_topl (fun v76 e76 => ?_))
            refine lv_aload_n hx hb dX12_without_176 rfl (lv_at hl 4 rfl) ?_
            refine g_get cx hP iw_X12_without_X12 0 rfl rfl 1 (by decide) rfl fw_X12_without_13 rfl dX12_without_177 ?_
            refine lv_iconst (v := 0) hx hb dX12_without_180 (by decide) ?_
            have hn77 : vp_in 0 26 := f_in (a := 0) (by decide) (by omega) (by omega)
            refine va_iald hx hb cx.2.1 hP 2 0 rfl rfl hn77 dX12_without_181 (lv_topi (fun v78 e78 => ?_))
            have uv78 : v78.toInt = (g70 0).toInt := congrArg Int32.toInt e78
            have t78 : 0 ≤ v78.toInt ∧ v78.toInt ≤ 5 := by rw [e78]; exact el73
            refine g_lr (g_runS (wc := []) (rest := [.long v76]) cx hP hD hS [] rfl (by decide) [.int v78] (c_X12_parts l D k b H.size v78) gX12_without_X12_parts rfl rfl rfl nd_X12_parts ⟨Nat.le_of_ble_eq_true rfl, Nat.le_of_ble_eq_true rfl⟩ rfl hl.1 rfl (Nat.le_of_ble_eq_true rfl) ⟨Nat.zero_le _, Nat.zero_le _⟩ dX12_without_182) cx.2.2.1 hP hD hS [] rfl rfl (fun r80 H locs hw79 hP hS => ?_)
            replace hw79 : (r80.toInt % 2 = 1) ∧ (r80 = J_X12_parts v78) := hw79
            obtain ⟨w81, w82⟩ := hw79
            have k84 : r80 = (J_X12_parts v78) := congrArg (fun z => z) w82
            refine lv_iload_n hx hb dX12_without_185 rfl (lv_at hl 5 rfl) ?_
            refine g_lr (g_runS (wc := []) (rest := []) cx hP hD hS [] rfl (by decide) [.long v76, .long r80, .int p1] (c_X12_told l D k b H.size v76 r80 p1 (show ¬ r80.toInt = 0 from by first | decide | omega)) gX12_without_X12_told rfl rfl rfl nd_X12_told ⟨Nat.le_of_ble_eq_true rfl, Nat.le_of_ble_eq_true rfl⟩ rfl hl.1 rfl (Nat.le_of_ble_eq_true rfl) ⟨Nat.zero_le _, Nat.zero_le _⟩ dX12_without_186) cx.2.2.1 hP hD hS [] rfl rfl (fun r86 H locs hw85 hP hS => ?_)
            have w87 : r86 = J_X12_told v76 r80 p1 := hw85
            clear hw85
            have k89 : r86 = (J_X12_told v76 r80 p1) := congrArg (fun z => z) w87
            rw [hQ]
            exact x_l cx hr (m48, m49, m50, g70) hP hD hS ⟨(show 0 ≤ (g70 0).toInt ∧ (g70 0).toInt ≤ 5 from by omega), (show 0 ≤ (g70 1).toInt ∧ (g70 1).toInt ≤ 4 from by omega), (show g70 = (sm 2) from rest8 eg17 eg25 eg33 eg41 eg52 eg58 eg64 eg70 e7 e9 e11 e13)⟩ dX12_without_189
          refine lv_icmp_ne (tgt := 129) hx hb dX12_without_121 (by decide) (fun c90 => ?_) (fun c90 => ?_)
          · have f90 : ¬ v38.toInt = 8 := f_ne rfl (by decide) c90
            refine lv_iload hx hb dX12_without_129 (lv_at hl 0 rfl) ?_
            exact hJ131 v13 _ _ _  hP hD hS (lv_sub hl [0, 1, 2, 3, 4, 6] rfl)
          · have f90 : v38.toInt = 8 := f_eq rfl (by decide) c90
            refine lv_bipush (v := (-9)) hx hb dX12_without_124 (by decide) ?_
            refine lv_goto (tgt := 131) hx hb dX12_without_126 (by decide) ?_
            have hlit91 : (-9 : Int32).toInt = -9 := by decide
            exact hJ131 (-9) _ _ _  hP hD hS (lv_sub hl [0, 1, 2, 3, 4, 6] rfl)
        refine lv_icmp_ne (tgt := 106) hx hb dX12_without_98 (by decide) (fun c92 => ?_) (fun c92 => ?_)
        · have f92 : ¬ v30.toInt = 4 := f_ne rfl (by decide) c92
          refine lv_iload hx hb dX12_without_106 (lv_at hl 1 rfl) ?_
          exact hJ108 v11 _ _ _  hP hD hS (lv_sub hl [0, 1, 2, 3, 4, 5, 6] rfl)
        · have f92 : v30.toInt = 4 := f_eq rfl (by decide) c92
          refine lv_bipush (v := (-9)) hx hb dX12_without_101 (by decide) ?_
          refine lv_goto (tgt := 108) hx hb dX12_without_103 (by decide) ?_
          have hlit93 : (-9 : Int32).toInt = -9 := by decide
          exact hJ108 (-9) _ _ _  hP hD hS (lv_sub hl [0, 1, 2, 3, 4, 5, 6] rfl)
      refine lv_icmp_ne (tgt := 85) hx hb dX12_without_77 (by decide) (fun c94 => ?_) (fun c94 => ?_)
      · have f94 : ¬ v22.toInt = 2 := f_ne rfl (by decide) c94
        refine lv_iload hx hb dX12_without_85 (lv_at hl 2 rfl) ?_
        exact hJ87 v9 _ _ _  hP hD hS (lv_sub hl [0, 1, 2, 3, 4, 5, 6] rfl)
      · have f94 : v22.toInt = 2 := f_eq rfl (by decide) c94
        refine lv_bipush (v := (-9)) hx hb dX12_without_80 (by decide) ?_
        refine lv_goto (tgt := 87) hx hb dX12_without_82 (by decide) ?_
        have hlit95 : (-9 : Int32).toInt = -9 := by decide
        exact hJ87 (-9) _ _ _  hP hD hS (lv_sub hl [0, 1, 2, 3, 4, 5, 6] rfl)
    refine lv_icmp_ne (tgt := 66) hx hb dX12_without_58 (by decide) (fun c96 => ?_) (fun c96 => ?_)
    · have f96 : ¬ v14.toInt = 1 := f_ne rfl (by decide) c96
      refine lv_iload_n hx hb dX12_without_66 rfl (lv_at hl 3 rfl) ?_
      exact hJ67 v7 _ _ _  hP hD hS (lv_sub hl [0, 1, 2, 3, 4, 5, 6] rfl)
    · have f96 : v14.toInt = 1 := f_eq rfl (by decide) c96
      refine lv_bipush (v := (-9)) hx hb dX12_without_61 (by decide) ?_
      refine lv_goto (tgt := 67) hx hb dX12_without_63 (by decide) ?_
      have hlit97 : (-9 : Int32).toInt = -9 := by decide
      exact hJ67 (-9) _ _ _  hP hD hS (lv_sub hl [0, 1, 2, 3, 4, 5, 6] rfl)
  · have f5 : r3.toInt = 0 := f_eq rfl (by decide) c5
    have k5 : p0.toInt < 0 ∨ 15 < p0.toInt := in_f (i2l_t rfl e1) (by decide) (by decide) w4 c5
    refine lv_ldc2 (v := (-2)) hx hb cx.1.2.2.2.1 (cx.1.2.2.2.2 _ kJ_X12_without_206) dX12_without_12 ?_
    rw [hQ]
    exact x_l cx hr ((tm 10), (tm 11), (sm 12), (sm 2)) hP hD hS ⟨(show 0 ≤ ((sm 2) 0).toInt ∧ ((sm 2) 0).toInt ≤ 5 from by omega), (show 0 ≤ ((sm 2) 1).toInt ∧ ((sm 2) 1).toInt ≤ 4 from by omega), (show (sm 2) = (sm 2) from rfl)⟩ dX12_without_15
