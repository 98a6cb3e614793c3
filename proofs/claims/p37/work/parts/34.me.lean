theorem fw_X12_onward_25 : Cond.fieldLink RX12 25 "StillInAugustModel" "worth" "[J" ∈ wsX12_onward := by decide +kernel
theorem iw_X12_onward_X12 : ∀ w ∈ u_ws RX12 TX12 33, w ∈ wsX12_onward := fun _ h => List.mem_cons_of_mem _ (List.mem_append_right _ h)
set_option maxHeartbeats 4000000 in
set_option maxRecDepth 100000 in
theorem c_X12_onward (l : Launch) (D : va_G) (k : Nat → ClassId) (b : Nat → Nat) (qm : Nat → Nat) (sm : Nat → Nat → Int32) (tm : Nat → Nat → Int64) (sz : Nat) (p0 : Int32) (h_k1 : 0 ≤ (sm 2 1).toInt ∧ (sm 2 1).toInt ≤ 4) : MetL l D k b yX12_onward wsX12_onward ({ frames := 3, cells := 0, slots := 0, locals := 75 } : Room) [cell22_ qm sm tm, cell5_ k qm sm, cell13_ k qm sm, cell8_ k qm sm, cell6_ k qm sm, cell14_ k qm sm, cell15_ k qm tm, cell12_ k qm tm, cell18_ k qm tm, cell17_ k qm tm, cell19_ k qm tm, cell21_ k qm tm, cell20_ k qm sm, cell16_ k qm sm, cell11_ k qm sm, cell10_ k qm sm, cell9_ k qm sm, cell7_ k qm sm] sz [.ref (qm 0), .int p0] (fun (r : Int64) (u : Unit) => True) (fun u => [cell22_ qm sm tm, cell5_ k qm sm, cell13_ k qm sm, cell8_ k qm sm, cell6_ k qm sm, cell14_ k qm sm, cell15_ k qm tm, cell12_ k qm tm, cell18_ k qm tm, cell17_ k qm tm, cell19_ k qm tm, cell21_ k qm tm, cell20_ k qm sm, cell16_ k qm sm, cell11_ k qm sm, cell10_ k qm sm, cell9_ k qm sm, cell7_ k qm sm]) := by
  refine g_enter (cc := cX12_onward) (maxL := 5) (ret := (some .long)) (by decide) rfl (Nat.le_of_ble_eq_true rfl) ?_
  intro p e s m below meth c A hsz hAe cx hr hP hD hS ls hl
  rw [hAe]
  refine g_q (fun Q hQ => ?_)
  have hx := cx.1.1
  have hb := cx.1.2.1
  have bp0 := i_rng p0
  have hl : lv_has ls 5 [(0, .ref (qm 0)), (1, .int p0)] := hl
  obtain ⟨H, eH⟩ : ∃ H : Heap, H = s.heap := ⟨_, rfl⟩
  obtain ⟨locs, el⟩ : ∃ L : List Loc, L = [] := ⟨_, rfl⟩
  have hP : va_P D vwCl [cell22_ qm sm tm, cell5_ k qm sm, cell13_ k qm sm, cell8_ k qm sm, cell6_ k qm sm, cell14_ k qm sm, cell15_ k qm tm, cell12_ k qm tm, cell18_ k qm tm, cell17_ k qm tm, cell19_ k qm tm, cell21_ k qm tm, cell20_ k qm sm, cell16_ k qm sm, cell11_ k qm sm, cell10_ k qm sm, cell9_ k qm sm, cell7_ k qm sm] H := by rw [eH]; exact hP
  have hD : va_D A [cell22_ qm sm tm, cell5_ k qm sm, cell13_ k qm sm, cell8_ k qm sm, cell6_ k qm sm, cell14_ k qm sm, cell15_ k qm tm, cell12_ k qm tm, cell18_ k qm tm, cell17_ k qm tm, cell19_ k qm tm, cell21_ k qm tm, cell20_ k qm sm, cell16_ k qm sm, cell11_ k qm sm, cell10_ k qm sm, cell9_ k qm sm, cell7_ k qm sm] := hD
  have hS : va_S A s.heap H locs := by rw [eH, el]; exact hS
  suffices goal : W p l e ({ frames := 3, cells := 0, slots := 0, locals := 75 } : Room) s m ([.ref (qm 0), .int p0] : List Value).toArray below meth c H locs 0 0 Q (F0 m 0 ls []) by rw [eH, el] at goal; exact goal
  refine lv_lconst (v := 0) hx hb dX12_onward_0 (by decide) ?_
  refine lv_lstore_n (lv' := [(2, .long 0), (0, .ref (qm 0)), (1, .int p0)]) hx hb dX12_onward_1 rfl hl (by decide) rfl (fun ls hl => ?_)
  refine lv_iconst (v := 0) hx hb dX12_onward_2 (by decide) ?_
  refine lv_istore (lv' := [(4, .int 0), (2, .long 0), (0, .ref (qm 0)), (1, .int p0)]) hx hb dX12_onward_3 hl (by decide) rfl (fun ls hl => ?_)
  have hL5 : ∀ (n18 : Nat) (v16 : Int32) (v17 : Int64) (H : Heap) (locs : List Loc) (ls : Array Slot), 50 - v16.toInt < (n18 : Int) → (0 ≤ v16.toInt ∧ v16.toInt ≤ 50) → va_P D vwCl [cell22_ qm sm tm, cell5_ k qm sm, cell13_ k qm sm, cell8_ k qm sm, cell6_ k qm sm, cell14_ k qm sm, cell15_ k qm tm, cell12_ k qm tm, cell18_ k qm tm, cell17_ k qm tm, cell19_ k qm tm, cell21_ k qm tm, cell20_ k qm sm, cell16_ k qm sm, cell11_ k qm sm, cell10_ k qm sm, cell9_ k qm sm, cell7_ k qm sm] H → va_D A [cell22_ qm sm tm, cell5_ k qm sm, cell13_ k qm sm, cell8_ k qm sm, cell6_ k qm sm, cell14_ k qm sm, cell15_ k qm tm, cell12_ k qm tm, cell18_ k qm tm, cell17_ k qm tm, cell19_ k qm tm, cell21_ k qm tm, cell20_ k qm sm, cell16_ k qm sm, cell11_ k qm sm, cell10_ k qm sm, cell9_ k qm sm, cell7_ k qm sm] → va_S A s.heap H locs → lv_has ls 5 [(4, .int v16), (2, .long v17), (0, .ref (qm 0)), (1, .int p0)] → W p l e ({ frames := 3, cells := 0, slots := 0, locals := 75 } : Room) s m ([.ref (qm 0), .int p0] : List Value).toArray below meth c H locs 0 0 Q (F0 m 5 ls []) := by
    intro n18
    induction n18 with
    | zero => intro v16 v17 H locs ls hmn18 bv16 hP hD hS hl; exact absurd hmn18 (by omega)
    | succ n18 ih5 =>
      intro v16 v17 H locs ls hmn18 bv16 hP hD hS hl
      refine lv_iload hx hb dX12_onward_5 (lv_at hl 0 rfl) ?_
      refine lv_bipush (v := 50) hx hb dX12_onward_7 (by decide) ?_
      refine lv_icmp_ge (tgt := 50) hx hb dX12_onward_9 (by decide) (fun c19 => ?_) (fun c19 => ?_)
      · have f19 : 50 ≤ v16.toInt := f_le (by decide) rfl c19
        refine lv_lload_n hx hb dX12_onward_50 rfl (lv_at hl 1 rfl) ?_
        rw [hQ]
        exact x_l cx hr () hP hD hS trivial dX12_onward_51
      · have f19 : v16.toInt < 50 := f_nle (by decide) rfl c19
        refine lv_lload_n hx hb dX12_onward_12 rfl (lv_at hl 1 rfl) ?_
        refine lv_aload_n hx hb dX12_onward_13 rfl (lv_at hl 2 rfl) ?_
        refine lv_iload hx hb dX12_onward_14 (lv_at hl 0 rfl) ?_
        refine g_iF (w1 := fun (_ : Unit) => [cell22_ qm sm tm, cell5_ k qm sm, cell13_ k qm sm, cell8_ k qm sm, cell6_ k qm sm, cell14_ k qm sm, cell15_ k qm tm, cell12_ k qm tm, cell18_ k qm tm, cell17_ k qm tm, cell19_ k qm tm, cell21_ k qm tm, cell20_ k qm sm, cell16_ k qm sm, cell11_ k qm sm, cell10_ k qm sm, cell9_ k qm sm, cell7_ k qm sm]) (g_runVF (ws := [cell22_ qm sm tm, cell5_ k qm sm, cell13_ k qm sm, cell8_ k qm sm, cell6_ k qm sm, cell14_ k qm sm, cell15_ k qm tm, cell12_ k qm tm, cell18_ k qm tm, cell17_ k qm tm, cell19_ k qm tm, cell21_ k qm tm, cell20_ k qm sm, cell16_ k qm sm, cell11_ k qm sm, cell10_ k qm sm, cell9_ k qm sm, cell7_ k qm sm]) (rest := [.long v17]) cx hP hD hS [.int v16] (c_X12_isHands l D k b qm sm tm H.size v16 (show 0 ≤ ((sm 2) 1).toInt ∧ ((sm 2) 1).toInt ≤ 4 from by first | decide | omega)) gX12_onward_X12_isHands rfl rfl rfl nd_X12_isHands ⟨Nat.le_of_ble_eq_true rfl, Nat.le_of_ble_eq_true rfl⟩ (ci := 10) (q0 := 0) rfl rfl rfl hl.1 rfl (Nat.le_of_ble_eq_true rfl) ⟨Nat.zero_le _, Nat.zero_le _⟩ dX12_onward_16) cx.2.2.1 hD hS (fun r21 _ H locs hw20 hP hD hS => ?_)
        replace hw20 : (0 ≤ r21.toInt ∧ r21.toInt ≤ 1) ∧ (Imp (r21.toInt = 1) (0 ≤ v16.toInt ∧ v16.toInt ≤ 400)) ∧ (r21 = J_X12_isHands sm tm v16) := hw20
        obtain ⟨w22, w23, w24⟩ := hw20
        have k26 : r21 = (J_X12_isHands sm tm v16) := congrArg (fun z => z) w24
        have zr21 : 0 ≤ r21.toInt ∧ r21.toInt ≤ 1 := w22
        have hJ42 : ∀ (v33 : Int64) (H : Heap) (locs : List Loc) (ls : Array Slot), va_P D vwCl [cell22_ qm sm tm, cell5_ k qm sm, cell13_ k qm sm, cell8_ k qm sm, cell6_ k qm sm, cell14_ k qm sm, cell15_ k qm tm, cell12_ k qm tm, cell18_ k qm tm, cell17_ k qm tm, cell19_ k qm tm, cell21_ k qm tm, cell20_ k qm sm, cell16_ k qm sm, cell11_ k qm sm, cell10_ k qm sm, cell9_ k qm sm, cell7_ k qm sm] H → va_D A [cell22_ qm sm tm, cell5_ k qm sm, cell13_ k qm sm, cell8_ k qm sm, cell6_ k qm sm, cell14_ k qm sm, cell15_ k qm tm, cell12_ k qm tm, cell18_ k qm tm, cell17_ k qm tm, cell19_ k qm tm, cell21_ k qm tm, cell20_ k qm sm, cell16_ k qm sm, cell11_ k qm sm, cell10_ k qm sm, cell9_ k qm sm, cell7_ k qm sm] → va_S A s.heap H locs → lv_has ls 5 [(4, .int v16), (0, .ref (qm 0)), (1, .int p0)] → W p l e ({ frames := 3, cells := 0, slots := 0, locals := 75 } : Room) s m ([.ref (qm 0), .int p0] : List Value).toArray below meth c H locs 0 0 Q (F0 m 42 ls [.long v33, .long v17]) := by
          intro v33 H locs ls  hP hD hS hl
          refine lv_ladd hx hb dX12_onward_42 (lv_topl (fun v34 e34 => ?_))
          refine lv_lstore_n (lv' := [(2, .long v34), (4, .int v16), (0, .ref (qm 0)), (1, .int p0)]) hx hb dX12_onward_43 rfl hl (by decide) rfl (fun ls hl => ?_)
          obtain ⟨v35, e35⟩ : ∃ z : Int32, z = v16 + 1 := ⟨_, rfl⟩
          refine lv_iinc (v := v35) (lv' := [(4, .int v35), (2, .long v34), (0, .ref (qm 0)), (1, .int p0)]) hx hb dX12_onward_44 hl (k := 1) rfl (by rw [e35]; rfl) (by decide) rfl (fun ls hl => ?_)
          have t35 : v35.toInt = v16.toInt + 1 := by rw [e35]; exact i_add rfl (by decide) (by omega) (by omega)
          refine lv_goto (tgt := 5) hx hb dX12_onward_47 (by decide) ?_
          exact ih5 v35 v34 _ _ _ (by omega) (by first | decide | omega) hP hD hS (lv_sub hl [0, 1, 2, 3] rfl)
        refine lv_if_eq (tgt := 41) hx hb dX12_onward_19 (by decide) (fun c36 => ?_) (fun c36 => ?_)
        · have f36 : r21.toInt = 0 := f_eq rfl (by decide) c36
          refine lv_lconst (v := 0) hx hb dX12_onward_41 (by decide) ?_
          have hlit37 : (0 : Int32).toInt = 0 := by decide
          exact hJ42 0 _ _ _  hP hD hS (lv_sub hl [0, 2, 3] rfl)
        · have f36 : ¬ r21.toInt = 0 := f_ne rfl (by decide) c36
          have k36 : (0 ≤ v16.toInt ∧ v16.toInt ≤ 400) := w23 (by omega)
          refine lv_aload_n hx hb dX12_onward_22 rfl (lv_at hl 2 rfl) ?_
          refine lv_iload_n hx hb dX12_onward_23 rfl (lv_at hl 3 rfl) ?_
          refine lv_iload hx hb dX12_onward_24 (lv_at hl 0 rfl) ?_
          refine g_iF (w1 := fun (_ : Unit) => [cell22_ qm sm tm, cell5_ k qm sm, cell13_ k qm sm, cell8_ k qm sm, cell6_ k qm sm, cell14_ k qm sm, cell15_ k qm tm, cell12_ k qm tm, cell18_ k qm tm, cell17_ k qm tm, cell19_ k qm tm, cell21_ k qm tm, cell20_ k qm sm, cell16_ k qm sm, cell11_ k qm sm, cell10_ k qm sm, cell9_ k qm sm, cell7_ k qm sm]) (g_runVF (ws := [cell22_ qm sm tm, cell5_ k qm sm, cell13_ k qm sm, cell8_ k qm sm, cell6_ k qm sm, cell14_ k qm sm, cell15_ k qm tm, cell12_ k qm tm, cell18_ k qm tm, cell17_ k qm tm, cell19_ k qm tm, cell21_ k qm tm, cell20_ k qm sm, cell16_ k qm sm, cell11_ k qm sm, cell10_ k qm sm, cell9_ k qm sm, cell7_ k qm sm]) (rest := [.long v17]) cx hP hD hS [.int p0, .int v16] (c_X12_sundayOf l D k b qm sm tm H.size p0 v16) gX12_onward_X12_sundayOf rfl rfl rfl nd_X12_sundayOf ⟨Nat.le_of_ble_eq_true rfl, Nat.le_of_ble_eq_true rfl⟩ (ci := 10) (q0 := 0) rfl rfl rfl hl.1 rfl (Nat.le_of_ble_eq_true rfl) ⟨Nat.zero_le _, Nat.zero_le _⟩ dX12_onward_26) cx.2.2.1 hD hS (fun r39 _ H locs hw38 hP hD hS => ?_)
          obtain ⟨v40, e40⟩ : ∃ z : Int64, z = (r39 : Int32).toInt64 := ⟨_, rfl⟩
          refine lv_i2l (v := v40) hx hb dX12_onward_29 e40.symm ?_
          refine lv_aload_n hx hb dX12_onward_30 rfl (lv_at hl 2 rfl) ?_
          refine g_get cx hP iw_X12_onward_X12 0 rfl rfl 14 (by decide) rfl fw_X12_onward_25 rfl dX12_onward_31 ?_
          refine lv_iload hx hb dX12_onward_34 (lv_at hl 0 rfl) ?_
          have hn41 : vp_in v16 1000 := f_in (a := v16.toInt) rfl (by omega) (by omega)
          refine va_lald hx hb cx.2.1 hP 6 1 rfl rfl hn41 dX12_onward_36 (lv_topl (fun v42 e42 => ?_))
          refine lv_lmul hx hb dX12_onward_37 (lv_topl (fun v43 e43 => ?_))
          refine lv_goto (tgt := 42) hx hb dX12_onward_38 (by decide) ?_
          exact hJ42 v43 _ _ _  hP hD hS (lv_sub hl [0, 2, 3] rfl)
  have hlit44 : (0 : Int32).toInt = 0 := by decide
  have hlit45 : (0 : Int32).toInt = 0 := by decide
  exact hL5 (Int.toNat (50 - 0) + 1) 0 0 _ _ _ (by omega) (by first | decide | omega) hP hD hS (lv_sub hl [0, 1, 2, 3] rfl)
theorem fw_X12_layMean_13 : Cond.fieldLink RX12 13 "StillInAugustModel" "house" "[I" ∈ wsX12_layMean := by decide +kernel
theorem fw_X12_layMean_25 : Cond.fieldLink RX12 25 "StillInAugustModel" "worth" "[J" ∈ wsX12_layMean := by decide +kernel
theorem fw_X12_layMean_29 : Cond.fieldLink RX12 29 "StillInAugustModel" "before" "[J" ∈ wsX12_layMean := by decide +kernel
theorem nd_X12_bonus : yX12_bonus.cls = RX12 ∧ yX12_bonus.cls ≠ "java/lang/invoke/MethodHandle" ∧ yX12_bonus.cls ≠ "java/lang/invoke/VarHandle" ∧ (parseMethodDescriptor yX12_bonus.desc).map (fun d => d.parameters.length) = some 1 := by decide +kernel
theorem nd_X12_onward : yX12_onward.cls = RX12 ∧ yX12_onward.cls ≠ "java/lang/invoke/MethodHandle" ∧ yX12_onward.cls ≠ "java/lang/invoke/VarHandle" ∧ (parseMethodDescriptor yX12_onward.desc).map (fun d => d.parameters.length) = some 1 := by decide +kernel
theorem nd_X12_parts : yX12_parts.cls ≠ "java/lang/invoke/MethodHandle" ∧ yX12_parts.cls ≠ "java/lang/invoke/VarHandle" ∧ (parseMethodDescriptor yX12_parts.desc).map (fun d => d.parameters.length) = some 1 := by decide +kernel
theorem iw_X12_layMean_X12 : ∀ w ∈ u_ws RX12 TX12 33, w ∈ wsX12_layMean := fun _ h => List.mem_cons_of_mem _ (List.mem_append_right _ h)
set_option maxHeartbeats 4000000 in
set_option maxRecDepth 100000 in
theorem c_X12_layMean (l : Launch) (D : va_G) (k : Nat → ClassId) (b : Nat → Nat) (qm : Nat → Nat) (sm : Nat → Nat → Int32) (tm : Nat → Nat → Int64) (sz : Nat) (p0 : Int32) (p1 : Int32) (p2 : Int32) (p3 : Int32) (h_w0 : 0 ≤ (sm 2 0).toInt ∧ (sm 2 0).toInt ≤ 5) (h_k1 : 0 ≤ (sm 2 1).toInt ∧ (sm 2 1).toInt ≤ 4) (hp0 : 0 ≤ p0.toInt ∧ p0.toInt ≤ 2) (hp1 : 0 ≤ p1.toInt ∧ p1.toInt ≤ 4) (hp2 : 0 ≤ p2.toInt ∧ p2.toInt ≤ 999) : MetL l D k b yX12_layMean wsX12_layMean ({ frames := 4, cells := 0, slots := 0, locals := 99 } : Room) [cell22_ qm sm tm, cell5_ k qm sm, cell13_ k qm sm, cell8_ k qm sm, cell6_ k qm sm, cell14_ k qm sm, cell15_ k qm tm, cell12_ k qm tm, cell18_ k qm tm, cell17_ k qm tm, cell19_ k qm tm, cell21_ k qm tm, cell20_ k qm sm, cell16_ k qm sm, cell11_ k qm sm, cell10_ k qm sm, cell9_ k qm sm, cell7_ k qm sm] sz [.ref (qm 0), .int p0, .int p1, .int p2, .int p3] (fun (r : Int64) (u : (Nat → Int64) × (Nat → Int64)) => True) (fun u => [cell22_ qm sm tm, cell5_ k qm sm, cell13_ k qm sm, cell8_ k qm sm, cell6_ k qm sm, cell14_ k qm sm, cell155_ k qm (u.1), cell156_ k qm (u.2), cell18_ k qm tm, cell17_ k qm tm, cell19_ k qm tm, cell21_ k qm tm, cell20_ k qm sm, cell16_ k qm sm, cell11_ k qm sm, cell10_ k qm sm, cell9_ k qm sm, cell7_ k qm sm]) := by
  refine g_enter (cc := cX12_layMean) (maxL := 9) (ret := (some .long)) (by decide) rfl (Nat.le_of_ble_eq_true rfl) ?_
  intro p e s m below meth c A hsz hAe cx hr hP hD hS ls hl
  rw [hAe]
  refine g_q (fun Q hQ => ?_)
  have hx := cx.1.1
  have hb := cx.1.2.1
  have bp0 := i_rng p0
  have bp1 := i_rng p1
  have bp2 := i_rng p2
  have bp3 := i_rng p3
  have hl : lv_has ls 9 [(0, .ref (qm 0)), (1, .int p0), (2, .int p1), (3, .int p2), (4, .int p3)] := hl
  obtain ⟨H, eH⟩ : ∃ H : Heap, H = s.heap := ⟨_, rfl⟩
  obtain ⟨locs, el⟩ : ∃ L : List Loc, L = [] := ⟨_, rfl⟩
  have hP : va_P D vwCl [cell22_ qm sm tm, cell5_ k qm sm, cell13_ k qm sm, cell8_ k qm sm, cell6_ k qm sm, cell14_ k qm sm, cell15_ k qm tm, cell12_ k qm tm, cell18_ k qm tm, cell17_ k qm tm, cell19_ k qm tm, cell21_ k qm tm, cell20_ k qm sm, cell16_ k qm sm, cell11_ k qm sm, cell10_ k qm sm, cell9_ k qm sm, cell7_ k qm sm] H := by rw [eH]; exact hP
  have hD : va_D A [cell22_ qm sm tm, cell5_ k qm sm, cell13_ k qm sm, cell8_ k qm sm, cell6_ k qm sm, cell14_ k qm sm, cell15_ k qm tm, cell12_ k qm tm, cell18_ k qm tm, cell17_ k qm tm, cell19_ k qm tm, cell21_ k qm tm, cell20_ k qm sm, cell16_ k qm sm, cell11_ k qm sm, cell10_ k qm sm, cell9_ k qm sm, cell7_ k qm sm] := hD
  have hS : va_S A s.heap H locs := by rw [eH, el]; exact hS
  suffices goal : W p l e ({ frames := 4, cells := 0, slots := 0, locals := 99 } : Room) s m ([.ref (qm 0), .int p0, .int p1, .int p2, .int p3] : List Value).toArray below meth c H locs 0 0 Q (F0 m 0 ls []) by rw [eH, el] at goal; exact goal
  refine lv_iconst (v := 0) hx hb dX12_layMean_0 (by decide) ?_
  refine lv_istore (lv' := [(5, .int 0), (0, .ref (qm 0)), (1, .int p0), (2, .int p1), (3, .int p2), (4, .int p3)]) hx hb dX12_layMean_1 hl (by decide) rfl (fun ls hl => ?_)
  have hL3 : ∀ (n19 : Nat) (v17 : Int32) (g18 : Nat → Int64) (H : Heap) (locs : List Loc) (ls : Array Slot), 1000 - v17.toInt < (n19 : Int) → (0 ≤ v17.toInt ∧ v17.toInt ≤ 1000) → va_P D vwCl [cell22_ qm sm tm, cell5_ k qm sm, cell13_ k qm sm, cell8_ k qm sm, cell6_ k qm sm, cell14_ k qm sm, (qm 6, .inl (k 1, 1000, .inr (.inl g18))), cell12_ k qm tm, cell18_ k qm tm, cell17_ k qm tm, cell19_ k qm tm, cell21_ k qm tm, cell20_ k qm sm, cell16_ k qm sm, cell11_ k qm sm, cell10_ k qm sm, cell9_ k qm sm, cell7_ k qm sm] H → va_D A [cell22_ qm sm tm, cell5_ k qm sm, cell13_ k qm sm, cell8_ k qm sm, cell6_ k qm sm, cell14_ k qm sm, (qm 6, .inl (k 1, 1000, .inr (.inl g18))), cell12_ k qm tm, cell18_ k qm tm, cell17_ k qm tm, cell19_ k qm tm, cell21_ k qm tm, cell20_ k qm sm, cell16_ k qm sm, cell11_ k qm sm, cell10_ k qm sm, cell9_ k qm sm, cell7_ k qm sm] → va_S A s.heap H locs → lv_has ls 9 [(5, .int v17), (0, .ref (qm 0)), (1, .int p0), (2, .int p1), (3, .int p2), (4, .int p3)] → W p l e ({ frames := 4, cells := 0, slots := 0, locals := 99 } : Room) s m ([.ref (qm 0), .int p0, .int p1, .int p2, .int p3] : List Value).toArray below meth c H locs 0 0 Q (F0 m 3 ls []) := by
    intro n19
    induction n19 with
    | zero => intro v17 g18 H locs ls hmn19 bv17 hP hD hS hl; exact absurd hmn19 (by omega)
    | succ n19 ih3 =>
      intro v17 g18 H locs ls hmn19 bv17 hP hD hS hl
      refine lv_iload hx hb dX12_layMean_3 (lv_at hl 0 rfl) ?_
      refine lv_sipush (v := 1000) hx hb dX12_layMean_5 (by decide) ?_
      refine lv_icmp_ge (tgt := 44) hx hb dX12_layMean_8 (by decide) (fun c20 => ?_) (fun c20 => ?_)
      · have f20 : 1000 ≤ v17.toInt := f_le (by decide) rfl c20
        refine lv_aload_n hx hb dX12_layMean_44 rfl (lv_at hl 1 rfl) ?_
        refine g_get cx hP iw_X12_layMean_X12 0 rfl rfl 1 (by decide) rfl fw_X12_layMean_13 rfl dX12_layMean_45 ?_
        refine lv_iconst (v := 0) hx hb dX12_layMean_48 (by decide) ?_
        have hn21 : vp_in 0 26 := f_in (a := 0) (by decide) (by omega) (by omega)
        refine va_iald hx hb cx.2.1 hP 2 0 rfl rfl hn21 dX12_layMean_49 (lv_topi (fun v22 e22 => ?_))
        have uv22 : v22.toInt = ((sm 2) 0).toInt := congrArg Int32.toInt e22
        have t22 : 0 ≤ v22.toInt ∧ v22.toInt ≤ 5 := by rw [e22]; exact h_w0
        refine lv_iconst (v := 1) hx hb dX12_layMean_50 (by decide) ?_
        refine lv_isub hx hb dX12_layMean_51 (lv_topi (fun v23 e23 => ?_))
        have t23 : v23.toInt = v22.toInt - 1 := by rw [e23]; exact i_sub rfl (by decide) (by omega) (by omega)
        refine lv_istore (lv' := [(5, .int v23), (0, .ref (qm 0)), (1, .int p0), (2, .int p1), (3, .int p2), (4, .int p3)]) hx hb dX12_layMean_52 hl (by decide) rfl (fun ls hl => ?_)
        have hL54 : ∀ (n72 : Nat) (v69 : Int32) (g70 : Nat → Int64) (g71 : Nat → Int64) (H : Heap) (locs : List Loc) (ls : Array Slot), v69.toInt + 1 < (n72 : Int) → (-1 ≤ v69.toInt ∧ v69.toInt ≤ 4) → va_P D vwCl [cell22_ qm sm tm, cell5_ k qm sm, cell13_ k qm sm, cell8_ k qm sm, cell6_ k qm sm, cell14_ k qm sm, (qm 6, .inl (k 1, 1000, .inr (.inl g70))), (qm 7, .inl (k 1, 1000, .inr (.inl g71))), cell18_ k qm tm, cell17_ k qm tm, cell19_ k qm tm, cell21_ k qm tm, cell20_ k qm sm, cell16_ k qm sm, cell11_ k qm sm, cell10_ k qm sm, cell9_ k qm sm, cell7_ k qm sm] H → va_D A [cell22_ qm sm tm, cell5_ k qm sm, cell13_ k qm sm, cell8_ k qm sm, cell6_ k qm sm, cell14_ k qm sm, (qm 6, .inl (k 1, 1000, .inr (.inl g70))), (qm 7, .inl (k 1, 1000, .inr (.inl g71))), cell18_ k qm tm, cell17_ k qm tm, cell19_ k qm tm, cell21_ k qm tm, cell20_ k qm sm, cell16_ k qm sm, cell11_ k qm sm, cell10_ k qm sm, cell9_ k qm sm, cell7_ k qm sm] → va_S A s.heap H locs → lv_has ls 9 [(5, .int v69), (0, .ref (qm 0)), (1, .int p0), (2, .int p1), (3, .int p2), (4, .int p3)] → W p l e ({ frames := 4, cells := 0, slots := 0, locals := 99 } : Room) s m ([.ref (qm 0), .int p0, .int p1, .int p2, .int p3] : List Value).toArray below meth c H locs 0 0 Q (F0 m 54 ls []) := by
          intro n72
          induction n72 with
          | zero => intro v69 g70 g71 H locs ls hmn72 bv69 hP hD hS hl; exact absurd hmn72 (by omega)
          | succ n72 ih54 =>
            intro v69 g70 g71 H locs ls hmn72 bv69 hP hD hS hl
            refine lv_iload hx hb dX12_layMean_54 (lv_at hl 0 rfl) ?_
            refine lv_iload_n hx hb dX12_layMean_56 rfl (lv_at hl 3 rfl) ?_
            refine lv_icmp_lt (tgt := 196) hx hb dX12_layMean_57 (by decide) (fun c73 => ?_) (fun c73 => ?_)
            · have f73 : v69.toInt < p1.toInt := f_lt rfl rfl c73
              refine lv_aload_n hx hb dX12_layMean_196 rfl (lv_at hl 1 rfl) ?_
              refine g_get cx hP iw_X12_layMean_X12 0 rfl rfl 14 (by decide) rfl fw_X12_layMean_25 rfl dX12_layMean_197 ?_
              refine lv_iload_n hx hb dX12_layMean_200 rfl (lv_at hl 4 rfl) ?_
              have hn74 : vp_in p2 1000 := f_in (a := p2.toInt) rfl (by omega) (by omega)
              refine va_lald hx hb cx.2.1 hP 6 1 rfl rfl hn74 dX12_layMean_201 (lv_topl (fun v75 e75 => ?_))
              rw [hQ]
              exact x_l cx hr (g70, g71) hP hD hS trivial dX12_layMean_202
            · have f73 : p1.toInt ≤ v69.toInt := f_nlt rfl rfl c73
              refine lv_iconst (v := 0) hx hb dX12_layMean_60 (by decide) ?_
              refine lv_istore (lv' := [(6, .int 0), (5, .int v69), (0, .ref (qm 0)), (1, .int p0), (2, .int p1), (3, .int p2), (4, .int p3)]) hx hb dX12_layMean_61 hl (by decide) rfl (fun ls hl => ?_)
              have hL63 : ∀ (n117 : Nat) (v115 : Int32) (g116 : Nat → Int64) (H : Heap) (locs : List Loc) (ls : Array Slot), 500 - v115.toInt < (n117 : Int) → (0 ≤ v115.toInt ∧ v115.toInt ≤ 500) → va_P D vwCl [cell22_ qm sm tm, cell5_ k qm sm, cell13_ k qm sm, cell8_ k qm sm, cell6_ k qm sm, cell14_ k qm sm, (qm 6, .inl (k 1, 1000, .inr (.inl g70))), (qm 7, .inl (k 1, 1000, .inr (.inl g116))), cell18_ k qm tm, cell17_ k qm tm, cell19_ k qm tm, cell21_ k qm tm, cell20_ k qm sm, cell16_ k qm sm, cell11_ k qm sm, cell10_ k qm sm, cell9_ k qm sm, cell7_ k qm sm] H → va_D A [cell22_ qm sm tm, cell5_ k qm sm, cell13_ k qm sm, cell8_ k qm sm, cell6_ k qm sm, cell14_ k qm sm, (qm 6, .inl (k 1, 1000, .inr (.inl g70))), (qm 7, .inl (k 1, 1000, .inr (.inl g116))), cell18_ k qm tm, cell17_ k qm tm, cell19_ k qm tm, cell21_ k qm tm, cell20_ k qm sm, cell16_ k qm sm, cell11_ k qm sm, cell10_ k qm sm, cell9_ k qm sm, cell7_ k qm sm] → va_S A s.heap H locs → lv_has ls 9 [(6, .int v115), (5, .int v69), (0, .ref (qm 0)), (1, .int p0), (2, .int p1), (3, .int p2), (4, .int p3)] → W p l e ({ frames := 4, cells := 0, slots := 0, locals := 99 } : Room) s m ([.ref (qm 0), .int p0, .int p1, .int p2, .int p3] : List Value).toArray below meth c H locs 0 0 Q (F0 m 63 ls []) := by
                intro n117
                induction n117 with
                | zero => intro v115 g116 H locs ls hmn117 bv115 hP hD hS hl; exact absurd hmn117 (by omega)
                | succ n117 ih63 =>
                  intro v115 g116 H locs ls hmn117 bv115 hP hD hS hl
                  refine lv_iload hx hb dX12_layMean_63 (lv_at hl 0 rfl) ?_
                  refine lv_sipush (v := 500) hx hb dX12_layMean_65 (by decide) ?_
                  refine lv_icmp_ge (tgt := 159) hx hb dX12_layMean_68 (by decide) (fun c118 => ?_) (fun c118 => ?_)
                  · have f118 : 500 ≤ v115.toInt := f_le (by decide) rfl c118
                    refine lv_iconst (v := 0) hx hb dX12_layMean_159 (by decide) ?_
                    refine lv_istore (lv' := [(6, .int 0), (5, .int v69), (0, .ref (qm 0)), (1, .int p0), (2, .int p1), (3, .int p2), (4, .int p3)]) hx hb dX12_layMean_160 hl (by decide) rfl (fun ls hl => ?_)
                    have hL162 : ∀ (n126 : Nat) (v124 : Int32) (g125 : Nat → Int64) (H : Heap) (locs : List Loc) (ls : Array Slot), 500 - v124.toInt < (n126 : Int) → (0 ≤ v124.toInt ∧ v124.toInt ≤ 500) → va_P D vwCl [cell22_ qm sm tm, cell5_ k qm sm, cell13_ k qm sm, cell8_ k qm sm, cell6_ k qm sm, cell14_ k qm sm, (qm 6, .inl (k 1, 1000, .inr (.inl g125))), (qm 7, .inl (k 1, 1000, .inr (.inl g116))), cell18_ k qm tm, cell17_ k qm tm, cell19_ k qm tm, cell21_ k qm tm, cell20_ k qm sm, cell16_ k qm sm, cell11_ k qm sm, cell10_ k qm sm, cell9_ k qm sm, cell7_ k qm sm] H → va_D A [cell22_ qm sm tm, cell5_ k qm sm, cell13_ k qm sm, cell8_ k qm sm, cell6_ k qm sm, cell14_ k qm sm, (qm 6, .inl (k 1, 1000, .inr (.inl g125))), (qm 7, .inl (k 1, 1000, .inr (.inl g116))), cell18_ k qm tm, cell17_ k qm tm, cell19_ k qm tm, cell21_ k qm tm, cell20_ k qm sm, cell16_ k qm sm, cell11_ k qm sm, cell10_ k qm sm, cell9_ k qm sm, cell7_ k qm sm] → va_S A s.heap H locs → lv_has ls 9 [(6, .int v124), (5, .int v69), (0, .ref (qm 0)), (1, .int p0), (2, .int p1), (3, .int p2), (4, .int p3)] → W p l e ({ frames := 4, cells := 0, slots := 0, locals := 99 } : Room) s m ([.ref (qm 0), .int p0, .int p1, .int p2, .int p3] : List Value).toArray below meth c H locs 0 0 Q (F0 m 162 ls []) := by
                      intro n126
                      induction n126 with
                      | zero => intro v124 g125 H locs ls hmn126 bv124 hP hD hS hl; exact absurd hmn126 (by omega)
                      | succ n126 ih162 =>
                        intro v124 g125 H locs ls hmn126 bv124 hP hD hS hl
                        refine lv_iload hx hb dX12_layMean_162 (lv_at hl 0 rfl) ?_
                        refine lv_sipush (v := 500) hx hb dX12_layMean_164 (by decide) ?_
                        refine lv_icmp_ge (tgt := 190) hx hb dX12_layMean_167 (by decide) (fun c127 => ?_) (fun c127 => ?_)
                        · have f127 : 500 ≤ v124.toInt := f_le (by decide) rfl c127
                          obtain ⟨v128, e128⟩ : ∃ z : Int32, z = v69 + (-1) := ⟨_, rfl⟩
                          refine lv_iinc (v := v128) (lv' := [(5, .int v128), (6, .int v124), (0, .ref (qm 0)), (1, .int p0), (2, .int p1), (3, .int p2), (4, .int p3)]) hx hb dX12_layMean_190 hl (k := 1) rfl (by rw [e128]; rfl) (by decide) rfl (fun ls hl => ?_)
                          have t128 : v128.toInt = v69.toInt + (-1) := by rw [e128]; exact i_add rfl (by decide) (by omega) (by omega)
                          refine lv_goto (tgt := 54) hx hb dX12_layMean_193 (by decide) ?_
                          exact ih54 v128 g125 g116 _ _ _ (by omega) (by first | decide | omega) hP hD hS (lv_sub hl [0, 2, 3, 4, 5, 6] rfl)
                        · have f127 : v124.toInt < 500 := f_nle (by decide) rfl c127
                          refine lv_aload_n hx hb dX12_layMean_170 rfl (lv_at hl 2 rfl) ?_
                          refine g_get cx hP iw_X12_layMean_X12 0 rfl rfl 14 (by decide) rfl fw_X12_layMean_25 rfl dX12_layMean_171 ?_
                          refine lv_iload hx hb dX12_layMean_174 (lv_at hl 0 rfl) ?_
                          refine lv_aload_n hx hb dX12_layMean_176 rfl (lv_at hl 2 rfl) ?_
                          refine g_get cx hP iw_X12_layMean_X12 0 rfl rfl 15 (by decide) rfl fw_X12_layMean_29 rfl dX12_layMean_177 ?_
                          refine lv_iload hx hb dX12_layMean_180 (lv_at hl 0 rfl) ?_
                          have hn129 : vp_in v124 1000 := f_in (a := v124.toInt) rfl (by omega) (by omega)
                          refine va_lald hx hb cx.2.1 hP 7 1 rfl rfl hn129 dX12_layMean_182 (lv_topl (fun v130 e130 => ?_))
                          have hn131 : vp_in v124 1000 := f_in (a := v124.toInt) rfl (by omega) (by omega)
                          refine va_last hx hb cx.2.1 hP hD hS 6 1 rfl rfl hn131 dX12_layMean_183 (fun H locs hP hD hS => ?_)
                          obtain ⟨g132, eg132⟩ : ∃ g : Nat → Int64, g = vp_updL g125 (v124).toNatClampNeg v130 := ⟨_, rfl⟩
                          rw [← eg132] at hP hD
                          have hP : va_P D vwCl [cell22_ qm sm tm, cell5_ k qm sm, cell13_ k qm sm, cell8_ k qm sm, cell6_ k qm sm, cell14_ k qm sm, (qm 6, .inl (k 1, 1000, .inr (.inl g132))), (qm 7, .inl (k 1, 1000, .inr (.inl g116))), cell18_ k qm tm, cell17_ k qm tm, cell19_ k qm tm, cell21_ k qm tm, cell20_ k qm sm, cell16_ k qm sm, cell11_ k qm sm, cell10_ k qm sm, cell9_ k qm sm, cell7_ k qm sm] H := hP
                          have hD : va_D A [cell22_ qm sm tm, cell5_ k qm sm, cell13_ k qm sm, cell8_ k qm sm, cell6_ k qm sm, cell14_ k qm sm, (qm 6, .inl (k 1, 1000, .inr (.inl g132))), (qm 7, .inl (k 1, 1000, .inr (.inl g116))), cell18_ k qm tm, cell17_ k qm tm, cell19_ k qm tm, cell21_ k qm tm, cell20_ k qm sm, cell16_ k qm sm, cell11_ k qm sm, cell10_ k qm sm, cell9_ k qm sm, cell7_ k qm sm] := hD
                          obtain ⟨v133, e133⟩ : ∃ z : Int32, z = v124 + 1 := ⟨_, rfl⟩
                          refine lv_iinc (v := v133) (lv' := [(6, .int v133), (5, .int v69), (0, .ref (qm 0)), (1, .int p0), (2, .int p1), (3, .int p2), (4, .int p3)]) hx hb dX12_layMean_184 hl (k := 0) rfl (by rw [e133]; rfl) (by decide) rfl (fun ls hl => ?_)
                          have t133 : v133.toInt = v124.toInt + 1 := by rw [e133]; exact i_add rfl (by decide) (by omega) (by omega)
                          refine lv_goto (tgt := 162) hx hb dX12_layMean_187 (by decide) ?_
                          exact ih162 v133 g132 _ _ _ (by omega) (by first | decide | omega) hP hD hS (lv_sub hl [0, 1, 2, 3, 4, 5, 6] rfl)
                    have hlit134 : (0 : Int32).toInt = 0 := by decide
                    exact hL162 (Int.toNat (500 - 0) + 1) 0 g70 _ _ _ (by omega) (by first | decide | omega) hP hD hS (lv_sub hl [0, 1, 2, 3, 4, 5, 6] rfl)
                  · have f118 : v115.toInt < 500 := f_nle (by decide) rfl c118
                    refine lv_aload_n hx hb dX12_layMean_71 rfl (lv_at hl 2 rfl) ?_
                    refine lv_iload hx hb dX12_layMean_72 (lv_at hl 0 rfl) ?_
                    refine g_iF (w1 := fun (_ : Unit) => [cell22_ qm sm tm, cell5_ k qm sm, cell13_ k qm sm, cell8_ k qm sm, cell6_ k qm sm, cell14_ k qm sm, (qm 6, .inl (k 1, 1000, .inr (.inl g70))), (qm 7, .inl (k 1, 1000, .inr (.inl g116))), cell18_ k qm tm, cell17_ k qm tm, cell19_ k qm tm, cell21_ k qm tm, cell20_ k qm sm, cell16_ k qm sm, cell11_ k qm sm, cell10_ k qm sm, cell9_ k qm sm, cell7_ k qm sm]) (g_runVF (ws := [cell22_ qm sm tm, cell5_ k qm sm, cell13_ k qm sm, cell8_ k qm sm, cell6_ k qm sm, cell14_ k qm sm, (qm 6, .inl (k 1, 1000, .inr (.inl g70))), (qm 7, .inl (k 1, 1000, .inr (.inl g116))), cell18_ k qm tm, cell17_ k qm tm, cell19_ k qm tm, cell21_ k qm tm, cell20_ k qm sm, cell16_ k qm sm, cell11_ k qm sm, cell10_ k qm sm, cell9_ k qm sm, cell7_ k qm sm]) (rest := []) cx hP hD hS [.int v115] (c_X12_isHands l D k b qm sm (up2L (up2L tm 6 g70) 7 g116) H.size v115 (show 0 ≤ ((sm 2) 1).toInt ∧ ((sm 2) 1).toInt ≤ 4 from by first | decide | omega)) gX12_layMean_X12_isHands rfl rfl rfl nd_X12_isHands ⟨Nat.le_of_ble_eq_true rfl, Nat.le_of_ble_eq_true rfl⟩ (ci := 10) (q0 := 0) rfl rfl rfl hl.1 rfl (Nat.le_of_ble_eq_true rfl) ⟨Nat.zero_le _, Nat.zero_le _⟩ dX12_layMean_74) cx.2.2.1 hD hS (fun r136 _ H locs hw135 hP hD hS => ?_)
                    replace hw135 : (0 ≤ r136.toInt ∧ r136.toInt ≤ 1) ∧ (Imp (r136.toInt = 1) (0 ≤ v115.toInt ∧ v115.toInt ≤ 400)) ∧ (r136 = J_X12_isHands sm (up2L (up2L tm 6 g70) 7 g116) v115) := hw135
                    obtain ⟨w137, w138, w139⟩ := hw135
                    have k141 : r136 = (J_X12_isHands sm (up2L (up2L tm 6 g70) 7 g116) v115) := congrArg (fun z => z) w139
                    have zr136 : 0 ≤ r136.toInt ∧ r136.toInt ≤ 1 := w137
                    have hJ153 : ∀ (g194 : Nat → Int64) (H : Heap) (locs : List Loc) (ls : Array Slot), va_P D vwCl [cell22_ qm sm tm, cell5_ k qm sm, cell13_ k qm sm, cell8_ k qm sm, cell6_ k qm sm, cell14_ k qm sm, (qm 6, .inl (k 1, 1000, .inr (.inl g70))), (qm 7, .inl (k 1, 1000, .inr (.inl g194))), cell18_ k qm tm, cell17_ k qm tm, cell19_ k qm tm, cell21_ k qm tm, cell20_ k qm sm, cell16_ k qm sm, cell11_ k qm sm, cell10_ k qm sm, cell9_ k qm sm, cell7_ k qm sm] H → va_D A [cell22_ qm sm tm, cell5_ k qm sm, cell13_ k qm sm, cell8_ k qm sm, cell6_ k qm sm, cell14_ k qm sm, (qm 6, .inl (k 1, 1000, .inr (.inl g70))), (qm 7, .inl (k 1, 1000, .inr (.inl g194))), cell18_ k qm tm, cell17_ k qm tm, cell19_ k qm tm, cell21_ k qm tm, cell20_ k qm sm, cell16_ k qm sm, cell11_ k qm sm, cell10_ k qm sm, cell9_ k qm sm, cell7_ k qm sm] → va_S A s.heap H locs → lv_has ls 9 [(6, .int v115), (5, .int v69), (0, .ref (qm 0)), (1, .int p0), (2, .int p1), (3, .int p2), (4, .int p3)] → W p l e ({ frames := 4, cells := 0, slots := 0, locals := 99 } : Room) s m ([.ref (qm 0), .int p0, .int p1, .int p2, .int p3] : List Value).toArray below meth c H locs 0 0 Q (F0 m 153 ls []) := by
                      intro g194 H locs ls  hP hD hS hl
                      obtain ⟨v195, e195⟩ : ∃ z : Int32, z = v115 + 1 := ⟨_, rfl⟩
                      refine lv_iinc (v := v195) (lv' := [(6, .int v195), (5, .int v69), (0, .ref (qm 0)), (1, .int p0), (2, .int p1), (3, .int p2), (4, .int p3)]) hx hb dX12_layMean_153 hl (k := 0) rfl (by rw [e195]; rfl) (by decide) rfl (fun ls hl => ?_)
                      have t195 : v195.toInt = v115.toInt + 1 := by rw [e195]; exact i_add rfl (by decide) (by omega) (by omega)
                      refine lv_goto (tgt := 63) hx hb dX12_layMean_156 (by decide) ?_
                      exact ih63 v195 g194 _ _ _ (by omega) (by first | decide | omega) hP hD hS (lv_sub hl [0, 1, 2, 3, 4, 5, 6] rfl)
                    refine lv_if_eq (tgt := 153) hx hb dX12_layMean_77 (by decide) (fun c196 => ?_) (fun c196 => ?_)
                    · have f196 : r136.toInt = 0 := f_eq rfl (by decide) c196
                      exact hJ153 g116 _ _ _  hP hD hS (lv_sub hl [0, 1, 2, 3, 4, 5, 6] rfl)
                    · have f196 : ¬ r136.toInt = 0 := f_ne rfl (by decide) c196
                      have k196 : (0 ≤ v115.toInt ∧ v115.toInt ≤ 400) := w138 (by omega)
                      refine lv_aload_n hx hb dX12_layMean_80 rfl (lv_at hl 2 rfl) ?_
                      refine lv_iload_n hx hb dX12_layMean_81 rfl (lv_at hl 3 rfl) ?_
                      refine lv_iload hx hb dX12_layMean_82 (lv_at hl 1 rfl) ?_
                      refine lv_iload hx hb dX12_layMean_84 (lv_at hl 0 rfl) ?_
                      refine g_iF (w1 := fun (_ : Unit) => [cell22_ qm sm tm, cell5_ k qm sm, cell13_ k qm sm, cell8_ k qm sm, cell6_ k qm sm, cell14_ k qm sm, (qm 6, .inl (k 1, 1000, .inr (.inl g70))), (qm 7, .inl (k 1, 1000, .inr (.inl g116))), cell18_ k qm tm, cell17_ k qm tm, cell19_ k qm tm, cell21_ k qm tm, cell20_ k qm sm, cell16_ k qm sm, cell11_ k qm sm, cell10_ k qm sm, cell9_ k qm sm, cell7_ k qm sm]) (g_runVF (ws := [cell22_ qm sm tm, cell5_ k qm sm, cell13_ k qm sm, cell8_ k qm sm, cell6_ k qm sm, cell14_ k qm sm, (qm 6, .inl (k 1, 1000, .inr (.inl g70))), (qm 7, .inl (k 1, 1000, .inr (.inl g116))), cell18_ k qm tm, cell17_ k qm tm, cell19_ k qm tm, cell21_ k qm tm, cell20_ k qm sm, cell16_ k qm sm, cell11_ k qm sm, cell10_ k qm sm, cell9_ k qm sm, cell7_ k qm sm]) (rest := []) cx hP hD hS [.int p0, .int v69, .int v115] (c_X12_ruleAct l D k b qm sm (up2L (up2L tm 6 g70) 7 g116) H.size p0 v69 v115 (show 0 ≤ p0.toInt ∧ p0.toInt ≤ 2 from by first | decide | omega) (show 0 ≤ v69.toInt ∧ v69.toInt ≤ 4 from by first | decide | omega)) gX12_layMean_X12_ruleAct rfl rfl rfl nd_X12_ruleAct ⟨Nat.le_of_ble_eq_true rfl, Nat.le_of_ble_eq_true rfl⟩ (ci := 10) (q0 := 0) rfl rfl rfl hl.1 rfl (Nat.le_of_ble_eq_true rfl) ⟨Nat.zero_le _, Nat.zero_le _⟩ dX12_layMean_86) cx.2.2.1 hD hS (fun r198 _ H locs hw197 hP hD hS => ?_)
                      have w199 : r198 = J_X12_ruleAct sm (up2L (up2L tm 6 g70) 7 g116) p0 v69 v115 := hw197
                      clear hw197
                      have k201 : r198 = (J_X12_ruleAct sm (up2L (up2L tm 6 g70) 7 g116) p0 v69 v115) := congrArg (fun z => z) w199
                      refine lv_istore (lv' := [(7, .int r198), (6, .int v115), (5, .int v69), (0, .ref (qm 0)), (1, .int p0), (2, .int p1), (3, .int p2), (4, .int p3)]) hx hb dX12_layMean_89 hl (by decide) rfl (fun ls hl => ?_)
                      refine lv_aload_n hx hb dX12_layMean_91 rfl (lv_at hl 3 rfl) ?_
                      refine lv_iload hx hb dX12_layMean_92 (lv_at hl 2 rfl) ?_
                      refine lv_iload hx hb dX12_layMean_94 (lv_at hl 1 rfl) ?_
                      refine lv_iload hx hb dX12_layMean_96 (lv_at hl 0 rfl) ?_
                      refine g_iF (w1 := fun (_ : Unit) => [cell22_ qm sm tm, cell5_ k qm sm, cell13_ k qm sm, cell8_ k qm sm, cell6_ k qm sm, cell14_ k qm sm, (qm 6, .inl (k 1, 1000, .inr (.inl g70))), (qm 7, .inl (k 1, 1000, .inr (.inl g116))), cell18_ k qm tm, cell17_ k qm tm, cell19_ k qm tm, cell21_ k qm tm, cell20_ k qm sm, cell16_ k qm sm, cell11_ k qm sm, cell10_ k qm sm, cell9_ k qm sm, cell7_ k qm sm]) (g_runVF (ws := [cell22_ qm sm tm, cell5_ k qm sm, cell13_ k qm sm, cell8_ k qm sm, cell6_ k qm sm, cell14_ k qm sm, (qm 6, .inl (k 1, 1000, .inr (.inl g70))), (qm 7, .inl (k 1, 1000, .inr (.inl g116))), cell18_ k qm tm, cell17_ k qm tm, cell19_ k qm tm, cell21_ k qm tm, cell20_ k qm sm, cell16_ k qm sm, cell11_ k qm sm, cell10_ k qm sm, cell9_ k qm sm, cell7_ k qm sm]) (rest := []) cx hP hD hS [.int v69, .int v115, .int r198] (c_X12_after l D k b qm sm (up2L (up2L tm 6 g70) 7 g116) H.size v69 v115 r198 (show 0 ≤ ((sm 2) 0).toInt ∧ ((sm 2) 0).toInt ≤ 5 from by first | decide | omega) (show 0 ≤ v69.toInt ∧ v69.toInt ≤ 4 from by first | decide | omega)) gX12_layMean_X12_after rfl rfl rfl nd_X12_after ⟨Nat.le_of_ble_eq_true rfl, Nat.le_of_ble_eq_true rfl⟩ (ci := 10) (q0 := 0) rfl rfl rfl hl.1 rfl (Nat.le_of_ble_eq_true rfl) ⟨Nat.zero_le _, Nat.zero_le _⟩ dX12_layMean_98) cx.2.2.1 hD hS (fun r203 _ H locs hw202 hP hD hS => ?_)
                      have w204 : r203 = J_X12_after sm (up2L (up2L tm 6 g70) 7 g116) v69 v115 r198 := hw202
                      clear hw202
                      have k206 : r203 = (J_X12_after sm (up2L (up2L tm 6 g70) 7 g116) v69 v115 r198) := congrArg (fun z => z) w204
                      refine lv_istore (lv' := [(8, .int r203), (7, .int r198), (6, .int v115), (5, .int v69), (0, .ref (qm 0)), (1, .int p0), (2, .int p1), (3, .int p2), (4, .int p3)]) hx hb dX12_layMean_101 hl (by decide) rfl (fun ls hl => ?_)
                      refine lv_aload_n hx hb dX12_layMean_103 rfl (lv_at hl 4 rfl) ?_
                      refine g_get cx hP iw_X12_layMean_X12 0 rfl rfl 15 (by decide) rfl fw_X12_layMean_29 rfl dX12_layMean_104 ?_
                      refine lv_iload hx hb dX12_layMean_107 (lv_at hl 2 rfl) ?_
                      refine lv_aload_n hx hb dX12_layMean_109 rfl (lv_at hl 4 rfl) ?_
                      refine lv_iload hx hb dX12_layMean_110 (lv_at hl 3 rfl) ?_
                      refine lv_iload hx hb dX12_layMean_112 (lv_at hl 0 rfl) ?_
                      refine lv_iload hx hb dX12_layMean_114 (lv_at hl 3 rfl) ?_
                      refine lv_iload_n hx hb dX12_layMean_116 rfl (lv_at hl 6 rfl) ?_
                      have hJ126 : ∀ (v207 : Int32) (H : Heap) (locs : List Loc) (ls : Array Slot), va_P D vwCl [cell22_ qm sm tm, cell5_ k qm sm, cell13_ k qm sm, cell8_ k qm sm, cell6_ k qm sm, cell14_ k qm sm, (qm 6, .inl (k 1, 1000, .inr (.inl g70))), (qm 7, .inl (k 1, 1000, .inr (.inl g116))), cell18_ k qm tm, cell17_ k qm tm, cell19_ k qm tm, cell21_ k qm tm, cell20_ k qm sm, cell16_ k qm sm, cell11_ k qm sm, cell10_ k qm sm, cell9_ k qm sm, cell7_ k qm sm] H → va_D A [cell22_ qm sm tm, cell5_ k qm sm, cell13_ k qm sm, cell8_ k qm sm, cell6_ k qm sm, cell14_ k qm sm, (qm 6, .inl (k 1, 1000, .inr (.inl g70))), (qm 7, .inl (k 1, 1000, .inr (.inl g116))), cell18_ k qm tm, cell17_ k qm tm, cell19_ k qm tm, cell21_ k qm tm, cell20_ k qm sm, cell16_ k qm sm, cell11_ k qm sm, cell10_ k qm sm, cell9_ k qm sm, cell7_ k qm sm] → va_S A s.heap H locs → lv_has ls 9 [(8, .int r203), (7, .int r198), (6, .int v115), (5, .int v69), (0, .ref (qm 0)), (1, .int p0), (2, .int p1), (3, .int p2), (4, .int p3)] → W p l e ({ frames := 4, cells := 0, slots := 0, locals := 99 } : Room) s m ([.ref (qm 0), .int p0, .int p1, .int p2, .int p3] : List Value).toArray below meth c H locs 0 0 Q (F0 m 126 ls [.int v207, .int r203, .int v69, .ref (qm 0), .int v115, .ref (qm 7)]) := by
                        intro v207 H locs ls  hP hD hS hl
                        refine lv_iload hx hb dX12_layMean_126 (lv_at hl 1 rfl) ?_
                        refine g_iF (w1 := fun (_ : Unit) => [cell22_ qm sm tm, cell5_ k qm sm, cell13_ k qm sm, cell8_ k qm sm, cell6_ k qm sm, cell14_ k qm sm, (qm 6, .inl (k 1, 1000, .inr (.inl g70))), (qm 7, .inl (k 1, 1000, .inr (.inl g116))), cell18_ k qm tm, cell17_ k qm tm, cell19_ k qm tm, cell21_ k qm tm, cell20_ k qm sm, cell16_ k qm sm, cell11_ k qm sm, cell10_ k qm sm, cell9_ k qm sm, cell7_ k qm sm]) (g_runVF (ws := [cell22_ qm sm tm, cell5_ k qm sm, cell13_ k qm sm, cell8_ k qm sm, cell6_ k qm sm, cell14_ k qm sm, (qm 6, .inl (k 1, 1000, .inr (.inl g70))), (qm 7, .inl (k 1, 1000, .inr (.inl g116))), cell18_ k qm tm, cell17_ k qm tm, cell19_ k qm tm, cell21_ k qm tm, cell20_ k qm sm, cell16_ k qm sm, cell11_ k qm sm, cell10_ k qm sm, cell9_ k qm sm, cell7_ k qm sm]) (rest := [.int v115, .ref (qm 7)]) cx hP hD hS [.int v69, .int r203, .int v207, .int r198] (c_X12_costOf l D k b qm sm (up2L (up2L tm 6 g70) 7 g116) H.size v69 r203 v207 r198 (show 0 ≤ v69.toInt ∧ v69.toInt ≤ 4 from by first | decide | omega)) gX12_layMean_X12_costOf rfl rfl rfl nd_X12_costOf ⟨Nat.le_of_ble_eq_true rfl, Nat.le_of_ble_eq_true rfl⟩ (ci := 10) (q0 := 0) rfl rfl rfl hl.1 rfl (Nat.le_of_ble_eq_true rfl) ⟨Nat.zero_le _, Nat.zero_le _⟩ dX12_layMean_128) cx.2.2.1 hD hS (fun r209 _ H locs hw208 hP hD hS => ?_)
                        have w210 : r209 = J_X12_costOf sm (up2L (up2L tm 6 g70) 7 g116) v69 r203 v207 r198 := hw208
                        clear hw208
                        have k212 : r209 = (J_X12_costOf sm (up2L (up2L tm 6 g70) 7 g116) v69 r203 v207 r198) := congrArg (fun z => z) w210
                        obtain ⟨v213, e213⟩ : ∃ z : Int64, z = (r209 : Int32).toInt64 := ⟨_, rfl⟩
                        refine lv_i2l (v := v213) hx hb dX12_layMean_131 e213.symm ?_
                        refine lv_aload_n hx hb dX12_layMean_132 rfl (lv_at hl 4 rfl) ?_
                        refine g_get cx hP iw_X12_layMean_X12 0 rfl rfl 1 (by decide) rfl fw_X12_layMean_13 rfl dX12_layMean_133 ?_
                        refine lv_iconst (v := 0) hx hb dX12_layMean_136 (by decide) ?_
                        have hn214 : vp_in 0 26 := f_in (a := 0) (by decide) (by omega) (by omega)
                        refine va_iald hx hb cx.2.1 hP 2 0 rfl rfl hn214 dX12_layMean_137 (lv_topi (fun v215 e215 => ?_))
                        obtain rfl : v22 = v215 := e22.trans e215.symm
                        refine lv_iload hx hb dX12_layMean_138 (lv_at hl 3 rfl) ?_
                        refine lv_isub hx hb dX12_layMean_140 (lv_topi (fun v216 e216 => ?_))
                        have t216 : v216.toInt = v22.toInt - v69.toInt := by rw [e216]; exact i_sub rfl rfl (by omega) (by omega)
                        refine g_lr (g_runS (wc := []) (rest := [.long v213, .int v115, .ref (qm 7)]) cx hP hD hS [] rfl (by decide) [.int v216] (c_X12_parts l D k b H.size v216) gX12_layMean_X12_parts rfl rfl rfl nd_X12_parts ⟨Nat.le_of_ble_eq_true rfl, Nat.le_of_ble_eq_true rfl⟩ rfl hl.1 rfl (Nat.le_of_ble_eq_true rfl) ⟨Nat.zero_le _, Nat.zero_le _⟩ dX12_layMean_141) cx.2.2.1 hP hD hS [] rfl rfl (fun r218 H locs hw217 hP hS => ?_)
                        replace hw217 : (r218.toInt % 2 = 1) ∧ (r218 = J_X12_parts v216) := hw217
                        obtain ⟨w219, w220⟩ := hw217
                        have k222 : r218 = (J_X12_parts v216) := congrArg (fun z => z) w220
                        refine lv_lmul hx hb dX12_layMean_144 (lv_topl (fun v223 e223 => ?_))
                        refine lv_aload_n hx hb dX12_layMean_145 rfl (lv_at hl 4 rfl) ?_
                        refine lv_iload hx hb dX12_layMean_146 (lv_at hl 0 rfl) ?_
                        refine g_lF (w1 := fun (_ : Unit) => [cell22_ qm sm tm, cell5_ k qm sm, cell13_ k qm sm, cell8_ k qm sm, cell6_ k qm sm, cell14_ k qm sm, (qm 6, .inl (k 1, 1000, .inr (.inl g70))), (qm 7, .inl (k 1, 1000, .inr (.inl g116))), cell18_ k qm tm, cell17_ k qm tm, cell19_ k qm tm, cell21_ k qm tm, cell20_ k qm sm, cell16_ k qm sm, cell11_ k qm sm, cell10_ k qm sm, cell9_ k qm sm, cell7_ k qm sm]) (g_runVF (ws := [cell22_ qm sm tm, cell5_ k qm sm, cell13_ k qm sm, cell8_ k qm sm, cell6_ k qm sm, cell14_ k qm sm, (qm 6, .inl (k 1, 1000, .inr (.inl g70))), (qm 7, .inl (k 1, 1000, .inr (.inl g116))), cell18_ k qm tm, cell17_ k qm tm, cell19_ k qm tm, cell21_ k qm tm, cell20_ k qm sm, cell16_ k qm sm, cell11_ k qm sm, cell10_ k qm sm, cell9_ k qm sm, cell7_ k qm sm]) (rest := [.long v223, .int v115, .ref (qm 7)]) cx hP hD hS [.int r203] (c_X12_onward l D k b qm sm (up2L (up2L tm 6 g70) 7 g116) H.size r203 (show 0 ≤ ((sm 2) 1).toInt ∧ ((sm 2) 1).toInt ≤ 4 from by first | decide | omega)) gX12_layMean_X12_onward rfl rfl rfl nd_X12_onward ⟨Nat.le_of_ble_eq_true rfl, Nat.le_of_ble_eq_true rfl⟩ (ci := 10) (q0 := 0) rfl rfl rfl hl.1 rfl (Nat.le_of_ble_eq_true rfl) ⟨Nat.zero_le _, Nat.zero_le _⟩ dX12_layMean_148) cx.2.2.1 hD hS (fun r225 _ H locs hw224 hP hD hS => ?_)
                        refine lv_ladd hx hb dX12_layMean_151 (lv_topl (fun v226 e226 => ?_))
                        have hn227 : vp_in v115 1000 := f_in (a := v115.toInt) rfl (by omega) (by omega)
                        refine va_last hx hb cx.2.1 hP hD hS 7 1 rfl rfl hn227 dX12_layMean_152 (fun H locs hP hD hS => ?_)
                        obtain ⟨g228, eg228⟩ : ∃ g : Nat → Int64, g = vp_updL g116 (v115).toNatClampNeg v226 := ⟨_, rfl⟩
                        rw [← eg228] at hP hD
                        have hP : va_P D vwCl [cell22_ qm sm tm, cell5_ k qm sm, cell13_ k qm sm, cell8_ k qm sm, cell6_ k qm sm, cell14_ k qm sm, (qm 6, .inl (k 1, 1000, .inr (.inl g70))), (qm 7, .inl (k 1, 1000, .inr (.inl g228))), cell18_ k qm tm, cell17_ k qm tm, cell19_ k qm tm, cell21_ k qm tm, cell20_ k qm sm, cell16_ k qm sm, cell11_ k qm sm, cell10_ k qm sm, cell9_ k qm sm, cell7_ k qm sm] H := hP
                        have hD : va_D A [cell22_ qm sm tm, cell5_ k qm sm, cell13_ k qm sm, cell8_ k qm sm, cell6_ k qm sm, cell14_ k qm sm, (qm 6, .inl (k 1, 1000, .inr (.inl g70))), (qm 7, .inl (k 1, 1000, .inr (.inl g228))), cell18_ k qm tm, cell17_ k qm tm, cell19_ k qm tm, cell21_ k qm tm, cell20_ k qm sm, cell16_ k qm sm, cell11_ k qm sm, cell10_ k qm sm, cell9_ k qm sm, cell7_ k qm sm] := hD
                        exact hJ153 g228 _ _ _  hP hD hS (lv_sub hl [2, 3, 4, 5, 6, 7, 8] rfl)
                      refine lv_icmp_ne (tgt := 125) hx hb dX12_layMean_117 (by decide) (fun c229 => ?_) (fun c229 => ?_)
                      · have f229 : ¬ v69.toInt = p1.toInt := f_ne rfl rfl c229
                        refine lv_iconst (v := 0) hx hb dX12_layMean_125 (by decide) ?_
                        have hlit230 : (0 : Int32).toInt = 0 := by decide
                        exact hJ126 0 _ _ _  hP hD hS (lv_sub hl [0, 1, 2, 3, 4, 5, 6, 7, 8] rfl)
                      · have f229 : v69.toInt = p1.toInt := f_eq rfl rfl c229
                        refine lv_iload hx hb dX12_layMean_120 (lv_at hl 8 rfl) ?_
                        refine lv_goto (tgt := 126) hx hb dX12_layMean_122 (by decide) ?_
                        exact hJ126 p3 _ _ _  hP hD hS (lv_sub hl [0, 1, 2, 3, 4, 5, 6, 7, 8] rfl)
              have hlit231 : (0 : Int32).toInt = 0 := by decide
              exact hL63 (Int.toNat (500 - 0) + 1) 0 g71 _ _ _ (by omega) (by first | decide | omega) hP hD hS (lv_sub hl [0, 1, 2, 3, 4, 5, 6] rfl)
        exact hL54 (Int.toNat (v23.toInt + 1) + 1) v23 g18 (tm 7) _ _ _ (by omega) (by first | decide | omega) hP hD hS (lv_sub hl [0, 1, 2, 3, 4, 5] rfl)
      · have f20 : v17.toInt < 1000 := f_nle (by decide) rfl c20
        refine lv_aload_n hx hb dX12_layMean_11 rfl (lv_at hl 1 rfl) ?_
        refine g_get cx hP iw_X12_layMean_X12 0 rfl rfl 14 (by decide) rfl fw_X12_layMean_25 rfl dX12_layMean_12 ?_
        refine lv_iload hx hb dX12_layMean_15 (lv_at hl 0 rfl) ?_
        refine lv_aload_n hx hb dX12_layMean_17 rfl (lv_at hl 1 rfl) ?_
        refine lv_iload hx hb dX12_layMean_18 (lv_at hl 0 rfl) ?_
        refine g_iF (w1 := fun (_ : Unit) => [cell22_ qm sm tm, cell5_ k qm sm, cell13_ k qm sm, cell8_ k qm sm, cell6_ k qm sm, cell14_ k qm sm, (qm 6, .inl (k 1, 1000, .inr (.inl g18))), cell12_ k qm tm, cell18_ k qm tm, cell17_ k qm tm, cell19_ k qm tm, cell21_ k qm tm, cell20_ k qm sm, cell16_ k qm sm, cell11_ k qm sm, cell10_ k qm sm, cell9_ k qm sm, cell7_ k qm sm]) (g_runVF (ws := [cell22_ qm sm tm, cell5_ k qm sm, cell13_ k qm sm, cell8_ k qm sm, cell6_ k qm sm, cell14_ k qm sm, (qm 6, .inl (k 1, 1000, .inr (.inl g18))), cell12_ k qm tm, cell18_ k qm tm, cell17_ k qm tm, cell19_ k qm tm, cell21_ k qm tm, cell20_ k qm sm, cell16_ k qm sm, cell11_ k qm sm, cell10_ k qm sm, cell9_ k qm sm, cell7_ k qm sm]) (rest := [.int v17, .ref (qm 6)]) cx hP hD hS [.int v17] (c_X12_isHands l D k b qm sm (up2L tm 6 g18) H.size v17 (show 0 ≤ ((sm 2) 1).toInt ∧ ((sm 2) 1).toInt ≤ 4 from by first | decide | omega)) gX12_layMean_X12_isHands rfl rfl rfl nd_X12_isHands ⟨Nat.le_of_ble_eq_true rfl, Nat.le_of_ble_eq_true rfl⟩ (ci := 10) (q0 := 0) rfl rfl rfl hl.1 rfl (Nat.le_of_ble_eq_true rfl) ⟨Nat.zero_le _, Nat.zero_le _⟩ dX12_layMean_20) cx.2.2.1 hD hS (fun r233 _ H locs hw232 hP hD hS => ?_)
        replace hw232 : (0 ≤ r233.toInt ∧ r233.toInt ≤ 1) ∧ (Imp (r233.toInt = 1) (0 ≤ v17.toInt ∧ v17.toInt ≤ 400)) ∧ (r233 = J_X12_isHands sm (up2L tm 6 g18) v17) := hw232
        obtain ⟨w234, w235, w236⟩ := hw232
        have k238 : r233 = (J_X12_isHands sm (up2L tm 6 g18) v17) := congrArg (fun z => z) w236
        have zr233 : 0 ≤ r233.toInt ∧ r233.toInt ≤ 1 := w234
        have hJ37 : ∀ (v245 : Int64) (H : Heap) (locs : List Loc) (ls : Array Slot), va_P D vwCl [cell22_ qm sm tm, cell5_ k qm sm, cell13_ k qm sm, cell8_ k qm sm, cell6_ k qm sm, cell14_ k qm sm, (qm 6, .inl (k 1, 1000, .inr (.inl g18))), cell12_ k qm tm, cell18_ k qm tm, cell17_ k qm tm, cell19_ k qm tm, cell21_ k qm tm, cell20_ k qm sm, cell16_ k qm sm, cell11_ k qm sm, cell10_ k qm sm, cell9_ k qm sm, cell7_ k qm sm] H → va_D A [cell22_ qm sm tm, cell5_ k qm sm, cell13_ k qm sm, cell8_ k qm sm, cell6_ k qm sm, cell14_ k qm sm, (qm 6, .inl (k 1, 1000, .inr (.inl g18))), cell12_ k qm tm, cell18_ k qm tm, cell17_ k qm tm, cell19_ k qm tm, cell21_ k qm tm, cell20_ k qm sm, cell16_ k qm sm, cell11_ k qm sm, cell10_ k qm sm, cell9_ k qm sm, cell7_ k qm sm] → va_S A s.heap H locs → lv_has ls 9 [(5, .int v17), (0, .ref (qm 0)), (1, .int p0), (2, .int p1), (3, .int p2), (4, .int p3)] → W p l e ({ frames := 4, cells := 0, slots := 0, locals := 99 } : Room) s m ([.ref (qm 0), .int p0, .int p1, .int p2, .int p3] : List Value).toArray below meth c H locs 0 0 Q (F0 m 37 ls [.long v245, .int v17, .ref (qm 6)]) := by
          intro v245 H locs ls  hP hD hS hl
          have hn246 : vp_in v17 1000 := f_in (a := v17.toInt) rfl (by omega) (by omega)
          refine va_last hx hb cx.2.1 hP hD hS 6 1 rfl rfl hn246 dX12_layMean_37 (fun H locs hP hD hS => ?_)
          obtain ⟨g247, eg247⟩ : ∃ g : Nat → Int64, g = vp_updL g18 (v17).toNatClampNeg v245 := ⟨_, rfl⟩
          rw [← eg247] at hP hD
          have hP : va_P D vwCl [cell22_ qm sm tm, cell5_ k qm sm, cell13_ k qm sm, cell8_ k qm sm, cell6_ k qm sm, cell14_ k qm sm, (qm 6, .inl (k 1, 1000, .inr (.inl g247))), cell12_ k qm tm, cell18_ k qm tm, cell17_ k qm tm, cell19_ k qm tm, cell21_ k qm tm, cell20_ k qm sm, cell16_ k qm sm, cell11_ k qm sm, cell10_ k qm sm, cell9_ k qm sm, cell7_ k qm sm] H := hP
          have hD : va_D A [cell22_ qm sm tm, cell5_ k qm sm, cell13_ k qm sm, cell8_ k qm sm, cell6_ k qm sm, cell14_ k qm sm, (qm 6, .inl (k 1, 1000, .inr (.inl g247))), cell12_ k qm tm, cell18_ k qm tm, cell17_ k qm tm, cell19_ k qm tm, cell21_ k qm tm, cell20_ k qm sm, cell16_ k qm sm, cell11_ k qm sm, cell10_ k qm sm, cell9_ k qm sm, cell7_ k qm sm] := hD
          obtain ⟨v248, e248⟩ : ∃ z : Int32, z = v17 + 1 := ⟨_, rfl⟩
          refine lv_iinc (v := v248) (lv' := [(5, .int v248), (0, .ref (qm 0)), (1, .int p0), (2, .int p1), (3, .int p2), (4, .int p3)]) hx hb dX12_layMean_38 hl (k := 0) rfl (by rw [e248]; rfl) (by decide) rfl (fun ls hl => ?_)
          have t248 : v248.toInt = v17.toInt + 1 := by rw [e248]; exact i_add rfl (by decide) (by omega) (by omega)
          refine lv_goto (tgt := 3) hx hb dX12_layMean_41 (by decide) ?_
          exact ih3 v248 g247 _ _ _ (by omega) (by first | decide | omega) hP hD hS (lv_sub hl [0, 1, 2, 3, 4, 5] rfl)
        refine lv_if_eq (tgt := 36) hx hb dX12_layMean_23 (by decide) (fun c249 => ?_) (fun c249 => ?_)
        · have f249 : r233.toInt = 0 := f_eq rfl (by decide) c249
          refine lv_lconst (v := 0) hx hb dX12_layMean_36 (by decide) ?_
          have hlit250 : (0 : Int32).toInt = 0 := by decide
          exact hJ37 0 _ _ _  hP hD hS (lv_sub hl [0, 1, 2, 3, 4, 5] rfl)
        · have f249 : ¬ r233.toInt = 0 := f_ne rfl (by decide) c249
          have k249 : (0 ≤ v17.toInt ∧ v17.toInt ≤ 400) := w235 (by omega)
          refine lv_aload_n hx hb dX12_layMean_26 rfl (lv_at hl 1 rfl) ?_
          refine lv_iload hx hb dX12_layMean_27 (lv_at hl 0 rfl) ?_
          refine g_iF (w1 := fun (_ : Unit) => [cell22_ qm sm tm, cell5_ k qm sm, cell13_ k qm sm, cell8_ k qm sm, cell6_ k qm sm, cell14_ k qm sm, (qm 6, .inl (k 1, 1000, .inr (.inl g18))), cell12_ k qm tm, cell18_ k qm tm, cell17_ k qm tm, cell19_ k qm tm, cell21_ k qm tm, cell20_ k qm sm, cell16_ k qm sm, cell11_ k qm sm, cell10_ k qm sm, cell9_ k qm sm, cell7_ k qm sm]) (g_runVF (ws := [cell22_ qm sm tm, cell5_ k qm sm, cell13_ k qm sm, cell8_ k qm sm, cell6_ k qm sm, cell14_ k qm sm, (qm 6, .inl (k 1, 1000, .inr (.inl g18))), cell12_ k qm tm, cell18_ k qm tm, cell17_ k qm tm, cell19_ k qm tm, cell21_ k qm tm, cell20_ k qm sm, cell16_ k qm sm, cell11_ k qm sm, cell10_ k qm sm, cell9_ k qm sm, cell7_ k qm sm]) (rest := [.int v17, .ref (qm 6)]) cx hP hD hS [.int v17] (c_X12_bonus l D k b qm sm (up2L tm 6 g18) H.size v17) gX12_layMean_X12_bonus rfl rfl rfl nd_X12_bonus ⟨Nat.le_of_ble_eq_true rfl, Nat.le_of_ble_eq_true rfl⟩ (ci := 10) (q0 := 0) rfl rfl rfl hl.1 rfl (Nat.le_of_ble_eq_true rfl) ⟨Nat.zero_le _, Nat.zero_le _⟩ dX12_layMean_29) cx.2.2.1 hD hS (fun r252 _ H locs hw251 hP hD hS => ?_)
          have w253 : r252 = J_X12_bonus sm (up2L tm 6 g18) v17 := hw251
          clear hw251
          have k255 : r252 = (J_X12_bonus sm (up2L tm 6 g18) v17) := congrArg (fun z => z) w253
          obtain ⟨v256, e256⟩ : ∃ z : Int64, z = (r252 : Int32).toInt64 := ⟨_, rfl⟩
          refine lv_i2l (v := v256) hx hb dX12_layMean_32 e256.symm ?_
          refine lv_goto (tgt := 37) hx hb dX12_layMean_33 (by decide) ?_
          exact hJ37 v256 _ _ _  hP hD hS (lv_sub hl [0, 1, 2, 3, 4, 5] rfl)
  have hlit257 : (0 : Int32).toInt = 0 := by decide
  exact hL3 (Int.toNat (1000 - 0) + 1) 0 (tm 6) _ _ _ (by omega) (by first | decide | omega) hP hD hS (lv_sub hl [0, 1, 2, 3, 4, 5] rfl)
theorem fw_X12_mean_13 : Cond.fieldLink RX12 13 "StillInAugustModel" "house" "[I" ∈ wsX12_mean := by decide +kernel
theorem kJ_X12_mean_206 : Cond.constantLong RX12 206 (-2) ∈ wsX12_mean := by decide +kernel
theorem kJ_X12_mean_221 : Cond.constantLong RX12 221 (-1) ∈ wsX12_mean := by decide +kernel
theorem nd_X12_layMean : yX12_layMean.cls = RX12 ∧ yX12_layMean.cls ≠ "java/lang/invoke/MethodHandle" ∧ yX12_layMean.cls ≠ "java/lang/invoke/VarHandle" ∧ (parseMethodDescriptor yX12_layMean.desc).map (fun d => d.parameters.length) = some 4 := by decide +kernel
theorem iw_X12_mean_X12 : ∀ w ∈ u_ws RX12 TX12 33, w ∈ wsX12_mean := fun _ h => List.mem_cons_of_mem _ (List.mem_append_right _ h)
set_option maxHeartbeats 4000000 in
set_option maxRecDepth 100000 in
theorem c_X12_mean (l : Launch) (D : va_G) (k : Nat → ClassId) (b : Nat → Nat) (qm : Nat → Nat) (sm : Nat → Nat → Int32) (tm : Nat → Nat → Int64) (sz : Nat) (p0 : Int32) (p1 : Int32) (p2 : Int32) (p3 : Int32) (p4 : Int32) (h_w0 : 0 ≤ (sm 2 0).toInt ∧ (sm 2 0).toInt ≤ 5) (h_k1 : 0 ≤ (sm 2 1).toInt ∧ (sm 2 1).toInt ≤ 4) : MetL l D k b yX12_mean wsX12_mean ({ frames := 5, cells := 0, slots := 0, locals := 127 } : Room) [cell22_ qm sm tm, cell5_ k qm sm, cell13_ k qm sm, cell8_ k qm sm, cell6_ k qm sm, cell14_ k qm sm, cell15_ k qm tm, cell12_ k qm tm, cell18_ k qm tm, cell17_ k qm tm, cell19_ k qm tm, cell21_ k qm tm, cell20_ k qm sm, cell16_ k qm sm, cell11_ k qm sm, cell10_ k qm sm, cell9_ k qm sm, cell7_ k qm sm] sz [.ref (qm 0), .int p0, .int p1, .int p2, .int p3, .int p4] (fun (r : Int64) (u : (Nat → Int64) × (Nat → Int64)) => True) (fun u => [cell22_ qm sm tm, cell5_ k qm sm, cell13_ k qm sm, cell8_ k qm sm, cell6_ k qm sm, cell14_ k qm sm, cell155_ k qm (u.1), cell156_ k qm (u.2), cell18_ k qm tm, cell17_ k qm tm, cell19_ k qm tm, cell21_ k qm tm, cell20_ k qm sm, cell16_ k qm sm, cell11_ k qm sm, cell10_ k qm sm, cell9_ k qm sm, cell7_ k qm sm]) := by
  refine g_enter (cc := cX12_mean) (maxL := 6) (ret := (some .long)) (by decide) rfl (Nat.le_of_ble_eq_true rfl) ?_
  intro p e s m below meth c A hsz hAe cx hr hP hD hS ls hl
  rw [hAe]
  refine g_q (fun Q hQ => ?_)
  have hx := cx.1.1
  have hb := cx.1.2.1
  have bp0 := i_rng p0
  have bp1 := i_rng p1
  have bp2 := i_rng p2
  have bp3 := i_rng p3
  have bp4 := i_rng p4
  have hl : lv_has ls 6 [(0, .ref (qm 0)), (1, .int p0), (2, .int p1), (3, .int p2), (4, .int p3), (5, .int p4)] := hl
  obtain ⟨H, eH⟩ : ∃ H : Heap, H = s.heap := ⟨_, rfl⟩
  obtain ⟨locs, el⟩ : ∃ L : List Loc, L = [] := ⟨_, rfl⟩
  have hP : va_P D vwCl [cell22_ qm sm tm, cell5_ k qm sm, cell13_ k qm sm, cell8_ k qm sm, cell6_ k qm sm, cell14_ k qm sm, cell15_ k qm tm, cell12_ k qm tm, cell18_ k qm tm, cell17_ k qm tm, cell19_ k qm tm, cell21_ k qm tm, cell20_ k qm sm, cell16_ k qm sm, cell11_ k qm sm, cell10_ k qm sm, cell9_ k qm sm, cell7_ k qm sm] H := by rw [eH]; exact hP
  have hD : va_D A [cell22_ qm sm tm, cell5_ k qm sm, cell13_ k qm sm, cell8_ k qm sm, cell6_ k qm sm, cell14_ k qm sm, cell15_ k qm tm, cell12_ k qm tm, cell18_ k qm tm, cell17_ k qm tm, cell19_ k qm tm, cell21_ k qm tm, cell20_ k qm sm, cell16_ k qm sm, cell11_ k qm sm, cell10_ k qm sm, cell9_ k qm sm, cell7_ k qm sm] := hD
  have hS : va_S A s.heap H locs := by rw [eH, el]; exact hS
  suffices goal : W p l e ({ frames := 5, cells := 0, slots := 0, locals := 127 } : Room) s m ([.ref (qm 0), .int p0, .int p1, .int p2, .int p3, .int p4] : List Value).toArray below meth c H locs 0 0 Q (F0 m 0 ls []) by rw [eH, el] at goal; exact goal
  refine lv_iload_n hx hb dX12_mean_0 rfl (lv_at hl 1 rfl) ?_
  refine g_ir (g_runS (wc := []) (rest := []) cx hP hD hS [] rfl (by decide) [.int p0] (c_X12_isRule l D k b H.size p0) gX12_mean_X12_isRule rfl rfl rfl nd_X12_isRule ⟨Nat.le_of_ble_eq_true rfl, Nat.le_of_ble_eq_true rfl⟩ rfl hl.1 rfl (Nat.le_of_ble_eq_true rfl) ⟨Nat.zero_le _, Nat.zero_le _⟩ dX12_mean_1) cx.2.2.1 hP hD hS [] rfl rfl (fun r2 H locs hw1 hP hS => ?_)
  replace hw1 : (0 ≤ r2.toInt ∧ r2.toInt ≤ 1) ∧ (Imp (r2.toInt = 1) (0 ≤ p0.toInt ∧ p0.toInt ≤ 2)) ∧ (r2 = J_X12_isRule p0) := hw1
  obtain ⟨w3, w4, w5⟩ := hw1
  have k7 : r2 = (J_X12_isRule p0) := congrArg (fun z => z) w5
  have zr2 : 0 ≤ r2.toInt ∧ r2.toInt ≤ 1 := w3
  refine lv_if_eq (tgt := 15) hx hb dX12_mean_4 (by decide) (fun c8 => ?_) (fun c8 => ?_)
  · have f8 : r2.toInt = 0 := f_eq rfl (by decide) c8
    refine lv_ldc2 (v := (-1)) hx hb cx.1.2.2.2.1 (cx.1.2.2.2.2 _ kJ_X12_mean_221) dX12_mean_15 ?_
    rw [hQ]
    exact x_l cx hr ((tm 6), (tm 7)) hP hD hS trivial dX12_mean_18
  · have f8 : ¬ r2.toInt = 0 := f_ne rfl (by decide) c8
    have k8 : (0 ≤ p0.toInt ∧ p0.toInt ≤ 2) := w4 (by omega)
    refine lv_aload_n hx hb dX12_mean_7 rfl (lv_at hl 0 rfl) ?_
    refine lv_iload_n hx hb dX12_mean_8 rfl (lv_at hl 2 rfl) ?_
    refine g_iF (w1 := fun (_ : Unit) => [cell22_ qm sm tm, cell5_ k qm sm, cell13_ k qm sm, cell8_ k qm sm, cell6_ k qm sm, cell14_ k qm sm, cell15_ k qm tm, cell12_ k qm tm, cell18_ k qm tm, cell17_ k qm tm, cell19_ k qm tm, cell21_ k qm tm, cell20_ k qm sm, cell16_ k qm sm, cell11_ k qm sm, cell10_ k qm sm, cell9_ k qm sm, cell7_ k qm sm]) (g_runVF (ws := [cell22_ qm sm tm, cell5_ k qm sm, cell13_ k qm sm, cell8_ k qm sm, cell6_ k qm sm, cell14_ k qm sm, cell15_ k qm tm, cell12_ k qm tm, cell18_ k qm tm, cell17_ k qm tm, cell19_ k qm tm, cell21_ k qm tm, cell20_ k qm sm, cell16_ k qm sm, cell11_ k qm sm, cell10_ k qm sm, cell9_ k qm sm, cell7_ k qm sm]) (rest := []) cx hP hD hS [.int p1] (c_X12_isWeek l D k b qm sm tm H.size p1 (show 0 ≤ ((sm 2) 0).toInt ∧ ((sm 2) 0).toInt ≤ 5 from by first | decide | omega)) gX12_mean_X12_isWeek rfl rfl rfl nd_X12_isWeek ⟨Nat.le_of_ble_eq_true rfl, Nat.le_of_ble_eq_true rfl⟩ (ci := 10) (q0 := 0) rfl rfl rfl hl.1 rfl (Nat.le_of_ble_eq_true rfl) ⟨Nat.zero_le _, Nat.zero_le _⟩ dX12_mean_9) cx.2.2.1 hD hS (fun r10 _ H locs hw9 hP hD hS => ?_)
    replace hw9 : (0 ≤ r10.toInt ∧ r10.toInt ≤ 1) ∧ (Imp (r10.toInt = 1) (0 ≤ p1.toInt ∧ p1.toInt ≤ 4)) ∧ (r10 = J_X12_isWeek sm tm p1) := hw9
    obtain ⟨w11, w12, w13⟩ := hw9
    have k15 : r10 = (J_X12_isWeek sm tm p1) := congrArg (fun z => z) w13
    have zr10 : 0 ≤ r10.toInt ∧ r10.toInt ≤ 1 := w11
    refine lv_if_ne (tgt := 19) hx hb dX12_mean_12 (by decide) (fun c16 => ?_) (fun c16 => ?_)
    · have f16 : ¬ r10.toInt = 0 := f_ne rfl (by decide) c16
      have k16 : (0 ≤ p1.toInt ∧ p1.toInt ≤ 4) := w12 (by omega)
      refine lv_aload_n hx hb dX12_mean_19 rfl (lv_at hl 0 rfl) ?_
      refine lv_iload_n hx hb dX12_mean_20 rfl (lv_at hl 3 rfl) ?_
      refine g_iF (w1 := fun (_ : Unit) => [cell22_ qm sm tm, cell5_ k qm sm, cell13_ k qm sm, cell8_ k qm sm, cell6_ k qm sm, cell14_ k qm sm, cell15_ k qm tm, cell12_ k qm tm, cell18_ k qm tm, cell17_ k qm tm, cell19_ k qm tm, cell21_ k qm tm, cell20_ k qm sm, cell16_ k qm sm, cell11_ k qm sm, cell10_ k qm sm, cell9_ k qm sm, cell7_ k qm sm]) (g_runVF (ws := [cell22_ qm sm tm, cell5_ k qm sm, cell13_ k qm sm, cell8_ k qm sm, cell6_ k qm sm, cell14_ k qm sm, cell15_ k qm tm, cell12_ k qm tm, cell18_ k qm tm, cell17_ k qm tm, cell19_ k qm tm, cell21_ k qm tm, cell20_ k qm sm, cell16_ k qm sm, cell11_ k qm sm, cell10_ k qm sm, cell9_ k qm sm, cell7_ k qm sm]) (rest := []) cx hP hD hS [.int p2] (c_X12_isHands l D k b qm sm tm H.size p2 (show 0 ≤ ((sm 2) 1).toInt ∧ ((sm 2) 1).toInt ≤ 4 from by first | decide | omega)) gX12_mean_X12_isHands rfl rfl rfl nd_X12_isHands ⟨Nat.le_of_ble_eq_true rfl, Nat.le_of_ble_eq_true rfl⟩ (ci := 10) (q0 := 0) rfl rfl rfl hl.1 rfl (Nat.le_of_ble_eq_true rfl) ⟨Nat.zero_le _, Nat.zero_le _⟩ dX12_mean_21) cx.2.2.1 hD hS (fun r18 _ H locs hw17 hP hD hS => ?_)
      replace hw17 : (0 ≤ r18.toInt ∧ r18.toInt ≤ 1) ∧ (Imp (r18.toInt = 1) (0 ≤ p2.toInt ∧ p2.toInt ≤ 400)) ∧ (r18 = J_X12_isHands sm tm p2) := hw17
      obtain ⟨w19, w20, w21⟩ := hw17
      have k23 : r18 = (J_X12_isHands sm tm p2) := congrArg (fun z => z) w21
      have zr18 : 0 ≤ r18.toInt ∧ r18.toInt ≤ 1 := w19
      refine lv_if_eq (tgt := 36) hx hb dX12_mean_24 (by decide) (fun c24 => ?_) (fun c24 => ?_)
      · have f24 : r18.toInt = 0 := f_eq rfl (by decide) c24
        refine lv_ldc2 (v := (-2)) hx hb cx.1.2.2.2.1 (cx.1.2.2.2.2 _ kJ_X12_mean_206) dX12_mean_36 ?_
        rw [hQ]
        exact x_l cx hr ((tm 6), (tm 7)) hP hD hS trivial dX12_mean_39
      · have f24 : ¬ r18.toInt = 0 := f_ne rfl (by decide) c24
        have k24 : (0 ≤ p2.toInt ∧ p2.toInt ≤ 400) := w20 (by omega)
        refine lv_aload_n hx hb dX12_mean_27 rfl (lv_at hl 0 rfl) ?_
        refine lv_iload hx hb dX12_mean_28 (lv_at hl 4 rfl) ?_
        refine g_iF (w1 := fun (_ : Unit) => [cell22_ qm sm tm, cell5_ k qm sm, cell13_ k qm sm, cell8_ k qm sm, cell6_ k qm sm, cell14_ k qm sm, cell15_ k qm tm, cell12_ k qm tm, cell18_ k qm tm, cell17_ k qm tm, cell19_ k qm tm, cell21_ k qm tm, cell20_ k qm sm, cell16_ k qm sm, cell11_ k qm sm, cell10_ k qm sm, cell9_ k qm sm, cell7_ k qm sm]) (g_runVF (ws := [cell22_ qm sm tm, cell5_ k qm sm, cell13_ k qm sm, cell8_ k qm sm, cell6_ k qm sm, cell14_ k qm sm, cell15_ k qm tm, cell12_ k qm tm, cell18_ k qm tm, cell17_ k qm tm, cell19_ k qm tm, cell21_ k qm tm, cell20_ k qm sm, cell16_ k qm sm, cell11_ k qm sm, cell10_ k qm sm, cell9_ k qm sm, cell7_ k qm sm]) (rest := []) cx hP hD hS [.int p3] (c_X12_isComing l D k b qm sm tm H.size p3) gX12_mean_X12_isComing rfl rfl rfl nd_X12_isComing ⟨Nat.le_of_ble_eq_true rfl, Nat.le_of_ble_eq_true rfl⟩ (ci := 10) (q0 := 0) rfl rfl rfl hl.1 rfl (Nat.le_of_ble_eq_true rfl) ⟨Nat.zero_le _, Nat.zero_le _⟩ dX12_mean_30) cx.2.2.1 hD hS (fun r26 _ H locs hw25 hP hD hS => ?_)
        replace hw25 : (0 ≤ r26.toInt ∧ r26.toInt ≤ 1) ∧ (Imp (r26.toInt = 1) (0 ≤ p3.toInt ∧ p3.toInt ≤ 2)) ∧ (r26 = J_X12_isComing sm tm p3) := hw25
        obtain ⟨w27, w28, w29⟩ := hw25
        have k31 : r26 = (J_X12_isComing sm tm p3) := congrArg (fun z => z) w29
        have zr26 : 0 ≤ r26.toInt ∧ r26.toInt ≤ 1 := w27
        refine lv_if_ne (tgt := 40) hx hb dX12_mean_33 (by decide) (fun c32 => ?_) (fun c32 => ?_)
        · have f32 : ¬ r26.toInt = 0 := f_ne rfl (by decide) c32
          have k32 : (0 ≤ p3.toInt ∧ p3.toInt ≤ 2) := w28 (by omega)
          refine lv_aload_n hx hb dX12_mean_40 rfl (lv_at hl 0 rfl) ?_
          refine lv_iload_n hx hb dX12_mean_41 rfl (lv_at hl 1 rfl) ?_
          refine lv_iload_n hx hb dX12_mean_42 rfl (lv_at hl 2 rfl) ?_
          refine lv_iload_n hx hb dX12_mean_43 rfl (lv_at hl 3 rfl) ?_
          refine lv_iload hx hb dX12_mean_44 (lv_at hl 4 rfl) ?_
          refine g_lF (w1 := fun (u : (Nat → Int64) × (Nat → Int64)) => [cell22_ qm sm tm, cell5_ k qm sm, cell13_ k qm sm, cell8_ k qm sm, cell6_ k qm sm, cell14_ k qm sm, cell155_ k qm (u.1), cell156_ k qm (u.2), cell18_ k qm tm, cell17_ k qm tm, cell19_ k qm tm, cell21_ k qm tm, cell20_ k qm sm, cell16_ k qm sm, cell11_ k qm sm, cell10_ k qm sm, cell9_ k qm sm, cell7_ k qm sm]) (g_runVF (ws := [cell22_ qm sm tm, cell5_ k qm sm, cell13_ k qm sm, cell8_ k qm sm, cell6_ k qm sm, cell14_ k qm sm, cell15_ k qm tm, cell12_ k qm tm, cell18_ k qm tm, cell17_ k qm tm, cell19_ k qm tm, cell21_ k qm tm, cell20_ k qm sm, cell16_ k qm sm, cell11_ k qm sm, cell10_ k qm sm, cell9_ k qm sm, cell7_ k qm sm]) (rest := []) cx hP hD hS [.int p0, .int p1, .int p2, .int p3] (c_X12_layMean l D k b qm sm tm H.size p0 p1 p2 p3 (show 0 ≤ ((sm 2) 0).toInt ∧ ((sm 2) 0).toInt ≤ 5 from by first | decide | omega) (show 0 ≤ ((sm 2) 1).toInt ∧ ((sm 2) 1).toInt ≤ 4 from by first | decide | omega) (show 0 ≤ p0.toInt ∧ p0.toInt ≤ 2 from by first | decide | omega) (show 0 ≤ p1.toInt ∧ p1.toInt ≤ 4 from by first | decide | omega) (show 0 ≤ p2.toInt ∧ p2.toInt ≤ 999 from by first | decide | omega)) gX12_mean_X12_layMean rfl rfl rfl nd_X12_layMean ⟨Nat.le_of_ble_eq_true rfl, Nat.le_of_ble_eq_true rfl⟩ (ci := 10) (q0 := 0) rfl rfl rfl hl.1 rfl (Nat.le_of_ble_eq_true rfl) ⟨Nat.zero_le _, Nat.zero_le _⟩ dX12_mean_46) cx.2.2.1 hD hS (fun r35 u34 H locs hw33 hP hD hS => ?_)
          obtain ⟨m36, m37⟩ := u34
          have hP : va_P D vwCl [cell22_ qm sm tm, cell5_ k qm sm, cell13_ k qm sm, cell8_ k qm sm, cell6_ k qm sm, cell14_ k qm sm, (qm 6, .inl (k 1, 1000, .inr (.inl m36))), (qm 7, .inl (k 1, 1000, .inr (.inl m37))), cell18_ k qm tm, cell17_ k qm tm, cell19_ k qm tm, cell21_ k qm tm, cell20_ k qm sm, cell16_ k qm sm, cell11_ k qm sm, cell10_ k qm sm, cell9_ k qm sm, cell7_ k qm sm] H := hP
          have hD : va_D A [cell22_ qm sm tm, cell5_ k qm sm, cell13_ k qm sm, cell8_ k qm sm, cell6_ k qm sm, cell14_ k qm sm, (qm 6, .inl (k 1, 1000, .inr (.inl m36))), (qm 7, .inl (k 1, 1000, .inr (.inl m37))), cell18_ k qm tm, cell17_ k qm tm, cell19_ k qm tm, cell21_ k qm tm, cell20_ k qm sm, cell16_ k qm sm, cell11_ k qm sm, cell10_ k qm sm, cell9_ k qm sm, cell7_ k qm sm] := hD
          refine lv_aload_n hx hb dX12_mean_49 rfl (lv_at hl 0 rfl) ?_
          refine g_get cx hP iw_X12_mean_X12 0 rfl rfl 1 (by decide) rfl fw_X12_mean_13 rfl dX12_mean_50 ?_
          refine lv_iconst (v := 0) hx hb dX12_mean_53 (by decide) ?_
          have hn38 : vp_in 0 26 := f_in (a := 0) (by decide) (by omega) (by omega)
          refine va_iald hx hb cx.2.1 hP 2 0 rfl rfl hn38 dX12_mean_54 (lv_topi (fun v39 e39 => ?_))
          have uv39 : v39.toInt = ((sm 2) 0).toInt := congrArg Int32.toInt e39
          have t39 : 0 ≤ v39.toInt ∧ v39.toInt ≤ 5 := by rw [e39]; exact h_w0
          refine lv_iload_n hx hb dX12_mean_55 rfl (lv_at hl 2 rfl) ?_
          refine lv_isub hx hb dX12_mean_56 (lv_topi (fun v40 e40 => ?_))
          have t40 : v40.toInt = v39.toInt - p1.toInt := by rw [e40]; exact i_sub rfl rfl (by omega) (by omega)
          refine g_lr (g_runS (wc := []) (rest := [.long r35]) cx hP hD hS [] rfl (by decide) [.int v40] (c_X12_parts l D k b H.size v40) gX12_mean_X12_parts rfl rfl rfl nd_X12_parts ⟨Nat.le_of_ble_eq_true rfl, Nat.le_of_ble_eq_true rfl⟩ rfl hl.1 rfl (Nat.le_of_ble_eq_true rfl) ⟨Nat.zero_le _, Nat.zero_le _⟩ dX12_mean_57) cx.2.2.1 hP hD hS [] rfl rfl (fun r42 H locs hw41 hP hS => ?_)
          replace hw41 : (r42.toInt % 2 = 1) ∧ (r42 = J_X12_parts v40) := hw41
          obtain ⟨w43, w44⟩ := hw41
          have k46 : r42 = (J_X12_parts v40) := congrArg (fun z => z) w44
          refine lv_iload hx hb dX12_mean_60 (lv_at hl 5 rfl) ?_
          refine g_lr (g_runS (wc := []) (rest := []) cx hP hD hS [] rfl (by decide) [.long r35, .long r42, .int p4] (c_X12_told l D k b H.size r35 r42 p4 (show ¬ r42.toInt = 0 from by first | decide | omega)) gX12_mean_X12_told rfl rfl rfl nd_X12_told ⟨Nat.le_of_ble_eq_true rfl, Nat.le_of_ble_eq_true rfl⟩ rfl hl.1 rfl (Nat.le_of_ble_eq_true rfl) ⟨Nat.zero_le _, Nat.zero_le _⟩ dX12_mean_62) cx.2.2.1 hP hD hS [] rfl rfl (fun r48 H locs hw47 hP hS => ?_)
          have w49 : r48 = J_X12_told r35 r42 p4 := hw47
          clear hw47
          have k51 : r48 = (J_X12_told r35 r42 p4) := congrArg (fun z => z) w49
          rw [hQ]
          exact x_l cx hr (m36, m37) hP hD hS trivial dX12_mean_65
        · have f32 : r26.toInt = 0 := f_eq rfl (by decide) c32
          refine lv_ldc2 (v := (-2)) hx hb cx.1.2.2.2.1 (cx.1.2.2.2.2 _ kJ_X12_mean_206) dX12_mean_36 ?_
          rw [hQ]
          exact x_l cx hr ((tm 6), (tm 7)) hP hD hS trivial dX12_mean_39
    · have f16 : r10.toInt = 0 := f_eq rfl (by decide) c16
      refine lv_ldc2 (v := (-1)) hx hb cx.1.2.2.2.1 (cx.1.2.2.2.2 _ kJ_X12_mean_221) dX12_mean_15 ?_
      rw [hQ]
      exact x_l cx hr ((tm 6), (tm 7)) hP hD hS trivial dX12_mean_18
theorem fw_X12_layLikely_32 : Cond.fieldLink RX12 32 "StillInAugustModel" "likely" "[J" ∈ wsX12_layLikely := by decide +kernel
theorem fw_X12_layLikely_35 : Cond.fieldLink RX12 35 "StillInAugustModel" "thenLikely" "[J" ∈ wsX12_layLikely := by decide +kernel
theorem iw_X12_layLikely_X12 : ∀ w ∈ u_ws RX12 TX12 33, w ∈ wsX12_layLikely := fun _ h => List.mem_cons_of_mem _ (List.mem_append_right _ h)
set_option maxHeartbeats 4000000 in
set_option maxRecDepth 100000 in
theorem c_X12_layLikely (l : Launch) (D : va_G) (k : Nat → ClassId) (b : Nat → Nat) (qm : Nat → Nat) (sm : Nat → Nat → Int32) (tm : Nat → Nat → Int64) (sz : Nat) (p0 : Int32) (p1 : Int32) (h_w0 : 0 ≤ (sm 2 0).toInt ∧ (sm 2 0).toInt ≤ 5) (h_k1 : 0 ≤ (sm 2 1).toInt ∧ (sm 2 1).toInt ≤ 4) (hp0 : 0 ≤ p0.toInt ∧ p0.toInt ≤ 2) (hp1 : 0 ≤ p1.toInt ∧ p1.toInt ≤ 5) : MetV l D k b yX12_layLikely wsX12_layLikely ({ frames := 3, cells := 0, slots := 0, locals := 75 } : Room) [cell22_ qm sm tm, cell5_ k qm sm, cell13_ k qm sm, cell8_ k qm sm, cell6_ k qm sm, cell14_ k qm sm, cell15_ k qm tm, cell12_ k qm tm, cell18_ k qm tm, cell17_ k qm tm, cell19_ k qm tm, cell21_ k qm tm, cell20_ k qm sm, cell16_ k qm sm, cell11_ k qm sm, cell10_ k qm sm, cell9_ k qm sm, cell7_ k qm sm] sz [.ref (qm 0), .int p0, .int p1] (fun (u : (Nat → Int64) × (Nat → Int64)) => True) (fun u => [cell22_ qm sm tm, cell5_ k qm sm, cell13_ k qm sm, cell8_ k qm sm, cell6_ k qm sm, cell14_ k qm sm, cell15_ k qm tm, cell12_ k qm tm, cell147_ k qm (u.1), cell148_ k qm (u.2), cell19_ k qm tm, cell21_ k qm tm, cell20_ k qm sm, cell16_ k qm sm, cell11_ k qm sm, cell10_ k qm sm, cell9_ k qm sm, cell7_ k qm sm]) := by
  refine g_enter (cc := cX12_layLikely) (maxL := 7) (ret := none) (by decide) rfl (Nat.le_of_ble_eq_true rfl) ?_
  intro p e s m below meth c A hsz hAe cx hr hP hD hS ls hl
  rw [hAe]
  refine g_q (fun Q hQ => ?_)
  have hx := cx.1.1
  have hb := cx.1.2.1
  have bp0 := i_rng p0
  have bp1 := i_rng p1
  have hl : lv_has ls 7 [(0, .ref (qm 0)), (1, .int p0), (2, .int p1)] := hl
  obtain ⟨H, eH⟩ : ∃ H : Heap, H = s.heap := ⟨_, rfl⟩
  obtain ⟨locs, el⟩ : ∃ L : List Loc, L = [] := ⟨_, rfl⟩
  have hP : va_P D vwCl [cell22_ qm sm tm, cell5_ k qm sm, cell13_ k qm sm, cell8_ k qm sm, cell6_ k qm sm, cell14_ k qm sm, cell15_ k qm tm, cell12_ k qm tm, cell18_ k qm tm, cell17_ k qm tm, cell19_ k qm tm, cell21_ k qm tm, cell20_ k qm sm, cell16_ k qm sm, cell11_ k qm sm, cell10_ k qm sm, cell9_ k qm sm, cell7_ k qm sm] H := by rw [eH]; exact hP
  have hD : va_D A [cell22_ qm sm tm, cell5_ k qm sm, cell13_ k qm sm, cell8_ k qm sm, cell6_ k qm sm, cell14_ k qm sm, cell15_ k qm tm, cell12_ k qm tm, cell18_ k qm tm, cell17_ k qm tm, cell19_ k qm tm, cell21_ k qm tm, cell20_ k qm sm, cell16_ k qm sm, cell11_ k qm sm, cell10_ k qm sm, cell9_ k qm sm, cell7_ k qm sm] := hD
  have hS : va_S A s.heap H locs := by rw [eH, el]; exact hS
  suffices goal : W p l e ({ frames := 3, cells := 0, slots := 0, locals := 75 } : Room) s m ([.ref (qm 0), .int p0, .int p1] : List Value).toArray below meth c H locs 0 0 Q (F0 m 0 ls []) by rw [eH, el] at goal; exact goal
  refine lv_iconst (v := 0) hx hb dX12_layLikely_0 (by decide) ?_
  refine lv_istore_n (lv' := [(3, .int 0), (0, .ref (qm 0)), (1, .int p0), (2, .int p1)]) hx hb dX12_layLikely_1 rfl hl (by decide) rfl (fun ls hl => ?_)
  have hL2 : ∀ (n6 : Nat) (v4 : Int32) (g5 : Nat → Int64) (H : Heap) (locs : List Loc) (ls : Array Slot), 50 - v4.toInt < (n6 : Int) → (0 ≤ v4.toInt ∧ v4.toInt ≤ 50) → va_P D vwCl [cell22_ qm sm tm, cell5_ k qm sm, cell13_ k qm sm, cell8_ k qm sm, cell6_ k qm sm, cell14_ k qm sm, cell15_ k qm tm, cell12_ k qm tm, (qm 8, .inl (k 1, 50, .inr (.inl g5))), cell17_ k qm tm, cell19_ k qm tm, cell21_ k qm tm, cell20_ k qm sm, cell16_ k qm sm, cell11_ k qm sm, cell10_ k qm sm, cell9_ k qm sm, cell7_ k qm sm] H → va_D A [cell22_ qm sm tm, cell5_ k qm sm, cell13_ k qm sm, cell8_ k qm sm, cell6_ k qm sm, cell14_ k qm sm, cell15_ k qm tm, cell12_ k qm tm, (qm 8, .inl (k 1, 50, .inr (.inl g5))), cell17_ k qm tm, cell19_ k qm tm, cell21_ k qm tm, cell20_ k qm sm, cell16_ k qm sm, cell11_ k qm sm, cell10_ k qm sm, cell9_ k qm sm, cell7_ k qm sm] → va_S A s.heap H locs → lv_has ls 7 [(3, .int v4), (0, .ref (qm 0)), (1, .int p0), (2, .int p1)] → W p l e ({ frames := 3, cells := 0, slots := 0, locals := 75 } : Room) s m ([.ref (qm 0), .int p0, .int p1] : List Value).toArray below meth c H locs 0 0 Q (F0 m 2 ls []) := by
    intro n6
    induction n6 with
    | zero => intro v4 g5 H locs ls hmn6 bv4 hP hD hS hl; exact absurd hmn6 (by omega)
    | succ n6 ih2 =>
      intro v4 g5 H locs ls hmn6 bv4 hP hD hS hl
      refine lv_iload_n hx hb dX12_layLikely_2 rfl (lv_at hl 0 rfl) ?_
      refine lv_bipush (v := 50) hx hb dX12_layLikely_3 (by decide) ?_
      refine lv_icmp_ge (tgt := 29) hx hb dX12_layLikely_5 (by decide) (fun c7 => ?_) (fun c7 => ?_)
      · have f7 : 50 ≤ v4.toInt := f_le (by decide) rfl c7
        refine lv_iconst (v := 0) hx hb dX12_layLikely_29 (by decide) ?_
        refine lv_istore_n (lv' := [(3, .int 0), (0, .ref (qm 0)), (1, .int p0), (2, .int p1)]) hx hb dX12_layLikely_30 rfl hl (by decide) rfl (fun ls hl => ?_)
        have hL31 : ∀ (n53 : Nat) (v50 : Int32) (g51 : Nat → Int64) (g52 : Nat → Int64) (H : Heap) (locs : List Loc) (ls : Array Slot), 5 - v50.toInt < (n53 : Int) → (0 ≤ v50.toInt ∧ v50.toInt ≤ 5) → va_P D vwCl [cell22_ qm sm tm, cell5_ k qm sm, cell13_ k qm sm, cell8_ k qm sm, cell6_ k qm sm, cell14_ k qm sm, cell15_ k qm tm, cell12_ k qm tm, (qm 8, .inl (k 1, 50, .inr (.inl g51))), (qm 9, .inl (k 1, 50, .inr (.inl g52))), cell19_ k qm tm, cell21_ k qm tm, cell20_ k qm sm, cell16_ k qm sm, cell11_ k qm sm, cell10_ k qm sm, cell9_ k qm sm, cell7_ k qm sm] H → va_D A [cell22_ qm sm tm, cell5_ k qm sm, cell13_ k qm sm, cell8_ k qm sm, cell6_ k qm sm, cell14_ k qm sm, cell15_ k qm tm, cell12_ k qm tm, (qm 8, .inl (k 1, 50, .inr (.inl g51))), (qm 9, .inl (k 1, 50, .inr (.inl g52))), cell19_ k qm tm, cell21_ k qm tm, cell20_ k qm sm, cell16_ k qm sm, cell11_ k qm sm, cell10_ k qm sm, cell9_ k qm sm, cell7_ k qm sm] → va_S A s.heap H locs → lv_has ls 7 [(3, .int v50), (0, .ref (qm 0)), (1, .int p0), (2, .int p1)] → W p l e ({ frames := 3, cells := 0, slots := 0, locals := 75 } : Room) s m ([.ref (qm 0), .int p0, .int p1] : List Value).toArray below meth c H locs 0 0 Q (F0 m 31 ls []) := by
          intro n53
          induction n53 with
          | zero => intro v50 g51 g52 H locs ls hmn53 bv50 hP hD hS hl; exact absurd hmn53 (by omega)
          | succ n53 ih31 =>
            intro v50 g51 g52 H locs ls hmn53 bv50 hP hD hS hl
            refine lv_iload_n hx hb dX12_layLikely_31 rfl (lv_at hl 0 rfl) ?_
            refine lv_iload_n hx hb dX12_layLikely_32 rfl (lv_at hl 3 rfl) ?_
            refine lv_icmp_ge (tgt := 197) hx hb dX12_layLikely_33 (by decide) (fun c54 => ?_) (fun c54 => ?_)
            · have f54 : p1.toInt ≤ v50.toInt := f_le rfl rfl c54
              rw [hQ]
              exact x_v cx hr (g51, g52) hP hD hS trivial dX12_layLikely_197
            · have f54 : v50.toInt < p1.toInt := f_nle rfl rfl c54
              refine lv_iconst (v := 0) hx hb dX12_layLikely_36 (by decide) ?_
              refine lv_istore (lv' := [(4, .int 0), (3, .int v50), (0, .ref (qm 0)), (1, .int p0), (2, .int p1)]) hx hb dX12_layLikely_37 hl (by decide) rfl (fun ls hl => ?_)
              have hL39 : ∀ (n60 : Nat) (v58 : Int32) (g59 : Nat → Int64) (H : Heap) (locs : List Loc) (ls : Array Slot), 50 - v58.toInt < (n60 : Int) → (0 ≤ v58.toInt ∧ v58.toInt ≤ 50) → va_P D vwCl [cell22_ qm sm tm, cell5_ k qm sm, cell13_ k qm sm, cell8_ k qm sm, cell6_ k qm sm, cell14_ k qm sm, cell15_ k qm tm, cell12_ k qm tm, (qm 8, .inl (k 1, 50, .inr (.inl g51))), (qm 9, .inl (k 1, 50, .inr (.inl g59))), cell19_ k qm tm, cell21_ k qm tm, cell20_ k qm sm, cell16_ k qm sm, cell11_ k qm sm, cell10_ k qm sm, cell9_ k qm sm, cell7_ k qm sm] H → va_D A [cell22_ qm sm tm, cell5_ k qm sm, cell13_ k qm sm, cell8_ k qm sm, cell6_ k qm sm, cell14_ k qm sm, cell15_ k qm tm, cell12_ k qm tm, (qm 8, .inl (k 1, 50, .inr (.inl g51))), (qm 9, .inl (k 1, 50, .inr (.inl g59))), cell19_ k qm tm, cell21_ k qm tm, cell20_ k qm sm, cell16_ k qm sm, cell11_ k qm sm, cell10_ k qm sm, cell9_ k qm sm, cell7_ k qm sm] → va_S A s.heap H locs → lv_has ls 7 [(4, .int v58), (3, .int v50), (0, .ref (qm 0)), (1, .int p0), (2, .int p1)] → W p l e ({ frames := 3, cells := 0, slots := 0, locals := 75 } : Room) s m ([.ref (qm 0), .int p0, .int p1] : List Value).toArray below meth c H locs 0 0 Q (F0 m 39 ls []) := by
                intro n60
                induction n60 with
                | zero => intro v58 g59 H locs ls hmn60 bv58 hP hD hS hl; exact absurd hmn60 (by omega)
                | succ n60 ih39 =>
                  intro v58 g59 H locs ls hmn60 bv58 hP hD hS hl
                  refine lv_iload hx hb dX12_layLikely_39 (lv_at hl 0 rfl) ?_
                  refine lv_bipush (v := 50) hx hb dX12_layLikely_41 (by decide) ?_
                  refine lv_icmp_ge (tgt := 60) hx hb dX12_layLikely_43 (by decide) (fun c61 => ?_) (fun c61 => ?_)
                  · have f61 : 50 ≤ v58.toInt := f_le (by decide) rfl c61
                    refine lv_iconst (v := 0) hx hb dX12_layLikely_60 (by decide) ?_
                    refine lv_istore (lv' := [(4, .int 0), (3, .int v50), (0, .ref (qm 0)), (1, .int p0), (2, .int p1)]) hx hb dX12_layLikely_61 hl (by decide) rfl (fun ls hl => ?_)
                    have hL63 : ∀ (n97 : Nat) (v95 : Int32) (g96 : Nat → Int64) (H : Heap) (locs : List Loc) (ls : Array Slot), 50 - v95.toInt < (n97 : Int) → (0 ≤ v95.toInt ∧ v95.toInt ≤ 50) → va_P D vwCl [cell22_ qm sm tm, cell5_ k qm sm, cell13_ k qm sm, cell8_ k qm sm, cell6_ k qm sm, cell14_ k qm sm, cell15_ k qm tm, cell12_ k qm tm, (qm 8, .inl (k 1, 50, .inr (.inl g51))), (qm 9, .inl (k 1, 50, .inr (.inl g96))), cell19_ k qm tm, cell21_ k qm tm, cell20_ k qm sm, cell16_ k qm sm, cell11_ k qm sm, cell10_ k qm sm, cell9_ k qm sm, cell7_ k qm sm] H → va_D A [cell22_ qm sm tm, cell5_ k qm sm, cell13_ k qm sm, cell8_ k qm sm, cell6_ k qm sm, cell14_ k qm sm, cell15_ k qm tm, cell12_ k qm tm, (qm 8, .inl (k 1, 50, .inr (.inl g51))), (qm 9, .inl (k 1, 50, .inr (.inl g96))), cell19_ k qm tm, cell21_ k qm tm, cell20_ k qm sm, cell16_ k qm sm, cell11_ k qm sm, cell10_ k qm sm, cell9_ k qm sm, cell7_ k qm sm] → va_S A s.heap H locs → lv_has ls 7 [(4, .int v95), (3, .int v50), (0, .ref (qm 0)), (1, .int p0), (2, .int p1)] → W p l e ({ frames := 3, cells := 0, slots := 0, locals := 75 } : Room) s m ([.ref (qm 0), .int p0, .int p1] : List Value).toArray below meth c H locs 0 0 Q (F0 m 63 ls []) := by
                      intro n97
                      induction n97 with
                      | zero => intro v95 g96 H locs ls hmn97 bv95 hP hD hS hl; exact absurd hmn97 (by omega)
                      | succ n97 ih63 =>
                        intro v95 g96 H locs ls hmn97 bv95 hP hD hS hl
                        refine lv_iload hx hb dX12_layLikely_63 (lv_at hl 0 rfl) ?_
                        refine lv_bipush (v := 50) hx hb dX12_layLikely_65 (by decide) ?_
                        refine lv_icmp_ge (tgt := 161) hx hb dX12_layLikely_67 (by decide) (fun c98 => ?_) (fun c98 => ?_)
                        · have f98 : 50 ≤ v95.toInt := f_le (by decide) rfl c98
                          refine lv_iconst (v := 0) hx hb dX12_layLikely_161 (by decide) ?_
                          refine lv_istore (lv' := [(4, .int 0), (3, .int v50), (0, .ref (qm 0)), (1, .int p0), (2, .int p1)]) hx hb dX12_layLikely_162 hl (by decide) rfl (fun ls hl => ?_)
                          have hL164 : ∀ (n106 : Nat) (v104 : Int32) (g105 : Nat → Int64) (H : Heap) (locs : List Loc) (ls : Array Slot), 50 - v104.toInt < (n106 : Int) → (0 ≤ v104.toInt ∧ v104.toInt ≤ 50) → va_P D vwCl [cell22_ qm sm tm, cell5_ k qm sm, cell13_ k qm sm, cell8_ k qm sm, cell6_ k qm sm, cell14_ k qm sm, cell15_ k qm tm, cell12_ k qm tm, (qm 8, .inl (k 1, 50, .inr (.inl g105))), (qm 9, .inl (k 1, 50, .inr (.inl g96))), cell19_ k qm tm, cell21_ k qm tm, cell20_ k qm sm, cell16_ k qm sm, cell11_ k qm sm, cell10_ k qm sm, cell9_ k qm sm, cell7_ k qm sm] H → va_D A [cell22_ qm sm tm, cell5_ k qm sm, cell13_ k qm sm, cell8_ k qm sm, cell6_ k qm sm, cell14_ k qm sm, cell15_ k qm tm, cell12_ k qm tm, (qm 8, .inl (k 1, 50, .inr (.inl g105))), (qm 9, .inl (k 1, 50, .inr (.inl g96))), cell19_ k qm tm, cell21_ k qm tm, cell20_ k qm sm, cell16_ k qm sm, cell11_ k qm sm, cell10_ k qm sm, cell9_ k qm sm, cell7_ k qm sm] → va_S A s.heap H locs → lv_has ls 7 [(4, .int v104), (3, .int v50), (0, .ref (qm 0)), (1, .int p0), (2, .int p1)] → W p l e ({ frames := 3, cells := 0, slots := 0, locals := 75 } : Room) s m ([.ref (qm 0), .int p0, .int p1] : List Value).toArray below meth c H locs 0 0 Q (F0 m 164 ls []) := by
                            intro n106
                            induction n106 with
                            | zero => intro v104 g105 H locs ls hmn106 bv104 hP hD hS hl; exact absurd hmn106 (by omega)
                            | succ n106 ih164 =>
                              intro v104 g105 H locs ls hmn106 bv104 hP hD hS hl
                              refine lv_iload hx hb dX12_layLikely_164 (lv_at hl 0 rfl) ?_
                              refine lv_bipush (v := 50) hx hb dX12_layLikely_166 (by decide) ?_
                              refine lv_icmp_ge (tgt := 191) hx hb dX12_layLikely_168 (by decide) (fun c107 => ?_) (fun c107 => ?_)
                              · have f107 : 50 ≤ v104.toInt := f_le (by decide) rfl c107
                                obtain ⟨v108, e108⟩ : ∃ z : Int32, z = v50 + 1 := ⟨_, rfl⟩
                                refine lv_iinc (v := v108) (lv' := [(3, .int v108), (4, .int v104), (0, .ref (qm 0)), (1, .int p0), (2, .int p1)]) hx hb dX12_layLikely_191 hl (k := 1) rfl (by rw [e108]; rfl) (by decide) rfl (fun ls hl => ?_)
                                have t108 : v108.toInt = v50.toInt + 1 := by rw [e108]; exact i_add rfl (by decide) (by omega) (by omega)
                                refine lv_goto (tgt := 31) hx hb dX12_layLikely_194 (by decide) ?_
                                exact ih31 v108 g105 g96 _ _ _ (by omega) (by first | decide | omega) hP hD hS (lv_sub hl [0, 2, 3, 4] rfl)
                              · have f107 : v104.toInt < 50 := f_nle (by decide) rfl c107
                                refine lv_aload_n hx hb dX12_layLikely_171 rfl (lv_at hl 2 rfl) ?_
                                refine g_get cx hP iw_X12_layLikely_X12 0 rfl rfl 16 (by decide) rfl fw_X12_layLikely_32 rfl dX12_layLikely_172 ?_
                                refine lv_iload hx hb dX12_layLikely_175 (lv_at hl 0 rfl) ?_
                                refine lv_aload_n hx hb dX12_layLikely_177 rfl (lv_at hl 2 rfl) ?_
                                refine g_get cx hP iw_X12_layLikely_X12 0 rfl rfl 17 (by decide) rfl fw_X12_layLikely_35 rfl dX12_layLikely_178 ?_
                                refine lv_iload hx hb dX12_layLikely_181 (lv_at hl 0 rfl) ?_
                                have hn109 : vp_in v104 50 := f_in (a := v104.toInt) rfl (by omega) (by omega)
                                refine va_lald hx hb cx.2.1 hP 9 1 rfl rfl hn109 dX12_layLikely_183 (lv_topl (fun v110 e110 => ?_))
                                have hn111 : vp_in v104 50 := f_in (a := v104.toInt) rfl (by omega) (by omega)
                                refine va_last hx hb cx.2.1 hP hD hS 8 1 rfl rfl hn111 dX12_layLikely_184 (fun H locs hP hD hS => ?_)
                                obtain ⟨g112, eg112⟩ : ∃ g : Nat → Int64, g = vp_updL g105 (v104).toNatClampNeg v110 := ⟨_, rfl⟩
                                rw [← eg112] at hP hD
                                have hP : va_P D vwCl [cell22_ qm sm tm, cell5_ k qm sm, cell13_ k qm sm, cell8_ k qm sm, cell6_ k qm sm, cell14_ k qm sm, cell15_ k qm tm, cell12_ k qm tm, (qm 8, .inl (k 1, 50, .inr (.inl g112))), (qm 9, .inl (k 1, 50, .inr (.inl g96))), cell19_ k qm tm, cell21_ k qm tm, cell20_ k qm sm, cell16_ k qm sm, cell11_ k qm sm, cell10_ k qm sm, cell9_ k qm sm, cell7_ k qm sm] H := hP
                                have hD : va_D A [cell22_ qm sm tm, cell5_ k qm sm, cell13_ k qm sm, cell8_ k qm sm, cell6_ k qm sm, cell14_ k qm sm, cell15_ k qm tm, cell12_ k qm tm, (qm 8, .inl (k 1, 50, .inr (.inl g112))), (qm 9, .inl (k 1, 50, .inr (.inl g96))), cell19_ k qm tm, cell21_ k qm tm, cell20_ k qm sm, cell16_ k qm sm, cell11_ k qm sm, cell10_ k qm sm, cell9_ k qm sm, cell7_ k qm sm] := hD
                                obtain ⟨v113, e113⟩ : ∃ z : Int32, z = v104 + 1 := ⟨_, rfl⟩
                                refine lv_iinc (v := v113) (lv' := [(4, .int v113), (3, .int v50), (0, .ref (qm 0)), (1, .int p0), (2, .int p1)]) hx hb dX12_layLikely_185 hl (k := 0) rfl (by rw [e113]; rfl) (by decide) rfl (fun ls hl => ?_)
                                have t113 : v113.toInt = v104.toInt + 1 := by rw [e113]; exact i_add rfl (by decide) (by omega) (by omega)
                                refine lv_goto (tgt := 164) hx hb dX12_layLikely_188 (by decide) ?_
                                exact ih164 v113 g112 _ _ _ (by omega) (by first | decide | omega) hP hD hS (lv_sub hl [0, 1, 2, 3, 4] rfl)
                          have hlit114 : (0 : Int32).toInt = 0 := by decide
                          exact hL164 (Int.toNat (50 - 0) + 1) 0 g51 _ _ _ (by omega) (by first | decide | omega) hP hD hS (lv_sub hl [0, 1, 2, 3, 4] rfl)
                        · have f98 : v95.toInt < 50 := f_nle (by decide) rfl c98
                          refine lv_aload_n hx hb dX12_layLikely_70 rfl (lv_at hl 2 rfl) ?_
                          refine g_get cx hP iw_X12_layLikely_X12 0 rfl rfl 16 (by decide) rfl fw_X12_layLikely_32 rfl dX12_layLikely_71 ?_
                          refine lv_iload hx hb dX12_layLikely_74 (lv_at hl 0 rfl) ?_
                          have hn115 : vp_in v95 50 := f_in (a := v95.toInt) rfl (by omega) (by omega)
                          refine va_lald hx hb cx.2.1 hP 8 1 rfl rfl hn115 dX12_layLikely_76 (lv_topl (fun v116 e116 => ?_))
                          refine lv_lconst (v := 0) hx hb dX12_layLikely_77 (by decide) ?_
                          refine W.lcmp hx hb dX12_layLikely_78 (lv_topi (fun v117 e117 => ?_))
                          have hJ155 : ∀ (g180 : Nat → Int64) (H : Heap) (locs : List Loc) (ls : Array Slot), va_P D vwCl [cell22_ qm sm tm, cell5_ k qm sm, cell13_ k qm sm, cell8_ k qm sm, cell6_ k qm sm, cell14_ k qm sm, cell15_ k qm tm, cell12_ k qm tm, (qm 8, .inl (k 1, 50, .inr (.inl g51))), (qm 9, .inl (k 1, 50, .inr (.inl g180))), cell19_ k qm tm, cell21_ k qm tm, cell20_ k qm sm, cell16_ k qm sm, cell11_ k qm sm, cell10_ k qm sm, cell9_ k qm sm, cell7_ k qm sm] H → va_D A [cell22_ qm sm tm, cell5_ k qm sm, cell13_ k qm sm, cell8_ k qm sm, cell6_ k qm sm, cell14_ k qm sm, cell15_ k qm tm, cell12_ k qm tm, (qm 8, .inl (k 1, 50, .inr (.inl g51))), (qm 9, .inl (k 1, 50, .inr (.inl g180))), cell19_ k qm tm, cell21_ k qm tm, cell20_ k qm sm, cell16_ k qm sm, cell11_ k qm sm, cell10_ k qm sm, cell9_ k qm sm, cell7_ k qm sm] → va_S A s.heap H locs → lv_has ls 7 [(4, .int v95), (3, .int v50), (0, .ref (qm 0)), (1, .int p0), (2, .int p1)] → W p l e ({ frames := 3, cells := 0, slots := 0, locals := 75 } : Room) s m ([.ref (qm 0), .int p0, .int p1] : List Value).toArray below meth c H locs 0 0 Q (F0 m 155 ls []) := by
                            intro g180 H locs ls  hP hD hS hl
                            obtain ⟨v181, e181⟩ : ∃ z : Int32, z = v95 + 1 := ⟨_, rfl⟩
                            refine lv_iinc (v := v181) (lv' := [(4, .int v181), (3, .int v50), (0, .ref (qm 0)), (1, .int p0), (2, .int p1)]) hx hb dX12_layLikely_155 hl (k := 0) rfl (by rw [e181]; rfl) (by decide) rfl (fun ls hl => ?_)
                            have t181 : v181.toInt = v95.toInt + 1 := by rw [e181]; exact i_add rfl (by decide) (by omega) (by omega)
                            refine lv_goto (tgt := 63) hx hb dX12_layLikely_158 (by decide) ?_
                            exact ih63 v181 g180 _ _ _ (by omega) (by first | decide | omega) hP hD hS (lv_sub hl [0, 1, 2, 3, 4] rfl)
                          refine lv_if_le (tgt := 155) hx hb dX12_layLikely_79 (by decide) (fun c182 => ?_) (fun c182 => ?_)
                          · have f182 : v117.toInt ≤ 0 := f_le rfl (by decide) c182
                            exact hJ155 g96 _ _ _  hP hD hS (lv_sub hl [0, 1, 2, 3, 4] rfl)
                          · have f182 : 0 < v117.toInt := f_nle rfl (by decide) c182
                            refine lv_aload_n hx hb dX12_layLikely_82 rfl (lv_at hl 2 rfl) ?_
                            refine lv_iload_n hx hb dX12_layLikely_83 rfl (lv_at hl 1 rfl) ?_
                            refine lv_iload hx hb dX12_layLikely_84 (lv_at hl 0 rfl) ?_
                            refine lv_aload_n hx hb dX12_layLikely_86 rfl (lv_at hl 2 rfl) ?_
                            refine lv_iload_n hx hb dX12_layLikely_87 rfl (lv_at hl 3 rfl) ?_
                            refine lv_iload_n hx hb dX12_layLikely_88 rfl (lv_at hl 1 rfl) ?_
                            refine lv_iload hx hb dX12_layLikely_89 (lv_at hl 0 rfl) ?_
                            refine g_iF (w1 := fun (_ : Unit) => [cell22_ qm sm tm, cell5_ k qm sm, cell13_ k qm sm, cell8_ k qm sm, cell6_ k qm sm, cell14_ k qm sm, cell15_ k qm tm, cell12_ k qm tm, (qm 8, .inl (k 1, 50, .inr (.inl g51))), (qm 9, .inl (k 1, 50, .inr (.inl g96))), cell19_ k qm tm, cell21_ k qm tm, cell20_ k qm sm, cell16_ k qm sm, cell11_ k qm sm, cell10_ k qm sm, cell9_ k qm sm, cell7_ k qm sm]) (g_runVF (ws := [cell22_ qm sm tm, cell5_ k qm sm, cell13_ k qm sm, cell8_ k qm sm, cell6_ k qm sm, cell14_ k qm sm, cell15_ k qm tm, cell12_ k qm tm, (qm 8, .inl (k 1, 50, .inr (.inl g51))), (qm 9, .inl (k 1, 50, .inr (.inl g96))), cell19_ k qm tm, cell21_ k qm tm, cell20_ k qm sm, cell16_ k qm sm, cell11_ k qm sm, cell10_ k qm sm, cell9_ k qm sm, cell7_ k qm sm]) (rest := [.int v95, .int v50, .ref (qm 0)]) cx hP hD hS [.int p0, .int v50, .int v95] (c_X12_ruleAct l D k b qm sm (up2L (up2L tm 8 g51) 9 g96) H.size p0 v50 v95 (show 0 ≤ p0.toInt ∧ p0.toInt ≤ 2 from by first | decide | omega) (show 0 ≤ v50.toInt ∧ v50.toInt ≤ 4 from by first | decide | omega)) gX12_layLikely_X12_ruleAct rfl rfl rfl nd_X12_ruleAct ⟨Nat.le_of_ble_eq_true rfl, Nat.le_of_ble_eq_true rfl⟩ (ci := 10) (q0 := 0) rfl rfl rfl hl.1 rfl (Nat.le_of_ble_eq_true rfl) ⟨Nat.zero_le _, Nat.zero_le _⟩ dX12_layLikely_91) cx.2.2.1 hD hS (fun r184 _ H locs hw183 hP hD hS => ?_)
                            have w185 : r184 = J_X12_ruleAct sm (up2L (up2L tm 8 g51) 9 g96) p0 v50 v95 := hw183
                            clear hw183
                            have k187 : r184 = (J_X12_ruleAct sm (up2L (up2L tm 8 g51) 9 g96) p0 v50 v95) := congrArg (fun z => z) w185
                            refine g_iF (w1 := fun (_ : Unit) => [cell22_ qm sm tm, cell5_ k qm sm, cell13_ k qm sm, cell8_ k qm sm, cell6_ k qm sm, cell14_ k qm sm, cell15_ k qm tm, cell12_ k qm tm, (qm 8, .inl (k 1, 50, .inr (.inl g51))), (qm 9, .inl (k 1, 50, .inr (.inl g96))), cell19_ k qm tm, cell21_ k qm tm, cell20_ k qm sm, cell16_ k qm sm, cell11_ k qm sm, cell10_ k qm sm, cell9_ k qm sm, cell7_ k qm sm]) (g_runVF (ws := [cell22_ qm sm tm, cell5_ k qm sm, cell13_ k qm sm, cell8_ k qm sm, cell6_ k qm sm, cell14_ k qm sm, cell15_ k qm tm, cell12_ k qm tm, (qm 8, .inl (k 1, 50, .inr (.inl g51))), (qm 9, .inl (k 1, 50, .inr (.inl g96))), cell19_ k qm tm, cell21_ k qm tm, cell20_ k qm sm, cell16_ k qm sm, cell11_ k qm sm, cell10_ k qm sm, cell9_ k qm sm, cell7_ k qm sm]) (rest := []) cx hP hD hS [.int v50, .int v95, .int r184] (c_X12_after l D k b qm sm (up2L (up2L tm 8 g51) 9 g96) H.size v50 v95 r184 (show 0 ≤ ((sm 2) 0).toInt ∧ ((sm 2) 0).toInt ≤ 5 from by first | decide | omega) (show 0 ≤ v50.toInt ∧ v50.toInt ≤ 4 from by first | decide | omega)) gX12_layLikely_X12_after rfl rfl rfl nd_X12_after ⟨Nat.le_of_ble_eq_true rfl, Nat.le_of_ble_eq_true rfl⟩ (ci := 10) (q0 := 0) rfl rfl rfl hl.1 rfl (Nat.le_of_ble_eq_true rfl) ⟨Nat.zero_le _, Nat.zero_le _⟩ dX12_layLikely_94) cx.2.2.1 hD hS (fun r189 _ H locs hw188 hP hD hS => ?_)
                            have w190 : r189 = J_X12_after sm (up2L (up2L tm 8 g51) 9 g96) v50 v95 r184 := hw188
                            clear hw188
                            have k192 : r189 = (J_X12_after sm (up2L (up2L tm 8 g51) 9 g96) v50 v95 r184) := congrArg (fun z => z) w190
                            refine lv_istore (lv' := [(5, .int r189), (4, .int v95), (3, .int v50), (0, .ref (qm 0)), (1, .int p0), (2, .int p1)]) hx hb dX12_layLikely_97 hl (by decide) rfl (fun ls hl => ?_)
                            refine lv_iconst (v := 0) hx hb dX12_layLikely_99 (by decide) ?_
                            refine lv_istore (lv' := [(6, .int 0), (5, .int r189), (4, .int v95), (3, .int v50), (0, .ref (qm 0)), (1, .int p0), (2, .int p1)]) hx hb dX12_layLikely_100 hl (by decide) rfl (fun ls hl => ?_)
                            have hL102 : ∀ (n214 : Nat) (v212 : Int32) (g213 : Nat → Int64) (H : Heap) (locs : List Loc) (ls : Array Slot), 50 - v212.toInt < (n214 : Int) → (0 ≤ v212.toInt ∧ v212.toInt ≤ 50) → va_P D vwCl [cell22_ qm sm tm, cell5_ k qm sm, cell13_ k qm sm, cell8_ k qm sm, cell6_ k qm sm, cell14_ k qm sm, cell15_ k qm tm, cell12_ k qm tm, (qm 8, .inl (k 1, 50, .inr (.inl g51))), (qm 9, .inl (k 1, 50, .inr (.inl g213))), cell19_ k qm tm, cell21_ k qm tm, cell20_ k qm sm, cell16_ k qm sm, cell11_ k qm sm, cell10_ k qm sm, cell9_ k qm sm, cell7_ k qm sm] H → va_D A [cell22_ qm sm tm, cell5_ k qm sm, cell13_ k qm sm, cell8_ k qm sm, cell6_ k qm sm, cell14_ k qm sm, cell15_ k qm tm, cell12_ k qm tm, (qm 8, .inl (k 1, 50, .inr (.inl g51))), (qm 9, .inl (k 1, 50, .inr (.inl g213))), cell19_ k qm tm, cell21_ k qm tm, cell20_ k qm sm, cell16_ k qm sm, cell11_ k qm sm, cell10_ k qm sm, cell9_ k qm sm, cell7_ k qm sm] → va_S A s.heap H locs → lv_has ls 7 [(6, .int v212), (5, .int r189), (4, .int v95), (3, .int v50), (0, .ref (qm 0)), (1, .int p0), (2, .int p1)] → W p l e ({ frames := 3, cells := 0, slots := 0, locals := 75 } : Room) s m ([.ref (qm 0), .int p0, .int p1] : List Value).toArray below meth c H locs 0 0 Q (F0 m 102 ls []) := by
                              intro n214
                              induction n214 with
                              | zero => intro v212 g213 H locs ls hmn214 bv212 hP hD hS hl; exact absurd hmn214 (by omega)
                              | succ n214 ih102 =>
                                intro v212 g213 H locs ls hmn214 bv212 hP hD hS hl
                                refine lv_iload hx hb dX12_layLikely_102 (lv_at hl 0 rfl) ?_
                                refine lv_bipush (v := 50) hx hb dX12_layLikely_104 (by decide) ?_
                                refine lv_icmp_ge (tgt := 155) hx hb dX12_layLikely_106 (by decide) (fun c215 => ?_) (fun c215 => ?_)
                                · have f215 : 50 ≤ v212.toInt := f_le (by decide) rfl c215
                                  exact hJ155 g213 _ _ _  hP hD hS (lv_sub hl [2, 3, 4, 5, 6] rfl)
                                · have f215 : v212.toInt < 50 := f_nle (by decide) rfl c215
                                  refine lv_aload_n hx hb dX12_layLikely_109 rfl (lv_at hl 4 rfl) ?_
                                  refine g_get cx hP iw_X12_layLikely_X12 0 rfl rfl 17 (by decide) rfl fw_X12_layLikely_35 rfl dX12_layLikely_110 ?_
                                  refine lv_iload hx hb dX12_layLikely_113 (lv_at hl 0 rfl) ?_
                                  refine lv_dup2_11 hx hb dX12_layLikely_115 rfl rfl ?_
                                  have hn216 : vp_in v212 50 := f_in (a := v212.toInt) rfl (by omega) (by omega)
                                  refine va_lald hx hb cx.2.1 hP 9 1 rfl rfl hn216 dX12_layLikely_116 (lv_topl (fun v217 e217 => ?_))
                                  refine lv_aload_n hx hb dX12_layLikely_117 rfl (lv_at hl 4 rfl) ?_
                                  refine lv_iload hx hb dX12_layLikely_118 (lv_at hl 0 rfl) ?_
                                  refine g_iF (w1 := fun (_ : Unit) => [cell22_ qm sm tm, cell5_ k qm sm, cell13_ k qm sm, cell8_ k qm sm, cell6_ k qm sm, cell14_ k qm sm, cell15_ k qm tm, cell12_ k qm tm, (qm 8, .inl (k 1, 50, .inr (.inl g51))), (qm 9, .inl (k 1, 50, .inr (.inl g213))), cell19_ k qm tm, cell21_ k qm tm, cell20_ k qm sm, cell16_ k qm sm, cell11_ k qm sm, cell10_ k qm sm, cell9_ k qm sm, cell7_ k qm sm]) (g_runVF (ws := [cell22_ qm sm tm, cell5_ k qm sm, cell13_ k qm sm, cell8_ k qm sm, cell6_ k qm sm, cell14_ k qm sm, cell15_ k qm tm, cell12_ k qm tm, (qm 8, .inl (k 1, 50, .inr (.inl g51))), (qm 9, .inl (k 1, 50, .inr (.inl g213))), cell19_ k qm tm, cell21_ k qm tm, cell20_ k qm sm, cell16_ k qm sm, cell11_ k qm sm, cell10_ k qm sm, cell9_ k qm sm, cell7_ k qm sm]) (rest := [.long v217, .int v212, .ref (qm 9)]) cx hP hD hS [.int v212] (c_X12_isHands l D k b qm sm (up2L (up2L tm 8 g51) 9 g213) H.size v212 (show 0 ≤ ((sm 2) 1).toInt ∧ ((sm 2) 1).toInt ≤ 4 from by first | decide | omega)) gX12_layLikely_X12_isHands rfl rfl rfl nd_X12_isHands ⟨Nat.le_of_ble_eq_true rfl, Nat.le_of_ble_eq_true rfl⟩ (ci := 10) (q0 := 0) rfl rfl rfl hl.1 rfl (Nat.le_of_ble_eq_true rfl) ⟨Nat.zero_le _, Nat.zero_le _⟩ dX12_layLikely_120) cx.2.2.1 hD hS (fun r219 _ H locs hw218 hP hD hS => ?_)
                                  replace hw218 : (0 ≤ r219.toInt ∧ r219.toInt ≤ 1) ∧ (Imp (r219.toInt = 1) (0 ≤ v212.toInt ∧ v212.toInt ≤ 400)) ∧ (r219 = J_X12_isHands sm (up2L (up2L tm 8 g51) 9 g213) v212) := hw218
                                  obtain ⟨w220, w221, w222⟩ := hw218
                                  have k224 : r219 = (J_X12_isHands sm (up2L (up2L tm 8 g51) 9 g213) v212) := congrArg (fun z => z) w222
                                  have zr219 : 0 ≤ r219.toInt ∧ r219.toInt ≤ 1 := w220
                                  have hJ147 : ∀ (v231 : Int64) (H : Heap) (locs : List Loc) (ls : Array Slot), va_P D vwCl [cell22_ qm sm tm, cell5_ k qm sm, cell13_ k qm sm, cell8_ k qm sm, cell6_ k qm sm, cell14_ k qm sm, cell15_ k qm tm, cell12_ k qm tm, (qm 8, .inl (k 1, 50, .inr (.inl g51))), (qm 9, .inl (k 1, 50, .inr (.inl g213))), cell19_ k qm tm, cell21_ k qm tm, cell20_ k qm sm, cell16_ k qm sm, cell11_ k qm sm, cell10_ k qm sm, cell9_ k qm sm, cell7_ k qm sm] H → va_D A [cell22_ qm sm tm, cell5_ k qm sm, cell13_ k qm sm, cell8_ k qm sm, cell6_ k qm sm, cell14_ k qm sm, cell15_ k qm tm, cell12_ k qm tm, (qm 8, .inl (k 1, 50, .inr (.inl g51))), (qm 9, .inl (k 1, 50, .inr (.inl g213))), cell19_ k qm tm, cell21_ k qm tm, cell20_ k qm sm, cell16_ k qm sm, cell11_ k qm sm, cell10_ k qm sm, cell9_ k qm sm, cell7_ k qm sm] → va_S A s.heap H locs → lv_has ls 7 [(6, .int v212), (5, .int r189), (4, .int v95), (3, .int v50), (0, .ref (qm 0)), (1, .int p0), (2, .int p1)] → W p l e ({ frames := 3, cells := 0, slots := 0, locals := 75 } : Room) s m ([.ref (qm 0), .int p0, .int p1] : List Value).toArray below meth c H locs 0 0 Q (F0 m 147 ls [.long v231, .long v217, .int v212, .ref (qm 9)]) := by
                                    intro v231 H locs ls  hP hD hS hl
                                    refine lv_ladd hx hb dX12_layLikely_147 (lv_topl (fun v232 e232 => ?_))
                                    have hn233 : vp_in v212 50 := f_in (a := v212.toInt) rfl (by omega) (by omega)
                                    refine va_last hx hb cx.2.1 hP hD hS 9 1 rfl rfl hn233 dX12_layLikely_148 (fun H locs hP hD hS => ?_)
                                    obtain ⟨g234, eg234⟩ : ∃ g : Nat → Int64, g = vp_updL g213 (v212).toNatClampNeg v232 := ⟨_, rfl⟩
                                    rw [← eg234] at hP hD
                                    have hP : va_P D vwCl [cell22_ qm sm tm, cell5_ k qm sm, cell13_ k qm sm, cell8_ k qm sm, cell6_ k qm sm, cell14_ k qm sm, cell15_ k qm tm, cell12_ k qm tm, (qm 8, .inl (k 1, 50, .inr (.inl g51))), (qm 9, .inl (k 1, 50, .inr (.inl g234))), cell19_ k qm tm, cell21_ k qm tm, cell20_ k qm sm, cell16_ k qm sm, cell11_ k qm sm, cell10_ k qm sm, cell9_ k qm sm, cell7_ k qm sm] H := hP
                                    have hD : va_D A [cell22_ qm sm tm, cell5_ k qm sm, cell13_ k qm sm, cell8_ k qm sm, cell6_ k qm sm, cell14_ k qm sm, cell15_ k qm tm, cell12_ k qm tm, (qm 8, .inl (k 1, 50, .inr (.inl g51))), (qm 9, .inl (k 1, 50, .inr (.inl g234))), cell19_ k qm tm, cell21_ k qm tm, cell20_ k qm sm, cell16_ k qm sm, cell11_ k qm sm, cell10_ k qm sm, cell9_ k qm sm, cell7_ k qm sm] := hD
                                    obtain ⟨v235, e235⟩ : ∃ z : Int32, z = v212 + 1 := ⟨_, rfl⟩
                                    refine lv_iinc (v := v235) (lv' := [(6, .int v235), (5, .int r189), (4, .int v95), (3, .int v50), (0, .ref (qm 0)), (1, .int p0), (2, .int p1)]) hx hb dX12_layLikely_149 hl (k := 0) rfl (by rw [e235]; rfl) (by decide) rfl (fun ls hl => ?_)
                                    have t235 : v235.toInt = v212.toInt + 1 := by rw [e235]; exact i_add rfl (by decide) (by omega) (by omega)
                                    refine lv_goto (tgt := 102) hx hb dX12_layLikely_152 (by decide) ?_
                                    exact ih102 v235 g234 _ _ _ (by omega) (by first | decide | omega) hP hD hS (lv_sub hl [0, 1, 2, 3, 4, 5, 6] rfl)
                                  refine lv_if_eq (tgt := 146) hx hb dX12_layLikely_123 (by decide) (fun c236 => ?_) (fun c236 => ?_)
                                  · have f236 : r219.toInt = 0 := f_eq rfl (by decide) c236
                                    refine lv_lconst (v := 0) hx hb dX12_layLikely_146 (by decide) ?_
                                    have hlit237 : (0 : Int32).toInt = 0 := by decide
                                    exact hJ147 0 _ _ _  hP hD hS (lv_sub hl [0, 1, 2, 3, 4, 5, 6] rfl)
                                  · have f236 : ¬ r219.toInt = 0 := f_ne rfl (by decide) c236
                                    have k236 : (0 ≤ v212.toInt ∧ v212.toInt ≤ 400) := w221 (by omega)
                                    refine lv_aload_n hx hb dX12_layLikely_126 rfl (lv_at hl 4 rfl) ?_
                                    refine g_get cx hP iw_X12_layLikely_X12 0 rfl rfl 16 (by decide) rfl fw_X12_layLikely_32 rfl dX12_layLikely_127 ?_
                                    refine lv_iload hx hb dX12_layLikely_130 (lv_at hl 2 rfl) ?_
                                    have hn238 : vp_in v95 50 := f_in (a := v95.toInt) rfl (by omega) (by omega)
                                    refine va_lald hx hb cx.2.1 hP 8 1 rfl rfl hn238 dX12_layLikely_132 (lv_topl (fun v239 e239 => ?_))
                                    obtain rfl : v116 = v239 := e116.trans e239.symm
                                    refine lv_aload_n hx hb dX12_layLikely_133 rfl (lv_at hl 4 rfl) ?_
                                    refine lv_iload hx hb dX12_layLikely_134 (lv_at hl 1 rfl) ?_
                                    refine lv_iload hx hb dX12_layLikely_136 (lv_at hl 0 rfl) ?_
                                    refine g_iF (w1 := fun (_ : Unit) => [cell22_ qm sm tm, cell5_ k qm sm, cell13_ k qm sm, cell8_ k qm sm, cell6_ k qm sm, cell14_ k qm sm, cell15_ k qm tm, cell12_ k qm tm, (qm 8, .inl (k 1, 50, .inr (.inl g51))), (qm 9, .inl (k 1, 50, .inr (.inl g213))), cell19_ k qm tm, cell21_ k qm tm, cell20_ k qm sm, cell16_ k qm sm, cell11_ k qm sm, cell10_ k qm sm, cell9_ k qm sm, cell7_ k qm sm]) (g_runVF (ws := [cell22_ qm sm tm, cell5_ k qm sm, cell13_ k qm sm, cell8_ k qm sm, cell6_ k qm sm, cell14_ k qm sm, cell15_ k qm tm, cell12_ k qm tm, (qm 8, .inl (k 1, 50, .inr (.inl g51))), (qm 9, .inl (k 1, 50, .inr (.inl g213))), cell19_ k qm tm, cell21_ k qm tm, cell20_ k qm sm, cell16_ k qm sm, cell11_ k qm sm, cell10_ k qm sm, cell9_ k qm sm, cell7_ k qm sm]) (rest := [.long v116, .long v217, .int v212, .ref (qm 9)]) cx hP hD hS [.int r189, .int v212] (c_X12_sundayOf l D k b qm sm (up2L (up2L tm 8 g51) 9 g213) H.size r189 v212) gX12_layLikely_X12_sundayOf rfl rfl rfl nd_X12_sundayOf ⟨Nat.le_of_ble_eq_true rfl, Nat.le_of_ble_eq_true rfl⟩ (ci := 10) (q0 := 0) rfl rfl rfl hl.1 rfl (Nat.le_of_ble_eq_true rfl) ⟨Nat.zero_le _, Nat.zero_le _⟩ dX12_layLikely_138) cx.2.2.1 hD hS (fun r241 _ H locs hw240 hP hD hS => ?_)
                                    obtain ⟨v242, e242⟩ : ∃ z : Int64, z = (r241 : Int32).toInt64 := ⟨_, rfl⟩
                                    refine lv_i2l (v := v242) hx hb dX12_layLikely_141 e242.symm ?_
                                    refine lv_lmul hx hb dX12_layLikely_142 (lv_topl (fun v243 e243 => ?_))
                                    refine lv_goto (tgt := 147) hx hb dX12_layLikely_143 (by decide) ?_
                                    exact hJ147 v243 _ _ _  hP hD hS (lv_sub hl [0, 1, 2, 3, 4, 5, 6] rfl)
                            have hlit244 : (0 : Int32).toInt = 0 := by decide
                            exact hL102 (Int.toNat (50 - 0) + 1) 0 g96 _ _ _ (by omega) (by first | decide | omega) hP hD hS (lv_sub hl [0, 1, 2, 3, 4, 5, 6] rfl)
                    have hlit245 : (0 : Int32).toInt = 0 := by decide
                    exact hL63 (Int.toNat (50 - 0) + 1) 0 g59 _ _ _ (by omega) (by first | decide | omega) hP hD hS (lv_sub hl [0, 1, 2, 3, 4] rfl)
                  · have f61 : v58.toInt < 50 := f_nle (by decide) rfl c61
                    refine lv_aload_n hx hb dX12_layLikely_46 rfl (lv_at hl 2 rfl) ?_
                    refine g_get cx hP iw_X12_layLikely_X12 0 rfl rfl 17 (by decide) rfl fw_X12_layLikely_35 rfl dX12_layLikely_47 ?_
                    refine lv_iload hx hb dX12_layLikely_50 (lv_at hl 0 rfl) ?_
                    refine lv_lconst (v := 0) hx hb dX12_layLikely_52 (by decide) ?_
                    have hn246 : vp_in v58 50 := f_in (a := v58.toInt) rfl (by omega) (by omega)
                    refine va_last hx hb cx.2.1 hP hD hS 9 1 rfl rfl hn246 dX12_layLikely_53 (fun H locs hP hD hS => ?_)
                    obtain ⟨g247, eg247⟩ : ∃ g : Nat → Int64, g = vp_updL g59 (v58).toNatClampNeg 0 := ⟨_, rfl⟩
                    rw [← eg247] at hP hD
                    have hP : va_P D vwCl [cell22_ qm sm tm, cell5_ k qm sm, cell13_ k qm sm, cell8_ k qm sm, cell6_ k qm sm, cell14_ k qm sm, cell15_ k qm tm, cell12_ k qm tm, (qm 8, .inl (k 1, 50, .inr (.inl g51))), (qm 9, .inl (k 1, 50, .inr (.inl g247))), cell19_ k qm tm, cell21_ k qm tm, cell20_ k qm sm, cell16_ k qm sm, cell11_ k qm sm, cell10_ k qm sm, cell9_ k qm sm, cell7_ k qm sm] H := hP
                    have hD : va_D A [cell22_ qm sm tm, cell5_ k qm sm, cell13_ k qm sm, cell8_ k qm sm, cell6_ k qm sm, cell14_ k qm sm, cell15_ k qm tm, cell12_ k qm tm, (qm 8, .inl (k 1, 50, .inr (.inl g51))), (qm 9, .inl (k 1, 50, .inr (.inl g247))), cell19_ k qm tm, cell21_ k qm tm, cell20_ k qm sm, cell16_ k qm sm, cell11_ k qm sm, cell10_ k qm sm, cell9_ k qm sm, cell7_ k qm sm] := hD
                    obtain ⟨v248, e248⟩ : ∃ z : Int32, z = v58 + 1 := ⟨_, rfl⟩
                    refine lv_iinc (v := v248) (lv' := [(4, .int v248), (3, .int v50), (0, .ref (qm 0)), (1, .int p0), (2, .int p1)]) hx hb dX12_layLikely_54 hl (k := 0) rfl (by rw [e248]; rfl) (by decide) rfl (fun ls hl => ?_)
                    have t248 : v248.toInt = v58.toInt + 1 := by rw [e248]; exact i_add rfl (by decide) (by omega) (by omega)
                    refine lv_goto (tgt := 39) hx hb dX12_layLikely_57 (by decide) ?_
                    exact ih39 v248 g247 _ _ _ (by omega) (by first | decide | omega) hP hD hS (lv_sub hl [0, 1, 2, 3, 4] rfl)
              have hlit249 : (0 : Int32).toInt = 0 := by decide
              exact hL39 (Int.toNat (50 - 0) + 1) 0 g52 _ _ _ (by omega) (by first | decide | omega) hP hD hS (lv_sub hl [0, 1, 2, 3, 4] rfl)
        have hlit250 : (0 : Int32).toInt = 0 := by decide
        exact hL31 (Int.toNat (5 - 0) + 1) 0 g5 (tm 9) _ _ _ (by omega) (by first | decide | omega) hP hD hS (lv_sub hl [0, 1, 2, 3] rfl)
      · have f7 : v4.toInt < 50 := f_nle (by decide) rfl c7
        refine lv_aload_n hx hb dX12_layLikely_8 rfl (lv_at hl 1 rfl) ?_
        refine g_get cx hP iw_X12_layLikely_X12 0 rfl rfl 16 (by decide) rfl fw_X12_layLikely_32 rfl dX12_layLikely_9 ?_
        refine lv_iload_n hx hb dX12_layLikely_12 rfl (lv_at hl 0 rfl) ?_
        refine lv_iload_n hx hb dX12_layLikely_13 rfl (lv_at hl 0 rfl) ?_
        have hJ22 : ∀ (v251 : Int64) (H : Heap) (locs : List Loc) (ls : Array Slot), va_P D vwCl [cell22_ qm sm tm, cell5_ k qm sm, cell13_ k qm sm, cell8_ k qm sm, cell6_ k qm sm, cell14_ k qm sm, cell15_ k qm tm, cell12_ k qm tm, (qm 8, .inl (k 1, 50, .inr (.inl g5))), cell17_ k qm tm, cell19_ k qm tm, cell21_ k qm tm, cell20_ k qm sm, cell16_ k qm sm, cell11_ k qm sm, cell10_ k qm sm, cell9_ k qm sm, cell7_ k qm sm] H → va_D A [cell22_ qm sm tm, cell5_ k qm sm, cell13_ k qm sm, cell8_ k qm sm, cell6_ k qm sm, cell14_ k qm sm, cell15_ k qm tm, cell12_ k qm tm, (qm 8, .inl (k 1, 50, .inr (.inl g5))), cell17_ k qm tm, cell19_ k qm tm, cell21_ k qm tm, cell20_ k qm sm, cell16_ k qm sm, cell11_ k qm sm, cell10_ k qm sm, cell9_ k qm sm, cell7_ k qm sm] → va_S A s.heap H locs → lv_has ls 7 [(3, .int v4), (0, .ref (qm 0)), (1, .int p0), (2, .int p1)] → W p l e ({ frames := 3, cells := 0, slots := 0, locals := 75 } : Room) s m ([.ref (qm 0), .int p0, .int p1] : List Value).toArray below meth c H locs 0 0 Q (F0 m 22 ls [.long v251, .int v4, .ref (qm 8)]) := by
          intro v251 H locs ls  hP hD hS hl
          have hn252 : vp_in v4 50 := f_in (a := v4.toInt) rfl (by omega) (by omega)
          refine va_last hx hb cx.2.1 hP hD hS 8 1 rfl rfl hn252 dX12_layLikely_22 (fun H locs hP hD hS => ?_)
          obtain ⟨g253, eg253⟩ : ∃ g : Nat → Int64, g = vp_updL g5 (v4).toNatClampNeg v251 := ⟨_, rfl⟩
          rw [← eg253] at hP hD
          have hP : va_P D vwCl [cell22_ qm sm tm, cell5_ k qm sm, cell13_ k qm sm, cell8_ k qm sm, cell6_ k qm sm, cell14_ k qm sm, cell15_ k qm tm, cell12_ k qm tm, (qm 8, .inl (k 1, 50, .inr (.inl g253))), cell17_ k qm tm, cell19_ k qm tm, cell21_ k qm tm, cell20_ k qm sm, cell16_ k qm sm, cell11_ k qm sm, cell10_ k qm sm, cell9_ k qm sm, cell7_ k qm sm] H := hP
          have hD : va_D A [cell22_ qm sm tm, cell5_ k qm sm, cell13_ k qm sm, cell8_ k qm sm, cell6_ k qm sm, cell14_ k qm sm, cell15_ k qm tm, cell12_ k qm tm, (qm 8, .inl (k 1, 50, .inr (.inl g253))), cell17_ k qm tm, cell19_ k qm tm, cell21_ k qm tm, cell20_ k qm sm, cell16_ k qm sm, cell11_ k qm sm, cell10_ k qm sm, cell9_ k qm sm, cell7_ k qm sm] := hD
          obtain ⟨v254, e254⟩ : ∃ z : Int32, z = v4 + 1 := ⟨_, rfl⟩
          refine lv_iinc (v := v254) (lv' := [(3, .int v254), (0, .ref (qm 0)), (1, .int p0), (2, .int p1)]) hx hb dX12_layLikely_23 hl (k := 0) rfl (by rw [e254]; rfl) (by decide) rfl (fun ls hl => ?_)
          have t254 : v254.toInt = v4.toInt + 1 := by rw [e254]; exact i_add rfl (by decide) (by omega) (by omega)
          refine lv_goto (tgt := 2) hx hb dX12_layLikely_26 (by decide) ?_
          exact ih2 v254 g253 _ _ _ (by omega) (by first | decide | omega) hP hD hS (lv_sub hl [0, 1, 2, 3] rfl)
        refine lv_if_ne (tgt := 21) hx hb dX12_layLikely_14 (by decide) (fun c255 => ?_) (fun c255 => ?_)
        · have f255 : ¬ v4.toInt = 0 := f_ne rfl (by decide) c255
          refine lv_lconst (v := 0) hx hb dX12_layLikely_21 (by decide) ?_
          have hlit256 : (0 : Int32).toInt = 0 := by decide
          exact hJ22 0 _ _ _  hP hD hS (lv_sub hl [0, 1, 2, 3] rfl)
        · have f255 : v4.toInt = 0 := f_eq rfl (by decide) c255
          refine lv_lconst (v := 1) hx hb dX12_layLikely_17 (by decide) ?_
          refine lv_goto (tgt := 22) hx hb dX12_layLikely_18 (by decide) ?_
          have hlit257 : (1 : Int32).toInt = 1 := by decide
          exact hJ22 1 _ _ _  hP hD hS (lv_sub hl [0, 1, 2, 3] rfl)
  have hlit258 : (0 : Int32).toInt = 0 := by decide
  exact hL2 (Int.toNat (50 - 0) + 1) 0 (tm 8) _ _ _ (by omega) (by first | decide | omega) hP hD hS (lv_sub hl [0, 1, 2, 3] rfl)
set_option maxHeartbeats 4000000 in
set_option maxRecDepth 100000 in
theorem c_X12_overBy (l : Launch) (D : va_G) (k : Nat → ClassId) (b : Nat → Nat) (qm : Nat → Nat) (sm : Nat → Nat → Int32) (tm : Nat → Nat → Int64) (sz : Nat) (p0 : Int32) (p1 : Int32) (p2 : Int32) (h_w0 : 0 ≤ (sm 2 0).toInt ∧ (sm 2 0).toInt ≤ 5) (hp0 : 0 ≤ p0.toInt ∧ p0.toInt ≤ 2) (hp1 : 0 ≤ p1.toInt ∧ p1.toInt ≤ 4) : MetI l D k b yX12_overBy wsX12_overBy ({ frames := 2, cells := 0, slots := 0, locals := 55 } : Room) [cell22_ qm sm tm, cell5_ k qm sm, cell13_ k qm sm, cell8_ k qm sm, cell6_ k qm sm, cell14_ k qm sm, cell15_ k qm tm, cell12_ k qm tm, cell18_ k qm tm, cell17_ k qm tm, cell19_ k qm tm, cell21_ k qm tm, cell20_ k qm sm, cell16_ k qm sm, cell11_ k qm sm, cell10_ k qm sm, cell9_ k qm sm, cell7_ k qm sm] sz [.ref (qm 0), .int p0, .int p1, .int p2] (fun (r : Int32) (u : Unit) => True) (fun u => [cell22_ qm sm tm, cell5_ k qm sm, cell13_ k qm sm, cell8_ k qm sm, cell6_ k qm sm, cell14_ k qm sm, cell15_ k qm tm, cell12_ k qm tm, cell18_ k qm tm, cell17_ k qm tm, cell19_ k qm tm, cell21_ k qm tm, cell20_ k qm sm, cell16_ k qm sm, cell11_ k qm sm, cell10_ k qm sm, cell9_ k qm sm, cell7_ k qm sm]) := by
  refine g_enter (cc := cX12_overBy) (maxL := 5) (ret := (some .int)) (by decide) rfl (Nat.le_of_ble_eq_true rfl) ?_
  intro p e s m below meth c A hsz hAe cx hr hP hD hS ls hl
  rw [hAe]
  refine g_q (fun Q hQ => ?_)
  have hx := cx.1.1
  have hb := cx.1.2.1
  have bp0 := i_rng p0
  have bp1 := i_rng p1
  have bp2 := i_rng p2
  have hl : lv_has ls 5 [(0, .ref (qm 0)), (1, .int p0), (2, .int p1), (3, .int p2)] := hl
  obtain ⟨H, eH⟩ : ∃ H : Heap, H = s.heap := ⟨_, rfl⟩
  obtain ⟨locs, el⟩ : ∃ L : List Loc, L = [] := ⟨_, rfl⟩
  have hP : va_P D vwCl [cell22_ qm sm tm, cell5_ k qm sm, cell13_ k qm sm, cell8_ k qm sm, cell6_ k qm sm, cell14_ k qm sm, cell15_ k qm tm, cell12_ k qm tm, cell18_ k qm tm, cell17_ k qm tm, cell19_ k qm tm, cell21_ k qm tm, cell20_ k qm sm, cell16_ k qm sm, cell11_ k qm sm, cell10_ k qm sm, cell9_ k qm sm, cell7_ k qm sm] H := by rw [eH]; exact hP
  have hD : va_D A [cell22_ qm sm tm, cell5_ k qm sm, cell13_ k qm sm, cell8_ k qm sm, cell6_ k qm sm, cell14_ k qm sm, cell15_ k qm tm, cell12_ k qm tm, cell18_ k qm tm, cell17_ k qm tm, cell19_ k qm tm, cell21_ k qm tm, cell20_ k qm sm, cell16_ k qm sm, cell11_ k qm sm, cell10_ k qm sm, cell9_ k qm sm, cell7_ k qm sm] := hD
  have hS : va_S A s.heap H locs := by rw [eH, el]; exact hS
  suffices goal : W p l e ({ frames := 2, cells := 0, slots := 0, locals := 55 } : Room) s m ([.ref (qm 0), .int p0, .int p1, .int p2] : List Value).toArray below meth c H locs 0 0 Q (F0 m 0 ls []) by rw [eH, el] at goal; exact goal
  refine lv_aload_n hx hb dX12_overBy_0 rfl (lv_at hl 0 rfl) ?_
  refine lv_iload_n hx hb dX12_overBy_1 rfl (lv_at hl 1 rfl) ?_
  refine lv_iload_n hx hb dX12_overBy_2 rfl (lv_at hl 2 rfl) ?_
  refine lv_iload_n hx hb dX12_overBy_3 rfl (lv_at hl 3 rfl) ?_
  refine g_iF (w1 := fun (_ : Unit) => [cell22_ qm sm tm, cell5_ k qm sm, cell13_ k qm sm, cell8_ k qm sm, cell6_ k qm sm, cell14_ k qm sm, cell15_ k qm tm, cell12_ k qm tm, cell18_ k qm tm, cell17_ k qm tm, cell19_ k qm tm, cell21_ k qm tm, cell20_ k qm sm, cell16_ k qm sm, cell11_ k qm sm, cell10_ k qm sm, cell9_ k qm sm, cell7_ k qm sm]) (g_runVF (ws := [cell22_ qm sm tm, cell5_ k qm sm, cell13_ k qm sm, cell8_ k qm sm, cell6_ k qm sm, cell14_ k qm sm, cell15_ k qm tm, cell12_ k qm tm, cell18_ k qm tm, cell17_ k qm tm, cell19_ k qm tm, cell21_ k qm tm, cell20_ k qm sm, cell16_ k qm sm, cell11_ k qm sm, cell10_ k qm sm, cell9_ k qm sm, cell7_ k qm sm]) (rest := []) cx hP hD hS [.int p0, .int p1, .int p2] (c_X12_ruleAct l D k b qm sm tm H.size p0 p1 p2 (show 0 ≤ p0.toInt ∧ p0.toInt ≤ 2 from by first | decide | omega) (show 0 ≤ p1.toInt ∧ p1.toInt ≤ 4 from by first | decide | omega)) gX12_overBy_X12_ruleAct rfl rfl rfl nd_X12_ruleAct ⟨Nat.le_of_ble_eq_true rfl, Nat.le_of_ble_eq_true rfl⟩ (ci := 10) (q0 := 0) rfl rfl rfl hl.1 rfl (Nat.le_of_ble_eq_true rfl) ⟨Nat.zero_le _, Nat.zero_le _⟩ dX12_overBy_4) cx.2.2.1 hD hS (fun r2 _ H locs hw1 hP hD hS => ?_)
  have w3 : r2 = J_X12_ruleAct sm tm p0 p1 p2 := hw1
  clear hw1
  have k5 : r2 = (J_X12_ruleAct sm tm p0 p1 p2) := congrArg (fun z => z) w3
  refine lv_istore (lv' := [(4, .int r2), (0, .ref (qm 0)), (1, .int p0), (2, .int p1), (3, .int p2)]) hx hb dX12_overBy_7 hl (by decide) rfl (fun ls hl => ?_)
  refine lv_aload_n hx hb dX12_overBy_9 rfl (lv_at hl 1 rfl) ?_
  refine lv_iload_n hx hb dX12_overBy_10 rfl (lv_at hl 3 rfl) ?_
  refine lv_aload_n hx hb dX12_overBy_11 rfl (lv_at hl 1 rfl) ?_
  refine lv_iload_n hx hb dX12_overBy_12 rfl (lv_at hl 3 rfl) ?_
  refine lv_iload_n hx hb dX12_overBy_13 rfl (lv_at hl 4 rfl) ?_
  refine lv_iload hx hb dX12_overBy_14 (lv_at hl 0 rfl) ?_
  refine g_iF (w1 := fun (_ : Unit) => [cell22_ qm sm tm, cell5_ k qm sm, cell13_ k qm sm, cell8_ k qm sm, cell6_ k qm sm, cell14_ k qm sm, cell15_ k qm tm, cell12_ k qm tm, cell18_ k qm tm, cell17_ k qm tm, cell19_ k qm tm, cell21_ k qm tm, cell20_ k qm sm, cell16_ k qm sm, cell11_ k qm sm, cell10_ k qm sm, cell9_ k qm sm, cell7_ k qm sm]) (g_runVF (ws := [cell22_ qm sm tm, cell5_ k qm sm, cell13_ k qm sm, cell8_ k qm sm, cell6_ k qm sm, cell14_ k qm sm, cell15_ k qm tm, cell12_ k qm tm, cell18_ k qm tm, cell17_ k qm tm, cell19_ k qm tm, cell21_ k qm tm, cell20_ k qm sm, cell16_ k qm sm, cell11_ k qm sm, cell10_ k qm sm, cell9_ k qm sm, cell7_ k qm sm]) (rest := [.int p1, .ref (qm 0)]) cx hP hD hS [.int p1, .int p2, .int r2] (c_X12_after l D k b qm sm tm H.size p1 p2 r2 (show 0 ≤ ((sm 2) 0).toInt ∧ ((sm 2) 0).toInt ≤ 5 from by first | decide | omega) (show 0 ≤ p1.toInt ∧ p1.toInt ≤ 4 from by first | decide | omega)) gX12_overBy_X12_after rfl rfl rfl nd_X12_after ⟨Nat.le_of_ble_eq_true rfl, Nat.le_of_ble_eq_true rfl⟩ (ci := 10) (q0 := 0) rfl rfl rfl hl.1 rfl (Nat.le_of_ble_eq_true rfl) ⟨Nat.zero_le _, Nat.zero_le _⟩ dX12_overBy_16) cx.2.2.1 hD hS (fun r7 _ H locs hw6 hP hD hS => ?_)
  have w8 : r7 = J_X12_after sm tm p1 p2 r2 := hw6
  clear hw6
  have k10 : r7 = (J_X12_after sm tm p1 p2 r2) := congrArg (fun z => z) w8
  refine lv_iconst (v := 0) hx hb dX12_overBy_19 (by decide) ?_
  refine lv_iload hx hb dX12_overBy_20 (lv_at hl 0 rfl) ?_
  refine g_iF (w1 := fun (_ : Unit) => [cell22_ qm sm tm, cell5_ k qm sm, cell13_ k qm sm, cell8_ k qm sm, cell6_ k qm sm, cell14_ k qm sm, cell15_ k qm tm, cell12_ k qm tm, cell18_ k qm tm, cell17_ k qm tm, cell19_ k qm tm, cell21_ k qm tm, cell20_ k qm sm, cell16_ k qm sm, cell11_ k qm sm, cell10_ k qm sm, cell9_ k qm sm, cell7_ k qm sm]) (g_runVF (ws := [cell22_ qm sm tm, cell5_ k qm sm, cell13_ k qm sm, cell8_ k qm sm, cell6_ k qm sm, cell14_ k qm sm, cell15_ k qm tm, cell12_ k qm tm, cell18_ k qm tm, cell17_ k qm tm, cell19_ k qm tm, cell21_ k qm tm, cell20_ k qm sm, cell16_ k qm sm, cell11_ k qm sm, cell10_ k qm sm, cell9_ k qm sm, cell7_ k qm sm]) (rest := []) cx hP hD hS [.int p1, .int r7, .int 0, .int r2] (c_X12_over l D k b qm sm tm H.size p1 r7 0 r2 (show 0 ≤ p1.toInt ∧ p1.toInt ≤ 4 from by first | decide | omega)) gX12_overBy_X12_over rfl rfl rfl nd_X12_over ⟨Nat.le_of_ble_eq_true rfl, Nat.le_of_ble_eq_true rfl⟩ (ci := 10) (q0 := 0) rfl rfl rfl hl.1 rfl (Nat.le_of_ble_eq_true rfl) ⟨Nat.zero_le _, Nat.zero_le _⟩ dX12_overBy_22) cx.2.2.1 hD hS (fun r12 _ H locs hw11 hP hD hS => ?_)
  have w13 : r12 = J_X12_over sm tm p1 r7 (0 : Int32) r2 := hw11
  clear hw11
  have k15 : r12 = (J_X12_over sm tm p1 r7 (0 : Int32) r2) := congrArg (fun z => z) w13
  rw [hQ]
  exact x_i cx hr () hP hD hS trivial dX12_overBy_25
theorem fw_X12_shortly_32 : Cond.fieldLink RX12 32 "StillInAugustModel" "likely" "[J" ∈ wsX12_shortly := by decide +kernel
theorem kJ_X12_shortly_221 : Cond.constantLong RX12 221 (-1) ∈ wsX12_shortly := by decide +kernel
theorem nd_X12_layLikely : yX12_layLikely.cls = RX12 ∧ yX12_layLikely.cls ≠ "java/lang/invoke/MethodHandle" ∧ yX12_layLikely.cls ≠ "java/lang/invoke/VarHandle" ∧ (parseMethodDescriptor yX12_layLikely.desc).map (fun d => d.parameters.length) = some 2 := by decide +kernel
theorem nd_X12_overBy : yX12_overBy.cls = RX12 ∧ yX12_overBy.cls ≠ "java/lang/invoke/MethodHandle" ∧ yX12_overBy.cls ≠ "java/lang/invoke/VarHandle" ∧ (parseMethodDescriptor yX12_overBy.desc).map (fun d => d.parameters.length) = some 3 := by decide +kernel
theorem iw_X12_shortly_X12 : ∀ w ∈ u_ws RX12 TX12 33, w ∈ wsX12_shortly := fun _ h => List.mem_cons_of_mem _ (List.mem_append_right _ h)
set_option maxHeartbeats 4000000 in
set_option maxRecDepth 100000 in
theorem c_X12_shortly (l : Launch) (D : va_G) (k : Nat → ClassId) (b : Nat → Nat) (qm : Nat → Nat) (sm : Nat → Nat → Int32) (tm : Nat → Nat → Int64) (sz : Nat) (p0 : Int32) (p1 : Int32) (p2 : Int32) (h_w0 : 0 ≤ (sm 2 0).toInt ∧ (sm 2 0).toInt ≤ 5) (h_k1 : 0 ≤ (sm 2 1).toInt ∧ (sm 2 1).toInt ≤ 4) : MetL l D k b yX12_shortly wsX12_shortly ({ frames := 4, cells := 0, slots := 0, locals := 101 } : Room) [cell22_ qm sm tm, cell5_ k qm sm, cell13_ k qm sm, cell8_ k qm sm, cell6_ k qm sm, cell14_ k qm sm, cell15_ k qm tm, cell12_ k qm tm, cell18_ k qm tm, cell17_ k qm tm, cell19_ k qm tm, cell21_ k qm tm, cell20_ k qm sm, cell16_ k qm sm, cell11_ k qm sm, cell10_ k qm sm, cell9_ k qm sm, cell7_ k qm sm] sz [.ref (qm 0), .int p0, .int p1, .int p2] (fun (r : Int64) (u : (Nat → Int64) × (Nat → Int64)) => True) (fun u => [cell22_ qm sm tm, cell5_ k qm sm, cell13_ k qm sm, cell8_ k qm sm, cell6_ k qm sm, cell14_ k qm sm, cell15_ k qm tm, cell12_ k qm tm, cell147_ k qm (u.1), cell148_ k qm (u.2), cell19_ k qm tm, cell21_ k qm tm, cell20_ k qm sm, cell16_ k qm sm, cell11_ k qm sm, cell10_ k qm sm, cell9_ k qm sm, cell7_ k qm sm]) := by
  refine g_enter (cc := cX12_shortly) (maxL := 7) (ret := (some .long)) (by decide) rfl (Nat.le_of_ble_eq_true rfl) ?_
  intro p e s m below meth c A hsz hAe cx hr hP hD hS ls hl
  rw [hAe]
  refine g_q (fun Q hQ => ?_)
  have hx := cx.1.1
  have hb := cx.1.2.1
  have bp0 := i_rng p0
  have bp1 := i_rng p1
  have bp2 := i_rng p2
  have hl : lv_has ls 7 [(0, .ref (qm 0)), (1, .int p0), (2, .int p1), (3, .int p2)] := hl
  obtain ⟨H, eH⟩ : ∃ H : Heap, H = s.heap := ⟨_, rfl⟩
  obtain ⟨locs, el⟩ : ∃ L : List Loc, L = [] := ⟨_, rfl⟩
  have hP : va_P D vwCl [cell22_ qm sm tm, cell5_ k qm sm, cell13_ k qm sm, cell8_ k qm sm, cell6_ k qm sm, cell14_ k qm sm, cell15_ k qm tm, cell12_ k qm tm, cell18_ k qm tm, cell17_ k qm tm, cell19_ k qm tm, cell21_ k qm tm, cell20_ k qm sm, cell16_ k qm sm, cell11_ k qm sm, cell10_ k qm sm, cell9_ k qm sm, cell7_ k qm sm] H := by rw [eH]; exact hP
  have hD : va_D A [cell22_ qm sm tm, cell5_ k qm sm, cell13_ k qm sm, cell8_ k qm sm, cell6_ k qm sm, cell14_ k qm sm, cell15_ k qm tm, cell12_ k qm tm, cell18_ k qm tm, cell17_ k qm tm, cell19_ k qm tm, cell21_ k qm tm, cell20_ k qm sm, cell16_ k qm sm, cell11_ k qm sm, cell10_ k qm sm, cell9_ k qm sm, cell7_ k qm sm] := hD
  have hS : va_S A s.heap H locs := by rw [eH, el]; exact hS
  suffices goal : W p l e ({ frames := 4, cells := 0, slots := 0, locals := 101 } : Room) s m ([.ref (qm 0), .int p0, .int p1, .int p2] : List Value).toArray below meth c H locs 0 0 Q (F0 m 0 ls []) by rw [eH, el] at goal; exact goal
  refine lv_iload_n hx hb dX12_shortly_0 rfl (lv_at hl 1 rfl) ?_
  refine g_ir (g_runS (wc := []) (rest := []) cx hP hD hS [] rfl (by decide) [.int p0] (c_X12_isRule l D k b H.size p0) gX12_shortly_X12_isRule rfl rfl rfl nd_X12_isRule ⟨Nat.le_of_ble_eq_true rfl, Nat.le_of_ble_eq_true rfl⟩ rfl hl.1 rfl (Nat.le_of_ble_eq_true rfl) ⟨Nat.zero_le _, Nat.zero_le _⟩ dX12_shortly_1) cx.2.2.1 hP hD hS [] rfl rfl (fun r2 H locs hw1 hP hS => ?_)
  replace hw1 : (0 ≤ r2.toInt ∧ r2.toInt ≤ 1) ∧ (Imp (r2.toInt = 1) (0 ≤ p0.toInt ∧ p0.toInt ≤ 2)) ∧ (r2 = J_X12_isRule p0) := hw1
  obtain ⟨w3, w4, w5⟩ := hw1
  have k7 : r2 = (J_X12_isRule p0) := congrArg (fun z => z) w5
  have zr2 : 0 ≤ r2.toInt ∧ r2.toInt ≤ 1 := w3
  refine lv_if_eq (tgt := 15) hx hb dX12_shortly_4 (by decide) (fun c8 => ?_) (fun c8 => ?_)
  · have f8 : r2.toInt = 0 := f_eq rfl (by decide) c8
    refine lv_ldc2 (v := (-1)) hx hb cx.1.2.2.2.1 (cx.1.2.2.2.2 _ kJ_X12_shortly_221) dX12_shortly_15 ?_
    rw [hQ]
    exact x_l cx hr ((tm 8), (tm 9)) hP hD hS trivial dX12_shortly_18
  · have f8 : ¬ r2.toInt = 0 := f_ne rfl (by decide) c8
    have k8 : (0 ≤ p0.toInt ∧ p0.toInt ≤ 2) := w4 (by omega)
    refine lv_aload_n hx hb dX12_shortly_7 rfl (lv_at hl 0 rfl) ?_
    refine lv_iload_n hx hb dX12_shortly_8 rfl (lv_at hl 2 rfl) ?_
    refine g_iF (w1 := fun (_ : Unit) => [cell22_ qm sm tm, cell5_ k qm sm, cell13_ k qm sm, cell8_ k qm sm, cell6_ k qm sm, cell14_ k qm sm, cell15_ k qm tm, cell12_ k qm tm, cell18_ k qm tm, cell17_ k qm tm, cell19_ k qm tm, cell21_ k qm tm, cell20_ k qm sm, cell16_ k qm sm, cell11_ k qm sm, cell10_ k qm sm, cell9_ k qm sm, cell7_ k qm sm]) (g_runVF (ws := [cell22_ qm sm tm, cell5_ k qm sm, cell13_ k qm sm, cell8_ k qm sm, cell6_ k qm sm, cell14_ k qm sm, cell15_ k qm tm, cell12_ k qm tm, cell18_ k qm tm, cell17_ k qm tm, cell19_ k qm tm, cell21_ k qm tm, cell20_ k qm sm, cell16_ k qm sm, cell11_ k qm sm, cell10_ k qm sm, cell9_ k qm sm, cell7_ k qm sm]) (rest := []) cx hP hD hS [.int p1] (c_X12_isWeek l D k b qm sm tm H.size p1 (show 0 ≤ ((sm 2) 0).toInt ∧ ((sm 2) 0).toInt ≤ 5 from by first | decide | omega)) gX12_shortly_X12_isWeek rfl rfl rfl nd_X12_isWeek ⟨Nat.le_of_ble_eq_true rfl, Nat.le_of_ble_eq_true rfl⟩ (ci := 10) (q0 := 0) rfl rfl rfl hl.1 rfl (Nat.le_of_ble_eq_true rfl) ⟨Nat.zero_le _, Nat.zero_le _⟩ dX12_shortly_9) cx.2.2.1 hD hS (fun r10 _ H locs hw9 hP hD hS => ?_)
    replace hw9 : (0 ≤ r10.toInt ∧ r10.toInt ≤ 1) ∧ (Imp (r10.toInt = 1) (0 ≤ p1.toInt ∧ p1.toInt ≤ 4)) ∧ (r10 = J_X12_isWeek sm tm p1) := hw9
    obtain ⟨w11, w12, w13⟩ := hw9
    have k15 : r10 = (J_X12_isWeek sm tm p1) := congrArg (fun z => z) w13
    have zr10 : 0 ≤ r10.toInt ∧ r10.toInt ≤ 1 := w11
    refine lv_if_ne (tgt := 19) hx hb dX12_shortly_12 (by decide) (fun c16 => ?_) (fun c16 => ?_)
    · have f16 : ¬ r10.toInt = 0 := f_ne rfl (by decide) c16
      have k16 : (0 ≤ p1.toInt ∧ p1.toInt ≤ 4) := w12 (by omega)
      refine lv_aload_n hx hb dX12_shortly_19 rfl (lv_at hl 0 rfl) ?_
      refine lv_iload_n hx hb dX12_shortly_20 rfl (lv_at hl 1 rfl) ?_
      refine lv_iload_n hx hb dX12_shortly_21 rfl (lv_at hl 2 rfl) ?_
      refine g_vF (w1 := fun (u : (Nat → Int64) × (Nat → Int64)) => [cell22_ qm sm tm, cell5_ k qm sm, cell13_ k qm sm, cell8_ k qm sm, cell6_ k qm sm, cell14_ k qm sm, cell15_ k qm tm, cell12_ k qm tm, cell147_ k qm (u.1), cell148_ k qm (u.2), cell19_ k qm tm, cell21_ k qm tm, cell20_ k qm sm, cell16_ k qm sm, cell11_ k qm sm, cell10_ k qm sm, cell9_ k qm sm, cell7_ k qm sm]) (g_runVF (ws := [cell22_ qm sm tm, cell5_ k qm sm, cell13_ k qm sm, cell8_ k qm sm, cell6_ k qm sm, cell14_ k qm sm, cell15_ k qm tm, cell12_ k qm tm, cell18_ k qm tm, cell17_ k qm tm, cell19_ k qm tm, cell21_ k qm tm, cell20_ k qm sm, cell16_ k qm sm, cell11_ k qm sm, cell10_ k qm sm, cell9_ k qm sm, cell7_ k qm sm]) (rest := []) cx hP hD hS [.int p0, .int p1] (c_X12_layLikely l D k b qm sm tm H.size p0 p1 (show 0 ≤ ((sm 2) 0).toInt ∧ ((sm 2) 0).toInt ≤ 5 from by first | decide | omega) (show 0 ≤ ((sm 2) 1).toInt ∧ ((sm 2) 1).toInt ≤ 4 from by first | decide | omega) (show 0 ≤ p0.toInt ∧ p0.toInt ≤ 2 from by first | decide | omega) (show 0 ≤ p1.toInt ∧ p1.toInt ≤ 5 from by first | decide | omega)) gX12_shortly_X12_layLikely rfl rfl rfl nd_X12_layLikely ⟨Nat.le_of_ble_eq_true rfl, Nat.le_of_ble_eq_true rfl⟩ (ci := 10) (q0 := 0) rfl rfl rfl hl.1 rfl (Nat.le_of_ble_eq_true rfl) ⟨Nat.zero_le _, Nat.zero_le _⟩ dX12_shortly_22) cx.2.2.1 hD hS (fun u18 H locs hw17 hP hD hS => ?_)
      obtain ⟨m19, m20⟩ := u18
      have hP : va_P D vwCl [cell22_ qm sm tm, cell5_ k qm sm, cell13_ k qm sm, cell8_ k qm sm, cell6_ k qm sm, cell14_ k qm sm, cell15_ k qm tm, cell12_ k qm tm, (qm 8, .inl (k 1, 50, .inr (.inl m19))), (qm 9, .inl (k 1, 50, .inr (.inl m20))), cell19_ k qm tm, cell21_ k qm tm, cell20_ k qm sm, cell16_ k qm sm, cell11_ k qm sm, cell10_ k qm sm, cell9_ k qm sm, cell7_ k qm sm] H := hP
      have hD : va_D A [cell22_ qm sm tm, cell5_ k qm sm, cell13_ k qm sm, cell8_ k qm sm, cell6_ k qm sm, cell14_ k qm sm, cell15_ k qm tm, cell12_ k qm tm, (qm 8, .inl (k 1, 50, .inr (.inl m19))), (qm 9, .inl (k 1, 50, .inr (.inl m20))), cell19_ k qm tm, cell21_ k qm tm, cell20_ k qm sm, cell16_ k qm sm, cell11_ k qm sm, cell10_ k qm sm, cell9_ k qm sm, cell7_ k qm sm] := hD
      refine lv_lconst (v := 0) hx hb dX12_shortly_25 (by decide) ?_
      refine lv_lstore (lv' := [(4, .long 0), (0, .ref (qm 0)), (1, .int p0), (2, .int p1), (3, .int p2)]) hx hb dX12_shortly_26 hl (by decide) rfl (fun ls hl => ?_)
      refine lv_iconst (v := 0) hx hb dX12_shortly_28 (by decide) ?_
      refine lv_istore (lv' := [(6, .int 0), (4, .long 0), (0, .ref (qm 0)), (1, .int p0), (2, .int p1), (3, .int p2)]) hx hb dX12_shortly_29 hl (by decide) rfl (fun ls hl => ?_)
      have hL31 : ∀ (n32 : Nat) (v30 : Int32) (v31 : Int64) (H : Heap) (locs : List Loc) (ls : Array Slot), 50 - v30.toInt < (n32 : Int) → (0 ≤ v30.toInt ∧ v30.toInt ≤ 50) → va_P D vwCl [cell22_ qm sm tm, cell5_ k qm sm, cell13_ k qm sm, cell8_ k qm sm, cell6_ k qm sm, cell14_ k qm sm, cell15_ k qm tm, cell12_ k qm tm, (qm 8, .inl (k 1, 50, .inr (.inl m19))), (qm 9, .inl (k 1, 50, .inr (.inl m20))), cell19_ k qm tm, cell21_ k qm tm, cell20_ k qm sm, cell16_ k qm sm, cell11_ k qm sm, cell10_ k qm sm, cell9_ k qm sm, cell7_ k qm sm] H → va_D A [cell22_ qm sm tm, cell5_ k qm sm, cell13_ k qm sm, cell8_ k qm sm, cell6_ k qm sm, cell14_ k qm sm, cell15_ k qm tm, cell12_ k qm tm, (qm 8, .inl (k 1, 50, .inr (.inl m19))), (qm 9, .inl (k 1, 50, .inr (.inl m20))), cell19_ k qm tm, cell21_ k qm tm, cell20_ k qm sm, cell16_ k qm sm, cell11_ k qm sm, cell10_ k qm sm, cell9_ k qm sm, cell7_ k qm sm] → va_S A s.heap H locs → lv_has ls 7 [(6, .int v30), (4, .long v31), (0, .ref (qm 0)), (1, .int p0), (2, .int p1), (3, .int p2)] → W p l e ({ frames := 4, cells := 0, slots := 0, locals := 101 } : Room) s m ([.ref (qm 0), .int p0, .int p1, .int p2] : List Value).toArray below meth c H locs 0 0 Q (F0 m 31 ls []) := by
        intro n32
        induction n32 with
        | zero => intro v30 v31 H locs ls hmn32 bv30 hP hD hS hl; exact absurd hmn32 (by omega)
        | succ n32 ih31 =>
          intro v30 v31 H locs ls hmn32 bv30 hP hD hS hl
          refine lv_iload hx hb dX12_shortly_31 (lv_at hl 0 rfl) ?_
          refine lv_bipush (v := 50) hx hb dX12_shortly_33 (by decide) ?_
          refine lv_icmp_ge (tgt := 83) hx hb dX12_shortly_35 (by decide) (fun c33 => ?_) (fun c33 => ?_)
          · have f33 : 50 ≤ v30.toInt := f_le (by decide) rfl c33
            refine lv_lload hx hb dX12_shortly_83 (lv_at hl 1 rfl) ?_
            refine lv_iload_n hx hb dX12_shortly_85 rfl (lv_at hl 4 rfl) ?_
            refine g_lr (g_runS (wc := []) (rest := [.long v31]) cx hP hD hS [] rfl (by decide) [.int p1] (c_X12_parts l D k b H.size p1) gX12_shortly_X12_parts rfl rfl rfl nd_X12_parts ⟨Nat.le_of_ble_eq_true rfl, Nat.le_of_ble_eq_true rfl⟩ rfl hl.1 rfl (Nat.le_of_ble_eq_true rfl) ⟨Nat.zero_le _, Nat.zero_le _⟩ dX12_shortly_86) cx.2.2.1 hP hD hS [] rfl rfl (fun r35 H locs hw34 hP hS => ?_)
            replace hw34 : (r35.toInt % 2 = 1) ∧ (r35 = J_X12_parts p1) := hw34
            obtain ⟨w36, w37⟩ := hw34
            have k39 : r35 = (J_X12_parts p1) := congrArg (fun z => z) w37
            refine lv_iload_n hx hb dX12_shortly_89 rfl (lv_at hl 5 rfl) ?_
            refine g_lr (g_runS (wc := []) (rest := []) cx hP hD hS [] rfl (by decide) [.long v31, .long r35, .int p2] (c_X12_told l D k b H.size v31 r35 p2 (show ¬ r35.toInt = 0 from by first | decide | omega)) gX12_shortly_X12_told rfl rfl rfl nd_X12_told ⟨Nat.le_of_ble_eq_true rfl, Nat.le_of_ble_eq_true rfl⟩ rfl hl.1 rfl (Nat.le_of_ble_eq_true rfl) ⟨Nat.zero_le _, Nat.zero_le _⟩ dX12_shortly_90) cx.2.2.1 hP hD hS [] rfl rfl (fun r41 H locs hw40 hP hS => ?_)
            have w42 : r41 = J_X12_told v31 r35 p2 := hw40
            clear hw40
            have k44 : r41 = (J_X12_told v31 r35 p2) := congrArg (fun z => z) w42
            rw [hQ]
            exact x_l cx hr (m19, m20) hP hD hS trivial dX12_shortly_93
          · have f33 : v30.toInt < 50 := f_nle (by decide) rfl c33
            refine lv_lload hx hb dX12_shortly_38 (lv_at hl 1 rfl) ?_
            refine lv_aload_n hx hb dX12_shortly_40 rfl (lv_at hl 2 rfl) ?_
            refine g_get cx hP iw_X12_shortly_X12 0 rfl rfl 16 (by decide) rfl fw_X12_shortly_32 rfl dX12_shortly_41 ?_
            refine lv_iload hx hb dX12_shortly_44 (lv_at hl 0 rfl) ?_
            have hn45 : vp_in v30 50 := f_in (a := v30.toInt) rfl (by omega) (by omega)
            refine va_lald hx hb cx.2.1 hP 8 1 rfl rfl hn45 dX12_shortly_46 (lv_topl (fun v46 e46 => ?_))
            refine lv_lconst (v := 0) hx hb dX12_shortly_47 (by decide) ?_
            refine W.lcmp hx hb dX12_shortly_48 (lv_topi (fun v47 e47 => ?_))
            have hJ74 : ∀ (v52 : Int64) (H : Heap) (locs : List Loc) (ls : Array Slot), va_P D vwCl [cell22_ qm sm tm, cell5_ k qm sm, cell13_ k qm sm, cell8_ k qm sm, cell6_ k qm sm, cell14_ k qm sm, cell15_ k qm tm, cell12_ k qm tm, (qm 8, .inl (k 1, 50, .inr (.inl m19))), (qm 9, .inl (k 1, 50, .inr (.inl m20))), cell19_ k qm tm, cell21_ k qm tm, cell20_ k qm sm, cell16_ k qm sm, cell11_ k qm sm, cell10_ k qm sm, cell9_ k qm sm, cell7_ k qm sm] H → va_D A [cell22_ qm sm tm, cell5_ k qm sm, cell13_ k qm sm, cell8_ k qm sm, cell6_ k qm sm, cell14_ k qm sm, cell15_ k qm tm, cell12_ k qm tm, (qm 8, .inl (k 1, 50, .inr (.inl m19))), (qm 9, .inl (k 1, 50, .inr (.inl m20))), cell19_ k qm tm, cell21_ k qm tm, cell20_ k qm sm, cell16_ k qm sm, cell11_ k qm sm, cell10_ k qm sm, cell9_ k qm sm, cell7_ k qm sm] → va_S A s.heap H locs → lv_has ls 7 [(6, .int v30), (0, .ref (qm 0)), (1, .int p0), (2, .int p1), (3, .int p2)] → W p l e ({ frames := 4, cells := 0, slots := 0, locals := 101 } : Room) s m ([.ref (qm 0), .int p0, .int p1, .int p2] : List Value).toArray below meth c H locs 0 0 Q (F0 m 74 ls [.long v52, .long v31]) := by
              intro v52 H locs ls  hP hD hS hl
              refine lv_ladd hx hb dX12_shortly_74 (lv_topl (fun v53 e53 => ?_))
              refine lv_lstore (lv' := [(4, .long v53), (6, .int v30), (0, .ref (qm 0)), (1, .int p0), (2, .int p1), (3, .int p2)]) hx hb dX12_shortly_75 hl (by decide) rfl (fun ls hl => ?_)
              obtain ⟨v54, e54⟩ : ∃ z : Int32, z = v30 + 1 := ⟨_, rfl⟩
              refine lv_iinc (v := v54) (lv' := [(6, .int v54), (4, .long v53), (0, .ref (qm 0)), (1, .int p0), (2, .int p1), (3, .int p2)]) hx hb dX12_shortly_77 hl (k := 1) rfl (by rw [e54]; rfl) (by decide) rfl (fun ls hl => ?_)
              have t54 : v54.toInt = v30.toInt + 1 := by rw [e54]; exact i_add rfl (by decide) (by omega) (by omega)
              refine lv_goto (tgt := 31) hx hb dX12_shortly_80 (by decide) ?_
              exact ih31 v54 v53 _ _ _ (by omega) (by first | decide | omega) hP hD hS (lv_sub hl [0, 1, 2, 3, 4, 5] rfl)
            have hJ73 : ∀  (H : Heap) (locs : List Loc) (ls : Array Slot), va_P D vwCl [cell22_ qm sm tm, cell5_ k qm sm, cell13_ k qm sm, cell8_ k qm sm, cell6_ k qm sm, cell14_ k qm sm, cell15_ k qm tm, cell12_ k qm tm, (qm 8, .inl (k 1, 50, .inr (.inl m19))), (qm 9, .inl (k 1, 50, .inr (.inl m20))), cell19_ k qm tm, cell21_ k qm tm, cell20_ k qm sm, cell16_ k qm sm, cell11_ k qm sm, cell10_ k qm sm, cell9_ k qm sm, cell7_ k qm sm] H → va_D A [cell22_ qm sm tm, cell5_ k qm sm, cell13_ k qm sm, cell8_ k qm sm, cell6_ k qm sm, cell14_ k qm sm, cell15_ k qm tm, cell12_ k qm tm, (qm 8, .inl (k 1, 50, .inr (.inl m19))), (qm 9, .inl (k 1, 50, .inr (.inl m20))), cell19_ k qm tm, cell21_ k qm tm, cell20_ k qm sm, cell16_ k qm sm, cell11_ k qm sm, cell10_ k qm sm, cell9_ k qm sm, cell7_ k qm sm] → va_S A s.heap H locs → lv_has ls 7 [(6, .int v30), (0, .ref (qm 0)), (1, .int p0), (2, .int p1), (3, .int p2)] → W p l e ({ frames := 4, cells := 0, slots := 0, locals := 101 } : Room) s m ([.ref (qm 0), .int p0, .int p1, .int p2] : List Value).toArray below meth c H locs 0 0 Q (F0 m 73 ls [.long v31]) := by
              intro  H locs ls  hP hD hS hl
              refine lv_lconst (v := 0) hx hb dX12_shortly_73 (by decide) ?_
              have hlit59 : (0 : Int32).toInt = 0 := by decide
              exact hJ74 0 _ _ _  hP hD hS (lv_sub hl [0, 1, 2, 3, 4] rfl)
            refine lv_if_le (tgt := 73) hx hb dX12_shortly_49 (by decide) (fun c60 => ?_) (fun c60 => ?_)
            · have f60 : v47.toInt ≤ 0 := f_le rfl (by decide) c60
              exact hJ73  _ _ _  hP hD hS (lv_sub hl [0, 2, 3, 4, 5] rfl)
            · have f60 : 0 < v47.toInt := f_nle rfl (by decide) c60
              refine lv_aload_n hx hb dX12_shortly_52 rfl (lv_at hl 2 rfl) ?_
              refine lv_iload_n hx hb dX12_shortly_53 rfl (lv_at hl 3 rfl) ?_
              refine lv_iload_n hx hb dX12_shortly_54 rfl (lv_at hl 4 rfl) ?_
              refine lv_iload hx hb dX12_shortly_55 (lv_at hl 0 rfl) ?_
              refine g_iF (w1 := fun (_ : Unit) => [cell22_ qm sm tm, cell5_ k qm sm, cell13_ k qm sm, cell8_ k qm sm, cell6_ k qm sm, cell14_ k qm sm, cell15_ k qm tm, cell12_ k qm tm, (qm 8, .inl (k 1, 50, .inr (.inl m19))), (qm 9, .inl (k 1, 50, .inr (.inl m20))), cell19_ k qm tm, cell21_ k qm tm, cell20_ k qm sm, cell16_ k qm sm, cell11_ k qm sm, cell10_ k qm sm, cell9_ k qm sm, cell7_ k qm sm]) (g_runVF (ws := [cell22_ qm sm tm, cell5_ k qm sm, cell13_ k qm sm, cell8_ k qm sm, cell6_ k qm sm, cell14_ k qm sm, cell15_ k qm tm, cell12_ k qm tm, (qm 8, .inl (k 1, 50, .inr (.inl m19))), (qm 9, .inl (k 1, 50, .inr (.inl m20))), cell19_ k qm tm, cell21_ k qm tm, cell20_ k qm sm, cell16_ k qm sm, cell11_ k qm sm, cell10_ k qm sm, cell9_ k qm sm, cell7_ k qm sm]) (rest := [.long v31]) cx hP hD hS [.int p0, .int p1, .int v30] (c_X12_overBy l D k b qm sm (up2L (up2L tm 8 m19) 9 m20) H.size p0 p1 v30 (show 0 ≤ ((sm 2) 0).toInt ∧ ((sm 2) 0).toInt ≤ 5 from by first | decide | omega) (show 0 ≤ p0.toInt ∧ p0.toInt ≤ 2 from by first | decide | omega) (show 0 ≤ p1.toInt ∧ p1.toInt ≤ 4 from by first | decide | omega)) gX12_shortly_X12_overBy rfl rfl rfl nd_X12_overBy ⟨Nat.le_of_ble_eq_true rfl, Nat.le_of_ble_eq_true rfl⟩ (ci := 10) (q0 := 0) rfl rfl rfl hl.1 rfl (Nat.le_of_ble_eq_true rfl) ⟨Nat.zero_le _, Nat.zero_le _⟩ dX12_shortly_57) cx.2.2.1 hD hS (fun r62 _ H locs hw61 hP hD hS => ?_)
              refine lv_if_ge (tgt := 73) hx hb dX12_shortly_60 (by decide) (fun c63 => ?_) (fun c63 => ?_)
              · have f63 : 0 ≤ r62.toInt := f_le (by decide) rfl c63
                exact hJ73  _ _ _  hP hD hS (lv_sub hl [0, 2, 3, 4, 5] rfl)
              · have f63 : r62.toInt < 0 := f_nle (by decide) rfl c63
                refine lv_aload_n hx hb dX12_shortly_63 rfl (lv_at hl 2 rfl) ?_
                refine g_get cx hP iw_X12_shortly_X12 0 rfl rfl 16 (by decide) rfl fw_X12_shortly_32 rfl dX12_shortly_64 ?_
                refine lv_iload hx hb dX12_shortly_67 (lv_at hl 0 rfl) ?_
                have hn64 : vp_in v30 50 := f_in (a := v30.toInt) rfl (by omega) (by omega)
                refine va_lald hx hb cx.2.1 hP 8 1 rfl rfl hn64 dX12_shortly_69 (lv_topl (fun v65 e65 => ?_))
                obtain rfl : v46 = v65 := e46.trans e65.symm
                refine lv_goto (tgt := 74) hx hb dX12_shortly_70 (by decide) ?_
                exact hJ74 v46 _ _ _  hP hD hS (lv_sub hl [0, 2, 3, 4, 5] rfl)
      have hlit66 : (0 : Int32).toInt = 0 := by decide
      have hlit67 : (0 : Int32).toInt = 0 := by decide
      exact hL31 (Int.toNat (50 - 0) + 1) 0 0 _ _ _ (by omega) (by first | decide | omega) hP hD hS (lv_sub hl [0, 1, 2, 3, 4, 5] rfl)
    · have f16 : r10.toInt = 0 := f_eq rfl (by decide) c16
      refine lv_ldc2 (v := (-1)) hx hb cx.1.2.2.2.1 (cx.1.2.2.2.2 _ kJ_X12_shortly_221) dX12_shortly_15 ?_
      rw [hQ]
      exact x_l cx hr ((tm 8), (tm 9)) hP hD hS trivial dX12_shortly_18
theorem fw_X12_idle_32 : Cond.fieldLink RX12 32 "StillInAugustModel" "likely" "[J" ∈ wsX12_idle := by decide +kernel
theorem kJ_X12_idle_221 : Cond.constantLong RX12 221 (-1) ∈ wsX12_idle := by decide +kernel
theorem iw_X12_idle_X12 : ∀ w ∈ u_ws RX12 TX12 33, w ∈ wsX12_idle := fun _ h => List.mem_cons_of_mem _ (List.mem_append_right _ h)
set_option maxHeartbeats 4000000 in
set_option maxRecDepth 100000 in
theorem c_X12_idle (l : Launch) (D : va_G) (k : Nat → ClassId) (b : Nat → Nat) (qm : Nat → Nat) (sm : Nat → Nat → Int32) (tm : Nat → Nat → Int64) (sz : Nat) (p0 : Int32) (p1 : Int32) (p2 : Int32) (h_w0 : 0 ≤ (sm 2 0).toInt ∧ (sm 2 0).toInt ≤ 5) (h_k1 : 0 ≤ (sm 2 1).toInt ∧ (sm 2 1).toInt ≤ 4) : MetL l D k b yX12_idle wsX12_idle ({ frames := 4, cells := 0, slots := 0, locals := 101 } : Room) [cell22_ qm sm tm, cell5_ k qm sm, cell13_ k qm sm, cell8_ k qm sm, cell6_ k qm sm, cell14_ k qm sm, cell15_ k qm tm, cell12_ k qm tm, cell18_ k qm tm, cell17_ k qm tm, cell19_ k qm tm, cell21_ k qm tm, cell20_ k qm sm, cell16_ k qm sm, cell11_ k qm sm, cell10_ k qm sm, cell9_ k qm sm, cell7_ k qm sm] sz [.ref (qm 0), .int p0, .int p1, .int p2] (fun (r : Int64) (u : (Nat → Int64) × (Nat → Int64)) => True) (fun u => [cell22_ qm sm tm, cell5_ k qm sm, cell13_ k qm sm, cell8_ k qm sm, cell6_ k qm sm, cell14_ k qm sm, cell15_ k qm tm, cell12_ k qm tm, cell147_ k qm (u.1), cell148_ k qm (u.2), cell19_ k qm tm, cell21_ k qm tm, cell20_ k qm sm, cell16_ k qm sm, cell11_ k qm sm, cell10_ k qm sm, cell9_ k qm sm, cell7_ k qm sm]) := by
  refine g_enter (cc := cX12_idle) (maxL := 8) (ret := (some .long)) (by decide) rfl (Nat.le_of_ble_eq_true rfl) ?_
  intro p e s m below meth c A hsz hAe cx hr hP hD hS ls hl
  rw [hAe]
  refine g_q (fun Q hQ => ?_)
  have hx := cx.1.1
  have hb := cx.1.2.1
  have bp0 := i_rng p0
  have bp1 := i_rng p1
  have bp2 := i_rng p2
  have hl : lv_has ls 8 [(0, .ref (qm 0)), (1, .int p0), (2, .int p1), (3, .int p2)] := hl
  obtain ⟨H, eH⟩ : ∃ H : Heap, H = s.heap := ⟨_, rfl⟩
  obtain ⟨locs, el⟩ : ∃ L : List Loc, L = [] := ⟨_, rfl⟩
  have hP : va_P D vwCl [cell22_ qm sm tm, cell5_ k qm sm, cell13_ k qm sm, cell8_ k qm sm, cell6_ k qm sm, cell14_ k qm sm, cell15_ k qm tm, cell12_ k qm tm, cell18_ k qm tm, cell17_ k qm tm, cell19_ k qm tm, cell21_ k qm tm, cell20_ k qm sm, cell16_ k qm sm, cell11_ k qm sm, cell10_ k qm sm, cell9_ k qm sm, cell7_ k qm sm] H := by rw [eH]; exact hP
  have hD : va_D A [cell22_ qm sm tm, cell5_ k qm sm, cell13_ k qm sm, cell8_ k qm sm, cell6_ k qm sm, cell14_ k qm sm, cell15_ k qm tm, cell12_ k qm tm, cell18_ k qm tm, cell17_ k qm tm, cell19_ k qm tm, cell21_ k qm tm, cell20_ k qm sm, cell16_ k qm sm, cell11_ k qm sm, cell10_ k qm sm, cell9_ k qm sm, cell7_ k qm sm] := hD
  have hS : va_S A s.heap H locs := by rw [eH, el]; exact hS
  suffices goal : W p l e ({ frames := 4, cells := 0, slots := 0, locals := 101 } : Room) s m ([.ref (qm 0), .int p0, .int p1, .int p2] : List Value).toArray below meth c H locs 0 0 Q (F0 m 0 ls []) by rw [eH, el] at goal; exact goal
  refine lv_iload_n hx hb dX12_idle_0 rfl (lv_at hl 1 rfl) ?_
  refine g_ir (g_runS (wc := []) (rest := []) cx hP hD hS [] rfl (by decide) [.int p0] (c_X12_isRule l D k b H.size p0) gX12_idle_X12_isRule rfl rfl rfl nd_X12_isRule ⟨Nat.le_of_ble_eq_true rfl, Nat.le_of_ble_eq_true rfl⟩ rfl hl.1 rfl (Nat.le_of_ble_eq_true rfl) ⟨Nat.zero_le _, Nat.zero_le _⟩ dX12_idle_1) cx.2.2.1 hP hD hS [] rfl rfl (fun r2 H locs hw1 hP hS => ?_)
  replace hw1 : (0 ≤ r2.toInt ∧ r2.toInt ≤ 1) ∧ (Imp (r2.toInt = 1) (0 ≤ p0.toInt ∧ p0.toInt ≤ 2)) ∧ (r2 = J_X12_isRule p0) := hw1
  obtain ⟨w3, w4, w5⟩ := hw1
  have k7 : r2 = (J_X12_isRule p0) := congrArg (fun z => z) w5
  have zr2 : 0 ≤ r2.toInt ∧ r2.toInt ≤ 1 := w3
  refine lv_if_eq (tgt := 15) hx hb dX12_idle_4 (by decide) (fun c8 => ?_) (fun c8 => ?_)
  · have f8 : r2.toInt = 0 := f_eq rfl (by decide) c8
    refine lv_ldc2 (v := (-1)) hx hb cx.1.2.2.2.1 (cx.1.2.2.2.2 _ kJ_X12_idle_221) dX12_idle_15 ?_
    rw [hQ]
    exact x_l cx hr ((tm 8), (tm 9)) hP hD hS trivial dX12_idle_18
  · have f8 : ¬ r2.toInt = 0 := f_ne rfl (by decide) c8
    have k8 : (0 ≤ p0.toInt ∧ p0.toInt ≤ 2) := w4 (by omega)
    refine lv_aload_n hx hb dX12_idle_7 rfl (lv_at hl 0 rfl) ?_
    refine lv_iload_n hx hb dX12_idle_8 rfl (lv_at hl 2 rfl) ?_
    refine g_iF (w1 := fun (_ : Unit) => [cell22_ qm sm tm, cell5_ k qm sm, cell13_ k qm sm, cell8_ k qm sm, cell6_ k qm sm, cell14_ k qm sm, cell15_ k qm tm, cell12_ k qm tm, cell18_ k qm tm, cell17_ k qm tm, cell19_ k qm tm, cell21_ k qm tm, cell20_ k qm sm, cell16_ k qm sm, cell11_ k qm sm, cell10_ k qm sm, cell9_ k qm sm, cell7_ k qm sm]) (g_runVF (ws := [cell22_ qm sm tm, cell5_ k qm sm, cell13_ k qm sm, cell8_ k qm sm, cell6_ k qm sm, cell14_ k qm sm, cell15_ k qm tm, cell12_ k qm tm, cell18_ k qm tm, cell17_ k qm tm, cell19_ k qm tm, cell21_ k qm tm, cell20_ k qm sm, cell16_ k qm sm, cell11_ k qm sm, cell10_ k qm sm, cell9_ k qm sm, cell7_ k qm sm]) (rest := []) cx hP hD hS [.int p1] (c_X12_isWeek l D k b qm sm tm H.size p1 (show 0 ≤ ((sm 2) 0).toInt ∧ ((sm 2) 0).toInt ≤ 5 from by first | decide | omega)) gX12_idle_X12_isWeek rfl rfl rfl nd_X12_isWeek ⟨Nat.le_of_ble_eq_true rfl, Nat.le_of_ble_eq_true rfl⟩ (ci := 10) (q0 := 0) rfl rfl rfl hl.1 rfl (Nat.le_of_ble_eq_true rfl) ⟨Nat.zero_le _, Nat.zero_le _⟩ dX12_idle_9) cx.2.2.1 hD hS (fun r10 _ H locs hw9 hP hD hS => ?_)
    replace hw9 : (0 ≤ r10.toInt ∧ r10.toInt ≤ 1) ∧ (Imp (r10.toInt = 1) (0 ≤ p1.toInt ∧ p1.toInt ≤ 4)) ∧ (r10 = J_X12_isWeek sm tm p1) := hw9
    obtain ⟨w11, w12, w13⟩ := hw9
    have k15 : r10 = (J_X12_isWeek sm tm p1) := congrArg (fun z => z) w13
    have zr10 : 0 ≤ r10.toInt ∧ r10.toInt ≤ 1 := w11
    refine lv_if_ne (tgt := 19) hx hb dX12_idle_12 (by decide) (fun c16 => ?_) (fun c16 => ?_)
    · have f16 : ¬ r10.toInt = 0 := f_ne rfl (by decide) c16
      have k16 : (0 ≤ p1.toInt ∧ p1.toInt ≤ 4) := w12 (by omega)
      refine lv_aload_n hx hb dX12_idle_19 rfl (lv_at hl 0 rfl) ?_
      refine lv_iload_n hx hb dX12_idle_20 rfl (lv_at hl 1 rfl) ?_
      refine lv_iload_n hx hb dX12_idle_21 rfl (lv_at hl 2 rfl) ?_
      refine g_vF (w1 := fun (u : (Nat → Int64) × (Nat → Int64)) => [cell22_ qm sm tm, cell5_ k qm sm, cell13_ k qm sm, cell8_ k qm sm, cell6_ k qm sm, cell14_ k qm sm, cell15_ k qm tm, cell12_ k qm tm, cell147_ k qm (u.1), cell148_ k qm (u.2), cell19_ k qm tm, cell21_ k qm tm, cell20_ k qm sm, cell16_ k qm sm, cell11_ k qm sm, cell10_ k qm sm, cell9_ k qm sm, cell7_ k qm sm]) (g_runVF (ws := [cell22_ qm sm tm, cell5_ k qm sm, cell13_ k qm sm, cell8_ k qm sm, cell6_ k qm sm, cell14_ k qm sm, cell15_ k qm tm, cell12_ k qm tm, cell18_ k qm tm, cell17_ k qm tm, cell19_ k qm tm, cell21_ k qm tm, cell20_ k qm sm, cell16_ k qm sm, cell11_ k qm sm, cell10_ k qm sm, cell9_ k qm sm, cell7_ k qm sm]) (rest := []) cx hP hD hS [.int p0, .int p1] (c_X12_layLikely l D k b qm sm tm H.size p0 p1 (show 0 ≤ ((sm 2) 0).toInt ∧ ((sm 2) 0).toInt ≤ 5 from by first | decide | omega) (show 0 ≤ ((sm 2) 1).toInt ∧ ((sm 2) 1).toInt ≤ 4 from by first | decide | omega) (show 0 ≤ p0.toInt ∧ p0.toInt ≤ 2 from by first | decide | omega) (show 0 ≤ p1.toInt ∧ p1.toInt ≤ 5 from by first | decide | omega)) gX12_idle_X12_layLikely rfl rfl rfl nd_X12_layLikely ⟨Nat.le_of_ble_eq_true rfl, Nat.le_of_ble_eq_true rfl⟩ (ci := 10) (q0 := 0) rfl rfl rfl hl.1 rfl (Nat.le_of_ble_eq_true rfl) ⟨Nat.zero_le _, Nat.zero_le _⟩ dX12_idle_22) cx.2.2.1 hD hS (fun u18 H locs hw17 hP hD hS => ?_)
      obtain ⟨m19, m20⟩ := u18
      have hP : va_P D vwCl [cell22_ qm sm tm, cell5_ k qm sm, cell13_ k qm sm, cell8_ k qm sm, cell6_ k qm sm, cell14_ k qm sm, cell15_ k qm tm, cell12_ k qm tm, (qm 8, .inl (k 1, 50, .inr (.inl m19))), (qm 9, .inl (k 1, 50, .inr (.inl m20))), cell19_ k qm tm, cell21_ k qm tm, cell20_ k qm sm, cell16_ k qm sm, cell11_ k qm sm, cell10_ k qm sm, cell9_ k qm sm, cell7_ k qm sm] H := hP
      have hD : va_D A [cell22_ qm sm tm, cell5_ k qm sm, cell13_ k qm sm, cell8_ k qm sm, cell6_ k qm sm, cell14_ k qm sm, cell15_ k qm tm, cell12_ k qm tm, (qm 8, .inl (k 1, 50, .inr (.inl m19))), (qm 9, .inl (k 1, 50, .inr (.inl m20))), cell19_ k qm tm, cell21_ k qm tm, cell20_ k qm sm, cell16_ k qm sm, cell11_ k qm sm, cell10_ k qm sm, cell9_ k qm sm, cell7_ k qm sm] := hD
      refine lv_lconst (v := 0) hx hb dX12_idle_25 (by decide) ?_
      refine lv_lstore (lv' := [(4, .long 0), (0, .ref (qm 0)), (1, .int p0), (2, .int p1), (3, .int p2)]) hx hb dX12_idle_26 hl (by decide) rfl (fun ls hl => ?_)
      refine lv_iconst (v := 0) hx hb dX12_idle_28 (by decide) ?_
      refine lv_istore (lv' := [(6, .int 0), (4, .long 0), (0, .ref (qm 0)), (1, .int p0), (2, .int p1), (3, .int p2)]) hx hb dX12_idle_29 hl (by decide) rfl (fun ls hl => ?_)
      have hL31 : ∀ (n34 : Nat) (v32 : Int32) (v33 : Int64) (H : Heap) (locs : List Loc) (ls : Array Slot), 50 - v32.toInt < (n34 : Int) → (0 ≤ v32.toInt ∧ v32.toInt ≤ 50) → va_P D vwCl [cell22_ qm sm tm, cell5_ k qm sm, cell13_ k qm sm, cell8_ k qm sm, cell6_ k qm sm, cell14_ k qm sm, cell15_ k qm tm, cell12_ k qm tm, (qm 8, .inl (k 1, 50, .inr (.inl m19))), (qm 9, .inl (k 1, 50, .inr (.inl m20))), cell19_ k qm tm, cell21_ k qm tm, cell20_ k qm sm, cell16_ k qm sm, cell11_ k qm sm, cell10_ k qm sm, cell9_ k qm sm, cell7_ k qm sm] H → va_D A [cell22_ qm sm tm, cell5_ k qm sm, cell13_ k qm sm, cell8_ k qm sm, cell6_ k qm sm, cell14_ k qm sm, cell15_ k qm tm, cell12_ k qm tm, (qm 8, .inl (k 1, 50, .inr (.inl m19))), (qm 9, .inl (k 1, 50, .inr (.inl m20))), cell19_ k qm tm, cell21_ k qm tm, cell20_ k qm sm, cell16_ k qm sm, cell11_ k qm sm, cell10_ k qm sm, cell9_ k qm sm, cell7_ k qm sm] → va_S A s.heap H locs → lv_has ls 8 [(6, .int v32), (4, .long v33), (0, .ref (qm 0)), (1, .int p0), (2, .int p1), (3, .int p2)] → W p l e ({ frames := 4, cells := 0, slots := 0, locals := 101 } : Room) s m ([.ref (qm 0), .int p0, .int p1, .int p2] : List Value).toArray below meth c H locs 0 0 Q (F0 m 31 ls []) := by
        intro n34
        induction n34 with
        | zero => intro v32 v33 H locs ls hmn34 bv32 hP hD hS hl; exact absurd hmn34 (by omega)
        | succ n34 ih31 =>
          intro v32 v33 H locs ls hmn34 bv32 hP hD hS hl
          refine lv_iload hx hb dX12_idle_31 (lv_at hl 0 rfl) ?_
          refine lv_bipush (v := 50) hx hb dX12_idle_33 (by decide) ?_
          refine lv_icmp_ge (tgt := 95) hx hb dX12_idle_35 (by decide) (fun c35 => ?_) (fun c35 => ?_)
          · have f35 : 50 ≤ v32.toInt := f_le (by decide) rfl c35
            refine lv_lload hx hb dX12_idle_95 (lv_at hl 1 rfl) ?_
            refine lv_iload_n hx hb dX12_idle_97 rfl (lv_at hl 4 rfl) ?_
            refine g_lr (g_runS (wc := []) (rest := [.long v33]) cx hP hD hS [] rfl (by decide) [.int p1] (c_X12_parts l D k b H.size p1) gX12_idle_X12_parts rfl rfl rfl nd_X12_parts ⟨Nat.le_of_ble_eq_true rfl, Nat.le_of_ble_eq_true rfl⟩ rfl hl.1 rfl (Nat.le_of_ble_eq_true rfl) ⟨Nat.zero_le _, Nat.zero_le _⟩ dX12_idle_98) cx.2.2.1 hP hD hS [] rfl rfl (fun r37 H locs hw36 hP hS => ?_)
            replace hw36 : (r37.toInt % 2 = 1) ∧ (r37 = J_X12_parts p1) := hw36
            obtain ⟨w38, w39⟩ := hw36
            have k41 : r37 = (J_X12_parts p1) := congrArg (fun z => z) w39
            refine lv_iload_n hx hb dX12_idle_101 rfl (lv_at hl 5 rfl) ?_
            refine g_lr (g_runS (wc := []) (rest := []) cx hP hD hS [] rfl (by decide) [.long v33, .long r37, .int p2] (c_X12_told l D k b H.size v33 r37 p2 (show ¬ r37.toInt = 0 from by first | decide | omega)) gX12_idle_X12_told rfl rfl rfl nd_X12_told ⟨Nat.le_of_ble_eq_true rfl, Nat.le_of_ble_eq_true rfl⟩ rfl hl.1 rfl (Nat.le_of_ble_eq_true rfl) ⟨Nat.zero_le _, Nat.zero_le _⟩ dX12_idle_102) cx.2.2.1 hP hD hS [] rfl rfl (fun r43 H locs hw42 hP hS => ?_)
            have w44 : r43 = J_X12_told v33 r37 p2 := hw42
            clear hw42
            have k46 : r43 = (J_X12_told v33 r37 p2) := congrArg (fun z => z) w44
            rw [hQ]
            exact x_l cx hr (m19, m20) hP hD hS trivial dX12_idle_105
          · have f35 : v32.toInt < 50 := f_nle (by decide) rfl c35
            refine lv_aload_n hx hb dX12_idle_38 rfl (lv_at hl 2 rfl) ?_
            refine g_get cx hP iw_X12_idle_X12 0 rfl rfl 16 (by decide) rfl fw_X12_idle_32 rfl dX12_idle_39 ?_
            refine lv_iload hx hb dX12_idle_42 (lv_at hl 0 rfl) ?_
            have hn47 : vp_in v32 50 := f_in (a := v32.toInt) rfl (by omega) (by omega)
            refine va_lald hx hb cx.2.1 hP 8 1 rfl rfl hn47 dX12_idle_44 (lv_topl (fun v48 e48 => ?_))
            refine lv_lconst (v := 0) hx hb dX12_idle_45 (by decide) ?_
            refine W.lcmp hx hb dX12_idle_46 (lv_topi (fun v49 e49 => ?_))
            have hJ62 : ∀ (v52 : Int32) (H : Heap) (locs : List Loc) (ls : Array Slot), va_P D vwCl [cell22_ qm sm tm, cell5_ k qm sm, cell13_ k qm sm, cell8_ k qm sm, cell6_ k qm sm, cell14_ k qm sm, cell15_ k qm tm, cell12_ k qm tm, (qm 8, .inl (k 1, 50, .inr (.inl m19))), (qm 9, .inl (k 1, 50, .inr (.inl m20))), cell19_ k qm tm, cell21_ k qm tm, cell20_ k qm sm, cell16_ k qm sm, cell11_ k qm sm, cell10_ k qm sm, cell9_ k qm sm, cell7_ k qm sm] H → va_D A [cell22_ qm sm tm, cell5_ k qm sm, cell13_ k qm sm, cell8_ k qm sm, cell6_ k qm sm, cell14_ k qm sm, cell15_ k qm tm, cell12_ k qm tm, (qm 8, .inl (k 1, 50, .inr (.inl m19))), (qm 9, .inl (k 1, 50, .inr (.inl m20))), cell19_ k qm tm, cell21_ k qm tm, cell20_ k qm sm, cell16_ k qm sm, cell11_ k qm sm, cell10_ k qm sm, cell9_ k qm sm, cell7_ k qm sm] → va_S A s.heap H locs → lv_has ls 8 [(6, .int v32), (4, .long v33), (0, .ref (qm 0)), (1, .int p0), (2, .int p1), (3, .int p2)] → W p l e ({ frames := 4, cells := 0, slots := 0, locals := 101 } : Room) s m ([.ref (qm 0), .int p0, .int p1, .int p2] : List Value).toArray below meth c H locs 0 0 Q (F0 m 62 ls [.int v52]) := by
              intro v52 H locs ls  hP hD hS hl
              refine lv_istore (lv' := [(7, .int v52), (6, .int v32), (4, .long v33), (0, .ref (qm 0)), (1, .int p0), (2, .int p1), (3, .int p2)]) hx hb dX12_idle_62 hl (by decide) rfl (fun ls hl => ?_)
              refine lv_lload hx hb dX12_idle_64 (lv_at hl 2 rfl) ?_
              refine lv_iload hx hb dX12_idle_66 (lv_at hl 0 rfl) ?_
              have hJ86 : ∀ (v57 : Int64) (H : Heap) (locs : List Loc) (ls : Array Slot), va_P D vwCl [cell22_ qm sm tm, cell5_ k qm sm, cell13_ k qm sm, cell8_ k qm sm, cell6_ k qm sm, cell14_ k qm sm, cell15_ k qm tm, cell12_ k qm tm, (qm 8, .inl (k 1, 50, .inr (.inl m19))), (qm 9, .inl (k 1, 50, .inr (.inl m20))), cell19_ k qm tm, cell21_ k qm tm, cell20_ k qm sm, cell16_ k qm sm, cell11_ k qm sm, cell10_ k qm sm, cell9_ k qm sm, cell7_ k qm sm] H → va_D A [cell22_ qm sm tm, cell5_ k qm sm, cell13_ k qm sm, cell8_ k qm sm, cell6_ k qm sm, cell14_ k qm sm, cell15_ k qm tm, cell12_ k qm tm, (qm 8, .inl (k 1, 50, .inr (.inl m19))), (qm 9, .inl (k 1, 50, .inr (.inl m20))), cell19_ k qm tm, cell21_ k qm tm, cell20_ k qm sm, cell16_ k qm sm, cell11_ k qm sm, cell10_ k qm sm, cell9_ k qm sm, cell7_ k qm sm] → va_S A s.heap H locs → lv_has ls 8 [(6, .int v32), (0, .ref (qm 0)), (1, .int p0), (2, .int p1), (3, .int p2)] → W p l e ({ frames := 4, cells := 0, slots := 0, locals := 101 } : Room) s m ([.ref (qm 0), .int p0, .int p1, .int p2] : List Value).toArray below meth c H locs 0 0 Q (F0 m 86 ls [.long v57, .long v33]) := by
                intro v57 H locs ls  hP hD hS hl
                refine lv_ladd hx hb dX12_idle_86 (lv_topl (fun v58 e58 => ?_))
                refine lv_lstore (lv' := [(4, .long v58), (6, .int v32), (0, .ref (qm 0)), (1, .int p0), (2, .int p1), (3, .int p2)]) hx hb dX12_idle_87 hl (by decide) rfl (fun ls hl => ?_)
                obtain ⟨v59, e59⟩ : ∃ z : Int32, z = v32 + 1 := ⟨_, rfl⟩
                refine lv_iinc (v := v59) (lv' := [(6, .int v59), (4, .long v58), (0, .ref (qm 0)), (1, .int p0), (2, .int p1), (3, .int p2)]) hx hb dX12_idle_89 hl (k := 1) rfl (by rw [e59]; rfl) (by decide) rfl (fun ls hl => ?_)
                have t59 : v59.toInt = v32.toInt + 1 := by rw [e59]; exact i_add rfl (by decide) (by omega) (by omega)
                refine lv_goto (tgt := 31) hx hb dX12_idle_92 (by decide) ?_
                exact ih31 v59 v58 _ _ _ (by omega) (by first | decide | omega) hP hD hS (lv_sub hl [0, 1, 2, 3, 4, 5] rfl)
              refine lv_if_le (tgt := 85) hx hb dX12_idle_68 (by decide) (fun c60 => ?_) (fun c60 => ?_)
              · have f60 : v52.toInt ≤ 0 := f_le rfl (by decide) c60
                refine lv_lconst (v := 0) hx hb dX12_idle_85 (by decide) ?_
                have hlit61 : (0 : Int32).toInt = 0 := by decide
                exact hJ86 0 _ _ _  hP hD hS (lv_sub hl [1, 3, 4, 5, 6] rfl)
              · have f60 : 0 < v52.toInt := f_nle rfl (by decide) c60
                refine lv_iload hx hb dX12_idle_71 (lv_at hl 0 rfl) ?_
                obtain ⟨v62, e62⟩ : ∃ z : Int64, z = (v52 : Int32).toInt64 := ⟨_, rfl⟩
                refine lv_i2l (v := v62) hx hb dX12_idle_73 e62.symm ?_
                refine lv_aload_n hx hb dX12_idle_74 rfl (lv_at hl 3 rfl) ?_
                refine g_get cx hP iw_X12_idle_X12 0 rfl rfl 16 (by decide) rfl fw_X12_idle_32 rfl dX12_idle_75 ?_
                refine lv_iload hx hb dX12_idle_78 (lv_at hl 1 rfl) ?_
                have hn63 : vp_in v32 50 := f_in (a := v32.toInt) rfl (by omega) (by omega)
                refine va_lald hx hb cx.2.1 hP 8 1 rfl rfl hn63 dX12_idle_80 (lv_topl (fun v64 e64 => ?_))
                obtain rfl : v48 = v64 := e48.trans e64.symm
                refine lv_lmul hx hb dX12_idle_81 (lv_topl (fun v65 e65 => ?_))
                refine lv_goto (tgt := 86) hx hb dX12_idle_82 (by decide) ?_
                exact hJ86 v65 _ _ _  hP hD hS (lv_sub hl [1, 3, 4, 5, 6] rfl)
            refine lv_if_le (tgt := 61) hx hb dX12_idle_47 (by decide) (fun c66 => ?_) (fun c66 => ?_)
            · have f66 : v49.toInt ≤ 0 := f_le rfl (by decide) c66
              refine lv_iconst (v := 0) hx hb dX12_idle_61 (by decide) ?_
              have hlit67 : (0 : Int32).toInt = 0 := by decide
              exact hJ62 0 _ _ _  hP hD hS (lv_sub hl [0, 1, 2, 3, 4, 5] rfl)
            · have f66 : 0 < v49.toInt := f_nle rfl (by decide) c66
              refine lv_aload_n hx hb dX12_idle_50 rfl (lv_at hl 2 rfl) ?_
              refine lv_iload_n hx hb dX12_idle_51 rfl (lv_at hl 3 rfl) ?_
              refine lv_iload_n hx hb dX12_idle_52 rfl (lv_at hl 4 rfl) ?_
              refine lv_iload hx hb dX12_idle_53 (lv_at hl 0 rfl) ?_
              refine g_iF (w1 := fun (_ : Unit) => [cell22_ qm sm tm, cell5_ k qm sm, cell13_ k qm sm, cell8_ k qm sm, cell6_ k qm sm, cell14_ k qm sm, cell15_ k qm tm, cell12_ k qm tm, (qm 8, .inl (k 1, 50, .inr (.inl m19))), (qm 9, .inl (k 1, 50, .inr (.inl m20))), cell19_ k qm tm, cell21_ k qm tm, cell20_ k qm sm, cell16_ k qm sm, cell11_ k qm sm, cell10_ k qm sm, cell9_ k qm sm, cell7_ k qm sm]) (g_runVF (ws := [cell22_ qm sm tm, cell5_ k qm sm, cell13_ k qm sm, cell8_ k qm sm, cell6_ k qm sm, cell14_ k qm sm, cell15_ k qm tm, cell12_ k qm tm, (qm 8, .inl (k 1, 50, .inr (.inl m19))), (qm 9, .inl (k 1, 50, .inr (.inl m20))), cell19_ k qm tm, cell21_ k qm tm, cell20_ k qm sm, cell16_ k qm sm, cell11_ k qm sm, cell10_ k qm sm, cell9_ k qm sm, cell7_ k qm sm]) (rest := []) cx hP hD hS [.int p0, .int p1, .int v32] (c_X12_overBy l D k b qm sm (up2L (up2L tm 8 m19) 9 m20) H.size p0 p1 v32 (show 0 ≤ ((sm 2) 0).toInt ∧ ((sm 2) 0).toInt ≤ 5 from by first | decide | omega) (show 0 ≤ p0.toInt ∧ p0.toInt ≤ 2 from by first | decide | omega) (show 0 ≤ p1.toInt ∧ p1.toInt ≤ 4 from by first | decide | omega)) gX12_idle_X12_overBy rfl rfl rfl nd_X12_overBy ⟨Nat.le_of_ble_eq_true rfl, Nat.le_of_ble_eq_true rfl⟩ (ci := 10) (q0 := 0) rfl rfl rfl hl.1 rfl (Nat.le_of_ble_eq_true rfl) ⟨Nat.zero_le _, Nat.zero_le _⟩ dX12_idle_55) cx.2.2.1 hD hS (fun r69 _ H locs hw68 hP hD hS => ?_)
              refine lv_goto (tgt := 62) hx hb dX12_idle_58 (by decide) ?_
              exact hJ62 r69 _ _ _  hP hD hS (lv_sub hl [0, 1, 2, 3, 4, 5] rfl)
      have hlit70 : (0 : Int32).toInt = 0 := by decide
      have hlit71 : (0 : Int32).toInt = 0 := by decide
      exact hL31 (Int.toNat (50 - 0) + 1) 0 0 _ _ _ (by omega) (by first | decide | omega) hP hD hS (lv_sub hl [0, 1, 2, 3, 4, 5] rfl)
    · have f16 : r10.toInt = 0 := f_eq rfl (by decide) c16
      refine lv_ldc2 (v := (-1)) hx hb cx.1.2.2.2.1 (cx.1.2.2.2.2 _ kJ_X12_idle_221) dX12_idle_15 ?_
      rw [hQ]
      exact x_l cx hr ((tm 8), (tm 9)) hP hD hS trivial dX12_idle_18
theorem fw_X12_there_13 : Cond.fieldLink RX12 13 "StillInAugustModel" "house" "[I" ∈ wsX12_there := by decide +kernel
theorem fw_X12_there_32 : Cond.fieldLink RX12 32 "StillInAugustModel" "likely" "[J" ∈ wsX12_there := by decide +kernel
theorem kJ_X12_there_206 : Cond.constantLong RX12 206 (-2) ∈ wsX12_there := by decide +kernel
theorem kJ_X12_there_221 : Cond.constantLong RX12 221 (-1) ∈ wsX12_there := by decide +kernel
theorem kJ_X12_there_69 : Cond.constantLong RX12 69 (4) ∈ wsX12_there := by decide +kernel
theorem iw_X12_there_X12 : ∀ w ∈ u_ws RX12 TX12 33, w ∈ wsX12_there := fun _ h => List.mem_cons_of_mem _ (List.mem_append_right _ h)
set_option maxHeartbeats 4000000 in
set_option maxRecDepth 100000 in
theorem c_X12_there (l : Launch) (D : va_G) (k : Nat → ClassId) (b : Nat → Nat) (qm : Nat → Nat) (sm : Nat → Nat → Int32) (tm : Nat → Nat → Int64) (sz : Nat) (p0 : Int32) (p1 : Int32) (p2 : Int32) (p3 : Int32) (h_w0 : 0 ≤ (sm 2 0).toInt ∧ (sm 2 0).toInt ≤ 5) (h_k1 : 0 ≤ (sm 2 1).toInt ∧ (sm 2 1).toInt ≤ 4) : MetL l D k b yX12_there wsX12_there ({ frames := 4, cells := 0, slots := 0, locals := 101 } : Room) [cell22_ qm sm tm, cell5_ k qm sm, cell13_ k qm sm, cell8_ k qm sm, cell6_ k qm sm, cell14_ k qm sm, cell15_ k qm tm, cell12_ k qm tm, cell18_ k qm tm, cell17_ k qm tm, cell19_ k qm tm, cell21_ k qm tm, cell20_ k qm sm, cell16_ k qm sm, cell11_ k qm sm, cell10_ k qm sm, cell9_ k qm sm, cell7_ k qm sm] sz [.ref (qm 0), .int p0, .int p1, .int p2, .int p3] (fun (r : Int64) (u : (Nat → Int64) × (Nat → Int64)) => True) (fun u => [cell22_ qm sm tm, cell5_ k qm sm, cell13_ k qm sm, cell8_ k qm sm, cell6_ k qm sm, cell14_ k qm sm, cell15_ k qm tm, cell12_ k qm tm, cell147_ k qm (u.1), cell148_ k qm (u.2), cell19_ k qm tm, cell21_ k qm tm, cell20_ k qm sm, cell16_ k qm sm, cell11_ k qm sm, cell10_ k qm sm, cell9_ k qm sm, cell7_ k qm sm]) := by
  refine g_enter (cc := cX12_there) (maxL := 8) (ret := (some .long)) (by decide) rfl (Nat.le_of_ble_eq_true rfl) ?_
  intro p e s m below meth c A hsz hAe cx hr hP hD hS ls hl
  rw [hAe]
  refine g_q (fun Q hQ => ?_)
  have hx := cx.1.1
  have hb := cx.1.2.1
  have bp0 := i_rng p0
  have bp1 := i_rng p1
  have bp2 := i_rng p2
  have bp3 := i_rng p3
  have hl : lv_has ls 8 [(0, .ref (qm 0)), (1, .int p0), (2, .int p1), (3, .int p2), (4, .int p3)] := hl
  obtain ⟨H, eH⟩ : ∃ H : Heap, H = s.heap := ⟨_, rfl⟩
  obtain ⟨locs, el⟩ : ∃ L : List Loc, L = [] := ⟨_, rfl⟩
  have hP : va_P D vwCl [cell22_ qm sm tm, cell5_ k qm sm, cell13_ k qm sm, cell8_ k qm sm, cell6_ k qm sm, cell14_ k qm sm, cell15_ k qm tm, cell12_ k qm tm, cell18_ k qm tm, cell17_ k qm tm, cell19_ k qm tm, cell21_ k qm tm, cell20_ k qm sm, cell16_ k qm sm, cell11_ k qm sm, cell10_ k qm sm, cell9_ k qm sm, cell7_ k qm sm] H := by rw [eH]; exact hP
  have hD : va_D A [cell22_ qm sm tm, cell5_ k qm sm, cell13_ k qm sm, cell8_ k qm sm, cell6_ k qm sm, cell14_ k qm sm, cell15_ k qm tm, cell12_ k qm tm, cell18_ k qm tm, cell17_ k qm tm, cell19_ k qm tm, cell21_ k qm tm, cell20_ k qm sm, cell16_ k qm sm, cell11_ k qm sm, cell10_ k qm sm, cell9_ k qm sm, cell7_ k qm sm] := hD
  have hS : va_S A s.heap H locs := by rw [eH, el]; exact hS
  suffices goal : W p l e ({ frames := 4, cells := 0, slots := 0, locals := 101 } : Room) s m ([.ref (qm 0), .int p0, .int p1, .int p2, .int p3] : List Value).toArray below meth c H locs 0 0 Q (F0 m 0 ls []) by rw [eH, el] at goal; exact goal
  refine lv_iload_n hx hb dX12_there_0 rfl (lv_at hl 1 rfl) ?_
  refine g_ir (g_runS (wc := []) (rest := []) cx hP hD hS [] rfl (by decide) [.int p0] (c_X12_isRule l D k b H.size p0) gX12_there_X12_isRule rfl rfl rfl nd_X12_isRule ⟨Nat.le_of_ble_eq_true rfl, Nat.le_of_ble_eq_true rfl⟩ rfl hl.1 rfl (Nat.le_of_ble_eq_true rfl) ⟨Nat.zero_le _, Nat.zero_le _⟩ dX12_there_1) cx.2.2.1 hP hD hS [] rfl rfl (fun r2 H locs hw1 hP hS => ?_)
  replace hw1 : (0 ≤ r2.toInt ∧ r2.toInt ≤ 1) ∧ (Imp (r2.toInt = 1) (0 ≤ p0.toInt ∧ p0.toInt ≤ 2)) ∧ (r2 = J_X12_isRule p0) := hw1
  obtain ⟨w3, w4, w5⟩ := hw1
  have k7 : r2 = (J_X12_isRule p0) := congrArg (fun z => z) w5
  have zr2 : 0 ≤ r2.toInt ∧ r2.toInt ≤ 1 := w3
  refine lv_if_eq (tgt := 25) hx hb dX12_there_4 (by decide) (fun c8 => ?_) (fun c8 => ?_)
  · have f8 : r2.toInt = 0 := f_eq rfl (by decide) c8
    refine lv_ldc2 (v := (-1)) hx hb cx.1.2.2.2.1 (cx.1.2.2.2.2 _ kJ_X12_there_221) dX12_there_25 ?_
    rw [hQ]
    exact x_l cx hr ((tm 8), (tm 9)) hP hD hS trivial dX12_there_28
  · have f8 : ¬ r2.toInt = 0 := f_ne rfl (by decide) c8
    have k8 : (0 ≤ p0.toInt ∧ p0.toInt ≤ 2) := w4 (by omega)
    refine lv_aload_n hx hb dX12_there_7 rfl (lv_at hl 0 rfl) ?_
    refine lv_iload_n hx hb dX12_there_8 rfl (lv_at hl 2 rfl) ?_
    refine g_iF (w1 := fun (_ : Unit) => [cell22_ qm sm tm, cell5_ k qm sm, cell13_ k qm sm, cell8_ k qm sm, cell6_ k qm sm, cell14_ k qm sm, cell15_ k qm tm, cell12_ k qm tm, cell18_ k qm tm, cell17_ k qm tm, cell19_ k qm tm, cell21_ k qm tm, cell20_ k qm sm, cell16_ k qm sm, cell11_ k qm sm, cell10_ k qm sm, cell9_ k qm sm, cell7_ k qm sm]) (g_runVF (ws := [cell22_ qm sm tm, cell5_ k qm sm, cell13_ k qm sm, cell8_ k qm sm, cell6_ k qm sm, cell14_ k qm sm, cell15_ k qm tm, cell12_ k qm tm, cell18_ k qm tm, cell17_ k qm tm, cell19_ k qm tm, cell21_ k qm tm, cell20_ k qm sm, cell16_ k qm sm, cell11_ k qm sm, cell10_ k qm sm, cell9_ k qm sm, cell7_ k qm sm]) (rest := []) cx hP hD hS [.int p1] (c_X12_isWeek l D k b qm sm tm H.size p1 (show 0 ≤ ((sm 2) 0).toInt ∧ ((sm 2) 0).toInt ≤ 5 from by first | decide | omega)) gX12_there_X12_isWeek rfl rfl rfl nd_X12_isWeek ⟨Nat.le_of_ble_eq_true rfl, Nat.le_of_ble_eq_true rfl⟩ (ci := 10) (q0 := 0) rfl rfl rfl hl.1 rfl (Nat.le_of_ble_eq_true rfl) ⟨Nat.zero_le _, Nat.zero_le _⟩ dX12_there_9) cx.2.2.1 hD hS (fun r10 _ H locs hw9 hP hD hS => ?_)
    replace hw9 : (0 ≤ r10.toInt ∧ r10.toInt ≤ 1) ∧ (Imp (r10.toInt = 1) (0 ≤ p1.toInt ∧ p1.toInt ≤ 4)) ∧ (r10 = J_X12_isWeek sm tm p1) := hw9
    obtain ⟨w11, w12, w13⟩ := hw9
    have k15 : r10 = (J_X12_isWeek sm tm p1) := congrArg (fun z => z) w13
    have zr10 : 0 ≤ r10.toInt ∧ r10.toInt ≤ 1 := w11
    have hJ29 : ∀  (H : Heap) (locs : List Loc) (ls : Array Slot), (0 ≤ p1.toInt ∧ p1.toInt ≤ 5) → va_P D vwCl [cell22_ qm sm tm, cell5_ k qm sm, cell13_ k qm sm, cell8_ k qm sm, cell6_ k qm sm, cell14_ k qm sm, cell15_ k qm tm, cell12_ k qm tm, cell18_ k qm tm, cell17_ k qm tm, cell19_ k qm tm, cell21_ k qm tm, cell20_ k qm sm, cell16_ k qm sm, cell11_ k qm sm, cell10_ k qm sm, cell9_ k qm sm, cell7_ k qm sm] H → va_D A [cell22_ qm sm tm, cell5_ k qm sm, cell13_ k qm sm, cell8_ k qm sm, cell6_ k qm sm, cell14_ k qm sm, cell15_ k qm tm, cell12_ k qm tm, cell18_ k qm tm, cell17_ k qm tm, cell19_ k qm tm, cell21_ k qm tm, cell20_ k qm sm, cell16_ k qm sm, cell11_ k qm sm, cell10_ k qm sm, cell9_ k qm sm, cell7_ k qm sm] → va_S A s.heap H locs → lv_has ls 8 [(0, .ref (qm 0)), (1, .int p0), (2, .int p1), (3, .int p2), (4, .int p3)] → W p l e ({ frames := 4, cells := 0, slots := 0, locals := 101 } : Room) s m ([.ref (qm 0), .int p0, .int p1, .int p2, .int p3] : List Value).toArray below meth c H locs 0 0 Q (F0 m 29 ls []) := by
      intro  H locs ls q hP hD hS hl
      refine lv_iload_n hx hb dX12_there_29 rfl (lv_at hl 3 rfl) ?_
      obtain ⟨v18, e18⟩ : ∃ z : Int64, z = (p2 : Int32).toInt64 := ⟨_, rfl⟩
      refine lv_i2l (v := v18) hx hb dX12_there_30 e18.symm ?_
      refine lv_lconst (v := 0) hx hb dX12_there_31 (by decide) ?_
      refine lv_ldc2 (v := 4) hx hb cx.1.2.2.2.1 (cx.1.2.2.2.2 _ kJ_X12_there_69) dX12_there_32 ?_
      refine g_ir (g_runS (wc := []) (rest := []) cx hP hD hS [] rfl (by decide) [.long v18, .long 0, .long 4] (c_X12_in l D k b H.size v18 0 4) gX12_there_X12_in rfl rfl rfl nd_X12_in ⟨Nat.le_of_ble_eq_true rfl, Nat.le_of_ble_eq_true rfl⟩ rfl hl.1 rfl (Nat.le_of_ble_eq_true rfl) ⟨Nat.zero_le _, Nat.zero_le _⟩ dX12_there_35) cx.2.2.1 hP hD hS [] rfl rfl (fun r20 H locs hw19 hP hS => ?_)
      have w21 : r20 = J_X12_in v18 (0 : Int64) (4 : Int64) := hw19
      clear hw19
      have zr20 := in_b w21
      refine lv_if_ne (tgt := 45) hx hb dX12_there_38 (by decide) (fun c22 => ?_) (fun c22 => ?_)
      · have f22 : ¬ r20.toInt = 0 := f_ne rfl (by decide) c22
        have k22 : 0 ≤ p2.toInt ∧ p2.toInt ≤ 4 := in_t (i2l_t rfl e18) (by decide) (by decide) w21 c22
        refine lv_aload_n hx hb dX12_there_45 rfl (lv_at hl 0 rfl) ?_
        refine lv_iload_n hx hb dX12_there_46 rfl (lv_at hl 1 rfl) ?_
        refine lv_iload_n hx hb dX12_there_47 rfl (lv_at hl 2 rfl) ?_
        refine g_vF (w1 := fun (u : (Nat → Int64) × (Nat → Int64)) => [cell22_ qm sm tm, cell5_ k qm sm, cell13_ k qm sm, cell8_ k qm sm, cell6_ k qm sm, cell14_ k qm sm, cell15_ k qm tm, cell12_ k qm tm, cell147_ k qm (u.1), cell148_ k qm (u.2), cell19_ k qm tm, cell21_ k qm tm, cell20_ k qm sm, cell16_ k qm sm, cell11_ k qm sm, cell10_ k qm sm, cell9_ k qm sm, cell7_ k qm sm]) (g_runVF (ws := [cell22_ qm sm tm, cell5_ k qm sm, cell13_ k qm sm, cell8_ k qm sm, cell6_ k qm sm, cell14_ k qm sm, cell15_ k qm tm, cell12_ k qm tm, cell18_ k qm tm, cell17_ k qm tm, cell19_ k qm tm, cell21_ k qm tm, cell20_ k qm sm, cell16_ k qm sm, cell11_ k qm sm, cell10_ k qm sm, cell9_ k qm sm, cell7_ k qm sm]) (rest := []) cx hP hD hS [.int p0, .int p1] (c_X12_layLikely l D k b qm sm tm H.size p0 p1 (show 0 ≤ ((sm 2) 0).toInt ∧ ((sm 2) 0).toInt ≤ 5 from by first | decide | omega) (show 0 ≤ ((sm 2) 1).toInt ∧ ((sm 2) 1).toInt ≤ 4 from by first | decide | omega) (show 0 ≤ p0.toInt ∧ p0.toInt ≤ 2 from by first | decide | omega) (show 0 ≤ p1.toInt ∧ p1.toInt ≤ 5 from by first | decide | omega)) gX12_there_X12_layLikely rfl rfl rfl nd_X12_layLikely ⟨Nat.le_of_ble_eq_true rfl, Nat.le_of_ble_eq_true rfl⟩ (ci := 10) (q0 := 0) rfl rfl rfl hl.1 rfl (Nat.le_of_ble_eq_true rfl) ⟨Nat.zero_le _, Nat.zero_le _⟩ dX12_there_48) cx.2.2.1 hD hS (fun u24 H locs hw23 hP hD hS => ?_)
        obtain ⟨m25, m26⟩ := u24
        have hP : va_P D vwCl [cell22_ qm sm tm, cell5_ k qm sm, cell13_ k qm sm, cell8_ k qm sm, cell6_ k qm sm, cell14_ k qm sm, cell15_ k qm tm, cell12_ k qm tm, (qm 8, .inl (k 1, 50, .inr (.inl m25))), (qm 9, .inl (k 1, 50, .inr (.inl m26))), cell19_ k qm tm, cell21_ k qm tm, cell20_ k qm sm, cell16_ k qm sm, cell11_ k qm sm, cell10_ k qm sm, cell9_ k qm sm, cell7_ k qm sm] H := hP
        have hD : va_D A [cell22_ qm sm tm, cell5_ k qm sm, cell13_ k qm sm, cell8_ k qm sm, cell6_ k qm sm, cell14_ k qm sm, cell15_ k qm tm, cell12_ k qm tm, (qm 8, .inl (k 1, 50, .inr (.inl m25))), (qm 9, .inl (k 1, 50, .inr (.inl m26))), cell19_ k qm tm, cell21_ k qm tm, cell20_ k qm sm, cell16_ k qm sm, cell11_ k qm sm, cell10_ k qm sm, cell9_ k qm sm, cell7_ k qm sm] := hD
        refine lv_lconst (v := 0) hx hb dX12_there_51 (by decide) ?_
        refine lv_lstore (lv' := [(5, .long 0), (0, .ref (qm 0)), (1, .int p0), (2, .int p1), (3, .int p2), (4, .int p3)]) hx hb dX12_there_52 hl (by decide) rfl (fun ls hl => ?_)
        refine lv_iconst (v := 0) hx hb dX12_there_54 (by decide) ?_
        refine lv_istore (lv' := [(7, .int 0), (5, .long 0), (0, .ref (qm 0)), (1, .int p0), (2, .int p1), (3, .int p2), (4, .int p3)]) hx hb dX12_there_55 hl (by decide) rfl (fun ls hl => ?_)
        have hL57 : ∀ (n36 : Nat) (v34 : Int32) (v35 : Int64) (H : Heap) (locs : List Loc) (ls : Array Slot), 50 - v34.toInt < (n36 : Int) → (0 ≤ v34.toInt ∧ v34.toInt ≤ 50) → va_P D vwCl [cell22_ qm sm tm, cell5_ k qm sm, cell13_ k qm sm, cell8_ k qm sm, cell6_ k qm sm, cell14_ k qm sm, cell15_ k qm tm, cell12_ k qm tm, (qm 8, .inl (k 1, 50, .inr (.inl m25))), (qm 9, .inl (k 1, 50, .inr (.inl m26))), cell19_ k qm tm, cell21_ k qm tm, cell20_ k qm sm, cell16_ k qm sm, cell11_ k qm sm, cell10_ k qm sm, cell9_ k qm sm, cell7_ k qm sm] H → va_D A [cell22_ qm sm tm, cell5_ k qm sm, cell13_ k qm sm, cell8_ k qm sm, cell6_ k qm sm, cell14_ k qm sm, cell15_ k qm tm, cell12_ k qm tm, (qm 8, .inl (k 1, 50, .inr (.inl m25))), (qm 9, .inl (k 1, 50, .inr (.inl m26))), cell19_ k qm tm, cell21_ k qm tm, cell20_ k qm sm, cell16_ k qm sm, cell11_ k qm sm, cell10_ k qm sm, cell9_ k qm sm, cell7_ k qm sm] → va_S A s.heap H locs → lv_has ls 8 [(7, .int v34), (5, .long v35), (0, .ref (qm 0)), (2, .int p1), (3, .int p2), (4, .int p3)] → W p l e ({ frames := 4, cells := 0, slots := 0, locals := 101 } : Room) s m ([.ref (qm 0), .int p0, .int p1, .int p2, .int p3] : List Value).toArray below meth c H locs 0 0 Q (F0 m 57 ls []) := by
          intro n36
          induction n36 with
          | zero => intro v34 v35 H locs ls hmn36 bv34 hP hD hS hl; exact absurd hmn36 (by omega)
          | succ n36 ih57 =>
            intro v34 v35 H locs ls hmn36 bv34 hP hD hS hl
            refine lv_iload hx hb dX12_there_57 (lv_at hl 0 rfl) ?_
            refine lv_bipush (v := 50) hx hb dX12_there_59 (by decide) ?_
            refine lv_icmp_ge (tgt := 95) hx hb dX12_there_61 (by decide) (fun c37 => ?_) (fun c37 => ?_)
            · have f37 : 50 ≤ v34.toInt := f_le (by decide) rfl c37
              refine lv_lload hx hb dX12_there_95 (lv_at hl 1 rfl) ?_
              refine lv_iload_n hx hb dX12_there_97 rfl (lv_at hl 3 rfl) ?_
              refine g_lr (g_runS (wc := []) (rest := [.long v35]) cx hP hD hS [] rfl (by decide) [.int p1] (c_X12_parts l D k b H.size p1) gX12_there_X12_parts rfl rfl rfl nd_X12_parts ⟨Nat.le_of_ble_eq_true rfl, Nat.le_of_ble_eq_true rfl⟩ rfl hl.1 rfl (Nat.le_of_ble_eq_true rfl) ⟨Nat.zero_le _, Nat.zero_le _⟩ dX12_there_98) cx.2.2.1 hP hD hS [] rfl rfl (fun r39 H locs hw38 hP hS => ?_)
              replace hw38 : (r39.toInt % 2 = 1) ∧ (r39 = J_X12_parts p1) := hw38
              obtain ⟨w40, w41⟩ := hw38
              have k43 : r39 = (J_X12_parts p1) := congrArg (fun z => z) w41
              refine lv_iload hx hb dX12_there_101 (lv_at hl 5 rfl) ?_
              refine g_lr (g_runS (wc := []) (rest := []) cx hP hD hS [] rfl (by decide) [.long v35, .long r39, .int p3] (c_X12_told l D k b H.size v35 r39 p3 (show ¬ r39.toInt = 0 from by first | decide | omega)) gX12_there_X12_told rfl rfl rfl nd_X12_told ⟨Nat.le_of_ble_eq_true rfl, Nat.le_of_ble_eq_true rfl⟩ rfl hl.1 rfl (Nat.le_of_ble_eq_true rfl) ⟨Nat.zero_le _, Nat.zero_le _⟩ dX12_there_103) cx.2.2.1 hP hD hS [] rfl rfl (fun r45 H locs hw44 hP hS => ?_)
              have w46 : r45 = J_X12_told v35 r39 p3 := hw44
              clear hw44
              have k48 : r45 = (J_X12_told v35 r39 p3) := congrArg (fun z => z) w46
              rw [hQ]
              exact x_l cx hr (m25, m26) hP hD hS trivial dX12_there_106
            · have f37 : v34.toInt < 50 := f_nle (by decide) rfl c37
              refine lv_lload hx hb dX12_there_64 (lv_at hl 1 rfl) ?_
              refine lv_iload hx hb dX12_there_66 (lv_at hl 0 rfl) ?_
              refine g_ir (g_runS (wc := []) (rest := [.long v35]) cx hP hD hS [] rfl (by decide) [.int v34] (c_X12_all l D k b H.size v34) gX12_there_X12_all rfl rfl rfl nd_X12_all ⟨Nat.le_of_ble_eq_true rfl, Nat.le_of_ble_eq_true rfl⟩ rfl hl.1 rfl (Nat.le_of_ble_eq_true rfl) ⟨Nat.zero_le _, Nat.zero_le _⟩ dX12_there_68) cx.2.2.1 hP hD hS [] rfl rfl (fun r50 H locs hw49 hP hS => ?_)
              have w51 : r50 = J_X12_all v34 := hw49
              clear hw49
              have zr50 := all_t w51 (show 0 ≤ v34.toInt from by omega)
              refine lv_iload_n hx hb dX12_there_71 rfl (lv_at hl 4 rfl) ?_
              have hJ86 : ∀ (v54 : Int64) (H : Heap) (locs : List Loc) (ls : Array Slot), va_P D vwCl [cell22_ qm sm tm, cell5_ k qm sm, cell13_ k qm sm, cell8_ k qm sm, cell6_ k qm sm, cell14_ k qm sm, cell15_ k qm tm, cell12_ k qm tm, (qm 8, .inl (k 1, 50, .inr (.inl m25))), (qm 9, .inl (k 1, 50, .inr (.inl m26))), cell19_ k qm tm, cell21_ k qm tm, cell20_ k qm sm, cell16_ k qm sm, cell11_ k qm sm, cell10_ k qm sm, cell9_ k qm sm, cell7_ k qm sm] H → va_D A [cell22_ qm sm tm, cell5_ k qm sm, cell13_ k qm sm, cell8_ k qm sm, cell6_ k qm sm, cell14_ k qm sm, cell15_ k qm tm, cell12_ k qm tm, (qm 8, .inl (k 1, 50, .inr (.inl m25))), (qm 9, .inl (k 1, 50, .inr (.inl m26))), cell19_ k qm tm, cell21_ k qm tm, cell20_ k qm sm, cell16_ k qm sm, cell11_ k qm sm, cell10_ k qm sm, cell9_ k qm sm, cell7_ k qm sm] → va_S A s.heap H locs → lv_has ls 8 [(7, .int v34), (0, .ref (qm 0)), (2, .int p1), (3, .int p2), (4, .int p3)] → W p l e ({ frames := 4, cells := 0, slots := 0, locals := 101 } : Room) s m ([.ref (qm 0), .int p0, .int p1, .int p2, .int p3] : List Value).toArray below meth c H locs 0 0 Q (F0 m 86 ls [.long v54, .long v35]) := by
                intro v54 H locs ls  hP hD hS hl
                refine lv_ladd hx hb dX12_there_86 (lv_topl (fun v55 e55 => ?_))
                refine lv_lstore (lv' := [(5, .long v55), (7, .int v34), (0, .ref (qm 0)), (2, .int p1), (3, .int p2), (4, .int p3)]) hx hb dX12_there_87 hl (by decide) rfl (fun ls hl => ?_)
                obtain ⟨v56, e56⟩ : ∃ z : Int32, z = v34 + 1 := ⟨_, rfl⟩
                refine lv_iinc (v := v56) (lv' := [(7, .int v56), (5, .long v55), (0, .ref (qm 0)), (2, .int p1), (3, .int p2), (4, .int p3)]) hx hb dX12_there_89 hl (k := 1) rfl (by rw [e56]; rfl) (by decide) rfl (fun ls hl => ?_)
                have t56 : v56.toInt = v34.toInt + 1 := by rw [e56]; exact i_add rfl (by decide) (by omega) (by omega)
                refine lv_goto (tgt := 57) hx hb dX12_there_92 (by decide) ?_
                exact ih57 v56 v55 _ _ _ (by omega) (by first | decide | omega) hP hD hS (lv_sub hl [0, 1, 2, 3, 4, 5] rfl)
              refine lv_icmp_ne (tgt := 85) hx hb dX12_there_72 (by decide) (fun c57 => ?_) (fun c57 => ?_)
              · have f57 : ¬ r50.toInt = p2.toInt := f_ne rfl rfl c57
                refine lv_lconst (v := 0) hx hb dX12_there_85 (by decide) ?_
                have hlit58 : (0 : Int32).toInt = 0 := by decide
                exact hJ86 0 _ _ _  hP hD hS (lv_sub hl [0, 2, 3, 4, 5] rfl)
              · have f57 : r50.toInt = p2.toInt := f_eq rfl rfl c57
                refine lv_aload_n hx hb dX12_there_75 rfl (lv_at hl 2 rfl) ?_
                refine g_get cx hP iw_X12_there_X12 0 rfl rfl 16 (by decide) rfl fw_X12_there_32 rfl dX12_there_76 ?_
                refine lv_iload hx hb dX12_there_79 (lv_at hl 0 rfl) ?_
                have hn59 : vp_in v34 50 := f_in (a := v34.toInt) rfl (by omega) (by omega)
                refine va_lald hx hb cx.2.1 hP 8 1 rfl rfl hn59 dX12_there_81 (lv_topl (fun v60 e60 => ?_))
                refine lv_goto (tgt := 86) hx hb dX12_there_82 (by decide) ?_
                exact hJ86 v60 _ _ _  hP hD hS (lv_sub hl [0, 2, 3, 4, 5] rfl)
        have hlit61 : (0 : Int32).toInt = 0 := by decide
        have hlit62 : (0 : Int32).toInt = 0 := by decide
        exact hL57 (Int.toNat (50 - 0) + 1) 0 0 _ _ _ (by omega) (by first | decide | omega) hP hD hS (lv_sub hl [0, 1, 2, 4, 5, 6] rfl)
      · have f22 : r20.toInt = 0 := f_eq rfl (by decide) c22
        have k22 : p2.toInt < 0 ∨ 4 < p2.toInt := in_f (i2l_t rfl e18) (by decide) (by decide) w21 c22
        refine lv_ldc2 (v := (-2)) hx hb cx.1.2.2.2.1 (cx.1.2.2.2.2 _ kJ_X12_there_206) dX12_there_41 ?_
        rw [hQ]
        exact x_l cx hr ((tm 8), (tm 9)) hP hD hS trivial dX12_there_44
    refine lv_if_ne (tgt := 29) hx hb dX12_there_12 (by decide) (fun c63 => ?_) (fun c63 => ?_)
    · have f63 : ¬ r10.toInt = 0 := f_ne rfl (by decide) c63
      have k63 : (0 ≤ p1.toInt ∧ p1.toInt ≤ 4) := w12 (by omega)
      exact hJ29  _ _ _ (by first | decide | omega) hP hD hS (lv_sub hl [0, 1, 2, 3, 4] rfl)
    · have f63 : r10.toInt = 0 := f_eq rfl (by decide) c63
      refine lv_iload_n hx hb dX12_there_15 rfl (lv_at hl 2 rfl) ?_
      refine lv_aload_n hx hb dX12_there_16 rfl (lv_at hl 0 rfl) ?_
      refine g_get cx hP iw_X12_there_X12 0 rfl rfl 1 (by decide) rfl fw_X12_there_13 rfl dX12_there_17 ?_
      refine lv_iconst (v := 0) hx hb dX12_there_20 (by decide) ?_
      have hn64 : vp_in 0 26 := f_in (a := 0) (by decide) (by omega) (by omega)
      refine va_iald hx hb cx.2.1 hP 2 0 rfl rfl hn64 dX12_there_21 (lv_topi (fun v65 e65 => ?_))
      have uv65 : v65.toInt = ((sm 2) 0).toInt := congrArg Int32.toInt e65
      have t65 : 0 ≤ v65.toInt ∧ v65.toInt ≤ 5 := by rw [e65]; exact h_w0
      refine lv_icmp_eq (tgt := 29) hx hb dX12_there_22 (by decide) (fun c66 => ?_) (fun c66 => ?_)
      · have f66 : p1.toInt = v65.toInt := f_eq rfl rfl c66
        exact hJ29  _ _ _ (by first | decide | omega) hP hD hS (lv_sub hl [0, 1, 2, 3, 4] rfl)
      · have f66 : ¬ p1.toInt = v65.toInt := f_ne rfl rfl c66
        refine lv_ldc2 (v := (-1)) hx hb cx.1.2.2.2.1 (cx.1.2.2.2.2 _ kJ_X12_there_221) dX12_there_25 ?_
        rw [hQ]
        exact x_l cx hr ((tm 8), (tm 9)) hP hD hS trivial dX12_there_28
set_option maxHeartbeats 4000000 in
set_option maxRecDepth 100000 in
theorem c_X12_cheapest (l : Launch) (D : va_G) (k : Nat → ClassId) (b : Nat → Nat) (qm : Nat → Nat) (sm : Nat → Nat → Int32) (tm : Nat → Nat → Int64) (sz : Nat) (h_w0 : 0 ≤ (sm 2 0).toInt ∧ (sm 2 0).toInt ≤ 5) (h_k1 : 0 ≤ (sm 2 1).toInt ∧ (sm 2 1).toInt ≤ 4) : MetI l D k b yX12_cheapest wsX12_cheapest ({ frames := 5, cells := 0, slots := 0, locals := 127 } : Room) [cell22_ qm sm tm, cell5_ k qm sm, cell13_ k qm sm, cell8_ k qm sm, cell6_ k qm sm, cell14_ k qm sm, cell15_ k qm tm, cell12_ k qm tm, cell18_ k qm tm, cell17_ k qm tm, cell19_ k qm tm, cell21_ k qm tm, cell20_ k qm sm, cell16_ k qm sm, cell11_ k qm sm, cell10_ k qm sm, cell9_ k qm sm, cell7_ k qm sm] sz [.ref (qm 0)] (fun (r : Int32) (u : (Nat → Int64) × (Nat → Int64)) => True) (fun u => [cell22_ qm sm tm, cell5_ k qm sm, cell13_ k qm sm, cell8_ k qm sm, cell6_ k qm sm, cell14_ k qm sm, cell155_ k qm (u.1), cell156_ k qm (u.2), cell18_ k qm tm, cell17_ k qm tm, cell19_ k qm tm, cell21_ k qm tm, cell20_ k qm sm, cell16_ k qm sm, cell11_ k qm sm, cell10_ k qm sm, cell9_ k qm sm, cell7_ k qm sm]) := by
  refine g_enter (cc := cX12_cheapest) (maxL := 7) (ret := (some .int)) (by decide) rfl (Nat.le_of_ble_eq_true rfl) ?_
  intro p e s m below meth c A hsz hAe cx hr hP hD hS ls hl
  rw [hAe]
  refine g_q (fun Q hQ => ?_)
  have hx := cx.1.1
  have hb := cx.1.2.1
  have hl : lv_has ls 7 [(0, .ref (qm 0))] := hl
  obtain ⟨H, eH⟩ : ∃ H : Heap, H = s.heap := ⟨_, rfl⟩
  obtain ⟨locs, el⟩ : ∃ L : List Loc, L = [] := ⟨_, rfl⟩
  have hP : va_P D vwCl [cell22_ qm sm tm, cell5_ k qm sm, cell13_ k qm sm, cell8_ k qm sm, cell6_ k qm sm, cell14_ k qm sm, cell15_ k qm tm, cell12_ k qm tm, cell18_ k qm tm, cell17_ k qm tm, cell19_ k qm tm, cell21_ k qm tm, cell20_ k qm sm, cell16_ k qm sm, cell11_ k qm sm, cell10_ k qm sm, cell9_ k qm sm, cell7_ k qm sm] H := by rw [eH]; exact hP
  have hD : va_D A [cell22_ qm sm tm, cell5_ k qm sm, cell13_ k qm sm, cell8_ k qm sm, cell6_ k qm sm, cell14_ k qm sm, cell15_ k qm tm, cell12_ k qm tm, cell18_ k qm tm, cell17_ k qm tm, cell19_ k qm tm, cell21_ k qm tm, cell20_ k qm sm, cell16_ k qm sm, cell11_ k qm sm, cell10_ k qm sm, cell9_ k qm sm, cell7_ k qm sm] := hD
  have hS : va_S A s.heap H locs := by rw [eH, el]; exact hS
  suffices goal : W p l e ({ frames := 5, cells := 0, slots := 0, locals := 127 } : Room) s m ([.ref (qm 0)] : List Value).toArray below meth c H locs 0 0 Q (F0 m 0 ls []) by rw [eH, el] at goal; exact goal
  refine lv_iconst (v := 0) hx hb dX12_cheapest_0 (by decide) ?_
  refine lv_istore_n (lv' := [(1, .int 0), (0, .ref (qm 0))]) hx hb dX12_cheapest_1 rfl hl (by decide) rfl (fun ls hl => ?_)
  refine lv_aload_n hx hb dX12_cheapest_2 rfl (lv_at hl 1 rfl) ?_
  refine lv_iconst (v := 0) hx hb dX12_cheapest_3 (by decide) ?_
  refine lv_iconst (v := 0) hx hb dX12_cheapest_4 (by decide) ?_
  refine lv_iconst (v := 0) hx hb dX12_cheapest_5 (by decide) ?_
  refine lv_iconst (v := 0) hx hb dX12_cheapest_6 (by decide) ?_
  refine g_lF (w1 := fun (u : (Nat → Int64) × (Nat → Int64)) => [cell22_ qm sm tm, cell5_ k qm sm, cell13_ k qm sm, cell8_ k qm sm, cell6_ k qm sm, cell14_ k qm sm, cell155_ k qm (u.1), cell156_ k qm (u.2), cell18_ k qm tm, cell17_ k qm tm, cell19_ k qm tm, cell21_ k qm tm, cell20_ k qm sm, cell16_ k qm sm, cell11_ k qm sm, cell10_ k qm sm, cell9_ k qm sm, cell7_ k qm sm]) (g_runVF (ws := [cell22_ qm sm tm, cell5_ k qm sm, cell13_ k qm sm, cell8_ k qm sm, cell6_ k qm sm, cell14_ k qm sm, cell15_ k qm tm, cell12_ k qm tm, cell18_ k qm tm, cell17_ k qm tm, cell19_ k qm tm, cell21_ k qm tm, cell20_ k qm sm, cell16_ k qm sm, cell11_ k qm sm, cell10_ k qm sm, cell9_ k qm sm, cell7_ k qm sm]) (rest := []) cx hP hD hS [.int 0, .int 0, .int 0, .int 0] (c_X12_layMean l D k b qm sm tm H.size 0 0 0 0 (show 0 ≤ ((sm 2) 0).toInt ∧ ((sm 2) 0).toInt ≤ 5 from by first | decide | omega) (show 0 ≤ ((sm 2) 1).toInt ∧ ((sm 2) 1).toInt ≤ 4 from by first | decide | omega) (show 0 ≤ (0 : Int32).toInt ∧ (0 : Int32).toInt ≤ 2 from by first | decide | omega) (show 0 ≤ (0 : Int32).toInt ∧ (0 : Int32).toInt ≤ 4 from by first | decide | omega) (show 0 ≤ (0 : Int32).toInt ∧ (0 : Int32).toInt ≤ 999 from by first | decide | omega)) gX12_cheapest_X12_layMean rfl rfl rfl nd_X12_layMean ⟨Nat.le_of_ble_eq_true rfl, Nat.le_of_ble_eq_true rfl⟩ (ci := 10) (q0 := 0) rfl rfl rfl hl.1 rfl (Nat.le_of_ble_eq_true rfl) ⟨Nat.zero_le _, Nat.zero_le _⟩ dX12_cheapest_7) cx.2.2.1 hD hS (fun r3 u2 H locs hw1 hP hD hS => ?_)
  obtain ⟨m4, m5⟩ := u2
  have hP : va_P D vwCl [cell22_ qm sm tm, cell5_ k qm sm, cell13_ k qm sm, cell8_ k qm sm, cell6_ k qm sm, cell14_ k qm sm, (qm 6, .inl (k 1, 1000, .inr (.inl m4))), (qm 7, .inl (k 1, 1000, .inr (.inl m5))), cell18_ k qm tm, cell17_ k qm tm, cell19_ k qm tm, cell21_ k qm tm, cell20_ k qm sm, cell16_ k qm sm, cell11_ k qm sm, cell10_ k qm sm, cell9_ k qm sm, cell7_ k qm sm] H := hP
  have hD : va_D A [cell22_ qm sm tm, cell5_ k qm sm, cell13_ k qm sm, cell8_ k qm sm, cell6_ k qm sm, cell14_ k qm sm, (qm 6, .inl (k 1, 1000, .inr (.inl m4))), (qm 7, .inl (k 1, 1000, .inr (.inl m5))), cell18_ k qm tm, cell17_ k qm tm, cell19_ k qm tm, cell21_ k qm tm, cell20_ k qm sm, cell16_ k qm sm, cell11_ k qm sm, cell10_ k qm sm, cell9_ k qm sm, cell7_ k qm sm] := hD
  refine lv_lstore_n (lv' := [(2, .long r3), (1, .int 0), (0, .ref (qm 0))]) hx hb dX12_cheapest_10 rfl hl (by decide) rfl (fun ls hl => ?_)
  refine lv_iconst (v := 1) hx hb dX12_cheapest_11 (by decide) ?_
  refine lv_istore (lv' := [(4, .int 1), (2, .long r3), (1, .int 0), (0, .ref (qm 0))]) hx hb dX12_cheapest_12 hl (by decide) rfl (fun ls hl => ?_)
  have hL14 : ∀ (n19 : Nat) (v14 : Int32) (v15 : Int64) (v16 : Int32) (g17 : Nat → Int64) (g18 : Nat → Int64) (H : Heap) (locs : List Loc) (ls : Array Slot), 3 - v14.toInt < (n19 : Int) → (1 ≤ v14.toInt ∧ v14.toInt ≤ 3) → va_P D vwCl [cell22_ qm sm tm, cell5_ k qm sm, cell13_ k qm sm, cell8_ k qm sm, cell6_ k qm sm, cell14_ k qm sm, (qm 6, .inl (k 1, 1000, .inr (.inl g17))), (qm 7, .inl (k 1, 1000, .inr (.inl g18))), cell18_ k qm tm, cell17_ k qm tm, cell19_ k qm tm, cell21_ k qm tm, cell20_ k qm sm, cell16_ k qm sm, cell11_ k qm sm, cell10_ k qm sm, cell9_ k qm sm, cell7_ k qm sm] H → va_D A [cell22_ qm sm tm, cell5_ k qm sm, cell13_ k qm sm, cell8_ k qm sm, cell6_ k qm sm, cell14_ k qm sm, (qm 6, .inl (k 1, 1000, .inr (.inl g17))), (qm 7, .inl (k 1, 1000, .inr (.inl g18))), cell18_ k qm tm, cell17_ k qm tm, cell19_ k qm tm, cell21_ k qm tm, cell20_ k qm sm, cell16_ k qm sm, cell11_ k qm sm, cell10_ k qm sm, cell9_ k qm sm, cell7_ k qm sm] → va_S A s.heap H locs → lv_has ls 7 [(4, .int v14), (2, .long v15), (1, .int v16), (0, .ref (qm 0))] → W p l e ({ frames := 5, cells := 0, slots := 0, locals := 127 } : Room) s m ([.ref (qm 0)] : List Value).toArray below meth c H locs 0 0 Q (F0 m 14 ls []) := by
    intro n19
    induction n19 with
    | zero => intro v14 v15 v16 g17 g18 H locs ls hmn19 bv14 hP hD hS hl; exact absurd hmn19 (by omega)
    | succ n19 ih14 =>
      intro v14 v15 v16 g17 g18 H locs ls hmn19 bv14 hP hD hS hl
      refine lv_iload hx hb dX12_cheapest_14 (lv_at hl 0 rfl) ?_
      refine lv_iconst (v := 3) hx hb dX12_cheapest_16 (by decide) ?_
      refine lv_icmp_ge (tgt := 65) hx hb dX12_cheapest_17 (by decide) (fun c20 => ?_) (fun c20 => ?_)
      · have f20 : 3 ≤ v14.toInt := f_le (by decide) rfl c20
        refine lv_iload_n hx hb dX12_cheapest_65 rfl (lv_at hl 2 rfl) ?_
        rw [hQ]
        exact x_i cx hr (g17, g18) hP hD hS trivial dX12_cheapest_66
      · have f20 : v14.toInt < 3 := f_nle (by decide) rfl c20
        refine lv_aload_n hx hb dX12_cheapest_20 rfl (lv_at hl 3 rfl) ?_
        refine lv_iload hx hb dX12_cheapest_21 (lv_at hl 0 rfl) ?_
        refine lv_iconst (v := 0) hx hb dX12_cheapest_23 (by decide) ?_
        refine lv_iconst (v := 0) hx hb dX12_cheapest_24 (by decide) ?_
        refine lv_iconst (v := 0) hx hb dX12_cheapest_25 (by decide) ?_
        refine g_lF (w1 := fun (u : (Nat → Int64) × (Nat → Int64)) => [cell22_ qm sm tm, cell5_ k qm sm, cell13_ k qm sm, cell8_ k qm sm, cell6_ k qm sm, cell14_ k qm sm, cell155_ k qm (u.1), cell156_ k qm (u.2), cell18_ k qm tm, cell17_ k qm tm, cell19_ k qm tm, cell21_ k qm tm, cell20_ k qm sm, cell16_ k qm sm, cell11_ k qm sm, cell10_ k qm sm, cell9_ k qm sm, cell7_ k qm sm]) (g_runVF (ws := [cell22_ qm sm tm, cell5_ k qm sm, cell13_ k qm sm, cell8_ k qm sm, cell6_ k qm sm, cell14_ k qm sm, (qm 6, .inl (k 1, 1000, .inr (.inl g17))), (qm 7, .inl (k 1, 1000, .inr (.inl g18))), cell18_ k qm tm, cell17_ k qm tm, cell19_ k qm tm, cell21_ k qm tm, cell20_ k qm sm, cell16_ k qm sm, cell11_ k qm sm, cell10_ k qm sm, cell9_ k qm sm, cell7_ k qm sm]) (rest := []) cx hP hD hS [.int v14, .int 0, .int 0, .int 0] (c_X12_layMean l D k b qm sm (up2L (up2L tm 6 g17) 7 g18) H.size v14 0 0 0 (show 0 ≤ ((sm 2) 0).toInt ∧ ((sm 2) 0).toInt ≤ 5 from by first | decide | omega) (show 0 ≤ ((sm 2) 1).toInt ∧ ((sm 2) 1).toInt ≤ 4 from by first | decide | omega) (show 0 ≤ v14.toInt ∧ v14.toInt ≤ 2 from by first | decide | omega) (show 0 ≤ (0 : Int32).toInt ∧ (0 : Int32).toInt ≤ 4 from by first | decide | omega) (show 0 ≤ (0 : Int32).toInt ∧ (0 : Int32).toInt ≤ 999 from by first | decide | omega)) gX12_cheapest_X12_layMean rfl rfl rfl nd_X12_layMean ⟨Nat.le_of_ble_eq_true rfl, Nat.le_of_ble_eq_true rfl⟩ (ci := 10) (q0 := 0) rfl rfl rfl hl.1 rfl (Nat.le_of_ble_eq_true rfl) ⟨Nat.zero_le _, Nat.zero_le _⟩ dX12_cheapest_26) cx.2.2.1 hD hS (fun r23 u22 H locs hw21 hP hD hS => ?_)
        obtain ⟨m24, m25⟩ := u22
        have hP : va_P D vwCl [cell22_ qm sm tm, cell5_ k qm sm, cell13_ k qm sm, cell8_ k qm sm, cell6_ k qm sm, cell14_ k qm sm, (qm 6, .inl (k 1, 1000, .inr (.inl m24))), (qm 7, .inl (k 1, 1000, .inr (.inl m25))), cell18_ k qm tm, cell17_ k qm tm, cell19_ k qm tm, cell21_ k qm tm, cell20_ k qm sm, cell16_ k qm sm, cell11_ k qm sm, cell10_ k qm sm, cell9_ k qm sm, cell7_ k qm sm] H := hP
        have hD : va_D A [cell22_ qm sm tm, cell5_ k qm sm, cell13_ k qm sm, cell8_ k qm sm, cell6_ k qm sm, cell14_ k qm sm, (qm 6, .inl (k 1, 1000, .inr (.inl m24))), (qm 7, .inl (k 1, 1000, .inr (.inl m25))), cell18_ k qm tm, cell17_ k qm tm, cell19_ k qm tm, cell21_ k qm tm, cell20_ k qm sm, cell16_ k qm sm, cell11_ k qm sm, cell10_ k qm sm, cell9_ k qm sm, cell7_ k qm sm] := hD
        refine lv_lstore (lv' := [(5, .long r23), (4, .int v14), (2, .long v15), (1, .int v16), (0, .ref (qm 0))]) hx hb dX12_cheapest_29 hl (by decide) rfl (fun ls hl => ?_)
        refine lv_lload hx hb dX12_cheapest_31 (lv_at hl 0 rfl) ?_
        refine lv_lload_n hx hb dX12_cheapest_33 rfl (lv_at hl 2 rfl) ?_
        refine W.lcmp hx hb dX12_cheapest_34 (lv_topi (fun v26 e26 => ?_))
        have hJ44 : ∀ (v27 : Int32) (H : Heap) (locs : List Loc) (ls : Array Slot), va_P D vwCl [cell22_ qm sm tm, cell5_ k qm sm, cell13_ k qm sm, cell8_ k qm sm, cell6_ k qm sm, cell14_ k qm sm, (qm 6, .inl (k 1, 1000, .inr (.inl m24))), (qm 7, .inl (k 1, 1000, .inr (.inl m25))), cell18_ k qm tm, cell17_ k qm tm, cell19_ k qm tm, cell21_ k qm tm, cell20_ k qm sm, cell16_ k qm sm, cell11_ k qm sm, cell10_ k qm sm, cell9_ k qm sm, cell7_ k qm sm] H → va_D A [cell22_ qm sm tm, cell5_ k qm sm, cell13_ k qm sm, cell8_ k qm sm, cell6_ k qm sm, cell14_ k qm sm, (qm 6, .inl (k 1, 1000, .inr (.inl m24))), (qm 7, .inl (k 1, 1000, .inr (.inl m25))), cell18_ k qm tm, cell17_ k qm tm, cell19_ k qm tm, cell21_ k qm tm, cell20_ k qm sm, cell16_ k qm sm, cell11_ k qm sm, cell10_ k qm sm, cell9_ k qm sm, cell7_ k qm sm] → va_S A s.heap H locs → lv_has ls 7 [(5, .long r23), (4, .int v14), (2, .long v15), (0, .ref (qm 0))] → W p l e ({ frames := 5, cells := 0, slots := 0, locals := 127 } : Room) s m ([.ref (qm 0)] : List Value).toArray below meth c H locs 0 0 Q (F0 m 44 ls [.int v27]) := by
          intro v27 H locs ls  hP hD hS hl
          refine lv_istore_n (lv' := [(1, .int v27), (5, .long r23), (4, .int v14), (2, .long v15), (0, .ref (qm 0))]) hx hb dX12_cheapest_44 rfl hl (by decide) rfl (fun ls hl => ?_)
          refine lv_lload hx hb dX12_cheapest_45 (lv_at hl 1 rfl) ?_
          refine lv_lload_n hx hb dX12_cheapest_47 rfl (lv_at hl 3 rfl) ?_
          refine W.lcmp hx hb dX12_cheapest_48 (lv_topi (fun v28 e28 => ?_))
          have hJ58 : ∀ (v29 : Int64) (H : Heap) (locs : List Loc) (ls : Array Slot), va_P D vwCl [cell22_ qm sm tm, cell5_ k qm sm, cell13_ k qm sm, cell8_ k qm sm, cell6_ k qm sm, cell14_ k qm sm, (qm 6, .inl (k 1, 1000, .inr (.inl m24))), (qm 7, .inl (k 1, 1000, .inr (.inl m25))), cell18_ k qm tm, cell17_ k qm tm, cell19_ k qm tm, cell21_ k qm tm, cell20_ k qm sm, cell16_ k qm sm, cell11_ k qm sm, cell10_ k qm sm, cell9_ k qm sm, cell7_ k qm sm] H → va_D A [cell22_ qm sm tm, cell5_ k qm sm, cell13_ k qm sm, cell8_ k qm sm, cell6_ k qm sm, cell14_ k qm sm, (qm 6, .inl (k 1, 1000, .inr (.inl m24))), (qm 7, .inl (k 1, 1000, .inr (.inl m25))), cell18_ k qm tm, cell17_ k qm tm, cell19_ k qm tm, cell21_ k qm tm, cell20_ k qm sm, cell16_ k qm sm, cell11_ k qm sm, cell10_ k qm sm, cell9_ k qm sm, cell7_ k qm sm] → va_S A s.heap H locs → lv_has ls 7 [(1, .int v27), (4, .int v14), (0, .ref (qm 0))] → W p l e ({ frames := 5, cells := 0, slots := 0, locals := 127 } : Room) s m ([.ref (qm 0)] : List Value).toArray below meth c H locs 0 0 Q (F0 m 58 ls [.long v29]) := by
            intro v29 H locs ls  hP hD hS hl
            refine lv_lstore_n (lv' := [(2, .long v29), (1, .int v27), (4, .int v14), (0, .ref (qm 0))]) hx hb dX12_cheapest_58 rfl hl (by decide) rfl (fun ls hl => ?_)
            obtain ⟨v30, e30⟩ : ∃ z : Int32, z = v14 + 1 := ⟨_, rfl⟩
            refine lv_iinc (v := v30) (lv' := [(4, .int v30), (2, .long v29), (1, .int v27), (0, .ref (qm 0))]) hx hb dX12_cheapest_59 hl (k := 2) rfl (by rw [e30]; rfl) (by decide) rfl (fun ls hl => ?_)
            have t30 : v30.toInt = v14.toInt + 1 := by rw [e30]; exact i_add rfl (by decide) (by omega) (by omega)
            refine lv_goto (tgt := 14) hx hb dX12_cheapest_62 (by decide) ?_
            exact ih14 v30 v29 v27 m24 m25 _ _ _ (by omega) (by first | decide | omega) hP hD hS (lv_sub hl [0, 1, 2, 3] rfl)
          refine lv_if_ge (tgt := 57) hx hb dX12_cheapest_49 (by decide) (fun c31 => ?_) (fun c31 => ?_)
          · have f31 : 0 ≤ v28.toInt := f_le (by decide) rfl c31
            refine lv_lload_n hx hb dX12_cheapest_57 rfl (lv_at hl 3 rfl) ?_
            exact hJ58 v15 _ _ _  hP hD hS (lv_sub hl [0, 2, 4] rfl)
          · have f31 : v28.toInt < 0 := f_nle (by decide) rfl c31
            refine lv_lload hx hb dX12_cheapest_52 (lv_at hl 1 rfl) ?_
            refine lv_goto (tgt := 58) hx hb dX12_cheapest_54 (by decide) ?_
            exact hJ58 r23 _ _ _  hP hD hS (lv_sub hl [0, 2, 4] rfl)
        refine lv_if_ge (tgt := 43) hx hb dX12_cheapest_35 (by decide) (fun c32 => ?_) (fun c32 => ?_)
        · have f32 : 0 ≤ v26.toInt := f_le (by decide) rfl c32
          refine lv_iload_n hx hb dX12_cheapest_43 rfl (lv_at hl 3 rfl) ?_
          exact hJ44 v16 _ _ _  hP hD hS (lv_sub hl [0, 1, 2, 4] rfl)
        · have f32 : v26.toInt < 0 := f_nle (by decide) rfl c32
          refine lv_iload hx hb dX12_cheapest_38 (lv_at hl 1 rfl) ?_
          refine lv_goto (tgt := 44) hx hb dX12_cheapest_40 (by decide) ?_
          exact hJ44 v14 _ _ _  hP hD hS (lv_sub hl [0, 1, 2, 4] rfl)
  have hlit33 : (1 : Int32).toInt = 1 := by decide
  have hlit34 : (0 : Int32).toInt = 0 := by decide
  exact hL14 (Int.toNat (3 - 1) + 1) 1 r3 0 m4 m5 _ _ _ (by omega) (by first | decide | omega) hP hD hS (lv_sub hl [0, 1, 2, 3] rfl)
