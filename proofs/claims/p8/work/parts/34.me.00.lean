theorem fw_X12_onward_25 : Cond.fieldLink RX12 25 "StillInAugustModel" "worth" "[J" ∈ wsX12_onward := by decide +kernel
theorem iw_X12_onward_X12 : ∀ w ∈ u_ws RX12 TX12 33, w ∈ wsX12_onward := fun _ h => List.mem_cons_of_mem _ (List.mem_append_right _ h)
set_option maxHeartbeats 4000000 in
set_option maxRecDepth 100000 in
theorem c_X12_onward (l : Launch) (D : va_G) (k : Nat → ClassId) (b : Nat → Nat) (qm : Nat → Nat) (sm : Nat → Nat → Int32) (tm : Nat → Nat → Int64) (sz : Nat) (p0 : Int32) (h_k1 : 0 ≤ (sm 2 1).toInt ∧ (sm 2 1).toInt ≤ 4) : MetL l D k b yX12_onward wsX12_onward ({ frames := 3, cells := 0, slots := 0, locals := 75 } : Room) [cell22_ qm sm tm, cell5_ k qm sm, cell13_ k qm sm, cell8_ k qm sm, cell6_ k qm sm, cell14_ k qm sm, cell15_ k qm tm, cell12_ k qm tm, cell18_ k qm tm, cell17_ k qm tm, cell19_ k qm tm, cell21_ k qm tm, cell20_ k qm sm, cell16_ k qm sm, cell11_ k qm sm, cell10_ k qm sm, cell9_ k qm sm, cell7_ k qm sm] sz [.ref (qm 0), .int p0] (fun (r : Int64) (u : Unit) => True) (fun u => [cell22_ qm sm tm, cell5_ k qm sm, cell13_ k qm sm, cell8_ k qm sm, cell6_ k qm sm, cell14_ k qm sm, cell15_ k qm tm, cell12_ k qm tm, cell18_ k qm tm, cell17_ k qm tm, cell19_ k qm tm, cell21_ k qm tm, cell20_ k qm sm, cell16_ k qm sm, cell11_ k qm sm, cell10_ k qm sm, cell9_ k qm sm, cell7_ k qm sm]) := by
  refine g_enter (cc := cX12_onward) (maxL := 5) (ret := (some .long)) (by decide) rfl (Nat.le_of_ble_eq_true rfl) ?_
  intro p e s m below meth c A hsz hAe cx hr hP hD hS ls hl
  rw [hAe]
  refine g_q (fun Q hQ => ?_)
  have hx := cx.1.1
  have hb := cx.1.2.1
  have bp0 := i_rng p0
  have hl : lv_has ls 5 [(0, .ref (qm 0)), (1, .int p0)] := hl
  obtain ⟨H, eH⟩ : ∃ H : Heap, H = s.heap := ⟨_, rfl⟩
  obtain ⟨locs, el⟩ : ∃ L : List Loc, L = [] := ⟨_, rfl⟩
  have hP : va_P D vwCl [cell22_ qm sm tm, cell5_ k qm sm, cell13_ k qm sm, cell8_ k qm sm, cell6_ k qm sm, cell14_ k qm sm, cell15_ k qm tm, cell12_ k qm tm, cell18_ k qm tm, cell17_ k qm tm, cell19_ k qm tm, cell21_ k qm tm, cell20_ k qm sm, cell16_ k qm sm, cell11_ k qm sm, cell10_ k qm sm, cell9_ k qm sm, cell7_ k qm sm] H := by rw [eH]; exact hP
  have hD : va_D A [cell22_ qm sm tm, cell5_ k qm sm, cell13_ k qm sm, cell8_ k qm sm, cell6_ k qm sm, cell14_ k qm sm, cell15_ k qm tm, cell12_ k qm tm, cell18_ k qm tm, cell17_ k qm tm, cell19_ k qm tm, cell21_ k qm tm, cell20_ k qm sm, cell16_ k qm sm, cell11_ k qm sm, cell10_ k qm sm, cell9_ k qm sm, cell7_ k qm sm] := hD
  have hS : va_S A s.heap H locs := by rw [eH, el]; exact hS
  suffices goal : W p l e ({ frames := 3, cells := 0, slots := 0, locals := 75 } : Room) s m ([.ref (qm 0), .int p0] : List Value).toArray below meth c H locs 0 0 Q (F0 m 0 ls []) by rw [eH, el] at goal; exact goal
  refine lv_lconst (v := 0) hx hb dX12_onward_0 (by decide) ?_
  refine lv_lstore_n (lv' := [(2, .long 0), (0, .ref (qm 0)), (1, .int p0)]) hx hb dX12_onward_1 rfl hl (by decide) rfl (fun ls hl => ?_)
  refine lv_iconst (v := 0) hx hb dX12_onward_2 (by decide) ?_
  refine lv_istore (lv' := [(4, .int 0), (2, .long 0), (0, .ref (qm 0)), (1, .int p0)]) hx hb dX12_onward_3 hl (by decide) rfl (fun ls hl => ?_)
  have hL5 : ∀ (n18 : Nat) (v16 : Int32) (v17 : Int64) (H : Heap) (locs : List Loc) (ls : Array Slot), 50 - v16.toInt < (n18 : Int) → (0 ≤ v16.toInt ∧ v16.toInt ≤ 50) → va_P D vwCl [cell22_ qm sm tm, cell5_ k qm sm, cell13_ k qm sm, cell8_ k qm sm, cell6_ k qm sm, cell14_ k qm sm, cell15_ k qm tm, cell12_ k qm tm, cell18_ k qm tm, cell17_ k qm tm, cell19_ k qm tm, cell21_ k qm tm, cell20_ k qm sm, cell16_ k qm sm, cell11_ k qm sm, cell10_ k qm sm, cell9_ k qm sm, cell7_ k qm sm] H → va_D A [cell22_ qm sm tm, cell5_ k qm sm, cell13_ k qm sm, cell8_ k qm sm, cell6_ k qm sm, cell14_ k qm sm, cell15_ k qm tm, cell12_ k qm tm, cell18_ k qm tm, cell17_ k qm tm, cell19_ k qm tm, cell21_ k qm tm, cell20_ k qm sm, cell16_ k qm sm, cell11_ k qm sm, cell10_ k qm sm, cell9_ k qm sm, cell7_ k qm sm] → va_S A s.heap H locs → lv_has ls 5 [(4, .int v16), (2, .long v17), (0, .ref (qm 0)), (1, .int p0)] → W p l e ({ frames := 3, cells := 0, slots := 0, locals := 75 } : Room) s m ([.ref (qm 0), .int p0] : List Value).toArray below meth c H locs 0 0 Q (F0 m 5 ls []) := by
    intro n18
    induction n18 with
    | zero => intro v16 v17 H locs ls hmn18 bv16 hP hD hS hl; exact absurd hmn18 (by omega)
    | succ n18 ih5 =>
      intro v16 v17 H locs ls hmn18 bv16 hP hD hS hl
      refine lv_iload hx hb dX12_onward_5 (lv_at hl 0 rfl) ?_
      refine lv_bipush (v := 50) hx hb dX12_onward_7 (by decide) ?_
      refine lv_icmp_ge (tgt := 50) hx hb dX12_onward_9 (by decide) (fun c19 => ?_) (fun c19 => ?_)
      · have f19 : 50 ≤ v16.toInt := f_le (by decide) rfl c19
        refine lv_lload_n hx hb dX12_onward_50 rfl (lv_at hl 1 rfl) ?_
        rw [hQ]
        exact x_l cx hr () hP hD hS trivial dX12_onward_51
      · have f19 : v16.toInt < 50 := f_nle (by decide) rfl c19
        refine lv_lload_n hx hb dX12_onward_12 rfl (lv_at hl 1 rfl) ?_
        refine lv_aload_n hx hb dX12_onward_13 rfl (lv_at hl 2 rfl) ?_
        refine lv_iload hx hb dX12_onward_14 (lv_at hl 0 rfl) ?_
        refine g_iF (w1 := fun (_ : Unit) => [cell22_ qm sm tm, cell5_ k qm sm, cell13_ k qm sm, cell8_ k qm sm, cell6_ k qm sm, cell14_ k qm sm, cell15_ k qm tm, cell12_ k qm tm, cell18_ k qm tm, cell17_ k qm tm, cell19_ k qm tm, cell21_ k qm tm, cell20_ k qm sm, cell16_ k qm sm, cell11_ k qm sm, cell10_ k qm sm, cell9_ k qm sm, cell7_ k qm sm]) (g_runVF (ws := [cell22_ qm sm tm, cell5_ k qm sm, cell13_ k qm sm, cell8_ k qm sm, cell6_ k qm sm, cell14_ k qm sm, cell15_ k qm tm, cell12_ k qm tm, cell18_ k qm tm, cell17_ k qm tm, cell19_ k qm tm, cell21_ k qm tm, cell20_ k qm sm, cell16_ k qm sm, cell11_ k qm sm, cell10_ k qm sm, cell9_ k qm sm, cell7_ k qm sm]) (rest := [.long v17]) cx hP hD hS [.int v16] (c_X12_isHands l D k b qm sm tm H.size v16 (show 0 ≤ ((sm 2) 1).toInt ∧ ((sm 2) 1).toInt ≤ 4 from by first | decide | omega)) gX12_onward_X12_isHands rfl rfl rfl nd_X12_isHands ⟨Nat.le_of_ble_eq_true rfl, Nat.le_of_ble_eq_true rfl⟩ (ci := 10) (q0 := 0) rfl rfl rfl hl.1 rfl (Nat.le_of_ble_eq_true rfl) ⟨Nat.zero_le _, Nat.zero_le _⟩ dX12_onward_16) cx.2.2.1 hD hS (fun r21 _ H locs hw20 hP hD hS => ?_)
        replace hw20 : (0 ≤ r21.toInt ∧ r21.toInt ≤ 1) ∧ (Imp (r21.toInt = 1) (0 ≤ v16.toInt ∧ v16.toInt ≤ 400)) ∧ (r21 = J_X12_isHands sm tm v16) := hw20
        obtain ⟨w22, w23, w24⟩ := hw20
        have k26 : r21 = (J_X12_isHands sm tm v16) := congrArg (fun z => z) w24
        have zr21 : 0 ≤ r21.toInt ∧ r21.toInt ≤ 1 := w22
        have hJ42 : ∀ (v33 : Int64) (H : Heap) (locs : List Loc) (ls : Array Slot), va_P D vwCl [cell22_ qm sm tm, cell5_ k qm sm, cell13_ k qm sm, cell8_ k qm sm, cell6_ k qm sm, cell14_ k qm sm, cell15_ k qm tm, cell12_ k qm tm, cell18_ k qm tm, cell17_ k qm tm, cell19_ k qm tm, cell21_ k qm tm, cell20_ k qm sm, cell16_ k qm sm, cell11_ k qm sm, cell10_ k qm sm, cell9_ k qm sm, cell7_ k qm sm] H → va_D A [cell22_ qm sm tm, cell5_ k qm sm, cell13_ k qm sm, cell8_ k qm sm, cell6_ k qm sm, cell14_ k qm sm, cell15_ k qm tm, cell12_ k qm tm, cell18_ k qm tm, cell17_ k qm tm, cell19_ k qm tm, cell21_ k qm tm, cell20_ k qm sm, cell16_ k qm sm, cell11_ k qm sm, cell10_ k qm sm, cell9_ k qm sm, cell7_ k qm sm] → va_S A s.heap H locs → lv_has ls 5 [(4, .int v16), (0, .ref (qm 0)), (1, .int p0)] → W p l e ({ frames := 3, cells := 0, slots := 0, locals := 75 } : Room) s m ([.ref (qm 0), .int p0] : List Value).toArray below meth c H locs 0 0 Q (F0 m 42 ls [.long v33, .long v17]) := by
          intro v33 H locs ls  hP hD hS hl
          refine lv_ladd hx hb dX12_onward_42 (lv_topl (fun v34 e34 => ?_))
          refine lv_lstore_n (lv' := [(2, .long v34), (4, .int v16), (0, .ref (qm 0)), (1, .int p0)]) hx hb dX12_onward_43 rfl hl (by decide) rfl (fun ls hl => ?_)
          obtain ⟨v35, e35⟩ : ∃ z : Int32, z = v16 + 1 := ⟨_, rfl⟩
          refine lv_iinc (v := v35) (lv' := [(4, .int v35), (2, .long v34), (0, .ref (qm 0)), (1, .int p0)]) hx hb dX12_onward_44 hl (k := 1) rfl (by rw [e35]; rfl) (by decide) rfl (fun ls hl => ?_)
          have t35 : v35.toInt = v16.toInt + 1 := by rw [e35]; exact i_add rfl (by decide) (by omega) (by omega)
          refine lv_goto (tgt := 5) hx hb dX12_onward_47 (by decide) ?_
          exact ih5 v35 v34 _ _ _ (by omega) (by first | decide | omega) hP hD hS (lv_sub hl [0, 1, 2, 3] rfl)
        refine lv_if_eq (tgt := 41) hx hb dX12_onward_19 (by decide) (fun c36 => ?_) (fun c36 => ?_)
        · have f36 : r21.toInt = 0 := f_eq rfl (by decide) c36
          refine lv_lconst (v := 0) hx hb dX12_onward_41 (by decide) ?_
          have hlit37 : (0 : Int32).toInt = 0 := by decide
          exact hJ42 0 _ _ _  hP hD hS (lv_sub hl [0, 2, 3] rfl)
        · have f36 : ¬ r21.toInt = 0 := f_ne rfl (by decide) c36
          have k36 : (0 ≤ v16.toInt ∧ v16.toInt ≤ 400) := w23 (by omega)
          refine lv_aload_n hx hb dX12_onward_22 rfl (lv_at hl 2 rfl) ?_
          refine lv_iload_n hx hb dX12_onward_23 rfl (lv_at hl 3 rfl) ?_
          refine lv_iload hx hb dX12_onward_24 (lv_at hl 0 rfl) ?_
          refine g_iF (w1 := fun (_ : Unit) => [cell22_ qm sm tm, cell5_ k qm sm, cell13_ k qm sm, cell8_ k qm sm, cell6_ k qm sm, cell14_ k qm sm, cell15_ k qm tm, cell12_ k qm tm, cell18_ k qm tm, cell17_ k qm tm, cell19_ k qm tm, cell21_ k qm tm, cell20_ k qm sm, cell16_ k qm sm, cell11_ k qm sm, cell10_ k qm sm, cell9_ k qm sm, cell7_ k qm sm]) (g_runVF (ws := [cell22_ qm sm tm, cell5_ k qm sm, cell13_ k qm sm, cell8_ k qm sm, cell6_ k qm sm, cell14_ k qm sm, cell15_ k qm tm, cell12_ k qm tm, cell18_ k qm tm, cell17_ k qm tm, cell19_ k qm tm, cell21_ k qm tm, cell20_ k qm sm, cell16_ k qm sm, cell11_ k qm sm, cell10_ k qm sm, cell9_ k qm sm, cell7_ k qm sm]) (rest := [.long v17]) cx hP hD hS [.int p0, .int v16] (c_X12_sundayOf l D k b qm sm tm H.size p0 v16) gX12_onward_X12_sundayOf rfl rfl rfl nd_X12_sundayOf ⟨Nat.le_of_ble_eq_true rfl, Nat.le_of_ble_eq_true rfl⟩ (ci := 10) (q0 := 0) rfl rfl rfl hl.1 rfl (Nat.le_of_ble_eq_true rfl) ⟨Nat.zero_le _, Nat.zero_le _⟩ dX12_onward_26) cx.2.2.1 hD hS (fun r39 _ H locs hw38 hP hD hS => ?_)
          obtain ⟨v40, e40⟩ : ∃ z : Int64, z = (r39 : Int32).toInt64 := ⟨_, rfl⟩
          refine lv_i2l (v := v40) hx hb dX12_onward_29 e40.symm ?_
          refine lv_aload_n hx hb dX12_onward_30 rfl (lv_at hl 2 rfl) ?_
          refine g_get cx hP iw_X12_onward_X12 0 rfl rfl 14 (by decide) rfl fw_X12_onward_25 rfl dX12_onward_31 ?_
          refine lv_iload hx hb dX12_onward_34 (lv_at hl 0 rfl) ?_
          have hn41 : vp_in v16 1000 := f_in (a := v16.toInt) rfl (by omega) (by omega)
          refine va_lald hx hb cx.2.1 hP 6 1 rfl rfl hn41 dX12_onward_36 (lv_topl (fun v42 e42 => ?_))
          refine lv_lmul hx hb dX12_onward_37 (lv_topl (fun v43 e43 => ?_))
          refine lv_goto (tgt := 42) hx hb dX12_onward_38 (by decide) ?_
          exact hJ42 v43 _ _ _  hP hD hS (lv_sub hl [0, 2, 3] rfl)
  have hlit44 : (0 : Int32).toInt = 0 := by decide
  have hlit45 : (0 : Int32).toInt = 0 := by decide
  exact hL5 (Int.toNat (50 - 0) + 1) 0 0 _ _ _ (by omega) (by first | decide | omega) hP hD hS (lv_sub hl [0, 1, 2, 3] rfl)
