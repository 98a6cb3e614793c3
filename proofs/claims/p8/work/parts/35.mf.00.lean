theorem fw_X12_onwardBest_38 : Cond.fieldLink RX12 38 "StillInAugustModel" "bests" "[J" ∈ wsX12_onwardBest := by decide +kernel
theorem iw_X12_onwardBest_X12 : ∀ w ∈ u_ws RX12 TX12 33, w ∈ wsX12_onwardBest := fun _ h => List.mem_cons_of_mem _ (List.mem_append_right _ h)
set_option maxHeartbeats 4000000 in
set_option maxRecDepth 100000 in
theorem c_X12_onwardBest (l : Launch) (D : va_G) (k : Nat → ClassId) (b : Nat → Nat) (qm : Nat → Nat) (sm : Nat → Nat → Int32) (tm : Nat → Nat → Int64) (sz : Nat) (p0 : Int32) (p1 : Int32) (h_k1 : 0 ≤ (sm 2 1).toInt ∧ (sm 2 1).toInt ≤ 4) (hp1 : 0 ≤ p1.toInt ∧ p1.toInt ≤ 2) : MetL l D k b yX12_onwardBest wsX12_onwardBest ({ frames := 3, cells := 0, slots := 0, locals := 75 } : Room) [cell22_ qm sm tm, cell5_ k qm sm, cell13_ k qm sm, cell8_ k qm sm, cell6_ k qm sm, cell14_ k qm sm, cell15_ k qm tm, cell12_ k qm tm, cell18_ k qm tm, cell17_ k qm tm, cell19_ k qm tm, cell21_ k qm tm, cell20_ k qm sm, cell16_ k qm sm, cell11_ k qm sm, cell10_ k qm sm, cell9_ k qm sm, cell7_ k qm sm] sz [.ref (qm 0), .int p0, .int p1] (fun (r : Int64) (u : Unit) => True) (fun u => [cell22_ qm sm tm, cell5_ k qm sm, cell13_ k qm sm, cell8_ k qm sm, cell6_ k qm sm, cell14_ k qm sm, cell15_ k qm tm, cell12_ k qm tm, cell18_ k qm tm, cell17_ k qm tm, cell19_ k qm tm, cell21_ k qm tm, cell20_ k qm sm, cell16_ k qm sm, cell11_ k qm sm, cell10_ k qm sm, cell9_ k qm sm, cell7_ k qm sm]) := by
  refine g_enter (cc := cX12_onwardBest) (maxL := 6) (ret := (some .long)) (by decide) rfl (Nat.le_of_ble_eq_true rfl) ?_
  intro p e s m below meth c A hsz hAe cx hr hP hD hS ls hl
  rw [hAe]
  refine g_q (fun Q hQ => ?_)
  have hx := cx.1.1
  have hb := cx.1.2.1
  have bp0 := i_rng p0
  have bp1 := i_rng p1
  have hl : lv_has ls 6 [(0, .ref (qm 0)), (1, .int p0), (2, .int p1)] := hl
  obtain ⟨H, eH⟩ : ∃ H : Heap, H = s.heap := ⟨_, rfl⟩
  obtain ⟨locs, el⟩ : ∃ L : List Loc, L = [] := ⟨_, rfl⟩
  have hP : va_P D vwCl [cell22_ qm sm tm, cell5_ k qm sm, cell13_ k qm sm, cell8_ k qm sm, cell6_ k qm sm, cell14_ k qm sm, cell15_ k qm tm, cell12_ k qm tm, cell18_ k qm tm, cell17_ k qm tm, cell19_ k qm tm, cell21_ k qm tm, cell20_ k qm sm, cell16_ k qm sm, cell11_ k qm sm, cell10_ k qm sm, cell9_ k qm sm, cell7_ k qm sm] H := by rw [eH]; exact hP
  have hD : va_D A [cell22_ qm sm tm, cell5_ k qm sm, cell13_ k qm sm, cell8_ k qm sm, cell6_ k qm sm, cell14_ k qm sm, cell15_ k qm tm, cell12_ k qm tm, cell18_ k qm tm, cell17_ k qm tm, cell19_ k qm tm, cell21_ k qm tm, cell20_ k qm sm, cell16_ k qm sm, cell11_ k qm sm, cell10_ k qm sm, cell9_ k qm sm, cell7_ k qm sm] := hD
  have hS : va_S A s.heap H locs := by rw [eH, el]; exact hS
  suffices goal : W p l e ({ frames := 3, cells := 0, slots := 0, locals := 75 } : Room) s m ([.ref (qm 0), .int p0, .int p1] : List Value).toArray below meth c H locs 0 0 Q (F0 m 0 ls []) by rw [eH, el] at goal; exact goal
  refine lv_lconst (v := 0) hx hb dX12_onwardBest_0 (by decide) ?_
  refine lv_lstore_n (lv' := [(3, .long 0), (0, .ref (qm 0)), (1, .int p0), (2, .int p1)]) hx hb dX12_onwardBest_1 rfl hl (by decide) rfl (fun ls hl => ?_)
  refine lv_iconst (v := 0) hx hb dX12_onwardBest_2 (by decide) ?_
  refine lv_istore (lv' := [(5, .int 0), (3, .long 0), (0, .ref (qm 0)), (1, .int p0), (2, .int p1)]) hx hb dX12_onwardBest_3 hl (by decide) rfl (fun ls hl => ?_)
  have hL5 : ∀ (n20 : Nat) (v18 : Int32) (v19 : Int64) (H : Heap) (locs : List Loc) (ls : Array Slot), 50 - v18.toInt < (n20 : Int) → (0 ≤ v18.toInt ∧ v18.toInt ≤ 50) → va_P D vwCl [cell22_ qm sm tm, cell5_ k qm sm, cell13_ k qm sm, cell8_ k qm sm, cell6_ k qm sm, cell14_ k qm sm, cell15_ k qm tm, cell12_ k qm tm, cell18_ k qm tm, cell17_ k qm tm, cell19_ k qm tm, cell21_ k qm tm, cell20_ k qm sm, cell16_ k qm sm, cell11_ k qm sm, cell10_ k qm sm, cell9_ k qm sm, cell7_ k qm sm] H → va_D A [cell22_ qm sm tm, cell5_ k qm sm, cell13_ k qm sm, cell8_ k qm sm, cell6_ k qm sm, cell14_ k qm sm, cell15_ k qm tm, cell12_ k qm tm, cell18_ k qm tm, cell17_ k qm tm, cell19_ k qm tm, cell21_ k qm tm, cell20_ k qm sm, cell16_ k qm sm, cell11_ k qm sm, cell10_ k qm sm, cell9_ k qm sm, cell7_ k qm sm] → va_S A s.heap H locs → lv_has ls 6 [(5, .int v18), (3, .long v19), (0, .ref (qm 0)), (1, .int p0), (2, .int p1)] → W p l e ({ frames := 3, cells := 0, slots := 0, locals := 75 } : Room) s m ([.ref (qm 0), .int p0, .int p1] : List Value).toArray below meth c H locs 0 0 Q (F0 m 5 ls []) := by
    intro n20
    induction n20 with
    | zero => intro v18 v19 H locs ls hmn20 bv18 hP hD hS hl; exact absurd hmn20 (by omega)
    | succ n20 ih5 =>
      intro v18 v19 H locs ls hmn20 bv18 hP hD hS hl
      refine lv_iload hx hb dX12_onwardBest_5 (lv_at hl 0 rfl) ?_
      refine lv_bipush (v := 50) hx hb dX12_onwardBest_7 (by decide) ?_
      refine lv_icmp_ge (tgt := 54) hx hb dX12_onwardBest_9 (by decide) (fun c21 => ?_) (fun c21 => ?_)
      · have f21 : 50 ≤ v18.toInt := f_le (by decide) rfl c21
        refine lv_lload_n hx hb dX12_onwardBest_54 rfl (lv_at hl 1 rfl) ?_
        rw [hQ]
        exact x_l cx hr () hP hD hS trivial dX12_onwardBest_55
      · have f21 : v18.toInt < 50 := f_nle (by decide) rfl c21
        refine lv_lload_n hx hb dX12_onwardBest_12 rfl (lv_at hl 1 rfl) ?_
        refine lv_aload_n hx hb dX12_onwardBest_13 rfl (lv_at hl 2 rfl) ?_
        refine lv_iload hx hb dX12_onwardBest_14 (lv_at hl 0 rfl) ?_
        refine g_iF (w1 := fun (_ : Unit) => [cell22_ qm sm tm, cell5_ k qm sm, cell13_ k qm sm, cell8_ k qm sm, cell6_ k qm sm, cell14_ k qm sm, cell15_ k qm tm, cell12_ k qm tm, cell18_ k qm tm, cell17_ k qm tm, cell19_ k qm tm, cell21_ k qm tm, cell20_ k qm sm, cell16_ k qm sm, cell11_ k qm sm, cell10_ k qm sm, cell9_ k qm sm, cell7_ k qm sm]) (g_runVF (ws := [cell22_ qm sm tm, cell5_ k qm sm, cell13_ k qm sm, cell8_ k qm sm, cell6_ k qm sm, cell14_ k qm sm, cell15_ k qm tm, cell12_ k qm tm, cell18_ k qm tm, cell17_ k qm tm, cell19_ k qm tm, cell21_ k qm tm, cell20_ k qm sm, cell16_ k qm sm, cell11_ k qm sm, cell10_ k qm sm, cell9_ k qm sm, cell7_ k qm sm]) (rest := [.long v19]) cx hP hD hS [.int v18] (c_X12_isHands l D k b qm sm tm H.size v18 (show 0 ≤ ((sm 2) 1).toInt ∧ ((sm 2) 1).toInt ≤ 4 from by first | decide | omega)) gX12_onwardBest_X12_isHands rfl rfl rfl nd_X12_isHands ⟨Nat.le_of_ble_eq_true rfl, Nat.le_of_ble_eq_true rfl⟩ (ci := 10) (q0 := 0) rfl rfl rfl hl.1 rfl (Nat.le_of_ble_eq_true rfl) ⟨Nat.zero_le _, Nat.zero_le _⟩ dX12_onwardBest_16) cx.2.2.1 hD hS (fun r23 _ H locs hw22 hP hD hS => ?_)
        replace hw22 : (0 ≤ r23.toInt ∧ r23.toInt ≤ 1) ∧ (Imp (r23.toInt = 1) (0 ≤ v18.toInt ∧ v18.toInt ≤ 400)) ∧ (r23 = J_X12_isHands sm tm v18) := hw22
        obtain ⟨w24, w25, w26⟩ := hw22
        have k28 : r23 = (J_X12_isHands sm tm v18) := congrArg (fun z => z) w26
        have zr23 : 0 ≤ r23.toInt ∧ r23.toInt ≤ 1 := w24
        have hJ46 : ∀ (v37 : Int64) (H : Heap) (locs : List Loc) (ls : Array Slot), va_P D vwCl [cell22_ qm sm tm, cell5_ k qm sm, cell13_ k qm sm, cell8_ k qm sm, cell6_ k qm sm, cell14_ k qm sm, cell15_ k qm tm, cell12_ k qm tm, cell18_ k qm tm, cell17_ k qm tm, cell19_ k qm tm, cell21_ k qm tm, cell20_ k qm sm, cell16_ k qm sm, cell11_ k qm sm, cell10_ k qm sm, cell9_ k qm sm, cell7_ k qm sm] H → va_D A [cell22_ qm sm tm, cell5_ k qm sm, cell13_ k qm sm, cell8_ k qm sm, cell6_ k qm sm, cell14_ k qm sm, cell15_ k qm tm, cell12_ k qm tm, cell18_ k qm tm, cell17_ k qm tm, cell19_ k qm tm, cell21_ k qm tm, cell20_ k qm sm, cell16_ k qm sm, cell11_ k qm sm, cell10_ k qm sm, cell9_ k qm sm, cell7_ k qm sm] → va_S A s.heap H locs → lv_has ls 6 [(5, .int v18), (0, .ref (qm 0)), (1, .int p0), (2, .int p1)] → W p l e ({ frames := 3, cells := 0, slots := 0, locals := 75 } : Room) s m ([.ref (qm 0), .int p0, .int p1] : List Value).toArray below meth c H locs 0 0 Q (F0 m 46 ls [.long v37, .long v19]) := by
          intro v37 H locs ls  hP hD hS hl
          refine lv_ladd hx hb dX12_onwardBest_46 (lv_topl (fun v38 e38 => ?_))
          refine lv_lstore_n (lv' := [(3, .long v38), (5, .int v18), (0, .ref (qm 0)), (1, .int p0), (2, .int p1)]) hx hb dX12_onwardBest_47 rfl hl (by decide) rfl (fun ls hl => ?_)
          obtain ⟨v39, e39⟩ : ∃ z : Int32, z = v18 + 1 := ⟨_, rfl⟩
          refine lv_iinc (v := v39) (lv' := [(5, .int v39), (3, .long v38), (0, .ref (qm 0)), (1, .int p0), (2, .int p1)]) hx hb dX12_onwardBest_48 hl (k := 1) rfl (by rw [e39]; rfl) (by decide) rfl (fun ls hl => ?_)
          have t39 : v39.toInt = v18.toInt + 1 := by rw [e39]; exact i_add rfl (by decide) (by omega) (by omega)
          refine lv_goto (tgt := 5) hx hb dX12_onwardBest_51 (by decide) ?_
          exact ih5 v39 v38 _ _ _ (by omega) (by first | decide | omega) hP hD hS (lv_sub hl [0, 1, 2, 3, 4] rfl)
        refine lv_if_eq (tgt := 45) hx hb dX12_onwardBest_19 (by decide) (fun c40 => ?_) (fun c40 => ?_)
        · have f40 : r23.toInt = 0 := f_eq rfl (by decide) c40
          refine lv_lconst (v := 0) hx hb dX12_onwardBest_45 (by decide) ?_
          have hlit41 : (0 : Int32).toInt = 0 := by decide
          exact hJ46 0 _ _ _  hP hD hS (lv_sub hl [0, 2, 3, 4] rfl)
        · have f40 : ¬ r23.toInt = 0 := f_ne rfl (by decide) c40
          have k40 : (0 ≤ v18.toInt ∧ v18.toInt ≤ 400) := w25 (by omega)
          refine lv_aload_n hx hb dX12_onwardBest_22 rfl (lv_at hl 2 rfl) ?_
          refine lv_iload_n hx hb dX12_onwardBest_23 rfl (lv_at hl 3 rfl) ?_
          refine lv_iload hx hb dX12_onwardBest_24 (lv_at hl 0 rfl) ?_
          refine g_iF (w1 := fun (_ : Unit) => [cell22_ qm sm tm, cell5_ k qm sm, cell13_ k qm sm, cell8_ k qm sm, cell6_ k qm sm, cell14_ k qm sm, cell15_ k qm tm, cell12_ k qm tm, cell18_ k qm tm, cell17_ k qm tm, cell19_ k qm tm, cell21_ k qm tm, cell20_ k qm sm, cell16_ k qm sm, cell11_ k qm sm, cell10_ k qm sm, cell9_ k qm sm, cell7_ k qm sm]) (g_runVF (ws := [cell22_ qm sm tm, cell5_ k qm sm, cell13_ k qm sm, cell8_ k qm sm, cell6_ k qm sm, cell14_ k qm sm, cell15_ k qm tm, cell12_ k qm tm, cell18_ k qm tm, cell17_ k qm tm, cell19_ k qm tm, cell21_ k qm tm, cell20_ k qm sm, cell16_ k qm sm, cell11_ k qm sm, cell10_ k qm sm, cell9_ k qm sm, cell7_ k qm sm]) (rest := [.long v19]) cx hP hD hS [.int p0, .int v18] (c_X12_sundayOf l D k b qm sm tm H.size p0 v18) gX12_onwardBest_X12_sundayOf rfl rfl rfl nd_X12_sundayOf ⟨Nat.le_of_ble_eq_true rfl, Nat.le_of_ble_eq_true rfl⟩ (ci := 10) (q0 := 0) rfl rfl rfl hl.1 rfl (Nat.le_of_ble_eq_true rfl) ⟨Nat.zero_le _, Nat.zero_le _⟩ dX12_onwardBest_26) cx.2.2.1 hD hS (fun r43 _ H locs hw42 hP hD hS => ?_)
          obtain ⟨v44, e44⟩ : ∃ z : Int64, z = (r43 : Int32).toInt64 := ⟨_, rfl⟩
          refine lv_i2l (v := v44) hx hb dX12_onwardBest_29 e44.symm ?_
          refine lv_aload_n hx hb dX12_onwardBest_30 rfl (lv_at hl 2 rfl) ?_
          refine g_get cx hP iw_X12_onwardBest_X12 0 rfl rfl 18 (by decide) rfl fw_X12_onwardBest_38 rfl dX12_onwardBest_31 ?_
          refine lv_iconst (v := 3) hx hb dX12_onwardBest_34 (by decide) ?_
          refine lv_iload hx hb dX12_onwardBest_35 (lv_at hl 0 rfl) ?_
          refine lv_imul hx hb dX12_onwardBest_37 (lv_topi (fun v45 e45 => ?_))
          have t45 : v45.toInt = 3 * v18.toInt := by rw [e45]; exact i_mul (by decide) rfl (by omega) (by omega)
          refine lv_iload_n hx hb dX12_onwardBest_38 rfl (lv_at hl 4 rfl) ?_
          refine lv_iadd hx hb dX12_onwardBest_39 (lv_topi (fun v46 e46 => ?_))
          have t46 : v46.toInt = v45.toInt + p1.toInt := by rw [e46]; exact i_add rfl rfl (by omega) (by omega)
          have hn47 : vp_in v46 1500 := f_in (a := v46.toInt) rfl (by omega) (by omega)
          refine va_lald hx hb cx.2.1 hP 10 1 rfl rfl hn47 dX12_onwardBest_40 (lv_topl (fun v48 e48 => ?_))
          refine lv_lmul hx hb dX12_onwardBest_41 (lv_topl (fun v49 e49 => ?_))
          refine lv_goto (tgt := 46) hx hb dX12_onwardBest_42 (by decide) ?_
          exact hJ46 v49 _ _ _  hP hD hS (lv_sub hl [0, 2, 3, 4] rfl)
  have hlit50 : (0 : Int32).toInt = 0 := by decide
  have hlit51 : (0 : Int32).toInt = 0 := by decide
  exact hL5 (Int.toNat (50 - 0) + 1) 0 0 _ _ _ (by omega) (by first | decide | omega) hP hD hS (lv_sub hl [0, 1, 2, 3, 4] rfl)
