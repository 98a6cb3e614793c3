theorem fw_X12_againstOf_13 : Cond.fieldLink RX12 13 "StillInAugustModel" "house" "[I" ∈ wsX12_againstOf := by decide +kernel
theorem fw_X12_againstOf_44 : Cond.fieldLink RX12 44 "StillInAugustModel" "bestActs" "[I" ∈ wsX12_againstOf := by decide +kernel
theorem iw_X12_againstOf_X12 : ∀ w ∈ u_ws RX12 TX12 33, w ∈ wsX12_againstOf := fun _ h => List.mem_cons_of_mem _ (List.mem_append_right _ h)
set_option maxHeartbeats 4000000 in
set_option maxRecDepth 100000 in
theorem c_X12_againstOf (l : Launch) (D : va_G) (k : Nat → ClassId) (b : Nat → Nat) (qm : Nat → Nat) (sm : Nat → Nat → Int32) (tm : Nat → Nat → Int64) (sz : Nat) (p0 : Int32) (p1 : Int32) (h_k1 : 0 ≤ (sm 2 1).toInt ∧ (sm 2 1).toInt ≤ 4) (hp0 : 0 ≤ p0.toInt ∧ p0.toInt ≤ 4) : MetI l D k b yX12_againstOf wsX12_againstOf ({ frames := 2, cells := 0, slots := 0, locals := 46 } : Room) [cell22_ qm sm tm, cell5_ k qm sm, cell13_ k qm sm, cell8_ k qm sm, cell6_ k qm sm, cell14_ k qm sm, cell15_ k qm tm, cell12_ k qm tm, cell18_ k qm tm, cell17_ k qm tm, cell19_ k qm tm, cell21_ k qm tm, cell20_ k qm sm, cell16_ k qm sm, cell11_ k qm sm, cell10_ k qm sm, cell9_ k qm sm, cell7_ k qm sm] sz [.ref (qm 0), .int p0, .int p1] (fun (r : Int32) (u : Unit) => True) (fun u => [cell22_ qm sm tm, cell5_ k qm sm, cell13_ k qm sm, cell8_ k qm sm, cell6_ k qm sm, cell14_ k qm sm, cell15_ k qm tm, cell12_ k qm tm, cell18_ k qm tm, cell17_ k qm tm, cell19_ k qm tm, cell21_ k qm tm, cell20_ k qm sm, cell16_ k qm sm, cell11_ k qm sm, cell10_ k qm sm, cell9_ k qm sm, cell7_ k qm sm]) := by
  refine g_enter (cc := cX12_againstOf) (maxL := 7) (ret := (some .int)) (by decide) rfl (Nat.le_of_ble_eq_true rfl) ?_
  intro p e s m below meth c A hsz hAe cx hr hP hD hS ls hl
  rw [hAe]
  refine g_q (fun Q hQ => ?_)
  have hx := cx.1.1
  have hb := cx.1.2.1
  have bp0 := i_rng p0
  have bp1 := i_rng p1
  have hl : lv_has ls 7 [(0, .ref (qm 0)), (1, .int p0), (2, .int p1)] := hl
  obtain ⟨H, eH⟩ : ∃ H : Heap, H = s.heap := ⟨_, rfl⟩
  obtain ⟨locs, el⟩ : ∃ L : List Loc, L = [] := ⟨_, rfl⟩
  have hP : va_P D vwCl [cell22_ qm sm tm, cell5_ k qm sm, cell13_ k qm sm, cell8_ k qm sm, cell6_ k qm sm, cell14_ k qm sm, cell15_ k qm tm, cell12_ k qm tm, cell18_ k qm tm, cell17_ k qm tm, cell19_ k qm tm, cell21_ k qm tm, cell20_ k qm sm, cell16_ k qm sm, cell11_ k qm sm, cell10_ k qm sm, cell9_ k qm sm, cell7_ k qm sm] H := by rw [eH]; exact hP
  have hD : va_D A [cell22_ qm sm tm, cell5_ k qm sm, cell13_ k qm sm, cell8_ k qm sm, cell6_ k qm sm, cell14_ k qm sm, cell15_ k qm tm, cell12_ k qm tm, cell18_ k qm tm, cell17_ k qm tm, cell19_ k qm tm, cell21_ k qm tm, cell20_ k qm sm, cell16_ k qm sm, cell11_ k qm sm, cell10_ k qm sm, cell9_ k qm sm, cell7_ k qm sm] := hD
  have hS : va_S A s.heap H locs := by rw [eH, el]; exact hS
  suffices goal : W p l e ({ frames := 2, cells := 0, slots := 0, locals := 46 } : Room) s m ([.ref (qm 0), .int p0, .int p1] : List Value).toArray below meth c H locs 0 0 Q (F0 m 0 ls []) by rw [eH, el] at goal; exact goal
  refine lv_iconst (v := 0) hx hb dX12_againstOf_0 (by decide) ?_
  refine lv_istore_n (lv' := [(3, .int 0), (0, .ref (qm 0)), (1, .int p0), (2, .int p1)]) hx hb dX12_againstOf_1 rfl hl (by decide) rfl (fun ls hl => ?_)
  have hL2 : ∀ (n31 : Nat) (v30 : Int32) (H : Heap) (locs : List Loc) (ls : Array Slot), 500 - v30.toInt < (n31 : Int) → (0 ≤ v30.toInt ∧ v30.toInt ≤ 500) → va_P D vwCl [cell22_ qm sm tm, cell5_ k qm sm, cell13_ k qm sm, cell8_ k qm sm, cell6_ k qm sm, cell14_ k qm sm, cell15_ k qm tm, cell12_ k qm tm, cell18_ k qm tm, cell17_ k qm tm, cell19_ k qm tm, cell21_ k qm tm, cell20_ k qm sm, cell16_ k qm sm, cell11_ k qm sm, cell10_ k qm sm, cell9_ k qm sm, cell7_ k qm sm] H → va_D A [cell22_ qm sm tm, cell5_ k qm sm, cell13_ k qm sm, cell8_ k qm sm, cell6_ k qm sm, cell14_ k qm sm, cell15_ k qm tm, cell12_ k qm tm, cell18_ k qm tm, cell17_ k qm tm, cell19_ k qm tm, cell21_ k qm tm, cell20_ k qm sm, cell16_ k qm sm, cell11_ k qm sm, cell10_ k qm sm, cell9_ k qm sm, cell7_ k qm sm] → va_S A s.heap H locs → lv_has ls 7 [(3, .int v30), (0, .ref (qm 0)), (1, .int p0), (2, .int p1)] → W p l e ({ frames := 2, cells := 0, slots := 0, locals := 46 } : Room) s m ([.ref (qm 0), .int p0, .int p1] : List Value).toArray below meth c H locs 0 0 Q (F0 m 2 ls []) := by
    intro n31
    induction n31 with
    | zero => intro v30 H locs ls hmn31 bv30 hP hD hS hl; exact absurd hmn31 (by omega)
    | succ n31 ih2 =>
      intro v30 H locs ls hmn31 bv30 hP hD hS hl
      refine lv_iload_n hx hb dX12_againstOf_2 rfl (lv_at hl 0 rfl) ?_
      refine lv_sipush (v := 500) hx hb dX12_againstOf_3 (by decide) ?_
      refine lv_icmp_ge (tgt := 120) hx hb dX12_againstOf_6 (by decide) (fun c32 => ?_) (fun c32 => ?_)
      · have f32 : 500 ≤ v30.toInt := f_le (by decide) rfl c32
        refine lv_bipush (v := (-9)) hx hb dX12_againstOf_120 (by decide) ?_
        have hlit33 : ((-9) : Int32).toInt = -9 := by decide
        rw [hQ]
        exact x_i cx hr () hP hD hS trivial dX12_againstOf_122
      · have f32 : v30.toInt < 500 := f_nle (by decide) rfl c32
        refine lv_aload_n hx hb dX12_againstOf_9 rfl (lv_at hl 1 rfl) ?_
        refine lv_iload_n hx hb dX12_againstOf_10 rfl (lv_at hl 0 rfl) ?_
        refine g_iF (w1 := fun (_ : Unit) => [cell22_ qm sm tm, cell5_ k qm sm, cell13_ k qm sm, cell8_ k qm sm, cell6_ k qm sm, cell14_ k qm sm, cell15_ k qm tm, cell12_ k qm tm, cell18_ k qm tm, cell17_ k qm tm, cell19_ k qm tm, cell21_ k qm tm, cell20_ k qm sm, cell16_ k qm sm, cell11_ k qm sm, cell10_ k qm sm, cell9_ k qm sm, cell7_ k qm sm]) (g_runVF (ws := [cell22_ qm sm tm, cell5_ k qm sm, cell13_ k qm sm, cell8_ k qm sm, cell6_ k qm sm, cell14_ k qm sm, cell15_ k qm tm, cell12_ k qm tm, cell18_ k qm tm, cell17_ k qm tm, cell19_ k qm tm, cell21_ k qm tm, cell20_ k qm sm, cell16_ k qm sm, cell11_ k qm sm, cell10_ k qm sm, cell9_ k qm sm, cell7_ k qm sm]) (rest := []) cx hP hD hS [.int v30] (c_X12_isHands l D k b qm sm tm H.size v30 (show 0 ≤ ((sm 2) 1).toInt ∧ ((sm 2) 1).toInt ≤ 4 from by first | decide | omega)) gX12_againstOf_X12_isHands rfl rfl rfl nd_X12_isHands ⟨Nat.le_of_ble_eq_true rfl, Nat.le_of_ble_eq_true rfl⟩ (ci := 10) (q0 := 0) rfl rfl rfl hl.1 rfl (Nat.le_of_ble_eq_true rfl) ⟨Nat.zero_le _, Nat.zero_le _⟩ dX12_againstOf_11) cx.2.2.1 hD hS (fun r35 _ H locs hw34 hP hD hS => ?_)
        replace hw34 : (0 ≤ r35.toInt ∧ r35.toInt ≤ 1) ∧ (Imp (r35.toInt = 1) (0 ≤ v30.toInt ∧ v30.toInt ≤ 400)) ∧ (r35 = J_X12_isHands sm tm v30) := hw34
        obtain ⟨w36, w37, w38⟩ := hw34
        have k40 : r35 = (J_X12_isHands sm tm v30) := congrArg (fun z => z) w38
        have zr35 : 0 ≤ r35.toInt ∧ r35.toInt ≤ 1 := w36
        have hJ114 : ∀  (H : Heap) (locs : List Loc) (ls : Array Slot), va_P D vwCl [cell22_ qm sm tm, cell5_ k qm sm, cell13_ k qm sm, cell8_ k qm sm, cell6_ k qm sm, cell14_ k qm sm, cell15_ k qm tm, cell12_ k qm tm, cell18_ k qm tm, cell17_ k qm tm, cell19_ k qm tm, cell21_ k qm tm, cell20_ k qm sm, cell16_ k qm sm, cell11_ k qm sm, cell10_ k qm sm, cell9_ k qm sm, cell7_ k qm sm] H → va_D A [cell22_ qm sm tm, cell5_ k qm sm, cell13_ k qm sm, cell8_ k qm sm, cell6_ k qm sm, cell14_ k qm sm, cell15_ k qm tm, cell12_ k qm tm, cell18_ k qm tm, cell17_ k qm tm, cell19_ k qm tm, cell21_ k qm tm, cell20_ k qm sm, cell16_ k qm sm, cell11_ k qm sm, cell10_ k qm sm, cell9_ k qm sm, cell7_ k qm sm] → va_S A s.heap H locs → lv_has ls 7 [(3, .int v30), (0, .ref (qm 0)), (1, .int p0), (2, .int p1)] → W p l e ({ frames := 2, cells := 0, slots := 0, locals := 46 } : Room) s m ([.ref (qm 0), .int p0, .int p1] : List Value).toArray below meth c H locs 0 0 Q (F0 m 114 ls []) := by
          intro  H locs ls  hP hD hS hl
          obtain ⟨v77, e77⟩ : ∃ z : Int32, z = v30 + 1 := ⟨_, rfl⟩
          refine lv_iinc (v := v77) (lv' := [(3, .int v77), (0, .ref (qm 0)), (1, .int p0), (2, .int p1)]) hx hb dX12_againstOf_114 hl (k := 0) rfl (by rw [e77]; rfl) (by decide) rfl (fun ls hl => ?_)
          have t77 : v77.toInt = v30.toInt + 1 := by rw [e77]; exact i_add rfl (by decide) (by omega) (by omega)
          refine lv_goto (tgt := 2) hx hb dX12_againstOf_117 (by decide) ?_
          exact ih2 v77 _ _ _ (by omega) (by first | decide | omega) hP hD hS (lv_sub hl [0, 1, 2, 3] rfl)
        refine lv_if_eq (tgt := 114) hx hb dX12_againstOf_14 (by decide) (fun c78 => ?_) (fun c78 => ?_)
        · have f78 : r35.toInt = 0 := f_eq rfl (by decide) c78
          exact hJ114  _ _ _  hP hD hS (lv_sub hl [0, 1, 2, 3] rfl)
        · have f78 : ¬ r35.toInt = 0 := f_ne rfl (by decide) c78
          have k78 : (0 ≤ v30.toInt ∧ v30.toInt ≤ 400) := w37 (by omega)
          refine lv_iload_n hx hb dX12_againstOf_17 rfl (lv_at hl 3 rfl) ?_
          refine lv_iload_n hx hb dX12_againstOf_18 rfl (lv_at hl 0 rfl) ?_
          refine g_ir (g_runS (wc := []) (rest := [.int p1]) cx hP hD hS [] rfl (by decide) [.int v30] (c_X12_all l D k b H.size v30) gX12_againstOf_X12_all rfl rfl rfl nd_X12_all ⟨Nat.le_of_ble_eq_true rfl, Nat.le_of_ble_eq_true rfl⟩ rfl hl.1 rfl (Nat.le_of_ble_eq_true rfl) ⟨Nat.zero_le _, Nat.zero_le _⟩ dX12_againstOf_19) cx.2.2.1 hP hD hS [] rfl rfl (fun r80 H locs hw79 hP hS => ?_)
          have w81 : r80 = J_X12_all v30 := hw79
          clear hw79
          have zr80 := all_t w81 (show 0 ≤ v30.toInt from by omega)
          refine lv_isub hx hb dX12_againstOf_22 (lv_topi (fun v82 e82 => ?_))
          refine lv_istore (lv' := [(4, .int v82), (3, .int v30), (0, .ref (qm 0)), (1, .int p0), (2, .int p1)]) hx hb dX12_againstOf_23 hl (by decide) rfl (fun ls hl => ?_)
          refine lv_aload_n hx hb dX12_againstOf_25 rfl (lv_at hl 2 rfl) ?_
          refine g_get cx hP iw_X12_againstOf_X12 0 rfl rfl 1 (by decide) rfl fw_X12_againstOf_13 rfl dX12_againstOf_26 ?_
          refine lv_iconst (v := 1) hx hb dX12_againstOf_29 (by decide) ?_
          have hn83 : vp_in 1 26 := f_in (a := 1) (by decide) (by omega) (by omega)
          refine va_iald hx hb cx.2.1 hP 2 0 rfl rfl hn83 dX12_againstOf_30 (lv_topi (fun v84 e84 => ?_))
          have uv84 : v84.toInt = ((sm 2) 1).toInt := congrArg Int32.toInt e84
          have t84 : 0 ≤ v84.toInt ∧ v84.toInt ≤ 4 := by rw [e84]; exact h_k1
          refine lv_iload_n hx hb dX12_againstOf_31 rfl (lv_at hl 1 rfl) ?_
          refine g_ir (g_runS (wc := []) (rest := [.int v84]) cx hP hD hS [] rfl (by decide) [.int v30] (c_X12_all l D k b H.size v30) gX12_againstOf_X12_all rfl rfl rfl nd_X12_all ⟨Nat.le_of_ble_eq_true rfl, Nat.le_of_ble_eq_true rfl⟩ rfl hl.1 rfl (Nat.le_of_ble_eq_true rfl) ⟨Nat.zero_le _, Nat.zero_le _⟩ dX12_againstOf_32) cx.2.2.1 hP hD hS [] rfl rfl (fun r86 H locs hw85 hP hS => ?_)
          have w87 : r86 = J_X12_all v30 := hw85
          clear hw85
          have zr86 := all_t w87 (show 0 ≤ v30.toInt from by omega)
          refine lv_isub hx hb dX12_againstOf_35 (lv_topi (fun v88 e88 => ?_))
          have t88 : v88.toInt = v84.toInt - r86.toInt := by rw [e88]; exact i_sub rfl rfl (by omega) (by omega)
          refine lv_istore (lv' := [(5, .int v88), (4, .int v82), (3, .int v30), (0, .ref (qm 0)), (1, .int p0), (2, .int p1)]) hx hb dX12_againstOf_36 hl (by decide) rfl (fun ls hl => ?_)
          refine lv_iload hx hb dX12_againstOf_38 (lv_at hl 1 rfl) ?_
          refine lv_aload_n hx hb dX12_againstOf_40 rfl (lv_at hl 3 rfl) ?_
          refine g_get cx hP iw_X12_againstOf_X12 0 rfl rfl 1 (by decide) rfl fw_X12_againstOf_13 rfl dX12_againstOf_41 ?_
          refine lv_bipush (v := 15) hx hb dX12_againstOf_44 (by decide) ?_
          refine lv_iload_n hx hb dX12_againstOf_46 rfl (lv_at hl 4 rfl) ?_
          refine lv_iadd hx hb dX12_againstOf_47 (lv_topi (fun v89 e89 => ?_))
          have t89 : v89.toInt = 15 + p0.toInt := by rw [e89]; exact i_add (by decide) rfl (by omega) (by omega)
          have hn90 : vp_in v89 26 := f_in (a := v89.toInt) rfl (by omega) (by omega)
          refine va_iald hx hb cx.2.1 hP 2 0 rfl rfl hn90 dX12_againstOf_48 (lv_topi (fun v91 e91 => ?_))
          have hJ66 : ∀ (v95 : Int32) (H : Heap) (locs : List Loc) (ls : Array Slot), va_P D vwCl [cell22_ qm sm tm, cell5_ k qm sm, cell13_ k qm sm, cell8_ k qm sm, cell6_ k qm sm, cell14_ k qm sm, cell15_ k qm tm, cell12_ k qm tm, cell18_ k qm tm, cell17_ k qm tm, cell19_ k qm tm, cell21_ k qm tm, cell20_ k qm sm, cell16_ k qm sm, cell11_ k qm sm, cell10_ k qm sm, cell9_ k qm sm, cell7_ k qm sm] H → va_D A [cell22_ qm sm tm, cell5_ k qm sm, cell13_ k qm sm, cell8_ k qm sm, cell6_ k qm sm, cell14_ k qm sm, cell15_ k qm tm, cell12_ k qm tm, cell18_ k qm tm, cell17_ k qm tm, cell19_ k qm tm, cell21_ k qm tm, cell20_ k qm sm, cell16_ k qm sm, cell11_ k qm sm, cell10_ k qm sm, cell9_ k qm sm, cell7_ k qm sm] → va_S A s.heap H locs → lv_has ls 7 [(5, .int v88), (3, .int v30), (0, .ref (qm 0)), (1, .int p0), (2, .int p1)] → W p l e ({ frames := 2, cells := 0, slots := 0, locals := 46 } : Room) s m ([.ref (qm 0), .int p0, .int p1] : List Value).toArray below meth c H locs 0 0 Q (F0 m 66 ls [.int v95]) := by
            intro v95 H locs ls  hP hD hS hl
            refine lv_istore (lv' := [(6, .int v95), (5, .int v88), (3, .int v30), (0, .ref (qm 0)), (1, .int p0), (2, .int p1)]) hx hb dX12_againstOf_66 hl (by decide) rfl (fun ls hl => ?_)
            refine lv_iload hx hb dX12_againstOf_68 (lv_at hl 0 rfl) ?_
            refine lv_iload hx hb dX12_againstOf_70 (lv_at hl 1 rfl) ?_
            have hJ82 : ∀ (v96 : Int32) (H : Heap) (locs : List Loc) (ls : Array Slot), (v96.toInt ≤ 4) → va_P D vwCl [cell22_ qm sm tm, cell5_ k qm sm, cell13_ k qm sm, cell8_ k qm sm, cell6_ k qm sm, cell14_ k qm sm, cell15_ k qm tm, cell12_ k qm tm, cell18_ k qm tm, cell17_ k qm tm, cell19_ k qm tm, cell21_ k qm tm, cell20_ k qm sm, cell16_ k qm sm, cell11_ k qm sm, cell10_ k qm sm, cell9_ k qm sm, cell7_ k qm sm] H → va_D A [cell22_ qm sm tm, cell5_ k qm sm, cell13_ k qm sm, cell8_ k qm sm, cell6_ k qm sm, cell14_ k qm sm, cell15_ k qm tm, cell12_ k qm tm, cell18_ k qm tm, cell17_ k qm tm, cell19_ k qm tm, cell21_ k qm tm, cell20_ k qm sm, cell16_ k qm sm, cell11_ k qm sm, cell10_ k qm sm, cell9_ k qm sm, cell7_ k qm sm] → va_S A s.heap H locs → lv_has ls 7 [(3, .int v30), (0, .ref (qm 0)), (1, .int p0), (2, .int p1)] → W p l e ({ frames := 2, cells := 0, slots := 0, locals := 46 } : Room) s m ([.ref (qm 0), .int p0, .int p1] : List Value).toArray below meth c H locs 0 0 Q (F0 m 82 ls [.int v96]) := by
              intro v96 H locs ls bv96 hP hD hS hl
              refine lv_istore (lv' := [(6, .int v96), (3, .int v30), (0, .ref (qm 0)), (1, .int p0), (2, .int p1)]) hx hb dX12_againstOf_82 hl (by decide) rfl (fun ls hl => ?_)
              refine lv_aload_n hx hb dX12_againstOf_84 rfl (lv_at hl 2 rfl) ?_
              refine g_get cx hP iw_X12_againstOf_X12 0 rfl rfl 20 (by decide) rfl fw_X12_againstOf_44 rfl dX12_againstOf_85 ?_
              refine lv_iconst (v := 3) hx hb dX12_againstOf_88 (by decide) ?_
              refine lv_iload_n hx hb dX12_againstOf_89 rfl (lv_at hl 1 rfl) ?_
              refine lv_imul hx hb dX12_againstOf_90 (lv_topi (fun v97 e97 => ?_))
              have t97 : v97.toInt = 3 * v30.toInt := by rw [e97]; exact i_mul (by decide) rfl (by omega) (by omega)
              have hn98 : vp_in v97 1500 := f_in (a := v97.toInt) rfl (by omega) (by omega)
              refine va_iald hx hb cx.2.1 hP 12 0 rfl rfl hn98 dX12_againstOf_91 (lv_topi (fun v99 e99 => ?_))
              refine lv_bipush (v := 100) hx hb dX12_againstOf_92 (by decide) ?_
              refine lv_idiv hx hb dX12_againstOf_94 (by decide) (lv_topi (fun v100 e100 => ?_))
              refine lv_bipush (v := 10) hx hb dX12_againstOf_95 (by decide) ?_
              refine lv_irem hx hb dX12_againstOf_97 (by decide) (lv_topi (fun v101 e101 => ?_))
              have t101 : -10 < v101.toInt ∧ v101.toInt < 10 := by rw [e101]; exact i_remb (by decide) (by decide)
              refine lv_iload hx hb dX12_againstOf_98 (lv_at hl 0 rfl) ?_
              have hJ109 : ∀ (v102 : Int32) (H : Heap) (locs : List Loc) (ls : Array Slot), (0 ≤ v102.toInt ∧ v102.toInt ≤ 4) → va_P D vwCl [cell22_ qm sm tm, cell5_ k qm sm, cell13_ k qm sm, cell8_ k qm sm, cell6_ k qm sm, cell14_ k qm sm, cell15_ k qm tm, cell12_ k qm tm, cell18_ k qm tm, cell17_ k qm tm, cell19_ k qm tm, cell21_ k qm tm, cell20_ k qm sm, cell16_ k qm sm, cell11_ k qm sm, cell10_ k qm sm, cell9_ k qm sm, cell7_ k qm sm] H → va_D A [cell22_ qm sm tm, cell5_ k qm sm, cell13_ k qm sm, cell8_ k qm sm, cell6_ k qm sm, cell14_ k qm sm, cell15_ k qm tm, cell12_ k qm tm, cell18_ k qm tm, cell17_ k qm tm, cell19_ k qm tm, cell21_ k qm tm, cell20_ k qm sm, cell16_ k qm sm, cell11_ k qm sm, cell10_ k qm sm, cell9_ k qm sm, cell7_ k qm sm] → va_S A s.heap H locs → lv_has ls 7 [(3, .int v30), (0, .ref (qm 0)), (1, .int p0), (2, .int p1)] → W p l e ({ frames := 2, cells := 0, slots := 0, locals := 46 } : Room) s m ([.ref (qm 0), .int p0, .int p1] : List Value).toArray below meth c H locs 0 0 Q (F0 m 109 ls [.int v102, .int v101]) := by
                intro v102 H locs ls bv102 hP hD hS hl
                refine lv_icmp_eq (tgt := 114) hx hb dX12_againstOf_109 (by decide) (fun c103 => ?_) (fun c103 => ?_)
                · have f103 : v101.toInt = v102.toInt := f_eq rfl rfl c103
                  exact hJ114  _ _ _  hP hD hS (lv_sub hl [0, 1, 2, 3] rfl)
                · have f103 : ¬ v101.toInt = v102.toInt := f_ne rfl rfl c103
                  refine lv_iload_n hx hb dX12_againstOf_112 rfl (lv_at hl 0 rfl) ?_
                  rw [hQ]
                  exact x_i cx hr () hP hD hS trivial dX12_againstOf_113
              refine lv_if_le (tgt := 108) hx hb dX12_againstOf_100 (by decide) (fun c104 => ?_) (fun c104 => ?_)
              · have f104 : v96.toInt ≤ 0 := f_le rfl (by decide) c104
                refine lv_iconst (v := 0) hx hb dX12_againstOf_108 (by decide) ?_
                have hlit105 : (0 : Int32).toInt = 0 := by decide
                exact hJ109 0 _ _ _ (by first | decide | omega) hP hD hS (lv_sub hl [1, 2, 3, 4] rfl)
              · have f104 : 0 < v96.toInt := f_nle rfl (by decide) c104
                refine lv_iload hx hb dX12_againstOf_103 (lv_at hl 0 rfl) ?_
                refine lv_goto (tgt := 109) hx hb dX12_againstOf_105 (by decide) ?_
                exact hJ109 v96 _ _ _ (by first | decide | omega) hP hD hS (lv_sub hl [1, 2, 3, 4] rfl)
            refine lv_icmp_ge (tgt := 80) hx hb dX12_againstOf_72 (by decide) (fun c106 => ?_) (fun c106 => ?_)
            · have f106 : v88.toInt ≤ v95.toInt := f_le rfl rfl c106
              refine lv_iload hx hb dX12_againstOf_80 (lv_at hl 1 rfl) ?_
              exact hJ82 v88 _ _ _ (by first | decide | omega) hP hD hS (lv_sub hl [2, 3, 4, 5] rfl)
            · have f106 : v95.toInt < v88.toInt := f_nle rfl rfl c106
              refine lv_iload hx hb dX12_againstOf_75 (lv_at hl 0 rfl) ?_
              refine lv_goto (tgt := 82) hx hb dX12_againstOf_77 (by decide) ?_
              exact hJ82 v95 _ _ _ (by first | decide | omega) hP hD hS (lv_sub hl [2, 3, 4, 5] rfl)
          refine lv_icmp_ge (tgt := 57) hx hb dX12_againstOf_49 (by decide) (fun c107 => ?_) (fun c107 => ?_)
          · have f107 : v91.toInt ≤ v82.toInt := f_le rfl rfl c107
            refine lv_aload_n hx hb dX12_againstOf_57 rfl (lv_at hl 3 rfl) ?_
            refine g_get cx hP iw_X12_againstOf_X12 0 rfl rfl 1 (by decide) rfl fw_X12_againstOf_13 rfl dX12_againstOf_58 ?_
            refine lv_bipush (v := 15) hx hb dX12_againstOf_61 (by decide) ?_
            refine lv_iload_n hx hb dX12_againstOf_63 rfl (lv_at hl 4 rfl) ?_
            refine lv_iadd hx hb dX12_againstOf_64 (lv_topi (fun v108 e108 => ?_))
            have t108 : v108.toInt = 15 + p0.toInt := by rw [e108]; exact i_add (by decide) rfl (by omega) (by omega)
            have hn109 : vp_in v108 26 := f_in (a := v108.toInt) rfl (by omega) (by omega)
            refine va_iald hx hb cx.2.1 hP 2 0 rfl rfl hn109 dX12_againstOf_65 (lv_topi (fun v110 e110 => ?_))
            exact hJ66 v110 _ _ _  hP hD hS (lv_sub hl [0, 2, 3, 4, 5] rfl)
          · have f107 : v82.toInt < v91.toInt := f_nle rfl rfl c107
            refine lv_iload hx hb dX12_againstOf_52 (lv_at hl 1 rfl) ?_
            refine lv_goto (tgt := 66) hx hb dX12_againstOf_54 (by decide) ?_
            exact hJ66 v82 _ _ _  hP hD hS (lv_sub hl [0, 2, 3, 4, 5] rfl)
  have hlit111 : (0 : Int32).toInt = 0 := by decide
  exact hL2 (Int.toNat (500 - 0) + 1) 0 _ _ _ (by omega) (by first | decide | omega) hP hD hS (lv_sub hl [0, 1, 2, 3] rfl)
