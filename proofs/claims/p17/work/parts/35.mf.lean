theorem fw_X12_onwardBest_38 : Cond.fieldLink RX12 38 "StillInAugustModel" "bests" "[J" ∈ wsX12_onwardBest := by decide +kernel
theorem iw_X12_onwardBest_X12 : ∀ w ∈ u_ws RX12 TX12 33, w ∈ wsX12_onwardBest := fun _ h => List.mem_cons_of_mem _ (List.mem_append_right _ h)
def B_X12_onwardBest_5 (sm : Nat → Nat → Int32) (tm : Nat → Nat → Int64) (p0 : Int32) (p1 : Int32) (z : Int32 × Int64) : Sum (Int32 × Int64) (Int64) := let v19 := (z.1); let v20 := (z.2); if 50 ≤ v19 then Sum.inr (v20) else LetF (J_X12_isHands sm tm v19) (fun y28 => if y28 = 0 then Sum.inl (((v19 + 1), (v20 + (0 : Int64)))) else LetF (J_X12_sundayOf sm tm p0 v19) (fun y35 => Sum.inl (((v19 + 1), (v20 + ((y35.toInt64) * ((tm 10) ((((3 : Int32) * v19) + p1)).toNatClampNeg)))))))
def J_X12_onwardBest (sm : Nat → Nat → Int32) (tm : Nat → Nat → Int64) (p0 : Int32) (p1 : Int32) : Int64 := LTs default (B_X12_onwardBest_5 sm tm p0 p1) 51 ((0 : Int32), (0 : Int64))
theorem exl_X12_onwardBest_0 {sm : Nat → Nat → Int32} {tm : Nat → Nat → Int64} {p0 : Int32} {p1 : Int32} : J_X12_onwardBest sm tm p0 p1 = LTs (default : Int64) (B_X12_onwardBest_5 sm tm p0 p1) 51 ((0 : Int32), (0 : Int64)) := by unfold J_X12_onwardBest; rfl
theorem exl_X12_onwardBest_1 {sm : Nat → Nat → Int32} {tm : Nat → Nat → Int64} {p0 : Int32} {p1 : Int32} {v19 : Int32} {v20 : Int64} (c22 : (50 : Int32) ≤ v19) : (B_X12_onwardBest_5 sm tm p0 p1) (v19, v20) = Sum.inr (v20) := by unfold B_X12_onwardBest_5; refine Eq.trans (if_pos c22) ?_; rfl
theorem exl_X12_onwardBest_2 {sm : Nat → Nat → Int32} {tm : Nat → Nat → Int64} {p0 : Int32} {p1 : Int32} {v19 : Int32} {v20 : Int64} {v31 : Int32} {v30 : Int64} {r24 : Int32} (e30 : v30 = (v20 + (0 : Int64))) (e31 : v31 = v19 + 1) (c22 : ¬ ((50 : Int32) ≤ v19)) (w27 : r24 = J_X12_isHands sm tm v19) (c29 : r24 = (0 : Int32)) : (B_X12_onwardBest_5 sm tm p0 p1) (v19, v20) = Sum.inl (v31, v30) := by subst e30 e31; unfold B_X12_onwardBest_5; refine Eq.trans (if_neg c22) ?_; refine lt_e w27 ?_; refine Eq.trans (if_pos c29) ?_; rfl
theorem exl_X12_onwardBest_3 {sm : Nat → Nat → Int32} {tm : Nat → Nat → Int64} {p0 : Int32} {p1 : Int32} {v19 : Int32} {v20 : Int64} {v43 : Int32} {v42 : Int64} {v36 : Int64} {r33 : Int32} {v37 : Int32} {v38 : Int32} {v40 : Int64} {v41 : Int64} {r24 : Int32} (e36 : v36 = (r33 : Int32).toInt64) (e37 : v37 = ((3 : Int32) * v19)) (e38 : v38 = (v37 + p1)) (e40 : v40 = ((tm 10) (v38).toNatClampNeg)) (e41 : v41 = (v36 * v40)) (e42 : v42 = (v20 + v41)) (e43 : v43 = v19 + 1) (c22 : ¬ ((50 : Int32) ≤ v19)) (w27 : r24 = J_X12_isHands sm tm v19) (c29 : ¬ (r24 = (0 : Int32))) (w34 : r33 = J_X12_sundayOf sm tm p0 v19) : (B_X12_onwardBest_5 sm tm p0 p1) (v19, v20) = Sum.inl (v43, v42) := by subst e36 e37 e38 e40 e41 e42 e43; unfold B_X12_onwardBest_5; refine Eq.trans (if_neg c22) ?_; refine lt_e w27 ?_; refine Eq.trans (if_neg c29) ?_; refine lt_e w34 ?_; rfl
set_option maxHeartbeats 4000000 in
set_option maxRecDepth 100000 in
theorem c_X12_onwardBest (l : Launch) (D : va_G) (k : Nat → ClassId) (b : Nat → Nat) (qm : Nat → Nat) (sm : Nat → Nat → Int32) (tm : Nat → Nat → Int64) (sz : Nat) (p0 : Int32) (p1 : Int32) (h_k1 : 0 ≤ (sm 2 1).toInt ∧ (sm 2 1).toInt ≤ 4) (hp1 : 0 ≤ p1.toInt ∧ p1.toInt ≤ 2) : MetL l D k b yX12_onwardBest wsX12_onwardBest ({ frames := 3, cells := 0, slots := 0, locals := 75 } : Room) [cell22_ qm sm tm, cell5_ k qm sm, cell13_ k qm sm, cell8_ k qm sm, cell6_ k qm sm, cell15_ k qm sm, cell14_ k qm tm, cell12_ k qm tm, cell18_ k qm tm, cell17_ k qm tm, cell19_ k qm tm, cell21_ k qm tm, cell20_ k qm sm, cell16_ k qm sm, cell11_ k qm sm, cell10_ k qm sm, cell9_ k qm sm, cell7_ k qm sm] sz [.ref (qm 0), .int p0, .int p1] (fun (r : Int64) (u : Unit) => r = J_X12_onwardBest sm tm p0 p1) (fun u => [cell22_ qm sm tm, cell5_ k qm sm, cell13_ k qm sm, cell8_ k qm sm, cell6_ k qm sm, cell15_ k qm sm, cell14_ k qm tm, cell12_ k qm tm, cell18_ k qm tm, cell17_ k qm tm, cell19_ k qm tm, cell21_ k qm tm, cell20_ k qm sm, cell16_ k qm sm, cell11_ k qm sm, cell10_ k qm sm, cell9_ k qm sm, cell7_ k qm sm]) := by
  refine g_enter (cc := cX12_onwardBest) (maxL := 6) (ret := (some .long)) (by decide) rfl (Nat.le_of_ble_eq_true rfl) ?_
  intro p e s m below meth c A hsz hAe cx hr hP hD hS ls hl
  rw [hAe]
  refine g_q (fun Q hQ => ?_)
  have hx := cx.1.1
  have hb := cx.1.2.1
  have bp0 := i_rng p0
  have bp1 := i_rng p1
  have hl : lv_has ls 6 [(0, .ref (qm 0)), (1, .int p0), (2, .int p1)] := hl
  obtain ⟨H, eH⟩ : ∃ H : Heap, H = s.heap := ⟨_, rfl⟩
  obtain ⟨locs, el⟩ : ∃ L : List Loc, L = [] := ⟨_, rfl⟩
  have hP : va_P D vwCl [cell22_ qm sm tm, cell5_ k qm sm, cell13_ k qm sm, cell8_ k qm sm, cell6_ k qm sm, cell15_ k qm sm, cell14_ k qm tm, cell12_ k qm tm, cell18_ k qm tm, cell17_ k qm tm, cell19_ k qm tm, cell21_ k qm tm, cell20_ k qm sm, cell16_ k qm sm, cell11_ k qm sm, cell10_ k qm sm, cell9_ k qm sm, cell7_ k qm sm] H := by rw [eH]; exact hP
  have hD : va_D A [cell22_ qm sm tm, cell5_ k qm sm, cell13_ k qm sm, cell8_ k qm sm, cell6_ k qm sm, cell15_ k qm sm, cell14_ k qm tm, cell12_ k qm tm, cell18_ k qm tm, cell17_ k qm tm, cell19_ k qm tm, cell21_ k qm tm, cell20_ k qm sm, cell16_ k qm sm, cell11_ k qm sm, cell10_ k qm sm, cell9_ k qm sm, cell7_ k qm sm] := hD
  have hS : va_S A s.heap H locs := by rw [eH, el]; exact hS
  suffices goal : W p l e ({ frames := 3, cells := 0, slots := 0, locals := 75 } : Room) s m ([.ref (qm 0), .int p0, .int p1] : List Value).toArray below meth c H locs 0 0 Q (F0 m 0 ls []) by rw [eH, el] at goal; exact goal
  refine lv_lconst (v := 0) hx hb dX12_onwardBest_0 (by decide) ?_
  refine lv_lstore_n (lv' := [(3, .long 0), (0, .ref (qm 0)), (1, .int p0), (2, .int p1)]) hx hb dX12_onwardBest_1 rfl hl (by decide) rfl (fun ls hl => ?_)
  refine lv_iconst (v := 0) hx hb dX12_onwardBest_2 (by decide) ?_
  refine lv_istore (lv' := [(5, .int 0), (3, .long 0), (0, .ref (qm 0)), (1, .int p0), (2, .int p1)]) hx hb dX12_onwardBest_3 hl (by decide) rfl (fun ls hl => ?_)
  obtain ⟨rr5_1, err5_1⟩ : ∃ r : Int64, LTs (default : Int64) (B_X12_onwardBest_5 sm tm p0 p1) 51 ((0 : Int32), (0 : Int64)) = r := ⟨_, rfl⟩
  have hrr5_1 : J_X12_onwardBest sm tm p0 p1 = rr5_1 := ((exl_X12_onwardBest_0)).trans err5_1
  have hL5 : ∀ (n21 : Nat) (v19 : Int32) (v20 : Int64) (H : Heap) (locs : List Loc) (ls : Array Slot), 50 - v19.toInt < (n21 : Int) → (0 ≤ v19.toInt ∧ v19.toInt ≤ 50) → (LTs (default : Int64) (B_X12_onwardBest_5 sm tm p0 p1) n21 (v19, v20) = rr5_1) → va_P D vwCl [cell22_ qm sm tm, cell5_ k qm sm, cell13_ k qm sm, cell8_ k qm sm, cell6_ k qm sm, cell15_ k qm sm, cell14_ k qm tm, cell12_ k qm tm, cell18_ k qm tm, cell17_ k qm tm, cell19_ k qm tm, cell21_ k qm tm, cell20_ k qm sm, cell16_ k qm sm, cell11_ k qm sm, cell10_ k qm sm, cell9_ k qm sm, cell7_ k qm sm] H → va_D A [cell22_ qm sm tm, cell5_ k qm sm, cell13_ k qm sm, cell8_ k qm sm, cell6_ k qm sm, cell15_ k qm sm, cell14_ k qm tm, cell12_ k qm tm, cell18_ k qm tm, cell17_ k qm tm, cell19_ k qm tm, cell21_ k qm tm, cell20_ k qm sm, cell16_ k qm sm, cell11_ k qm sm, cell10_ k qm sm, cell9_ k qm sm, cell7_ k qm sm] → va_S A s.heap H locs → lv_has ls 6 [(5, .int v19), (3, .long v20), (0, .ref (qm 0)), (1, .int p0), (2, .int p1)] → W p l e ({ frames := 3, cells := 0, slots := 0, locals := 75 } : Room) s m ([.ref (qm 0), .int p0, .int p1] : List Value).toArray below meth c H locs 0 0 Q (F0 m 5 ls []) := by
    intro n21
    induction n21 with
    | zero => intro v19 v20 H locs ls hmn21 bv19 hzrr5_1 hP hD hS hl; exact absurd hmn21 (by omega)
    | succ n21 ih5 =>
      intro v19 v20 H locs ls hmn21 bv19 hzrr5_1 hP hD hS hl
      refine lv_iload hx hb dX12_onwardBest_5 (lv_at hl 0 rfl) ?_
      refine lv_bipush (v := 50) hx hb dX12_onwardBest_7 (by decide) ?_
      refine lv_icmp_ge (tgt := 54) hx hb dX12_onwardBest_9 (by decide) (fun c22 => ?_) (fun c22 => ?_)
      · have f22 : 50 ≤ v19.toInt := f_le (by decide) rfl c22
        refine lv_lload_n hx hb dX12_onwardBest_54 rfl (lv_at hl 1 rfl) ?_
        rw [hQ]
        exact x_l cx hr () hP hD hS (show v20 = J_X12_onwardBest sm tm p0 p1 from ((hrr5_1.trans (LT_r hzrr5_1 (exl_X12_onwardBest_1 c22)))).symm) dX12_onwardBest_55
      · have f22 : v19.toInt < 50 := f_nle (by decide) rfl c22
        refine lv_lload_n hx hb dX12_onwardBest_12 rfl (lv_at hl 1 rfl) ?_
        refine lv_aload_n hx hb dX12_onwardBest_13 rfl (lv_at hl 2 rfl) ?_
        refine lv_iload hx hb dX12_onwardBest_14 (lv_at hl 0 rfl) ?_
        refine g_iF (w1 := fun (_ : Unit) => [cell22_ qm sm tm, cell5_ k qm sm, cell13_ k qm sm, cell8_ k qm sm, cell6_ k qm sm, cell15_ k qm sm, cell14_ k qm tm, cell12_ k qm tm, cell18_ k qm tm, cell17_ k qm tm, cell19_ k qm tm, cell21_ k qm tm, cell20_ k qm sm, cell16_ k qm sm, cell11_ k qm sm, cell10_ k qm sm, cell9_ k qm sm, cell7_ k qm sm]) (g_runVF (ws := [cell22_ qm sm tm, cell5_ k qm sm, cell13_ k qm sm, cell8_ k qm sm, cell6_ k qm sm, cell15_ k qm sm, cell14_ k qm tm, cell12_ k qm tm, cell18_ k qm tm, cell17_ k qm tm, cell19_ k qm tm, cell21_ k qm tm, cell20_ k qm sm, cell16_ k qm sm, cell11_ k qm sm, cell10_ k qm sm, cell9_ k qm sm, cell7_ k qm sm]) (rest := [.long v20]) cx hP hD hS [.int v19] (c_X12_isHands l D k b qm sm tm H.size v19 (show 0 ≤ ((sm 2) 1).toInt ∧ ((sm 2) 1).toInt ≤ 4 from by first | decide | omega)) gX12_onwardBest_X12_isHands rfl rfl rfl nd_X12_isHands ⟨Nat.le_of_ble_eq_true rfl, Nat.le_of_ble_eq_true rfl⟩ (ci := 10) (q0 := 0) rfl rfl rfl hl.1 rfl (Nat.le_of_ble_eq_true rfl) ⟨Nat.zero_le _, Nat.zero_le _⟩ dX12_onwardBest_16) cx.2.2.1 hD hS (fun r24 _ H locs hw23 hP hD hS => ?_)
        replace hw23 : (0 ≤ r24.toInt ∧ r24.toInt ≤ 1) ∧ (Imp (r24.toInt = 1) (0 ≤ v19.toInt ∧ v19.toInt ≤ 400)) ∧ (r24 = J_X12_isHands sm tm v19) := hw23
        obtain ⟨w25, w26, w27⟩ := hw23
        have zr24 : 0 ≤ r24.toInt ∧ r24.toInt ≤ 1 := w25
        refine lv_if_eq (tgt := 45) hx hb dX12_onwardBest_19 (by decide) (fun c29 => ?_) (fun c29 => ?_)
        · have f29 : r24.toInt = 0 := f_eq rfl (by decide) c29
          refine lv_lconst (v := 0) hx hb dX12_onwardBest_45 (by decide) ?_
          refine lv_ladd hx hb dX12_onwardBest_46 (lv_topl (fun v30 e30 => ?_))
          refine lv_lstore_n (lv' := [(3, .long v30), (5, .int v19), (0, .ref (qm 0)), (1, .int p0), (2, .int p1)]) hx hb dX12_onwardBest_47 rfl hl (by decide) rfl (fun ls hl => ?_)
          obtain ⟨v31, e31⟩ : ∃ z : Int32, z = v19 + 1 := ⟨_, rfl⟩
          refine lv_iinc (v := v31) (lv' := [(5, .int v31), (3, .long v30), (0, .ref (qm 0)), (1, .int p0), (2, .int p1)]) hx hb dX12_onwardBest_48 hl (k := 1) rfl (by rw [e31]; rfl) (by decide) rfl (fun ls hl => ?_)
          have t31 : v31.toInt = v19.toInt + 1 := by rw [e31]; exact i_add rfl (by decide) (by omega) (by omega)
          refine lv_goto (tgt := 5) hx hb dX12_onwardBest_51 (by decide) ?_
          exact ih5 v31 v30 _ _ _ (by omega) (by first | decide | omega) (LT_g hzrr5_1 (exl_X12_onwardBest_2 e30 e31 c22 w27 c29)) hP hD hS (lv_sub hl [0, 1, 2, 3, 4] rfl)
        · have f29 : ¬ r24.toInt = 0 := f_ne rfl (by decide) c29
          have k29 : (0 ≤ v19.toInt ∧ v19.toInt ≤ 400) := w26 (by omega)
          refine lv_aload_n hx hb dX12_onwardBest_22 rfl (lv_at hl 2 rfl) ?_
          refine lv_iload_n hx hb dX12_onwardBest_23 rfl (lv_at hl 3 rfl) ?_
          refine lv_iload hx hb dX12_onwardBest_24 (lv_at hl 0 rfl) ?_
          refine g_iF (w1 := fun (_ : Unit) => [cell22_ qm sm tm, cell5_ k qm sm, cell13_ k qm sm, cell8_ k qm sm, cell6_ k qm sm, cell15_ k qm sm, cell14_ k qm tm, cell12_ k qm tm, cell18_ k qm tm, cell17_ k qm tm, cell19_ k qm tm, cell21_ k qm tm, cell20_ k qm sm, cell16_ k qm sm, cell11_ k qm sm, cell10_ k qm sm, cell9_ k qm sm, cell7_ k qm sm]) (g_runVF (ws := [cell22_ qm sm tm, cell5_ k qm sm, cell13_ k qm sm, cell8_ k qm sm, cell6_ k qm sm, cell15_ k qm sm, cell14_ k qm tm, cell12_ k qm tm, cell18_ k qm tm, cell17_ k qm tm, cell19_ k qm tm, cell21_ k qm tm, cell20_ k qm sm, cell16_ k qm sm, cell11_ k qm sm, cell10_ k qm sm, cell9_ k qm sm, cell7_ k qm sm]) (rest := [.long v20]) cx hP hD hS [.int p0, .int v19] (c_X12_sundayOf l D k b qm sm tm H.size p0 v19) gX12_onwardBest_X12_sundayOf rfl rfl rfl nd_X12_sundayOf ⟨Nat.le_of_ble_eq_true rfl, Nat.le_of_ble_eq_true rfl⟩ (ci := 10) (q0 := 0) rfl rfl rfl hl.1 rfl (Nat.le_of_ble_eq_true rfl) ⟨Nat.zero_le _, Nat.zero_le _⟩ dX12_onwardBest_26) cx.2.2.1 hD hS (fun r33 _ H locs hw32 hP hD hS => ?_)
          have w34 : r33 = J_X12_sundayOf sm tm p0 v19 := hw32
          clear hw32
          obtain ⟨v36, e36⟩ : ∃ z : Int64, z = (r33 : Int32).toInt64 := ⟨_, rfl⟩
          refine lv_i2l (v := v36) hx hb dX12_onwardBest_29 e36.symm ?_
          refine lv_aload_n hx hb dX12_onwardBest_30 rfl (lv_at hl 2 rfl) ?_
          refine g_get cx hP iw_X12_onwardBest_X12 0 rfl rfl 18 (by decide) rfl fw_X12_onwardBest_38 rfl dX12_onwardBest_31 ?_
          refine lv_iconst (v := 3) hx hb dX12_onwardBest_34 (by decide) ?_
          refine lv_iload hx hb dX12_onwardBest_35 (lv_at hl 0 rfl) ?_
          refine lv_imul hx hb dX12_onwardBest_37 (lv_topi (fun v37 e37 => ?_))
          have t37 : v37.toInt = 3 * v19.toInt := by rw [e37]; exact i_mul (by decide) rfl (by omega) (by omega)
          refine lv_iload_n hx hb dX12_onwardBest_38 rfl (lv_at hl 4 rfl) ?_
          refine lv_iadd hx hb dX12_onwardBest_39 (lv_topi (fun v38 e38 => ?_))
          have t38 : v38.toInt = v37.toInt + p1.toInt := by rw [e38]; exact i_add rfl rfl (by omega) (by omega)
          have hn39 : vp_in v38 1500 := f_in (a := v38.toInt) rfl (by omega) (by omega)
          refine va_lald hx hb cx.2.1 hP 10 1 rfl rfl hn39 dX12_onwardBest_40 (lv_topl (fun v40 e40 => ?_))
          refine lv_lmul hx hb dX12_onwardBest_41 (lv_topl (fun v41 e41 => ?_))
          refine lv_goto (tgt := 46) hx hb dX12_onwardBest_42 (by decide) ?_
          refine lv_ladd hx hb dX12_onwardBest_46 (lv_topl (fun v42 e42 => ?_))
          refine lv_lstore_n (lv' := [(3, .long v42), (5, .int v19), (0, .ref (qm 0)), (1, .int p0), (2, .int p1)]) hx hb dX12_onwardBest_47 rfl hl (by decide) rfl (fun ls hl => ?_)
          obtain ⟨v43, e43⟩ : ∃ z : Int32, z = v19 + 1 := ⟨_, rfl⟩
          refine lv_iinc (v := v43) (lv' := [(5, .int v43), (3, .long v42), (0, .ref (qm 0)), (1, .int p0), (2, .int p1)]) hx hb dX12_onwardBest_48 hl (k := 1) rfl (by rw [e43]; rfl) (by decide) rfl (fun ls hl => ?_)
          have t43 : v43.toInt = v19.toInt + 1 := by rw [e43]; exact i_add rfl (by decide) (by omega) (by omega)
          refine lv_goto (tgt := 5) hx hb dX12_onwardBest_51 (by decide) ?_
          exact ih5 v43 v42 _ _ _ (by omega) (by first | decide | omega) (LT_g hzrr5_1 (exl_X12_onwardBest_3 e36 e37 e38 e40 e41 e42 e43 c22 w27 c29 w34)) hP hD hS (lv_sub hl [0, 1, 2, 3, 4] rfl)
  have hlit44 : (0 : Int32).toInt = 0 := by decide
  have hlit45 : (0 : Int32).toInt = 0 := by decide
  exact hL5 (51) 0 0 _ _ _ (by omega) (by first | decide | omega) err5_1 hP hD hS (lv_sub hl [0, 1, 2, 3, 4] rfl)
theorem fw_X12_layBestOf_41 : Cond.fieldLink RX12 41 "StillInAugustModel" "bestsBefore" "[J" ∈ wsX12_layBestOf := by decide +kernel
theorem fw_X12_layBestOf_44 : Cond.fieldLink RX12 44 "StillInAugustModel" "bestActs" "[I" ∈ wsX12_layBestOf := by decide +kernel
theorem kJ_X12_layBestOf_221 : Cond.constantLong RX12 221 (-1) ∈ wsX12_layBestOf := by decide +kernel
theorem nd_X12_onwardBest : yX12_onwardBest.cls = RX12 ∧ yX12_onwardBest.cls ≠ "java/lang/invoke/MethodHandle" ∧ yX12_onwardBest.cls ≠ "java/lang/invoke/VarHandle" ∧ (parseMethodDescriptor yX12_onwardBest.desc).map (fun d => d.parameters.length) = some 2 := by decide +kernel
theorem iw_X12_layBestOf_X12 : ∀ w ∈ u_ws RX12 TX12 33, w ∈ wsX12_layBestOf := fun _ h => List.mem_cons_of_mem _ (List.mem_append_right _ h)
def B_X12_layBestOf_110_3 (sm : Nat → Nat → Int32) (tm : Nat → Nat → Int64) (p0 : Int32) (p1 : Int32) (p2 : Int64) (v6 : Int32) (g7 : Nat → Int64) (v58 : Int32) (g59 : Nat → Int64) (g60 : Nat → Int32) (y78 : Int32) (y85 : Int64) (z : Int32 × (Nat → Int64) × (Nat → Int32)) : Sum (Int32 × (Nat → Int64) × (Nat → Int32)) (Sum (Int32 × (Nat → Int64) × (Nat → Int32)) (Sum (Int32 × (Nat → Int64)) ((Nat → Int64) × (Nat → Int32)))) := let v112 := (z.1); let g113 := (z.2.1); let g114 := (z.2.2); if 3 ≤ v112 then Sum.inr (Sum.inl (((v58 + 1), g113, g114))) else LetF (J_X12_costOf (up2 sm 12 g114) (up2L tm 11 g113) p0 y78 v112 ((((((1000 : Int32) * (v58 / (30 : Int32))) + ((100 : Int32) * ((v58 / (6 : Int32)) - (v58 / (6 : Int32)) / (5 : Int32) * (5 : Int32)))) + ((10 : Int32) * ((v58 / (3 : Int32)) - (v58 / (3 : Int32)) / (2 : Int32) * (2 : Int32)))) + (v58 - v58 / (3 : Int32) * (3 : Int32))))) (fun y121 => if (lg_cmp (g113 ((((3 : Int32) * p1) + v112)).toNatClampNeg) 0) < 0 then Sum.inl (((v112 + 1), (vp_updL g113 ((((3 : Int32) * p1) + v112)).toNatClampNeg (((y121.toInt64) * p2) + y85)), (upd g114 ((((3 : Int32) * p1) + v112)).toNatClampNeg ((((((1000 : Int32) * (v58 / (30 : Int32))) + ((100 : Int32) * ((v58 / (6 : Int32)) - (v58 / (6 : Int32)) / (5 : Int32) * (5 : Int32)))) + ((10 : Int32) * ((v58 / (3 : Int32)) - (v58 / (3 : Int32)) / (2 : Int32) * (2 : Int32)))) + (v58 - v58 / (3 : Int32) * (3 : Int32))))))) else if 0 ≤ (lg_cmp (((y121.toInt64) * p2) + y85) (g113 ((((3 : Int32) * p1) + v112)).toNatClampNeg)) then Sum.inl (((v112 + 1), g113, g114)) else Sum.inl (((v112 + 1), (vp_updL g113 ((((3 : Int32) * p1) + v112)).toNatClampNeg (((y121.toInt64) * p2) + y85)), (upd g114 ((((3 : Int32) * p1) + v112)).toNatClampNeg ((((((1000 : Int32) * (v58 / (30 : Int32))) + ((100 : Int32) * ((v58 / (6 : Int32)) - (v58 / (6 : Int32)) / (5 : Int32) * (5 : Int32)))) + ((10 : Int32) * ((v58 / (3 : Int32)) - (v58 / (3 : Int32)) / (2 : Int32) * (2 : Int32)))) + (v58 - v58 / (3 : Int32) * (3 : Int32))))))))
def B_X12_layBestOf_32_2 (sm : Nat → Nat → Int32) (tm : Nat → Nat → Int64) (p0 : Int32) (p1 : Int32) (p2 : Int64) (v6 : Int32) (g7 : Nat → Int64) (z : Int32 × (Nat → Int64) × (Nat → Int32)) : Sum (Int32 × (Nat → Int64) × (Nat → Int32)) (Sum (Int32 × (Nat → Int64)) ((Nat → Int64) × (Nat → Int32))) := let v58 := (z.1); let g59 := (z.2.1); let g60 := (z.2.2); if 150 ≤ v58 then Sum.inr (Sum.inr ((g59, g60))) else LetF (J_X12_after (up2 sm 12 g60) (up2L tm 11 g59) p0 p1 ((((((1000 : Int32) * (v58 / (30 : Int32))) + ((100 : Int32) * ((v58 / (6 : Int32)) - (v58 / (6 : Int32)) / (5 : Int32) * (5 : Int32)))) + ((10 : Int32) * ((v58 / (3 : Int32)) - (v58 / (3 : Int32)) / (2 : Int32) * (2 : Int32)))) + (v58 - v58 / (3 : Int32) * (3 : Int32))))) (fun y78 => if y78 = (-9) then Sum.inl (((v58 + 1), g59, g60)) else LetF (J_X12_onwardBest (up2 sm 12 g60) (up2L tm 11 g59) y78 (((((((1000 : Int32) * (v58 / (30 : Int32))) + ((100 : Int32) * ((v58 / (6 : Int32)) - (v58 / (6 : Int32)) / (5 : Int32) * (5 : Int32)))) + ((10 : Int32) * ((v58 / (3 : Int32)) - (v58 / (3 : Int32)) / (2 : Int32) * (2 : Int32)))) + (v58 - v58 / (3 : Int32) * (3 : Int32))) - (((((1000 : Int32) * (v58 / (30 : Int32))) + ((100 : Int32) * ((v58 / (6 : Int32)) - (v58 / (6 : Int32)) / (5 : Int32) * (5 : Int32)))) + ((10 : Int32) * ((v58 / (3 : Int32)) - (v58 / (3 : Int32)) / (2 : Int32) * (2 : Int32)))) + (v58 - v58 / (3 : Int32) * (3 : Int32))) / (10 : Int32) * (10 : Int32)))) (fun y85 => LTs (Sum.inl default) (B_X12_layBestOf_110_3 sm tm p0 p1 p2 v6 g7 v58 g59 g60 y78 y85) 4 ((0 : Int32), g59, g60)))
def B_X12_layBestOf_3 (sm : Nat → Nat → Int32) (tm : Nat → Nat → Int64) (p0 : Int32) (p1 : Int32) (p2 : Int64) (z : Int32 × (Nat → Int64)) : Sum (Int32 × (Nat → Int64)) ((Nat → Int64) × (Nat → Int32)) := let v6 := (z.1); let g7 := (z.2); if 3 ≤ v6 then LTs (Sum.inl default) (B_X12_layBestOf_32_2 sm tm p0 p1 p2 v6 g7) 151 ((0 : Int32), g7, (sm 12)) else Sum.inl (((v6 + 1), (vp_updL g7 ((((3 : Int32) * p1) + v6)).toNatClampNeg (-1))))
def J_X12_layBestOf (sm : Nat → Nat → Int32) (tm : Nat → Nat → Int64) (p0 : Int32) (p1 : Int32) (p2 : Int64) : (Nat → Int64) × (Nat → Int32) := LTs default (B_X12_layBestOf_3 sm tm p0 p1 p2) 4 ((0 : Int32), (tm 11))
theorem exl_X12_layBestOf_0 {sm : Nat → Nat → Int32} {tm : Nat → Nat → Int64} {p0 : Int32} {p1 : Int32} {p2 : Int64} : J_X12_layBestOf sm tm p0 p1 p2 = LTs (default : (Nat → Int64) × (Nat → Int32)) (B_X12_layBestOf_3 sm tm p0 p1 p2) 4 ((0 : Int32), (tm 11)) := by unfold J_X12_layBestOf; rfl
theorem exl_X12_layBestOf_1 {sm : Nat → Nat → Int32} {tm : Nat → Nat → Int64} {p0 : Int32} {p1 : Int32} {p2 : Int64} {v6 : Int32} {g7 : Nat → Int64} (c9 : (3 : Int32) ≤ v6) : (B_X12_layBestOf_3 sm tm p0 p1 p2) (v6, g7) = LTs (Sum.inl default : Sum (Int32 × (Nat → Int64)) ((Nat → Int64) × (Nat → Int32))) (B_X12_layBestOf_32_2 sm tm p0 p1 p2 v6 g7) 151 ((0 : Int32), g7, (sm 12)) := by unfold B_X12_layBestOf_3; refine Eq.trans (if_pos c9) ?_; rfl
theorem exl_X12_layBestOf_2 {sm : Nat → Nat → Int32} {tm : Nat → Nat → Int64} {p0 : Int32} {p1 : Int32} {p2 : Int64} {v6 : Int32} {g7 : Nat → Int64} {v58 : Int32} {g59 : Nat → Int64} {g60 : Nat → Int32} (c62 : (150 : Int32) ≤ v58) : (B_X12_layBestOf_32_2 sm tm p0 p1 p2 v6 g7) (v58, g59, g60) = Sum.inr (Sum.inr ((g59, g60))) := by unfold B_X12_layBestOf_32_2; refine Eq.trans (if_pos c62) ?_; rfl
theorem exl_X12_layBestOf_3 {sm : Nat → Nat → Int32} {tm : Nat → Nat → Int64} {p0 : Int32} {p1 : Int32} {p2 : Int64} {v6 : Int32} {g7 : Nat → Int64} {v58 : Int32} {g59 : Nat → Int64} {g60 : Nat → Int32} {v80 : Int32} {v63 : Int32} {v64 : Int32} {v65 : Int32} {v66 : Int32} {v67 : Int32} {v68 : Int32} {v69 : Int32} {v70 : Int32} {v71 : Int32} {v72 : Int32} {v73 : Int32} {v74 : Int32} {r76 : Int32} (e63 : v63 = (v58 / (30 : Int32))) (e64 : v64 = ((1000 : Int32) * v63)) (e65 : v65 = (v58 / (6 : Int32))) (e66 : v66 = (v65 - v65 / (5 : Int32) * (5 : Int32))) (e67 : v67 = ((100 : Int32) * v66)) (e68 : v68 = (v64 + v67)) (e69 : v69 = (v58 / (3 : Int32))) (e70 : v70 = (v69 - v69 / (2 : Int32) * (2 : Int32))) (e71 : v71 = ((10 : Int32) * v70)) (e72 : v72 = (v68 + v71)) (e73 : v73 = (v58 - v58 / (3 : Int32) * (3 : Int32))) (e74 : v74 = (v72 + v73)) (e80 : v80 = v58 + 1) (c62 : ¬ ((150 : Int32) ≤ v58)) (w77 : r76 = J_X12_after (up2 sm 12 g60) (up2L tm 11 g59) p0 p1 v74) (c79 : r76 = ((-9) : Int32)) : (B_X12_layBestOf_32_2 sm tm p0 p1 p2 v6 g7) (v58, g59, g60) = Sum.inl (v80, g59, g60) := by subst e63 e64 e65 e66 e67 e68 e69 e70 e71 e72 e73 e74 e80; unfold B_X12_layBestOf_32_2; refine Eq.trans (if_neg c62) ?_; refine lt_e w77 ?_; refine Eq.trans (if_pos c79) ?_; rfl
theorem exl_X12_layBestOf_4 {sm : Nat → Nat → Int32} {tm : Nat → Nat → Int64} {p0 : Int32} {p1 : Int32} {p2 : Int64} {v6 : Int32} {g7 : Nat → Int64} {v58 : Int32} {g59 : Nat → Int64} {g60 : Nat → Int32} {r76 : Int32} {r83 : Int64} {v63 : Int32} {v64 : Int32} {v65 : Int32} {v66 : Int32} {v67 : Int32} {v68 : Int32} {v69 : Int32} {v70 : Int32} {v71 : Int32} {v72 : Int32} {v73 : Int32} {v74 : Int32} {v81 : Int32} (e63 : v63 = (v58 / (30 : Int32))) (e64 : v64 = ((1000 : Int32) * v63)) (e65 : v65 = (v58 / (6 : Int32))) (e66 : v66 = (v65 - v65 / (5 : Int32) * (5 : Int32))) (e67 : v67 = ((100 : Int32) * v66)) (e68 : v68 = (v64 + v67)) (e69 : v69 = (v58 / (3 : Int32))) (e70 : v70 = (v69 - v69 / (2 : Int32) * (2 : Int32))) (e71 : v71 = ((10 : Int32) * v70)) (e72 : v72 = (v68 + v71)) (e73 : v73 = (v58 - v58 / (3 : Int32) * (3 : Int32))) (e74 : v74 = (v72 + v73)) (e81 : v81 = (v74 - v74 / (10 : Int32) * (10 : Int32))) (c62 : ¬ ((150 : Int32) ≤ v58)) (w77 : r76 = J_X12_after (up2 sm 12 g60) (up2L tm 11 g59) p0 p1 v74) (c79 : ¬ (r76 = ((-9) : Int32))) (w84 : r83 = J_X12_onwardBest (up2 sm 12 g60) (up2L tm 11 g59) r76 v81) : (B_X12_layBestOf_32_2 sm tm p0 p1 p2 v6 g7) (v58, g59, g60) = LTs (Sum.inl default : Sum (Int32 × (Nat → Int64) × (Nat → Int32)) (Sum (Int32 × (Nat → Int64)) ((Nat → Int64) × (Nat → Int32)))) (B_X12_layBestOf_110_3 sm tm p0 p1 p2 v6 g7 v58 g59 g60 r76 r83) 4 ((0 : Int32), g59, g60) := by subst e63 e64 e65 e66 e67 e68 e69 e70 e71 e72 e73 e74 e81; unfold B_X12_layBestOf_32_2; refine Eq.trans (if_neg c62) ?_; refine lt_e w77 ?_; refine Eq.trans (if_neg c79) ?_; refine lt_e w84 ?_; rfl
theorem exl_X12_layBestOf_5 {sm : Nat → Nat → Int32} {tm : Nat → Nat → Int64} {p0 : Int32} {p1 : Int32} {p2 : Int64} {v6 : Int32} {g7 : Nat → Int64} {v58 : Int32} {g59 : Nat → Int64} {g60 : Nat → Int32} {r76 : Int32} {r83 : Int64} {v112 : Int32} {g113 : Nat → Int64} {g114 : Nat → Int32} {v117 : Int32} (e117 : v117 = v58 + 1) (c116 : (3 : Int32) ≤ v112) : (B_X12_layBestOf_110_3 sm tm p0 p1 p2 v6 g7 v58 g59 g60 r76 r83) (v112, g113, g114) = Sum.inr (Sum.inl (v117, g113, g114)) := by subst e117; unfold B_X12_layBestOf_110_3; refine Eq.trans (if_pos c116) ?_; rfl
theorem exl_X12_layBestOf_6 {sm : Nat → Nat → Int32} {tm : Nat → Nat → Int64} {p0 : Int32} {p1 : Int32} {p2 : Int64} {v6 : Int32} {g7 : Nat → Int64} {v58 : Int32} {g59 : Nat → Int64} {g60 : Nat → Int32} {r76 : Int32} {r83 : Int64} {v112 : Int32} {g113 : Nat → Int64} {g114 : Nat → Int32} {v139 : Int32} {g134 : Nat → Int64} {g138 : Nat → Int32} {v63 : Int32} {v64 : Int32} {v65 : Int32} {v66 : Int32} {v67 : Int32} {v68 : Int32} {v69 : Int32} {v70 : Int32} {v71 : Int32} {v72 : Int32} {v73 : Int32} {v74 : Int32} {v122 : Int64} {r119 : Int32} {v123 : Int64} {v124 : Int64} {v125 : Int32} {v126 : Int32} {v128 : Int64} {v129 : Int32} {v131 : Int32} {v132 : Int32} {v135 : Int32} {v136 : Int32} (e63 : v63 = (v58 / (30 : Int32))) (e64 : v64 = ((1000 : Int32) * v63)) (e65 : v65 = (v58 / (6 : Int32))) (e66 : v66 = (v65 - v65 / (5 : Int32) * (5 : Int32))) (e67 : v67 = ((100 : Int32) * v66)) (e68 : v68 = (v64 + v67)) (e69 : v69 = (v58 / (3 : Int32))) (e70 : v70 = (v69 - v69 / (2 : Int32) * (2 : Int32))) (e71 : v71 = ((10 : Int32) * v70)) (e72 : v72 = (v68 + v71)) (e73 : v73 = (v58 - v58 / (3 : Int32) * (3 : Int32))) (e74 : v74 = (v72 + v73)) (e122 : v122 = (r119 : Int32).toInt64) (e123 : v123 = (v122 * p2)) (e124 : v124 = (v123 + r83)) (e125 : v125 = ((3 : Int32) * p1)) (e126 : v126 = (v125 + v112)) (e128 : v128 = (g113 (v126).toNatClampNeg)) (e129 : v129 = (lg_cmp v128 (0 : Int64))) (e131 : v131 = ((3 : Int32) * p1)) (e132 : v132 = (v131 + v112)) (eg134 : g134 = vp_updL g113 (v132).toNatClampNeg v124) (e135 : v135 = ((3 : Int32) * p1)) (e136 : v136 = (v135 + v112)) (eg138 : g138 = upd g114 (v136).toNatClampNeg v74) (e139 : v139 = v112 + 1) (c116 : ¬ ((3 : Int32) ≤ v112)) (w120 : r119 = J_X12_costOf (up2 sm 12 g114) (up2L tm 11 g113) p0 r76 v112 v74) (c130 : v129 < (0 : Int32)) : (B_X12_layBestOf_110_3 sm tm p0 p1 p2 v6 g7 v58 g59 g60 r76 r83) (v112, g113, g114) = Sum.inl (v139, g134, g138) := by subst e63 e64 e65 e66 e67 e68 e69 e70 e71 e72 e73 e74 e122 e123 e124 e125 e126 e128 e129 e131 e132 eg134 e135 e136 eg138 e139; unfold B_X12_layBestOf_110_3; refine Eq.trans (if_neg c116) ?_; refine lt_e w120 ?_; refine Eq.trans (if_pos c130) ?_; rfl
theorem exl_X12_layBestOf_7 {sm : Nat → Nat → Int32} {tm : Nat → Nat → Int64} {p0 : Int32} {p1 : Int32} {p2 : Int64} {v6 : Int32} {g7 : Nat → Int64} {v58 : Int32} {g59 : Nat → Int64} {g60 : Nat → Int32} {r76 : Int32} {r83 : Int64} {v112 : Int32} {g113 : Nat → Int64} {g114 : Nat → Int32} {v146 : Int32} {v63 : Int32} {v64 : Int32} {v65 : Int32} {v66 : Int32} {v67 : Int32} {v68 : Int32} {v69 : Int32} {v70 : Int32} {v71 : Int32} {v72 : Int32} {v73 : Int32} {v74 : Int32} {v122 : Int64} {r119 : Int32} {v123 : Int64} {v124 : Int64} {v125 : Int32} {v126 : Int32} {v128 : Int64} {v129 : Int32} {v140 : Int32} {v141 : Int32} {v143 : Int64} {v144 : Int32} (e63 : v63 = (v58 / (30 : Int32))) (e64 : v64 = ((1000 : Int32) * v63)) (e65 : v65 = (v58 / (6 : Int32))) (e66 : v66 = (v65 - v65 / (5 : Int32) * (5 : Int32))) (e67 : v67 = ((100 : Int32) * v66)) (e68 : v68 = (v64 + v67)) (e69 : v69 = (v58 / (3 : Int32))) (e70 : v70 = (v69 - v69 / (2 : Int32) * (2 : Int32))) (e71 : v71 = ((10 : Int32) * v70)) (e72 : v72 = (v68 + v71)) (e73 : v73 = (v58 - v58 / (3 : Int32) * (3 : Int32))) (e74 : v74 = (v72 + v73)) (e122 : v122 = (r119 : Int32).toInt64) (e123 : v123 = (v122 * p2)) (e124 : v124 = (v123 + r83)) (e125 : v125 = ((3 : Int32) * p1)) (e126 : v126 = (v125 + v112)) (e128 : v128 = (g113 (v126).toNatClampNeg)) (e129 : v129 = (lg_cmp v128 (0 : Int64))) (e140 : v140 = ((3 : Int32) * p1)) (e141 : v141 = (v140 + v112)) (e143 : v143 = (g113 (v141).toNatClampNeg)) (e144 : v144 = (lg_cmp v124 v143)) (e146 : v146 = v112 + 1) (c116 : ¬ ((3 : Int32) ≤ v112)) (w120 : r119 = J_X12_costOf (up2 sm 12 g114) (up2L tm 11 g113) p0 r76 v112 v74) (c130 : ¬ (v129 < (0 : Int32))) (c145 : (0 : Int32) ≤ v144) : (B_X12_layBestOf_110_3 sm tm p0 p1 p2 v6 g7 v58 g59 g60 r76 r83) (v112, g113, g114) = Sum.inl (v146, g113, g114) := by subst e63 e64 e65 e66 e67 e68 e69 e70 e71 e72 e73 e74 e122 e123 e124 e125 e126 e128 e129 e140 e141 e143 e144 e146; unfold B_X12_layBestOf_110_3; refine Eq.trans (if_neg c116) ?_; refine lt_e w120 ?_; refine Eq.trans (if_neg c130) ?_; refine Eq.trans (if_pos c145) ?_; rfl
theorem exl_X12_layBestOf_8 {sm : Nat → Nat → Int32} {tm : Nat → Nat → Int64} {p0 : Int32} {p1 : Int32} {p2 : Int64} {v6 : Int32} {g7 : Nat → Int64} {v58 : Int32} {g59 : Nat → Int64} {g60 : Nat → Int32} {r76 : Int32} {r83 : Int64} {v112 : Int32} {g113 : Nat → Int64} {g114 : Nat → Int32} {v155 : Int32} {g150 : Nat → Int64} {g154 : Nat → Int32} {v63 : Int32} {v64 : Int32} {v65 : Int32} {v66 : Int32} {v67 : Int32} {v68 : Int32} {v69 : Int32} {v70 : Int32} {v71 : Int32} {v72 : Int32} {v73 : Int32} {v74 : Int32} {v122 : Int64} {r119 : Int32} {v123 : Int64} {v124 : Int64} {v125 : Int32} {v126 : Int32} {v128 : Int64} {v129 : Int32} {v140 : Int32} {v141 : Int32} {v143 : Int64} {v144 : Int32} {v147 : Int32} {v148 : Int32} {v151 : Int32} {v152 : Int32} (e63 : v63 = (v58 / (30 : Int32))) (e64 : v64 = ((1000 : Int32) * v63)) (e65 : v65 = (v58 / (6 : Int32))) (e66 : v66 = (v65 - v65 / (5 : Int32) * (5 : Int32))) (e67 : v67 = ((100 : Int32) * v66)) (e68 : v68 = (v64 + v67)) (e69 : v69 = (v58 / (3 : Int32))) (e70 : v70 = (v69 - v69 / (2 : Int32) * (2 : Int32))) (e71 : v71 = ((10 : Int32) * v70)) (e72 : v72 = (v68 + v71)) (e73 : v73 = (v58 - v58 / (3 : Int32) * (3 : Int32))) (e74 : v74 = (v72 + v73)) (e122 : v122 = (r119 : Int32).toInt64) (e123 : v123 = (v122 * p2)) (e124 : v124 = (v123 + r83)) (e125 : v125 = ((3 : Int32) * p1)) (e126 : v126 = (v125 + v112)) (e128 : v128 = (g113 (v126).toNatClampNeg)) (e129 : v129 = (lg_cmp v128 (0 : Int64))) (e140 : v140 = ((3 : Int32) * p1)) (e141 : v141 = (v140 + v112)) (e143 : v143 = (g113 (v141).toNatClampNeg)) (e144 : v144 = (lg_cmp v124 v143)) (e147 : v147 = ((3 : Int32) * p1)) (e148 : v148 = (v147 + v112)) (eg150 : g150 = vp_updL g113 (v148).toNatClampNeg v124) (e151 : v151 = ((3 : Int32) * p1)) (e152 : v152 = (v151 + v112)) (eg154 : g154 = upd g114 (v152).toNatClampNeg v74) (e155 : v155 = v112 + 1) (c116 : ¬ ((3 : Int32) ≤ v112)) (w120 : r119 = J_X12_costOf (up2 sm 12 g114) (up2L tm 11 g113) p0 r76 v112 v74) (c130 : ¬ (v129 < (0 : Int32))) (c145 : ¬ ((0 : Int32) ≤ v144)) : (B_X12_layBestOf_110_3 sm tm p0 p1 p2 v6 g7 v58 g59 g60 r76 r83) (v112, g113, g114) = Sum.inl (v155, g150, g154) := by subst e63 e64 e65 e66 e67 e68 e69 e70 e71 e72 e73 e74 e122 e123 e124 e125 e126 e128 e129 e140 e141 e143 e144 e147 e148 eg150 e151 e152 eg154 e155; unfold B_X12_layBestOf_110_3; refine Eq.trans (if_neg c116) ?_; refine lt_e w120 ?_; refine Eq.trans (if_neg c130) ?_; refine Eq.trans (if_neg c145) ?_; rfl
theorem exl_X12_layBestOf_9 {sm : Nat → Nat → Int32} {tm : Nat → Nat → Int64} {p0 : Int32} {p1 : Int32} {p2 : Int64} {v6 : Int32} {g7 : Nat → Int64} {v162 : Int32} {g161 : Nat → Int64} {v158 : Int32} {v159 : Int32} (e158 : v158 = ((3 : Int32) * p1)) (e159 : v159 = (v158 + v6)) (eg161 : g161 = vp_updL g7 (v159).toNatClampNeg ((-1) : Int64)) (e162 : v162 = v6 + 1) (c9 : ¬ ((3 : Int32) ≤ v6)) : (B_X12_layBestOf_3 sm tm p0 p1 p2) (v6, g7) = Sum.inl (v162, g161) := by subst e158 e159 eg161 e162; unfold B_X12_layBestOf_3; refine Eq.trans (if_neg c9) ?_; rfl
set_option maxHeartbeats 4000000 in
set_option maxRecDepth 100000 in
theorem c_X12_layBestOf (l : Launch) (D : va_G) (k : Nat → ClassId) (b : Nat → Nat) (qm : Nat → Nat) (sm : Nat → Nat → Int32) (tm : Nat → Nat → Int64) (sz : Nat) (p0 : Int32) (p1 : Int32) (p2 : Int64) (h_w0 : 0 ≤ (sm 2 0).toInt ∧ (sm 2 0).toInt ≤ 5) (h_k1 : 0 ≤ (sm 2 1).toInt ∧ (sm 2 1).toInt ≤ 4) (hp0 : 0 ≤ p0.toInt ∧ p0.toInt ≤ 4) (hp1 : 0 ≤ p1.toInt ∧ p1.toInt ≤ 400) : MetV l D k b yX12_layBestOf wsX12_layBestOf ({ frames := 4, cells := 0, slots := 0, locals := 100 } : Room) [cell22_ qm sm tm, cell5_ k qm sm, cell13_ k qm sm, cell8_ k qm sm, cell6_ k qm sm, cell15_ k qm sm, cell14_ k qm tm, cell12_ k qm tm, cell18_ k qm tm, cell17_ k qm tm, cell19_ k qm tm, cell21_ k qm tm, cell20_ k qm sm, cell16_ k qm sm, cell11_ k qm sm, cell10_ k qm sm, cell9_ k qm sm, cell7_ k qm sm] sz [.ref (qm 0), .int p0, .int p1, .long p2] (fun (u : (Nat → Int64) × (Nat → Int32)) => ((u.1), (u.2)) = J_X12_layBestOf sm tm p0 p1 p2) (fun u => [cell22_ qm sm tm, cell5_ k qm sm, cell13_ k qm sm, cell8_ k qm sm, cell6_ k qm sm, cell15_ k qm sm, cell14_ k qm tm, cell12_ k qm tm, cell18_ k qm tm, cell17_ k qm tm, cell19_ k qm tm, cell122_ k qm (u.1), cell123_ k qm (u.2), cell16_ k qm sm, cell11_ k qm sm, cell10_ k qm sm, cell9_ k qm sm, cell7_ k qm sm]) := by
  refine g_enter (cc := cX12_layBestOf) (maxL := 13) (ret := none) (by decide) rfl (Nat.le_of_ble_eq_true rfl) ?_
  intro p e s m below meth c A hsz hAe cx hr hP hD hS ls hl
  rw [hAe]
  refine g_q (fun Q hQ => ?_)
  have hx := cx.1.1
  have hb := cx.1.2.1
  have bp0 := i_rng p0
  have bp1 := i_rng p1
  have hl : lv_has ls 13 [(0, .ref (qm 0)), (1, .int p0), (2, .int p1), (3, .long p2)] := hl
  obtain ⟨H, eH⟩ : ∃ H : Heap, H = s.heap := ⟨_, rfl⟩
  obtain ⟨locs, el⟩ : ∃ L : List Loc, L = [] := ⟨_, rfl⟩
  have hP : va_P D vwCl [cell22_ qm sm tm, cell5_ k qm sm, cell13_ k qm sm, cell8_ k qm sm, cell6_ k qm sm, cell15_ k qm sm, cell14_ k qm tm, cell12_ k qm tm, cell18_ k qm tm, cell17_ k qm tm, cell19_ k qm tm, cell21_ k qm tm, cell20_ k qm sm, cell16_ k qm sm, cell11_ k qm sm, cell10_ k qm sm, cell9_ k qm sm, cell7_ k qm sm] H := by rw [eH]; exact hP
  have hD : va_D A [cell22_ qm sm tm, cell5_ k qm sm, cell13_ k qm sm, cell8_ k qm sm, cell6_ k qm sm, cell15_ k qm sm, cell14_ k qm tm, cell12_ k qm tm, cell18_ k qm tm, cell17_ k qm tm, cell19_ k qm tm, cell21_ k qm tm, cell20_ k qm sm, cell16_ k qm sm, cell11_ k qm sm, cell10_ k qm sm, cell9_ k qm sm, cell7_ k qm sm] := hD
  have hS : va_S A s.heap H locs := by rw [eH, el]; exact hS
  suffices goal : W p l e ({ frames := 4, cells := 0, slots := 0, locals := 100 } : Room) s m ([.ref (qm 0), .int p0, .int p1, .long p2] : List Value).toArray below meth c H locs 0 0 Q (F0 m 0 ls []) by rw [eH, el] at goal; exact goal
  refine lv_iconst (v := 0) hx hb dX12_layBestOf_0 (by decide) ?_
  refine lv_istore (lv' := [(5, .int 0), (0, .ref (qm 0)), (1, .int p0), (2, .int p1), (3, .long p2)]) hx hb dX12_layBestOf_1 hl (by decide) rfl (fun ls hl => ?_)
  obtain ⟨rr3_1, err3_1⟩ : ∃ r : (Nat → Int64) × (Nat → Int32), LTs (default : (Nat → Int64) × (Nat → Int32)) (B_X12_layBestOf_3 sm tm p0 p1 p2) 4 ((0 : Int32), (tm 11)) = r := ⟨_, rfl⟩
  have hrr3_1 : J_X12_layBestOf sm tm p0 p1 p2 = rr3_1 := ((exl_X12_layBestOf_0)).trans err3_1
  have hL3 : ∀ (n8 : Nat) (v6 : Int32) (g7 : Nat → Int64) (H : Heap) (locs : List Loc) (ls : Array Slot), 3 - v6.toInt < (n8 : Int) → (0 ≤ v6.toInt ∧ v6.toInt ≤ 3) → (LTs (default : (Nat → Int64) × (Nat → Int32)) (B_X12_layBestOf_3 sm tm p0 p1 p2) n8 (v6, g7) = rr3_1) → va_P D vwCl [cell22_ qm sm tm, cell5_ k qm sm, cell13_ k qm sm, cell8_ k qm sm, cell6_ k qm sm, cell15_ k qm sm, cell14_ k qm tm, cell12_ k qm tm, cell18_ k qm tm, cell17_ k qm tm, cell19_ k qm tm, (qm 11, .inl (k 1, 1500, .inr (.inl g7))), cell20_ k qm sm, cell16_ k qm sm, cell11_ k qm sm, cell10_ k qm sm, cell9_ k qm sm, cell7_ k qm sm] H → va_D A [cell22_ qm sm tm, cell5_ k qm sm, cell13_ k qm sm, cell8_ k qm sm, cell6_ k qm sm, cell15_ k qm sm, cell14_ k qm tm, cell12_ k qm tm, cell18_ k qm tm, cell17_ k qm tm, cell19_ k qm tm, (qm 11, .inl (k 1, 1500, .inr (.inl g7))), cell20_ k qm sm, cell16_ k qm sm, cell11_ k qm sm, cell10_ k qm sm, cell9_ k qm sm, cell7_ k qm sm] → va_S A s.heap H locs → lv_has ls 13 [(5, .int v6), (0, .ref (qm 0)), (1, .int p0), (2, .int p1), (3, .long p2)] → W p l e ({ frames := 4, cells := 0, slots := 0, locals := 100 } : Room) s m ([.ref (qm 0), .int p0, .int p1, .long p2] : List Value).toArray below meth c H locs 0 0 Q (F0 m 3 ls []) := by
    intro n8
    induction n8 with
    | zero => intro v6 g7 H locs ls hmn8 bv6 hzrr3_1 hP hD hS hl; exact absurd hmn8 (by omega)
    | succ n8 ih3 =>
      intro v6 g7 H locs ls hmn8 bv6 hzrr3_1 hP hD hS hl
      refine lv_iload hx hb dX12_layBestOf_3 (lv_at hl 0 rfl) ?_
      refine lv_iconst (v := 3) hx hb dX12_layBestOf_5 (by decide) ?_
      refine lv_icmp_ge (tgt := 29) hx hb dX12_layBestOf_6 (by decide) (fun c9 => ?_) (fun c9 => ?_)
      · have f9 : 3 ≤ v6.toInt := f_le (by decide) rfl c9
        refine lv_iconst (v := 0) hx hb dX12_layBestOf_29 (by decide) ?_
        refine lv_istore (lv' := [(5, .int 0), (0, .ref (qm 0)), (1, .int p0), (2, .int p1), (3, .long p2)]) hx hb dX12_layBestOf_30 hl (by decide) rfl (fun ls hl => ?_)
        obtain ⟨rr32_2, err32_2⟩ : ∃ r : Sum (Int32 × (Nat → Int64)) ((Nat → Int64) × (Nat → Int32)), LTs (Sum.inl default : Sum (Int32 × (Nat → Int64)) ((Nat → Int64) × (Nat → Int32))) (B_X12_layBestOf_32_2 sm tm p0 p1 p2 v6 g7) 151 ((0 : Int32), g7, (sm 12)) = r := ⟨_, rfl⟩
        have hrr32_2 : (B_X12_layBestOf_3 sm tm p0 p1 p2) (v6, g7) = rr32_2 := ((exl_X12_layBestOf_1 c9)).trans err32_2
        have hL32 : ∀ (n61 : Nat) (v58 : Int32) (g59 : Nat → Int64) (g60 : Nat → Int32) (H : Heap) (locs : List Loc) (ls : Array Slot), 150 - v58.toInt < (n61 : Int) → (0 ≤ v58.toInt ∧ v58.toInt ≤ 150) → (LTs (Sum.inl default : Sum (Int32 × (Nat → Int64)) ((Nat → Int64) × (Nat → Int32))) (B_X12_layBestOf_32_2 sm tm p0 p1 p2 v6 g7) n61 (v58, g59, g60) = rr32_2) → va_P D vwCl [cell22_ qm sm tm, cell5_ k qm sm, cell13_ k qm sm, cell8_ k qm sm, cell6_ k qm sm, cell15_ k qm sm, cell14_ k qm tm, cell12_ k qm tm, cell18_ k qm tm, cell17_ k qm tm, cell19_ k qm tm, (qm 11, .inl (k 1, 1500, .inr (.inl g59))), (qm 12, .inl (k 0, 1500, .inl g60)), cell16_ k qm sm, cell11_ k qm sm, cell10_ k qm sm, cell9_ k qm sm, cell7_ k qm sm] H → va_D A [cell22_ qm sm tm, cell5_ k qm sm, cell13_ k qm sm, cell8_ k qm sm, cell6_ k qm sm, cell15_ k qm sm, cell14_ k qm tm, cell12_ k qm tm, cell18_ k qm tm, cell17_ k qm tm, cell19_ k qm tm, (qm 11, .inl (k 1, 1500, .inr (.inl g59))), (qm 12, .inl (k 0, 1500, .inl g60)), cell16_ k qm sm, cell11_ k qm sm, cell10_ k qm sm, cell9_ k qm sm, cell7_ k qm sm] → va_S A s.heap H locs → lv_has ls 13 [(5, .int v58), (0, .ref (qm 0)), (1, .int p0), (2, .int p1), (3, .long p2)] → W p l e ({ frames := 4, cells := 0, slots := 0, locals := 100 } : Room) s m ([.ref (qm 0), .int p0, .int p1, .long p2] : List Value).toArray below meth c H locs 0 0 Q (F0 m 32 ls []) := by
          intro n61
          induction n61 with
          | zero => intro v58 g59 g60 H locs ls hmn61 bv58 hzrr32_2 hP hD hS hl; exact absurd hmn61 (by omega)
          | succ n61 ih32 =>
            intro v58 g59 g60 H locs ls hmn61 bv58 hzrr32_2 hP hD hS hl
            refine lv_iload hx hb dX12_layBestOf_32 (lv_at hl 0 rfl) ?_
            refine lv_sipush (v := 150) hx hb dX12_layBestOf_34 (by decide) ?_
            refine lv_icmp_ge (tgt := 206) hx hb dX12_layBestOf_37 (by decide) (fun c62 => ?_) (fun c62 => ?_)
            · have f62 : 150 ≤ v58.toInt := f_le (by decide) rfl c62
              rw [hQ]
              exact x_v cx hr (g59, g60) hP hD hS (show (g59, g60) = J_X12_layBestOf sm tm p0 p1 p2 from ((hrr3_1.trans (LT_r hzrr3_1 (hrr32_2.trans (LT_r hzrr32_2 (exl_X12_layBestOf_2 c62)))))).symm) dX12_layBestOf_206
            · have f62 : v58.toInt < 150 := f_nle (by decide) rfl c62
              refine lv_sipush (v := 1000) hx hb dX12_layBestOf_40 (by decide) ?_
              refine lv_iload hx hb dX12_layBestOf_43 (lv_at hl 0 rfl) ?_
              refine lv_bipush (v := 30) hx hb dX12_layBestOf_45 (by decide) ?_
              refine lv_idiv hx hb dX12_layBestOf_47 (by decide) (lv_topi (fun v63 e63 => ?_))
              have t63 : v63.toInt = v58.toInt / 30 := by rw [e63]; exact i_div rfl (by decide) (by omega) (by omega) (by omega)
              refine lv_imul hx hb dX12_layBestOf_48 (lv_topi (fun v64 e64 => ?_))
              have t64 : v64.toInt = 1000 * v63.toInt := by rw [e64]; exact i_mul (by decide) rfl (by omega) (by omega)
              refine lv_bipush (v := 100) hx hb dX12_layBestOf_49 (by decide) ?_
              refine lv_iload hx hb dX12_layBestOf_51 (lv_at hl 0 rfl) ?_
              refine lv_bipush (v := 6) hx hb dX12_layBestOf_53 (by decide) ?_
              refine lv_idiv hx hb dX12_layBestOf_55 (by decide) (lv_topi (fun v65 e65 => ?_))
              have t65 : v65.toInt = v58.toInt / 6 := by rw [e65]; exact i_div rfl (by decide) (by omega) (by omega) (by omega)
              refine lv_iconst (v := 5) hx hb dX12_layBestOf_56 (by decide) ?_
              refine lv_irem hx hb dX12_layBestOf_57 (by decide) (lv_topi (fun v66 e66 => ?_))
              have t66 : v66.toInt = v65.toInt % 5 := by rw [e66]; exact i_rem rfl (by decide) (by omega) (by omega) (by omega) (by omega)
              refine lv_imul hx hb dX12_layBestOf_58 (lv_topi (fun v67 e67 => ?_))
              have t67 : v67.toInt = 100 * v66.toInt := by rw [e67]; exact i_mul (by decide) rfl (by omega) (by omega)
              refine lv_iadd hx hb dX12_layBestOf_59 (lv_topi (fun v68 e68 => ?_))
              have t68 : v68.toInt = v64.toInt + v67.toInt := by rw [e68]; exact i_add rfl rfl (by omega) (by omega)
              refine lv_bipush (v := 10) hx hb dX12_layBestOf_60 (by decide) ?_
              refine lv_iload hx hb dX12_layBestOf_62 (lv_at hl 0 rfl) ?_
              refine lv_iconst (v := 3) hx hb dX12_layBestOf_64 (by decide) ?_
              refine lv_idiv hx hb dX12_layBestOf_65 (by decide) (lv_topi (fun v69 e69 => ?_))
              have t69 : v69.toInt = v58.toInt / 3 := by rw [e69]; exact i_div rfl (by decide) (by omega) (by omega) (by omega)
              refine lv_iconst (v := 2) hx hb dX12_layBestOf_66 (by decide) ?_
              refine lv_irem hx hb dX12_layBestOf_67 (by decide) (lv_topi (fun v70 e70 => ?_))
              have t70 : v70.toInt = v69.toInt % 2 := by rw [e70]; exact i_rem rfl (by decide) (by omega) (by omega) (by omega) (by omega)
              refine lv_imul hx hb dX12_layBestOf_68 (lv_topi (fun v71 e71 => ?_))
              have t71 : v71.toInt = 10 * v70.toInt := by rw [e71]; exact i_mul (by decide) rfl (by omega) (by omega)
              refine lv_iadd hx hb dX12_layBestOf_69 (lv_topi (fun v72 e72 => ?_))
              have t72 : v72.toInt = v68.toInt + v71.toInt := by rw [e72]; exact i_add rfl rfl (by omega) (by omega)
              refine lv_iload hx hb dX12_layBestOf_70 (lv_at hl 0 rfl) ?_
              refine lv_iconst (v := 3) hx hb dX12_layBestOf_72 (by decide) ?_
              refine lv_irem hx hb dX12_layBestOf_73 (by decide) (lv_topi (fun v73 e73 => ?_))
              have t73 : v73.toInt = v58.toInt % 3 := by rw [e73]; exact i_rem rfl (by decide) (by omega) (by omega) (by omega) (by omega)
              refine lv_iadd hx hb dX12_layBestOf_74 (lv_topi (fun v74 e74 => ?_))
              have t74 : v74.toInt = v72.toInt + v73.toInt := by rw [e74]; exact i_add rfl rfl (by omega) (by omega)
              refine lv_istore (lv' := [(6, .int v74), (5, .int v58), (0, .ref (qm 0)), (1, .int p0), (2, .int p1), (3, .long p2)]) hx hb dX12_layBestOf_75 hl (by decide) rfl (fun ls hl => ?_)
              refine lv_aload_n hx hb dX12_layBestOf_77 rfl (lv_at hl 2 rfl) ?_
              refine lv_iload_n hx hb dX12_layBestOf_78 rfl (lv_at hl 3 rfl) ?_
              refine lv_iload_n hx hb dX12_layBestOf_79 rfl (lv_at hl 4 rfl) ?_
              refine lv_iload hx hb dX12_layBestOf_80 (lv_at hl 0 rfl) ?_
              refine g_iF (w1 := fun (_ : Unit) => [cell22_ qm sm tm, cell5_ k qm sm, cell13_ k qm sm, cell8_ k qm sm, cell6_ k qm sm, cell15_ k qm sm, cell14_ k qm tm, cell12_ k qm tm, cell18_ k qm tm, cell17_ k qm tm, cell19_ k qm tm, (qm 11, .inl (k 1, 1500, .inr (.inl g59))), (qm 12, .inl (k 0, 1500, .inl g60)), cell16_ k qm sm, cell11_ k qm sm, cell10_ k qm sm, cell9_ k qm sm, cell7_ k qm sm]) (g_runVF (ws := [cell22_ qm sm tm, cell5_ k qm sm, cell13_ k qm sm, cell8_ k qm sm, cell6_ k qm sm, cell15_ k qm sm, cell14_ k qm tm, cell12_ k qm tm, cell18_ k qm tm, cell17_ k qm tm, cell19_ k qm tm, (qm 11, .inl (k 1, 1500, .inr (.inl g59))), (qm 12, .inl (k 0, 1500, .inl g60)), cell16_ k qm sm, cell11_ k qm sm, cell10_ k qm sm, cell9_ k qm sm, cell7_ k qm sm]) (rest := []) cx hP hD hS [.int p0, .int p1, .int v74] (c_X12_after l D k b qm (up2 sm 12 g60) (up2L tm 11 g59) H.size p0 p1 v74 (show 0 ≤ ((sm 2) 0).toInt ∧ ((sm 2) 0).toInt ≤ 5 from by first | decide | omega) (show 0 ≤ p0.toInt ∧ p0.toInt ≤ 4 from by first | decide | omega)) gX12_layBestOf_X12_after rfl rfl rfl nd_X12_after ⟨Nat.le_of_ble_eq_true rfl, Nat.le_of_ble_eq_true rfl⟩ (ci := 10) (q0 := 0) rfl rfl rfl hl.1 rfl (Nat.le_of_ble_eq_true rfl) ⟨Nat.zero_le _, Nat.zero_le _⟩ dX12_layBestOf_82) cx.2.2.1 hD hS (fun r76 _ H locs hw75 hP hD hS => ?_)
              have w77 : r76 = J_X12_after (up2 sm 12 g60) (up2L tm 11 g59) p0 p1 v74 := hw75
              clear hw75
              refine lv_istore (lv' := [(7, .int r76), (6, .int v74), (5, .int v58), (0, .ref (qm 0)), (1, .int p0), (2, .int p1), (3, .long p2)]) hx hb dX12_layBestOf_85 hl (by decide) rfl (fun ls hl => ?_)
              refine lv_iload hx hb dX12_layBestOf_87 (lv_at hl 0 rfl) ?_
              refine lv_bipush (v := (-9)) hx hb dX12_layBestOf_89 (by decide) ?_
              refine lv_icmp_eq (tgt := 200) hx hb dX12_layBestOf_91 (by decide) (fun c79 => ?_) (fun c79 => ?_)
              · have f79 : r76.toInt = (-9) := f_eq rfl (by decide) c79
                obtain ⟨v80, e80⟩ : ∃ z : Int32, z = v58 + 1 := ⟨_, rfl⟩
                refine lv_iinc (v := v80) (lv' := [(5, .int v80), (7, .int r76), (6, .int v74), (0, .ref (qm 0)), (1, .int p0), (2, .int p1), (3, .long p2)]) hx hb dX12_layBestOf_200 hl (k := 2) rfl (by rw [e80]; rfl) (by decide) rfl (fun ls hl => ?_)
                have t80 : v80.toInt = v58.toInt + 1 := by rw [e80]; exact i_add rfl (by decide) (by omega) (by omega)
                refine lv_goto (tgt := 32) hx hb dX12_layBestOf_203 (by decide) ?_
                exact ih32 v80 g59 g60 _ _ _ (by omega) (by first | decide | omega) (LT_g hzrr32_2 (exl_X12_layBestOf_3 e63 e64 e65 e66 e67 e68 e69 e70 e71 e72 e73 e74 e80 c62 w77 c79)) hP hD hS (lv_sub hl [0, 3, 4, 5, 6] rfl)
              · have f79 : ¬ r76.toInt = (-9) := f_ne rfl (by decide) c79
                refine lv_aload_n hx hb dX12_layBestOf_94 rfl (lv_at hl 3 rfl) ?_
                refine lv_iload hx hb dX12_layBestOf_95 (lv_at hl 0 rfl) ?_
                refine lv_iload hx hb dX12_layBestOf_97 (lv_at hl 1 rfl) ?_
                refine lv_bipush (v := 10) hx hb dX12_layBestOf_99 (by decide) ?_
                refine lv_irem hx hb dX12_layBestOf_101 (by decide) (lv_topi (fun v81 e81 => ?_))
                have t81 : v81.toInt = v74.toInt % 10 := by rw [e81]; exact i_rem rfl (by decide) (by omega) (by omega) (by omega) (by omega)
                refine g_lF (w1 := fun (_ : Unit) => [cell22_ qm sm tm, cell5_ k qm sm, cell13_ k qm sm, cell8_ k qm sm, cell6_ k qm sm, cell15_ k qm sm, cell14_ k qm tm, cell12_ k qm tm, cell18_ k qm tm, cell17_ k qm tm, cell19_ k qm tm, (qm 11, .inl (k 1, 1500, .inr (.inl g59))), (qm 12, .inl (k 0, 1500, .inl g60)), cell16_ k qm sm, cell11_ k qm sm, cell10_ k qm sm, cell9_ k qm sm, cell7_ k qm sm]) (g_runVF (ws := [cell22_ qm sm tm, cell5_ k qm sm, cell13_ k qm sm, cell8_ k qm sm, cell6_ k qm sm, cell15_ k qm sm, cell14_ k qm tm, cell12_ k qm tm, cell18_ k qm tm, cell17_ k qm tm, cell19_ k qm tm, (qm 11, .inl (k 1, 1500, .inr (.inl g59))), (qm 12, .inl (k 0, 1500, .inl g60)), cell16_ k qm sm, cell11_ k qm sm, cell10_ k qm sm, cell9_ k qm sm, cell7_ k qm sm]) (rest := []) cx hP hD hS [.int r76, .int v81] (c_X12_onwardBest l D k b qm (up2 sm 12 g60) (up2L tm 11 g59) H.size r76 v81 (show 0 ≤ ((sm 2) 1).toInt ∧ ((sm 2) 1).toInt ≤ 4 from by first | decide | omega) (show 0 ≤ v81.toInt ∧ v81.toInt ≤ 2 from by first | decide | omega)) gX12_layBestOf_X12_onwardBest rfl rfl rfl nd_X12_onwardBest ⟨Nat.le_of_ble_eq_true rfl, Nat.le_of_ble_eq_true rfl⟩ (ci := 10) (q0 := 0) rfl rfl rfl hl.1 rfl (Nat.le_of_ble_eq_true rfl) ⟨Nat.zero_le _, Nat.zero_le _⟩ dX12_layBestOf_102) cx.2.2.1 hD hS (fun r83 _ H locs hw82 hP hD hS => ?_)
                have w84 : r83 = J_X12_onwardBest (up2 sm 12 g60) (up2L tm 11 g59) r76 v81 := hw82
                clear hw82
                refine lv_lstore (lv' := [(8, .long r83), (7, .int r76), (6, .int v74), (5, .int v58), (0, .ref (qm 0)), (1, .int p0), (2, .int p1), (3, .long p2)]) hx hb dX12_layBestOf_105 hl (by decide) rfl (fun ls hl => ?_)
                refine lv_iconst (v := 0) hx hb dX12_layBestOf_107 (by decide) ?_
                refine lv_istore (lv' := [(10, .int 0), (8, .long r83), (7, .int r76), (6, .int v74), (5, .int v58), (0, .ref (qm 0)), (1, .int p0), (2, .int p1), (3, .long p2)]) hx hb dX12_layBestOf_108 hl (by decide) rfl (fun ls hl => ?_)
                obtain ⟨rr110_3, err110_3⟩ : ∃ r : Sum (Int32 × (Nat → Int64) × (Nat → Int32)) (Sum (Int32 × (Nat → Int64)) ((Nat → Int64) × (Nat → Int32))), LTs (Sum.inl default : Sum (Int32 × (Nat → Int64) × (Nat → Int32)) (Sum (Int32 × (Nat → Int64)) ((Nat → Int64) × (Nat → Int32)))) (B_X12_layBestOf_110_3 sm tm p0 p1 p2 v6 g7 v58 g59 g60 r76 r83) 4 ((0 : Int32), g59, g60) = r := ⟨_, rfl⟩
                have hrr110_3 : (B_X12_layBestOf_32_2 sm tm p0 p1 p2 v6 g7) (v58, g59, g60) = rr110_3 := ((exl_X12_layBestOf_4 e63 e64 e65 e66 e67 e68 e69 e70 e71 e72 e73 e74 e81 c62 w77 c79 w84)).trans err110_3
                have hL110 : ∀ (n115 : Nat) (v112 : Int32) (g113 : Nat → Int64) (g114 : Nat → Int32) (H : Heap) (locs : List Loc) (ls : Array Slot), 3 - v112.toInt < (n115 : Int) → (0 ≤ v112.toInt ∧ v112.toInt ≤ 3) → (LTs (Sum.inl default : Sum (Int32 × (Nat → Int64) × (Nat → Int32)) (Sum (Int32 × (Nat → Int64)) ((Nat → Int64) × (Nat → Int32)))) (B_X12_layBestOf_110_3 sm tm p0 p1 p2 v6 g7 v58 g59 g60 r76 r83) n115 (v112, g113, g114) = rr110_3) → va_P D vwCl [cell22_ qm sm tm, cell5_ k qm sm, cell13_ k qm sm, cell8_ k qm sm, cell6_ k qm sm, cell15_ k qm sm, cell14_ k qm tm, cell12_ k qm tm, cell18_ k qm tm, cell17_ k qm tm, cell19_ k qm tm, (qm 11, .inl (k 1, 1500, .inr (.inl g113))), (qm 12, .inl (k 0, 1500, .inl g114)), cell16_ k qm sm, cell11_ k qm sm, cell10_ k qm sm, cell9_ k qm sm, cell7_ k qm sm] H → va_D A [cell22_ qm sm tm, cell5_ k qm sm, cell13_ k qm sm, cell8_ k qm sm, cell6_ k qm sm, cell15_ k qm sm, cell14_ k qm tm, cell12_ k qm tm, cell18_ k qm tm, cell17_ k qm tm, cell19_ k qm tm, (qm 11, .inl (k 1, 1500, .inr (.inl g113))), (qm 12, .inl (k 0, 1500, .inl g114)), cell16_ k qm sm, cell11_ k qm sm, cell10_ k qm sm, cell9_ k qm sm, cell7_ k qm sm] → va_S A s.heap H locs → lv_has ls 13 [(10, .int v112), (8, .long r83), (7, .int r76), (6, .int v74), (5, .int v58), (0, .ref (qm 0)), (1, .int p0), (2, .int p1), (3, .long p2)] → W p l e ({ frames := 4, cells := 0, slots := 0, locals := 100 } : Room) s m ([.ref (qm 0), .int p0, .int p1, .long p2] : List Value).toArray below meth c H locs 0 0 Q (F0 m 110 ls []) := by
                  intro n115
                  induction n115 with
                  | zero => intro v112 g113 g114 H locs ls hmn115 bv112 hzrr110_3 hP hD hS hl; exact absurd hmn115 (by omega)
                  | succ n115 ih110 =>
                    intro v112 g113 g114 H locs ls hmn115 bv112 hzrr110_3 hP hD hS hl
                    refine lv_iload hx hb dX12_layBestOf_110 (lv_at hl 0 rfl) ?_
                    refine lv_iconst (v := 3) hx hb dX12_layBestOf_112 (by decide) ?_
                    refine lv_icmp_ge (tgt := 200) hx hb dX12_layBestOf_113 (by decide) (fun c116 => ?_) (fun c116 => ?_)
                    · have f116 : 3 ≤ v112.toInt := f_le (by decide) rfl c116
                      obtain ⟨v117, e117⟩ : ∃ z : Int32, z = v58 + 1 := ⟨_, rfl⟩
                      refine lv_iinc (v := v117) (lv' := [(5, .int v117), (10, .int v112), (8, .long r83), (7, .int r76), (6, .int v74), (0, .ref (qm 0)), (1, .int p0), (2, .int p1), (3, .long p2)]) hx hb dX12_layBestOf_200 hl (k := 4) rfl (by rw [e117]; rfl) (by decide) rfl (fun ls hl => ?_)
                      have t117 : v117.toInt = v58.toInt + 1 := by rw [e117]; exact i_add rfl (by decide) (by omega) (by omega)
                      refine lv_goto (tgt := 32) hx hb dX12_layBestOf_203 (by decide) ?_
                      exact ih32 v117 g113 g114 _ _ _ (by omega) (by first | decide | omega) (LT_g hzrr32_2 (hrr110_3.trans (LT_r hzrr110_3 (exl_X12_layBestOf_5 e117 c116)))) hP hD hS (lv_sub hl [0, 5, 6, 7, 8] rfl)
                    · have f116 : v112.toInt < 3 := f_nle (by decide) rfl c116
                      refine lv_aload_n hx hb dX12_layBestOf_116 rfl (lv_at hl 5 rfl) ?_
                      refine lv_iload_n hx hb dX12_layBestOf_117 rfl (lv_at hl 6 rfl) ?_
                      refine lv_iload hx hb dX12_layBestOf_118 (lv_at hl 2 rfl) ?_
                      refine lv_iload hx hb dX12_layBestOf_120 (lv_at hl 0 rfl) ?_
                      refine lv_iload hx hb dX12_layBestOf_122 (lv_at hl 3 rfl) ?_
                      refine g_iF (w1 := fun (_ : Unit) => [cell22_ qm sm tm, cell5_ k qm sm, cell13_ k qm sm, cell8_ k qm sm, cell6_ k qm sm, cell15_ k qm sm, cell14_ k qm tm, cell12_ k qm tm, cell18_ k qm tm, cell17_ k qm tm, cell19_ k qm tm, (qm 11, .inl (k 1, 1500, .inr (.inl g113))), (qm 12, .inl (k 0, 1500, .inl g114)), cell16_ k qm sm, cell11_ k qm sm, cell10_ k qm sm, cell9_ k qm sm, cell7_ k qm sm]) (g_runVF (ws := [cell22_ qm sm tm, cell5_ k qm sm, cell13_ k qm sm, cell8_ k qm sm, cell6_ k qm sm, cell15_ k qm sm, cell14_ k qm tm, cell12_ k qm tm, cell18_ k qm tm, cell17_ k qm tm, cell19_ k qm tm, (qm 11, .inl (k 1, 1500, .inr (.inl g113))), (qm 12, .inl (k 0, 1500, .inl g114)), cell16_ k qm sm, cell11_ k qm sm, cell10_ k qm sm, cell9_ k qm sm, cell7_ k qm sm]) (rest := []) cx hP hD hS [.int p0, .int r76, .int v112, .int v74] (c_X12_costOf l D k b qm (up2 sm 12 g114) (up2L tm 11 g113) H.size p0 r76 v112 v74 (show 0 ≤ p0.toInt ∧ p0.toInt ≤ 4 from by first | decide | omega)) gX12_layBestOf_X12_costOf rfl rfl rfl nd_X12_costOf ⟨Nat.le_of_ble_eq_true rfl, Nat.le_of_ble_eq_true rfl⟩ (ci := 10) (q0 := 0) rfl rfl rfl hl.1 rfl (Nat.le_of_ble_eq_true rfl) ⟨Nat.zero_le _, Nat.zero_le _⟩ dX12_layBestOf_124) cx.2.2.1 hD hS (fun r119 _ H locs hw118 hP hD hS => ?_)
                      have w120 : r119 = J_X12_costOf (up2 sm 12 g114) (up2L tm 11 g113) p0 r76 v112 v74 := hw118
                      clear hw118
                      obtain ⟨v122, e122⟩ : ∃ z : Int64, z = (r119 : Int32).toInt64 := ⟨_, rfl⟩
                      refine lv_i2l (v := v122) hx hb dX12_layBestOf_127 e122.symm ?_
                      refine lv_lload_n hx hb dX12_layBestOf_128 rfl (lv_at hl 8 rfl) ?_
                      refine lv_lmul hx hb dX12_layBestOf_129 (lv_topl (fun v123 e123 => ?_))
                      refine lv_lload hx hb dX12_layBestOf_130 (lv_at hl 1 rfl) ?_
                      refine lv_ladd hx hb dX12_layBestOf_132 (lv_topl (fun v124 e124 => ?_))
                      refine lv_lstore (lv' := [(11, .long v124), (10, .int v112), (8, .long r83), (7, .int r76), (6, .int v74), (5, .int v58), (0, .ref (qm 0)), (1, .int p0), (2, .int p1), (3, .long p2)]) hx hb dX12_layBestOf_133 hl (by decide) rfl (fun ls hl => ?_)
                      refine lv_aload_n hx hb dX12_layBestOf_135 rfl (lv_at hl 6 rfl) ?_
                      refine g_get cx hP iw_X12_layBestOf_X12 0 rfl rfl 19 (by decide) rfl fw_X12_layBestOf_41 rfl dX12_layBestOf_136 ?_
                      refine lv_iconst (v := 3) hx hb dX12_layBestOf_139 (by decide) ?_
                      refine lv_iload_n hx hb dX12_layBestOf_140 rfl (lv_at hl 8 rfl) ?_
                      refine lv_imul hx hb dX12_layBestOf_141 (lv_topi (fun v125 e125 => ?_))
                      have t125 : v125.toInt = 3 * p1.toInt := by rw [e125]; exact i_mul (by decide) rfl (by omega) (by omega)
                      refine lv_iload hx hb dX12_layBestOf_142 (lv_at hl 1 rfl) ?_
                      refine lv_iadd hx hb dX12_layBestOf_144 (lv_topi (fun v126 e126 => ?_))
                      have t126 : v126.toInt = v125.toInt + v112.toInt := by rw [e126]; exact i_add rfl rfl (by omega) (by omega)
                      have hn127 : vp_in v126 1500 := f_in (a := v126.toInt) rfl (by omega) (by omega)
                      refine va_lald hx hb cx.2.1 hP 11 1 rfl rfl hn127 dX12_layBestOf_145 (lv_topl (fun v128 e128 => ?_))
                      refine lv_lconst (v := 0) hx hb dX12_layBestOf_146 (by decide) ?_
                      refine W.lcmp hx hb dX12_layBestOf_147 (lv_topi (fun v129 e129 => ?_))
                      refine lv_if_lt (tgt := 168) hx hb dX12_layBestOf_148 (by decide) (fun c130 => ?_) (fun c130 => ?_)
                      · have f130 : v129.toInt < 0 := f_lt rfl (by decide) c130
                        refine lv_aload_n hx hb dX12_layBestOf_168 rfl (lv_at hl 6 rfl) ?_
                        refine g_get cx hP iw_X12_layBestOf_X12 0 rfl rfl 19 (by decide) rfl fw_X12_layBestOf_41 rfl dX12_layBestOf_169 ?_
                        refine lv_iconst (v := 3) hx hb dX12_layBestOf_172 (by decide) ?_
                        refine lv_iload_n hx hb dX12_layBestOf_173 rfl (lv_at hl 8 rfl) ?_
                        refine lv_imul hx hb dX12_layBestOf_174 (lv_topi (fun v131 e131 => ?_))
                        have t131 : v131.toInt = 3 * p1.toInt := by rw [e131]; exact i_mul (by decide) rfl (by omega) (by omega)
                        refine lv_iload hx hb dX12_layBestOf_175 (lv_at hl 1 rfl) ?_
                        refine lv_iadd hx hb dX12_layBestOf_177 (lv_topi (fun v132 e132 => ?_))
                        have t132 : v132.toInt = v131.toInt + v112.toInt := by rw [e132]; exact i_add rfl rfl (by omega) (by omega)
                        refine lv_lload hx hb dX12_layBestOf_178 (lv_at hl 0 rfl) ?_
                        have hn133 : vp_in v132 1500 := f_in (a := v132.toInt) rfl (by omega) (by omega)
                        refine va_last hx hb cx.2.1 hP hD hS 11 1 rfl rfl hn133 dX12_layBestOf_180 (fun H locs hP hD hS => ?_)
                        obtain ⟨g134, eg134⟩ : ∃ g : Nat → Int64, g = vp_updL g113 (v132).toNatClampNeg v124 := ⟨_, rfl⟩
                        rw [← eg134] at hP hD
                        have hP : va_P D vwCl [cell22_ qm sm tm, cell5_ k qm sm, cell13_ k qm sm, cell8_ k qm sm, cell6_ k qm sm, cell15_ k qm sm, cell14_ k qm tm, cell12_ k qm tm, cell18_ k qm tm, cell17_ k qm tm, cell19_ k qm tm, (qm 11, .inl (k 1, 1500, .inr (.inl g134))), (qm 12, .inl (k 0, 1500, .inl g114)), cell16_ k qm sm, cell11_ k qm sm, cell10_ k qm sm, cell9_ k qm sm, cell7_ k qm sm] H := hP
                        have hD : va_D A [cell22_ qm sm tm, cell5_ k qm sm, cell13_ k qm sm, cell8_ k qm sm, cell6_ k qm sm, cell15_ k qm sm, cell14_ k qm tm, cell12_ k qm tm, cell18_ k qm tm, cell17_ k qm tm, cell19_ k qm tm, (qm 11, .inl (k 1, 1500, .inr (.inl g134))), (qm 12, .inl (k 0, 1500, .inl g114)), cell16_ k qm sm, cell11_ k qm sm, cell10_ k qm sm, cell9_ k qm sm, cell7_ k qm sm] := hD
                        refine lv_aload_n hx hb dX12_layBestOf_181 rfl (lv_at hl 6 rfl) ?_
                        refine g_get cx hP iw_X12_layBestOf_X12 0 rfl rfl 20 (by decide) rfl fw_X12_layBestOf_44 rfl dX12_layBestOf_182 ?_
                        refine lv_iconst (v := 3) hx hb dX12_layBestOf_185 (by decide) ?_
                        refine lv_iload_n hx hb dX12_layBestOf_186 rfl (lv_at hl 8 rfl) ?_
                        refine lv_imul hx hb dX12_layBestOf_187 (lv_topi (fun v135 e135 => ?_))
                        have t135 : v135.toInt = 3 * p1.toInt := by rw [e135]; exact i_mul (by decide) rfl (by omega) (by omega)
                        refine lv_iload hx hb dX12_layBestOf_188 (lv_at hl 1 rfl) ?_
                        refine lv_iadd hx hb dX12_layBestOf_190 (lv_topi (fun v136 e136 => ?_))
                        have t136 : v136.toInt = v135.toInt + v112.toInt := by rw [e136]; exact i_add rfl rfl (by omega) (by omega)
                        refine lv_iload hx hb dX12_layBestOf_191 (lv_at hl 4 rfl) ?_
                        have hn137 : vp_in v136 1500 := f_in (a := v136.toInt) rfl (by omega) (by omega)
                        refine va_iast hx hb cx.2.1 hP hD hS 12 0 rfl rfl hn137 dX12_layBestOf_193 (fun H locs hP hD hS => ?_)
                        obtain ⟨g138, eg138⟩ : ∃ g : Nat → Int32, g = upd g114 (v136).toNatClampNeg v74 := ⟨_, rfl⟩
                        rw [← eg138] at hP hD
                        have hP : va_P D vwCl [cell22_ qm sm tm, cell5_ k qm sm, cell13_ k qm sm, cell8_ k qm sm, cell6_ k qm sm, cell15_ k qm sm, cell14_ k qm tm, cell12_ k qm tm, cell18_ k qm tm, cell17_ k qm tm, cell19_ k qm tm, (qm 11, .inl (k 1, 1500, .inr (.inl g134))), (qm 12, .inl (k 0, 1500, .inl g138)), cell16_ k qm sm, cell11_ k qm sm, cell10_ k qm sm, cell9_ k qm sm, cell7_ k qm sm] H := hP
                        have hD : va_D A [cell22_ qm sm tm, cell5_ k qm sm, cell13_ k qm sm, cell8_ k qm sm, cell6_ k qm sm, cell15_ k qm sm, cell14_ k qm tm, cell12_ k qm tm, cell18_ k qm tm, cell17_ k qm tm, cell19_ k qm tm, (qm 11, .inl (k 1, 1500, .inr (.inl g134))), (qm 12, .inl (k 0, 1500, .inl g138)), cell16_ k qm sm, cell11_ k qm sm, cell10_ k qm sm, cell9_ k qm sm, cell7_ k qm sm] := hD
                        obtain ⟨v139, e139⟩ : ∃ z : Int32, z = v112 + 1 := ⟨_, rfl⟩
                        refine lv_iinc (v := v139) (lv' := [(10, .int v139), (11, .long v124), (8, .long r83), (7, .int r76), (6, .int v74), (5, .int v58), (0, .ref (qm 0)), (1, .int p0), (2, .int p1), (3, .long p2)]) hx hb dX12_layBestOf_194 hl (k := 1) rfl (by rw [e139]; rfl) (by decide) rfl (fun ls hl => ?_)
                        have t139 : v139.toInt = v112.toInt + 1 := by rw [e139]; exact i_add rfl (by decide) (by omega) (by omega)
                        refine lv_goto (tgt := 110) hx hb dX12_layBestOf_197 (by decide) ?_
                        exact ih110 v139 g134 g138 _ _ _ (by omega) (by first | decide | omega) (LT_g hzrr110_3 (exl_X12_layBestOf_6 e63 e64 e65 e66 e67 e68 e69 e70 e71 e72 e73 e74 e122 e123 e124 e125 e126 e128 e129 e131 e132 eg134 e135 e136 eg138 e139 c116 w120 c130)) hP hD hS (lv_sub hl [0, 2, 3, 4, 5, 6, 7, 8, 9] rfl)
                      · have f130 : 0 ≤ v129.toInt := f_nlt rfl (by decide) c130
                        refine lv_lload hx hb dX12_layBestOf_151 (lv_at hl 0 rfl) ?_
                        refine lv_aload_n hx hb dX12_layBestOf_153 rfl (lv_at hl 6 rfl) ?_
                        refine g_get cx hP iw_X12_layBestOf_X12 0 rfl rfl 19 (by decide) rfl fw_X12_layBestOf_41 rfl dX12_layBestOf_154 ?_
                        refine lv_iconst (v := 3) hx hb dX12_layBestOf_157 (by decide) ?_
                        refine lv_iload_n hx hb dX12_layBestOf_158 rfl (lv_at hl 8 rfl) ?_
                        refine lv_imul hx hb dX12_layBestOf_159 (lv_topi (fun v140 e140 => ?_))
                        have t140 : v140.toInt = 3 * p1.toInt := by rw [e140]; exact i_mul (by decide) rfl (by omega) (by omega)
                        refine lv_iload hx hb dX12_layBestOf_160 (lv_at hl 1 rfl) ?_
                        refine lv_iadd hx hb dX12_layBestOf_162 (lv_topi (fun v141 e141 => ?_))
                        have t141 : v141.toInt = v140.toInt + v112.toInt := by rw [e141]; exact i_add rfl rfl (by omega) (by omega)
                        have hn142 : vp_in v141 1500 := f_in (a := v141.toInt) rfl (by omega) (by omega)
                        refine va_lald hx hb cx.2.1 hP 11 1 rfl rfl hn142 dX12_layBestOf_163 (lv_topl (fun v143 e143 => ?_))
                        refine W.lcmp hx hb dX12_layBestOf_164 (lv_topi (fun v144 e144 => ?_))
                        refine lv_if_ge (tgt := 194) hx hb dX12_layBestOf_165 (by decide) (fun c145 => ?_) (fun c145 => ?_)
                        · have f145 : 0 ≤ v144.toInt := f_le (by decide) rfl c145
                          obtain ⟨v146, e146⟩ : ∃ z : Int32, z = v112 + 1 := ⟨_, rfl⟩
                          refine lv_iinc (v := v146) (lv' := [(10, .int v146), (11, .long v124), (8, .long r83), (7, .int r76), (6, .int v74), (5, .int v58), (0, .ref (qm 0)), (1, .int p0), (2, .int p1), (3, .long p2)]) hx hb dX12_layBestOf_194 hl (k := 1) rfl (by rw [e146]; rfl) (by decide) rfl (fun ls hl => ?_)
                          have t146 : v146.toInt = v112.toInt + 1 := by rw [e146]; exact i_add rfl (by decide) (by omega) (by omega)
                          refine lv_goto (tgt := 110) hx hb dX12_layBestOf_197 (by decide) ?_
                          exact ih110 v146 g113 g114 _ _ _ (by omega) (by first | decide | omega) (LT_g hzrr110_3 (exl_X12_layBestOf_7 e63 e64 e65 e66 e67 e68 e69 e70 e71 e72 e73 e74 e122 e123 e124 e125 e126 e128 e129 e140 e141 e143 e144 e146 c116 w120 c130 c145)) hP hD hS (lv_sub hl [0, 2, 3, 4, 5, 6, 7, 8, 9] rfl)
                        · have f145 : v144.toInt < 0 := f_nle (by decide) rfl c145
                          refine lv_aload_n hx hb dX12_layBestOf_168 rfl (lv_at hl 6 rfl) ?_
                          refine g_get cx hP iw_X12_layBestOf_X12 0 rfl rfl 19 (by decide) rfl fw_X12_layBestOf_41 rfl dX12_layBestOf_169 ?_
                          refine lv_iconst (v := 3) hx hb dX12_layBestOf_172 (by decide) ?_
                          refine lv_iload_n hx hb dX12_layBestOf_173 rfl (lv_at hl 8 rfl) ?_
                          refine lv_imul hx hb dX12_layBestOf_174 (lv_topi (fun v147 e147 => ?_))
                          have t147 : v147.toInt = 3 * p1.toInt := by rw [e147]; exact i_mul (by decide) rfl (by omega) (by omega)
                          refine lv_iload hx hb dX12_layBestOf_175 (lv_at hl 1 rfl) ?_
                          refine lv_iadd hx hb dX12_layBestOf_177 (lv_topi (fun v148 e148 => ?_))
                          have t148 : v148.toInt = v147.toInt + v112.toInt := by rw [e148]; exact i_add rfl rfl (by omega) (by omega)
                          refine lv_lload hx hb dX12_layBestOf_178 (lv_at hl 0 rfl) ?_
                          have hn149 : vp_in v148 1500 := f_in (a := v148.toInt) rfl (by omega) (by omega)
                          refine va_last hx hb cx.2.1 hP hD hS 11 1 rfl rfl hn149 dX12_layBestOf_180 (fun H locs hP hD hS => ?_)
                          obtain ⟨g150, eg150⟩ : ∃ g : Nat → Int64, g = vp_updL g113 (v148).toNatClampNeg v124 := ⟨_, rfl⟩
                          rw [← eg150] at hP hD
                          have hP : va_P D vwCl [cell22_ qm sm tm, cell5_ k qm sm, cell13_ k qm sm, cell8_ k qm sm, cell6_ k qm sm, cell15_ k qm sm, cell14_ k qm tm, cell12_ k qm tm, cell18_ k qm tm, cell17_ k qm tm, cell19_ k qm tm, (qm 11, .inl (k 1, 1500, .inr (.inl g150))), (qm 12, .inl (k 0, 1500, .inl g114)), cell16_ k qm sm, cell11_ k qm sm, cell10_ k qm sm, cell9_ k qm sm, cell7_ k qm sm] H := hP
                          have hD : va_D A [cell22_ qm sm tm, cell5_ k qm sm, cell13_ k qm sm, cell8_ k qm sm, cell6_ k qm sm, cell15_ k qm sm, cell14_ k qm tm, cell12_ k qm tm, cell18_ k qm tm, cell17_ k qm tm, cell19_ k qm tm, (qm 11, .inl (k 1, 1500, .inr (.inl g150))), (qm 12, .inl (k 0, 1500, .inl g114)), cell16_ k qm sm, cell11_ k qm sm, cell10_ k qm sm, cell9_ k qm sm, cell7_ k qm sm] := hD
                          refine lv_aload_n hx hb dX12_layBestOf_181 rfl (lv_at hl 6 rfl) ?_
                          refine g_get cx hP iw_X12_layBestOf_X12 0 rfl rfl 20 (by decide) rfl fw_X12_layBestOf_44 rfl dX12_layBestOf_182 ?_
                          refine lv_iconst (v := 3) hx hb dX12_layBestOf_185 (by decide) ?_
                          refine lv_iload_n hx hb dX12_layBestOf_186 rfl (lv_at hl 8 rfl) ?_
                          refine lv_imul hx hb dX12_layBestOf_187 (lv_topi (fun v151 e151 => ?_))
                          have t151 : v151.toInt = 3 * p1.toInt := by rw [e151]; exact i_mul (by decide) rfl (by omega) (by omega)
                          refine lv_iload hx hb dX12_layBestOf_188 (lv_at hl 1 rfl) ?_
                          refine lv_iadd hx hb dX12_layBestOf_190 (lv_topi (fun v152 e152 => ?_))
                          have t152 : v152.toInt = v151.toInt + v112.toInt := by rw [e152]; exact i_add rfl rfl (by omega) (by omega)
                          refine lv_iload hx hb dX12_layBestOf_191 (lv_at hl 4 rfl) ?_
                          have hn153 : vp_in v152 1500 := f_in (a := v152.toInt) rfl (by omega) (by omega)
                          refine va_iast hx hb cx.2.1 hP hD hS 12 0 rfl rfl hn153 dX12_layBestOf_193 (fun H locs hP hD hS => ?_)
                          obtain ⟨g154, eg154⟩ : ∃ g : Nat → Int32, g = upd g114 (v152).toNatClampNeg v74 := ⟨_, rfl⟩
                          rw [← eg154] at hP hD
                          have hP : va_P D vwCl [cell22_ qm sm tm, cell5_ k qm sm, cell13_ k qm sm, cell8_ k qm sm, cell6_ k qm sm, cell15_ k qm sm, cell14_ k qm tm, cell12_ k qm tm, cell18_ k qm tm, cell17_ k qm tm, cell19_ k qm tm, (qm 11, .inl (k 1, 1500, .inr (.inl g150))), (qm 12, .inl (k 0, 1500, .inl g154)), cell16_ k qm sm, cell11_ k qm sm, cell10_ k qm sm, cell9_ k qm sm, cell7_ k qm sm] H := hP
                          have hD : va_D A [cell22_ qm sm tm, cell5_ k qm sm, cell13_ k qm sm, cell8_ k qm sm, cell6_ k qm sm, cell15_ k qm sm, cell14_ k qm tm, cell12_ k qm tm, cell18_ k qm tm, cell17_ k qm tm, cell19_ k qm tm, (qm 11, .inl (k 1, 1500, .inr (.inl g150))), (qm 12, .inl (k 0, 1500, .inl g154)), cell16_ k qm sm, cell11_ k qm sm, cell10_ k qm sm, cell9_ k qm sm, cell7_ k qm sm] := hD
                          obtain ⟨v155, e155⟩ : ∃ z : Int32, z = v112 + 1 := ⟨_, rfl⟩
                          refine lv_iinc (v := v155) (lv' := [(10, .int v155), (11, .long v124), (8, .long r83), (7, .int r76), (6, .int v74), (5, .int v58), (0, .ref (qm 0)), (1, .int p0), (2, .int p1), (3, .long p2)]) hx hb dX12_layBestOf_194 hl (k := 1) rfl (by rw [e155]; rfl) (by decide) rfl (fun ls hl => ?_)
                          have t155 : v155.toInt = v112.toInt + 1 := by rw [e155]; exact i_add rfl (by decide) (by omega) (by omega)
                          refine lv_goto (tgt := 110) hx hb dX12_layBestOf_197 (by decide) ?_
                          exact ih110 v155 g150 g154 _ _ _ (by omega) (by first | decide | omega) (LT_g hzrr110_3 (exl_X12_layBestOf_8 e63 e64 e65 e66 e67 e68 e69 e70 e71 e72 e73 e74 e122 e123 e124 e125 e126 e128 e129 e140 e141 e143 e144 e147 e148 eg150 e151 e152 eg154 e155 c116 w120 c130 c145)) hP hD hS (lv_sub hl [0, 2, 3, 4, 5, 6, 7, 8, 9] rfl)
                have hlit156 : (0 : Int32).toInt = 0 := by decide
                exact hL110 (4) 0 g59 g60 _ _ _ (by omega) (by first | decide | omega) err110_3 hP hD hS (lv_sub hl [0, 1, 2, 3, 4, 5, 6, 7, 8] rfl)
        have hlit157 : (0 : Int32).toInt = 0 := by decide
        exact hL32 (151) 0 g7 (sm 12) _ _ _ (by omega) (by first | decide | omega) err32_2 hP hD hS (lv_sub hl [0, 1, 2, 3, 4] rfl)
      · have f9 : v6.toInt < 3 := f_nle (by decide) rfl c9
        refine lv_aload_n hx hb dX12_layBestOf_9 rfl (lv_at hl 1 rfl) ?_
        refine g_get cx hP iw_X12_layBestOf_X12 0 rfl rfl 19 (by decide) rfl fw_X12_layBestOf_41 rfl dX12_layBestOf_10 ?_
        refine lv_iconst (v := 3) hx hb dX12_layBestOf_13 (by decide) ?_
        refine lv_iload_n hx hb dX12_layBestOf_14 rfl (lv_at hl 3 rfl) ?_
        refine lv_imul hx hb dX12_layBestOf_15 (lv_topi (fun v158 e158 => ?_))
        have t158 : v158.toInt = 3 * p1.toInt := by rw [e158]; exact i_mul (by decide) rfl (by omega) (by omega)
        refine lv_iload hx hb dX12_layBestOf_16 (lv_at hl 0 rfl) ?_
        refine lv_iadd hx hb dX12_layBestOf_18 (lv_topi (fun v159 e159 => ?_))
        have t159 : v159.toInt = v158.toInt + v6.toInt := by rw [e159]; exact i_add rfl rfl (by omega) (by omega)
        refine lv_ldc2 (v := (-1)) hx hb cx.1.2.2.2.1 (cx.1.2.2.2.2 _ kJ_X12_layBestOf_221) dX12_layBestOf_19 ?_
        have hn160 : vp_in v159 1500 := f_in (a := v159.toInt) rfl (by omega) (by omega)
        refine va_last hx hb cx.2.1 hP hD hS 11 1 rfl rfl hn160 dX12_layBestOf_22 (fun H locs hP hD hS => ?_)
        obtain ⟨g161, eg161⟩ : ∃ g : Nat → Int64, g = vp_updL g7 (v159).toNatClampNeg (-1) := ⟨_, rfl⟩
        rw [← eg161] at hP hD
        have hP : va_P D vwCl [cell22_ qm sm tm, cell5_ k qm sm, cell13_ k qm sm, cell8_ k qm sm, cell6_ k qm sm, cell15_ k qm sm, cell14_ k qm tm, cell12_ k qm tm, cell18_ k qm tm, cell17_ k qm tm, cell19_ k qm tm, (qm 11, .inl (k 1, 1500, .inr (.inl g161))), cell20_ k qm sm, cell16_ k qm sm, cell11_ k qm sm, cell10_ k qm sm, cell9_ k qm sm, cell7_ k qm sm] H := hP
        have hD : va_D A [cell22_ qm sm tm, cell5_ k qm sm, cell13_ k qm sm, cell8_ k qm sm, cell6_ k qm sm, cell15_ k qm sm, cell14_ k qm tm, cell12_ k qm tm, cell18_ k qm tm, cell17_ k qm tm, cell19_ k qm tm, (qm 11, .inl (k 1, 1500, .inr (.inl g161))), cell20_ k qm sm, cell16_ k qm sm, cell11_ k qm sm, cell10_ k qm sm, cell9_ k qm sm, cell7_ k qm sm] := hD
        obtain ⟨v162, e162⟩ : ∃ z : Int32, z = v6 + 1 := ⟨_, rfl⟩
        refine lv_iinc (v := v162) (lv' := [(5, .int v162), (0, .ref (qm 0)), (1, .int p0), (2, .int p1), (3, .long p2)]) hx hb dX12_layBestOf_23 hl (k := 0) rfl (by rw [e162]; rfl) (by decide) rfl (fun ls hl => ?_)
        have t162 : v162.toInt = v6.toInt + 1 := by rw [e162]; exact i_add rfl (by decide) (by omega) (by omega)
        refine lv_goto (tgt := 3) hx hb dX12_layBestOf_26 (by decide) ?_
        exact ih3 v162 g161 _ _ _ (by omega) (by first | decide | omega) (LT_g hzrr3_1 (exl_X12_layBestOf_9 e158 e159 eg161 e162 c9)) hP hD hS (lv_sub hl [0, 1, 2, 3, 4] rfl)
  have hlit163 : (0 : Int32).toInt = 0 := by decide
  exact hL3 (4) 0 (tm 11) _ _ _ (by omega) (by first | decide | omega) err3_1 hP hD hS (lv_sub hl [0, 1, 2, 3, 4] rfl)
theorem fw_X12_layBest_13 : Cond.fieldLink RX12 13 "StillInAugustModel" "house" "[I" ∈ wsX12_layBest := by decide +kernel
theorem fw_X12_layBest_38 : Cond.fieldLink RX12 38 "StillInAugustModel" "bests" "[J" ∈ wsX12_layBest := by decide +kernel
theorem fw_X12_layBest_41 : Cond.fieldLink RX12 41 "StillInAugustModel" "bestsBefore" "[J" ∈ wsX12_layBest := by decide +kernel
theorem nd_X12_layBestOf : yX12_layBestOf.cls = RX12 ∧ yX12_layBestOf.cls ≠ "java/lang/invoke/MethodHandle" ∧ yX12_layBestOf.cls ≠ "java/lang/invoke/VarHandle" ∧ (parseMethodDescriptor yX12_layBestOf.desc).map (fun d => d.parameters.length) = some 3 := by decide +kernel
theorem iw_X12_layBest_X12 : ∀ w ∈ u_ws RX12 TX12 33, w ∈ wsX12_layBest := fun _ h => List.mem_cons_of_mem _ (List.mem_append_right _ h)
def B_X12_layBest_106_4 (sm : Nat → Nat → Int32) (tm : Nat → Nat → Int64) (p0 : Int32) (v17 : Int32) (g18 : Nat → Int64) (v51 : Int32) (g52 : Nat → Int64) (g53 : Nat → Int64) (g54 : Nat → Int32) (v78 : Int32) (g79 : Nat → Int64) (g80 : Nat → Int32) (y64 : Int64) (z : Int32 × (Nat → Int64)) : Sum (Int32 × (Nat → Int64)) (Sum (Int32 × (Nat → Int64) × (Nat → Int32)) (Sum (Int32 × (Nat → Int64) × (Nat → Int64) × (Nat → Int32)) (Sum (Int32 × (Nat → Int64)) ((Nat → Int64) × (Nat → Int64) × (Nat → Int32))))) := let v88 := (z.1); let g89 := (z.2); if 1500 ≤ v88 then Sum.inr (Sum.inr (Sum.inl (((v51 + (-1)), g89, g79, g80)))) else Sum.inl (((v88 + 1), (vp_updL g89 (v88).toNatClampNeg (g79 (v88).toNatClampNeg))))
def B_X12_layBest_72_3 (sm : Nat → Nat → Int32) (tm : Nat → Nat → Int64) (p0 : Int32) (v17 : Int32) (g18 : Nat → Int64) (v51 : Int32) (g52 : Nat → Int64) (g53 : Nat → Int64) (g54 : Nat → Int32) (y64 : Int64) (z : Int32 × (Nat → Int64) × (Nat → Int32)) : Sum (Int32 × (Nat → Int64) × (Nat → Int32)) (Sum (Int32 × (Nat → Int64) × (Nat → Int64) × (Nat → Int32)) (Sum (Int32 × (Nat → Int64)) ((Nat → Int64) × (Nat → Int64) × (Nat → Int32)))) := let v78 := (z.1); let g79 := (z.2.1); let g80 := (z.2.2); if 500 ≤ v78 then LTs (Sum.inl default) (B_X12_layBest_106_4 sm tm p0 v17 g18 v51 g52 g53 g54 v78 g79 g80 y64) 1501 ((0 : Int32), g52) else LetF (J_X12_isHands (up2 sm 12 g80) (up2L (up2L tm 10 g52) 11 g79) v78) (fun y104 => if y104 = 0 then Sum.inl (((v78 + 1), g79, g80)) else LetF (J_X12_layBestOf (up2 sm 12 g80) (up2L (up2L tm 10 g52) 11 g79) v51 v78 y64) (fun y112 => Sum.inl (((v78 + 1), (y112.1), (y112.2)))))
def B_X12_layBest_52_2 (sm : Nat → Nat → Int32) (tm : Nat → Nat → Int64) (p0 : Int32) (v17 : Int32) (g18 : Nat → Int64) (z : Int32 × (Nat → Int64) × (Nat → Int64) × (Nat → Int32)) : Sum (Int32 × (Nat → Int64) × (Nat → Int64) × (Nat → Int32)) (Sum (Int32 × (Nat → Int64)) ((Nat → Int64) × (Nat → Int64) × (Nat → Int32))) := let v51 := (z.1); let g52 := (z.2.1); let g53 := (z.2.2.1); let g54 := (z.2.2.2); if v51 < p0 then Sum.inr (Sum.inr ((g52, g53, g54))) else LetF (J_X12_parts ((((sm 2) (0 : Int32).toNatClampNeg) - v51))) (fun y64 => LTs (Sum.inl default) (B_X12_layBest_72_3 sm tm p0 v17 g18 v51 g52 g53 g54 y64) 501 ((0 : Int32), g53, g54))
def B_X12_layBest_2 (sm : Nat → Nat → Int32) (tm : Nat → Nat → Int64) (p0 : Int32) (z : Int32 × (Nat → Int64)) : Sum (Int32 × (Nat → Int64)) ((Nat → Int64) × (Nat → Int64) × (Nat → Int32)) := let v17 := (z.1); let g18 := (z.2); if 1500 ≤ v17 then LTs (Sum.inl default) (B_X12_layBest_52_2 sm tm p0 v17 g18) 6 ((((sm 2) (0 : Int32).toNatClampNeg) - (1 : Int32)), g18, (tm 11), (sm 12)) else LetF (J_X12_isHands sm (up2L tm 10 g18) (v17 / (3 : Int32))) (fun y121 => if y121 = 0 then Sum.inl (((v17 + 1), (vp_updL g18 (v17).toNatClampNeg 0))) else LetF (J_X12_bonus sm (up2L tm 10 g18) (v17 / (3 : Int32))) (fun y130 => Sum.inl (((v17 + 1), (vp_updL g18 (v17).toNatClampNeg (y130.toInt64))))))
def J_X12_layBest (sm : Nat → Nat → Int32) (tm : Nat → Nat → Int64) (p0 : Int32) : (Nat → Int64) × (Nat → Int64) × (Nat → Int32) := LTs default (B_X12_layBest_2 sm tm p0) 1501 ((0 : Int32), (tm 10))
theorem exl_X12_layBest_0 {sm : Nat → Nat → Int32} {tm : Nat → Nat → Int64} {p0 : Int32} : J_X12_layBest sm tm p0 = LTs (default : (Nat → Int64) × (Nat → Int64) × (Nat → Int32)) (B_X12_layBest_2 sm tm p0) 1501 ((0 : Int32), (tm 10)) := by unfold J_X12_layBest; rfl
theorem exl_X12_layBest_1 {sm : Nat → Nat → Int32} {tm : Nat → Nat → Int64} {p0 : Int32} {v17 : Int32} {g18 : Nat → Int64} {v23 : Int32} {v22 : Int32} (e22 : v22 = ((sm 2) ((0 : Int32).toNatClampNeg))) (e23 : v23 = (v22 - (1 : Int32))) (c20 : (1500 : Int32) ≤ v17) : (B_X12_layBest_2 sm tm p0) (v17, g18) = LTs (Sum.inl default : Sum (Int32 × (Nat → Int64)) ((Nat → Int64) × (Nat → Int64) × (Nat → Int32))) (B_X12_layBest_52_2 sm tm p0 v17 g18) 6 (v23, g18, (tm 11), (sm 12)) := by subst e22 e23; unfold B_X12_layBest_2; refine Eq.trans (if_pos c20) ?_; rfl
theorem exl_X12_layBest_2 {sm : Nat → Nat → Int32} {tm : Nat → Nat → Int64} {p0 : Int32} {v17 : Int32} {g18 : Nat → Int64} {v51 : Int32} {g52 : Nat → Int64} {g53 : Nat → Int64} {g54 : Nat → Int32} (c56 : v51 < p0) : (B_X12_layBest_52_2 sm tm p0 v17 g18) (v51, g52, g53, g54) = Sum.inr (Sum.inr ((g52, g53, g54))) := by unfold B_X12_layBest_52_2; refine Eq.trans (if_pos c56) ?_; rfl
theorem exl_X12_layBest_3 {sm : Nat → Nat → Int32} {tm : Nat → Nat → Int64} {p0 : Int32} {v17 : Int32} {g18 : Nat → Int64} {v51 : Int32} {g52 : Nat → Int64} {g53 : Nat → Int64} {g54 : Nat → Int32} {r61 : Int64} {v58 : Int32} {v59 : Int32} (e58 : v58 = ((sm 2) ((0 : Int32).toNatClampNeg))) (e59 : v59 = (v58 - v51)) (c56 : ¬ (v51 < p0)) (w63 : r61 = J_X12_parts v59) : (B_X12_layBest_52_2 sm tm p0 v17 g18) (v51, g52, g53, g54) = LTs (Sum.inl default : Sum (Int32 × (Nat → Int64) × (Nat → Int64) × (Nat → Int32)) (Sum (Int32 × (Nat → Int64)) ((Nat → Int64) × (Nat → Int64) × (Nat → Int32)))) (B_X12_layBest_72_3 sm tm p0 v17 g18 v51 g52 g53 g54 r61) 501 ((0 : Int32), g53, g54) := by subst e58 e59; unfold B_X12_layBest_52_2; refine Eq.trans (if_neg c56) ?_; refine lt_e w63 ?_; rfl
theorem exl_X12_layBest_4 {sm : Nat → Nat → Int32} {tm : Nat → Nat → Int64} {p0 : Int32} {v17 : Int32} {g18 : Nat → Int64} {v51 : Int32} {g52 : Nat → Int64} {g53 : Nat → Int64} {g54 : Nat → Int32} {r61 : Int64} {v78 : Int32} {g79 : Nat → Int64} {g80 : Nat → Int32} (c82 : (500 : Int32) ≤ v78) : (B_X12_layBest_72_3 sm tm p0 v17 g18 v51 g52 g53 g54 r61) (v78, g79, g80) = LTs (Sum.inl default : Sum (Int32 × (Nat → Int64) × (Nat → Int32)) (Sum (Int32 × (Nat → Int64) × (Nat → Int64) × (Nat → Int32)) (Sum (Int32 × (Nat → Int64)) ((Nat → Int64) × (Nat → Int64) × (Nat → Int32))))) (B_X12_layBest_106_4 sm tm p0 v17 g18 v51 g52 g53 g54 v78 g79 g80 r61) 1501 ((0 : Int32), g52) := by unfold B_X12_layBest_72_3; refine Eq.trans (if_pos c82) ?_; rfl
theorem exl_X12_layBest_5 {sm : Nat → Nat → Int32} {tm : Nat → Nat → Int64} {p0 : Int32} {v17 : Int32} {g18 : Nat → Int64} {v51 : Int32} {g52 : Nat → Int64} {g53 : Nat → Int64} {g54 : Nat → Int32} {v78 : Int32} {g79 : Nat → Int64} {g80 : Nat → Int32} {r61 : Int64} {v88 : Int32} {g89 : Nat → Int64} {v92 : Int32} (e92 : v92 = v51 + (-1)) (c91 : (1500 : Int32) ≤ v88) : (B_X12_layBest_106_4 sm tm p0 v17 g18 v51 g52 g53 g54 v78 g79 g80 r61) (v88, g89) = Sum.inr (Sum.inr (Sum.inl (v92, g89, g79, g80))) := by subst e92; unfold B_X12_layBest_106_4; refine Eq.trans (if_pos c91) ?_; rfl
theorem exl_X12_layBest_6 {sm : Nat → Nat → Int32} {tm : Nat → Nat → Int64} {p0 : Int32} {v17 : Int32} {g18 : Nat → Int64} {v51 : Int32} {g52 : Nat → Int64} {g53 : Nat → Int64} {g54 : Nat → Int32} {v78 : Int32} {g79 : Nat → Int64} {g80 : Nat → Int32} {r61 : Int64} {v88 : Int32} {g89 : Nat → Int64} {v97 : Int32} {g96 : Nat → Int64} {v94 : Int64} (e94 : v94 = (g79 (v88).toNatClampNeg)) (eg96 : g96 = vp_updL g89 (v88).toNatClampNeg v94) (e97 : v97 = v88 + 1) (c91 : ¬ ((1500 : Int32) ≤ v88)) : (B_X12_layBest_106_4 sm tm p0 v17 g18 v51 g52 g53 g54 v78 g79 g80 r61) (v88, g89) = Sum.inl (v97, g96) := by subst e94 eg96 e97; unfold B_X12_layBest_106_4; refine Eq.trans (if_neg c91) ?_; rfl
theorem exl_X12_layBest_7 {sm : Nat → Nat → Int32} {tm : Nat → Nat → Int64} {p0 : Int32} {v17 : Int32} {g18 : Nat → Int64} {v51 : Int32} {g52 : Nat → Int64} {g53 : Nat → Int64} {g54 : Nat → Int32} {r61 : Int64} {v78 : Int32} {g79 : Nat → Int64} {g80 : Nat → Int32} {v106 : Int32} {r100 : Int32} (e106 : v106 = v78 + 1) (c82 : ¬ ((500 : Int32) ≤ v78)) (w103 : r100 = J_X12_isHands (up2 sm 12 g80) (up2L (up2L tm 10 g52) 11 g79) v78) (c105 : r100 = (0 : Int32)) : (B_X12_layBest_72_3 sm tm p0 v17 g18 v51 g52 g53 g54 r61) (v78, g79, g80) = Sum.inl (v106, g79, g80) := by subst e106; unfold B_X12_layBest_72_3; refine Eq.trans (if_neg c82) ?_; refine lt_e w103 ?_; refine Eq.trans (if_pos c105) ?_; rfl
theorem exl_X12_layBest_8 {sm : Nat → Nat → Int32} {tm : Nat → Nat → Int64} {p0 : Int32} {v17 : Int32} {g18 : Nat → Int64} {v51 : Int32} {g52 : Nat → Int64} {g53 : Nat → Int64} {g54 : Nat → Int32} {r61 : Int64} {v78 : Int32} {g79 : Nat → Int64} {g80 : Nat → Int32} {v113 : Int32} {m109 : Nat → Int64} {m110 : Nat → Int32} {r100 : Int32} (e113 : v113 = v78 + 1) (c82 : ¬ ((500 : Int32) ≤ v78)) (w103 : r100 = J_X12_isHands (up2 sm 12 g80) (up2L (up2L tm 10 g52) 11 g79) v78) (c105 : ¬ (r100 = (0 : Int32))) (w111 : (m109, m110) = J_X12_layBestOf (up2 sm 12 g80) (up2L (up2L tm 10 g52) 11 g79) v51 v78 r61) : (B_X12_layBest_72_3 sm tm p0 v17 g18 v51 g52 g53 g54 r61) (v78, g79, g80) = Sum.inl (v113, m109, m110) := by subst e113; unfold B_X12_layBest_72_3; refine Eq.trans (if_neg c82) ?_; refine lt_e w103 ?_; refine Eq.trans (if_neg c105) ?_; refine lt_e w111 ?_; rfl
theorem exl_X12_layBest_9 {sm : Nat → Nat → Int32} {tm : Nat → Nat → Int64} {p0 : Int32} {v17 : Int32} {g18 : Nat → Int64} {v125 : Int32} {g124 : Nat → Int64} {v115 : Int32} {r117 : Int32} (e115 : v115 = (v17 / (3 : Int32))) (eg124 : g124 = vp_updL g18 (v17).toNatClampNeg (0 : Int64)) (e125 : v125 = v17 + 1) (c20 : ¬ ((1500 : Int32) ≤ v17)) (w120 : r117 = J_X12_isHands sm (up2L tm 10 g18) v115) (c122 : r117 = (0 : Int32)) : (B_X12_layBest_2 sm tm p0) (v17, g18) = Sum.inl (v125, g124) := by subst e115 eg124 e125; unfold B_X12_layBest_2; refine Eq.trans (if_neg c20) ?_; refine lt_e w120 ?_; refine Eq.trans (if_pos c122) ?_; rfl
theorem exl_X12_layBest_10 {sm : Nat → Nat → Int32} {tm : Nat → Nat → Int64} {p0 : Int32} {v17 : Int32} {g18 : Nat → Int64} {v134 : Int32} {g133 : Nat → Int64} {v115 : Int32} {v126 : Int32} {v131 : Int64} {r128 : Int32} {r117 : Int32} (e115 : v115 = (v17 / (3 : Int32))) (e126 : v126 = (v17 / (3 : Int32))) (e131 : v131 = (r128 : Int32).toInt64) (eg133 : g133 = vp_updL g18 (v17).toNatClampNeg v131) (e134 : v134 = v17 + 1) (c20 : ¬ ((1500 : Int32) ≤ v17)) (w120 : r117 = J_X12_isHands sm (up2L tm 10 g18) v115) (c122 : ¬ (r117 = (0 : Int32))) (w129 : r128 = J_X12_bonus sm (up2L tm 10 g18) v126) : (B_X12_layBest_2 sm tm p0) (v17, g18) = Sum.inl (v134, g133) := by subst e115 e126 e131 eg133 e134; unfold B_X12_layBest_2; refine Eq.trans (if_neg c20) ?_; refine lt_e w120 ?_; refine Eq.trans (if_neg c122) ?_; refine lt_e w129 ?_; rfl
set_option maxHeartbeats 4000000 in
set_option maxRecDepth 100000 in
theorem c_X12_layBest (l : Launch) (D : va_G) (k : Nat → ClassId) (b : Nat → Nat) (qm : Nat → Nat) (sm : Nat → Nat → Int32) (tm : Nat → Nat → Int64) (sz : Nat) (p0 : Int32) (h_w0 : 0 ≤ (sm 2 0).toInt ∧ (sm 2 0).toInt ≤ 5) (h_k1 : 0 ≤ (sm 2 1).toInt ∧ (sm 2 1).toInt ≤ 4) (hp0 : 0 ≤ p0.toInt ∧ p0.toInt ≤ 4) : MetV l D k b yX12_layBest wsX12_layBest ({ frames := 5, cells := 0, slots := 0, locals := 132 } : Room) [cell22_ qm sm tm, cell5_ k qm sm, cell13_ k qm sm, cell8_ k qm sm, cell6_ k qm sm, cell15_ k qm sm, cell14_ k qm tm, cell12_ k qm tm, cell18_ k qm tm, cell17_ k qm tm, cell19_ k qm tm, cell21_ k qm tm, cell20_ k qm sm, cell16_ k qm sm, cell11_ k qm sm, cell10_ k qm sm, cell9_ k qm sm, cell7_ k qm sm] sz [.ref (qm 0), .int p0] (fun (u : (Nat → Int64) × (Nat → Int64) × (Nat → Int32)) => ((u.1), (u.2.1), (u.2.2)) = J_X12_layBest sm tm p0) (fun u => [cell22_ qm sm tm, cell5_ k qm sm, cell13_ k qm sm, cell8_ k qm sm, cell6_ k qm sm, cell15_ k qm sm, cell14_ k qm tm, cell12_ k qm tm, cell18_ k qm tm, cell17_ k qm tm, cell130_ k qm (u.1), cell122_ k qm (u.2.1), cell123_ k qm (u.2.2), cell16_ k qm sm, cell11_ k qm sm, cell10_ k qm sm, cell9_ k qm sm, cell7_ k qm sm]) := by
  refine g_enter (cc := cX12_layBest) (maxL := 6) (ret := none) (by decide) rfl (Nat.le_of_ble_eq_true rfl) ?_
  intro p e s m below meth c A hsz hAe cx hr hP hD hS ls hl
  rw [hAe]
  refine g_q (fun Q hQ => ?_)
  have hx := cx.1.1
  have hb := cx.1.2.1
  have bp0 := i_rng p0
  have hl : lv_has ls 6 [(0, .ref (qm 0)), (1, .int p0)] := hl
  obtain ⟨H, eH⟩ : ∃ H : Heap, H = s.heap := ⟨_, rfl⟩
  obtain ⟨locs, el⟩ : ∃ L : List Loc, L = [] := ⟨_, rfl⟩
  have hP : va_P D vwCl [cell22_ qm sm tm, cell5_ k qm sm, cell13_ k qm sm, cell8_ k qm sm, cell6_ k qm sm, cell15_ k qm sm, cell14_ k qm tm, cell12_ k qm tm, cell18_ k qm tm, cell17_ k qm tm, cell19_ k qm tm, cell21_ k qm tm, cell20_ k qm sm, cell16_ k qm sm, cell11_ k qm sm, cell10_ k qm sm, cell9_ k qm sm, cell7_ k qm sm] H := by rw [eH]; exact hP
  have hD : va_D A [cell22_ qm sm tm, cell5_ k qm sm, cell13_ k qm sm, cell8_ k qm sm, cell6_ k qm sm, cell15_ k qm sm, cell14_ k qm tm, cell12_ k qm tm, cell18_ k qm tm, cell17_ k qm tm, cell19_ k qm tm, cell21_ k qm tm, cell20_ k qm sm, cell16_ k qm sm, cell11_ k qm sm, cell10_ k qm sm, cell9_ k qm sm, cell7_ k qm sm] := hD
  have hS : va_S A s.heap H locs := by rw [eH, el]; exact hS
  suffices goal : W p l e ({ frames := 5, cells := 0, slots := 0, locals := 132 } : Room) s m ([.ref (qm 0), .int p0] : List Value).toArray below meth c H locs 0 0 Q (F0 m 0 ls []) by rw [eH, el] at goal; exact goal
  refine lv_iconst (v := 0) hx hb dX12_layBest_0 (by decide) ?_
  refine lv_istore_n (lv' := [(2, .int 0), (0, .ref (qm 0)), (1, .int p0)]) hx hb dX12_layBest_1 rfl hl (by decide) rfl (fun ls hl => ?_)
  obtain ⟨rr2_1, err2_1⟩ : ∃ r : (Nat → Int64) × (Nat → Int64) × (Nat → Int32), LTs (default : (Nat → Int64) × (Nat → Int64) × (Nat → Int32)) (B_X12_layBest_2 sm tm p0) 1501 ((0 : Int32), (tm 10)) = r := ⟨_, rfl⟩
  have hrr2_1 : J_X12_layBest sm tm p0 = rr2_1 := ((exl_X12_layBest_0)).trans err2_1
  have hL2 : ∀ (n19 : Nat) (v17 : Int32) (g18 : Nat → Int64) (H : Heap) (locs : List Loc) (ls : Array Slot), 1500 - v17.toInt < (n19 : Int) → (0 ≤ v17.toInt ∧ v17.toInt ≤ 1500) → (LTs (default : (Nat → Int64) × (Nat → Int64) × (Nat → Int32)) (B_X12_layBest_2 sm tm p0) n19 (v17, g18) = rr2_1) → va_P D vwCl [cell22_ qm sm tm, cell5_ k qm sm, cell13_ k qm sm, cell8_ k qm sm, cell6_ k qm sm, cell15_ k qm sm, cell14_ k qm tm, cell12_ k qm tm, cell18_ k qm tm, cell17_ k qm tm, (qm 10, .inl (k 1, 1500, .inr (.inl g18))), cell21_ k qm tm, cell20_ k qm sm, cell16_ k qm sm, cell11_ k qm sm, cell10_ k qm sm, cell9_ k qm sm, cell7_ k qm sm] H → va_D A [cell22_ qm sm tm, cell5_ k qm sm, cell13_ k qm sm, cell8_ k qm sm, cell6_ k qm sm, cell15_ k qm sm, cell14_ k qm tm, cell12_ k qm tm, cell18_ k qm tm, cell17_ k qm tm, (qm 10, .inl (k 1, 1500, .inr (.inl g18))), cell21_ k qm tm, cell20_ k qm sm, cell16_ k qm sm, cell11_ k qm sm, cell10_ k qm sm, cell9_ k qm sm, cell7_ k qm sm] → va_S A s.heap H locs → lv_has ls 6 [(2, .int v17), (0, .ref (qm 0)), (1, .int p0)] → W p l e ({ frames := 5, cells := 0, slots := 0, locals := 132 } : Room) s m ([.ref (qm 0), .int p0] : List Value).toArray below meth c H locs 0 0 Q (F0 m 2 ls []) := by
    intro n19
    induction n19 with
    | zero => intro v17 g18 H locs ls hmn19 bv17 hzrr2_1 hP hD hS hl; exact absurd hmn19 (by omega)
    | succ n19 ih2 =>
      intro v17 g18 H locs ls hmn19 bv17 hzrr2_1 hP hD hS hl
      refine lv_iload_n hx hb dX12_layBest_2 rfl (lv_at hl 0 rfl) ?_
      refine lv_sipush (v := 1500) hx hb dX12_layBest_3 (by decide) ?_
      refine lv_icmp_ge (tgt := 43) hx hb dX12_layBest_6 (by decide) (fun c20 => ?_) (fun c20 => ?_)
      · have f20 : 1500 ≤ v17.toInt := f_le (by decide) rfl c20
        refine lv_aload_n hx hb dX12_layBest_43 rfl (lv_at hl 1 rfl) ?_
        refine g_get cx hP iw_X12_layBest_X12 0 rfl rfl 1 (by decide) rfl fw_X12_layBest_13 rfl dX12_layBest_44 ?_
        refine lv_iconst (v := 0) hx hb dX12_layBest_47 (by decide) ?_
        have hn21 : vp_in 0 26 := f_in (a := 0) (by decide) (by omega) (by omega)
        refine va_iald hx hb cx.2.1 hP 2 0 rfl rfl hn21 dX12_layBest_48 (lv_topi (fun v22 e22 => ?_))
        have uv22 : v22.toInt = ((sm 2) 0).toInt := congrArg Int32.toInt e22
        have t22 : 0 ≤ v22.toInt ∧ v22.toInt ≤ 5 := by rw [e22]; exact h_w0
        refine lv_iconst (v := 1) hx hb dX12_layBest_49 (by decide) ?_
        refine lv_isub hx hb dX12_layBest_50 (lv_topi (fun v23 e23 => ?_))
        have t23 : v23.toInt = v22.toInt - 1 := by rw [e23]; exact i_sub rfl (by decide) (by omega) (by omega)
        refine lv_istore_n (lv' := [(2, .int v23), (0, .ref (qm 0)), (1, .int p0)]) hx hb dX12_layBest_51 rfl hl (by decide) rfl (fun ls hl => ?_)
        obtain ⟨rr52_2, err52_2⟩ : ∃ r : Sum (Int32 × (Nat → Int64)) ((Nat → Int64) × (Nat → Int64) × (Nat → Int32)), LTs (Sum.inl default : Sum (Int32 × (Nat → Int64)) ((Nat → Int64) × (Nat → Int64) × (Nat → Int32))) (B_X12_layBest_52_2 sm tm p0 v17 g18) 6 (v23, g18, (tm 11), (sm 12)) = r := ⟨_, rfl⟩
        have hrr52_2 : (B_X12_layBest_2 sm tm p0) (v17, g18) = rr52_2 := ((exl_X12_layBest_1 e22 e23 c20)).trans err52_2
        have hL52 : ∀ (n55 : Nat) (v51 : Int32) (g52 : Nat → Int64) (g53 : Nat → Int64) (g54 : Nat → Int32) (H : Heap) (locs : List Loc) (ls : Array Slot), v51.toInt + 1 < (n55 : Int) → (-1 ≤ v51.toInt ∧ v51.toInt ≤ 4) → (LTs (Sum.inl default : Sum (Int32 × (Nat → Int64)) ((Nat → Int64) × (Nat → Int64) × (Nat → Int32))) (B_X12_layBest_52_2 sm tm p0 v17 g18) n55 (v51, g52, g53, g54) = rr52_2) → va_P D vwCl [cell22_ qm sm tm, cell5_ k qm sm, cell13_ k qm sm, cell8_ k qm sm, cell6_ k qm sm, cell15_ k qm sm, cell14_ k qm tm, cell12_ k qm tm, cell18_ k qm tm, cell17_ k qm tm, (qm 10, .inl (k 1, 1500, .inr (.inl g52))), (qm 11, .inl (k 1, 1500, .inr (.inl g53))), (qm 12, .inl (k 0, 1500, .inl g54)), cell16_ k qm sm, cell11_ k qm sm, cell10_ k qm sm, cell9_ k qm sm, cell7_ k qm sm] H → va_D A [cell22_ qm sm tm, cell5_ k qm sm, cell13_ k qm sm, cell8_ k qm sm, cell6_ k qm sm, cell15_ k qm sm, cell14_ k qm tm, cell12_ k qm tm, cell18_ k qm tm, cell17_ k qm tm, (qm 10, .inl (k 1, 1500, .inr (.inl g52))), (qm 11, .inl (k 1, 1500, .inr (.inl g53))), (qm 12, .inl (k 0, 1500, .inl g54)), cell16_ k qm sm, cell11_ k qm sm, cell10_ k qm sm, cell9_ k qm sm, cell7_ k qm sm] → va_S A s.heap H locs → lv_has ls 6 [(2, .int v51), (0, .ref (qm 0)), (1, .int p0)] → W p l e ({ frames := 5, cells := 0, slots := 0, locals := 132 } : Room) s m ([.ref (qm 0), .int p0] : List Value).toArray below meth c H locs 0 0 Q (F0 m 52 ls []) := by
          intro n55
          induction n55 with
          | zero => intro v51 g52 g53 g54 H locs ls hmn55 bv51 hzrr52_2 hP hD hS hl; exact absurd hmn55 (by omega)
          | succ n55 ih52 =>
            intro v51 g52 g53 g54 H locs ls hmn55 bv51 hzrr52_2 hP hD hS hl
            refine lv_iload_n hx hb dX12_layBest_52 rfl (lv_at hl 0 rfl) ?_
            refine lv_iload_n hx hb dX12_layBest_53 rfl (lv_at hl 2 rfl) ?_
            refine lv_icmp_lt (tgt := 140) hx hb dX12_layBest_54 (by decide) (fun c56 => ?_) (fun c56 => ?_)
            · have f56 : v51.toInt < p0.toInt := f_lt rfl rfl c56
              rw [hQ]
              exact x_v cx hr (g52, g53, g54) hP hD hS (show (g52, g53, g54) = J_X12_layBest sm tm p0 from ((hrr2_1.trans (LT_r hzrr2_1 (hrr52_2.trans (LT_r hzrr52_2 (exl_X12_layBest_2 c56)))))).symm) dX12_layBest_140
            · have f56 : p0.toInt ≤ v51.toInt := f_nlt rfl rfl c56
              refine lv_aload_n hx hb dX12_layBest_57 rfl (lv_at hl 1 rfl) ?_
              refine g_get cx hP iw_X12_layBest_X12 0 rfl rfl 1 (by decide) rfl fw_X12_layBest_13 rfl dX12_layBest_58 ?_
              refine lv_iconst (v := 0) hx hb dX12_layBest_61 (by decide) ?_
              have hn57 : vp_in 0 26 := f_in (a := 0) (by decide) (by omega) (by omega)
              refine va_iald hx hb cx.2.1 hP 2 0 rfl rfl hn57 dX12_layBest_62 (lv_topi (fun v58 e58 => ?_))
              have qv58_ : v58.toInt = v22.toInt := congrArg Int32.toInt (e58.trans e22.symm)
              have uv58 : v58.toInt = ((sm 2) 0).toInt := congrArg Int32.toInt e58
              have t58 : 0 ≤ v58.toInt ∧ v58.toInt ≤ 5 := by rw [e58]; exact h_w0
              refine lv_iload_n hx hb dX12_layBest_63 rfl (lv_at hl 0 rfl) ?_
              refine lv_isub hx hb dX12_layBest_64 (lv_topi (fun v59 e59 => ?_))
              have t59 : v59.toInt = v58.toInt - v51.toInt := by rw [e59]; exact i_sub rfl rfl (by omega) (by omega)
              refine g_lr (g_runS (wc := []) (rest := []) cx hP hD hS [] rfl (by decide) [.int v59] (c_X12_parts l D k b H.size v59) gX12_layBest_X12_parts rfl rfl rfl nd_X12_parts ⟨Nat.le_of_ble_eq_true rfl, Nat.le_of_ble_eq_true rfl⟩ rfl hl.1 rfl (Nat.le_of_ble_eq_true rfl) ⟨Nat.zero_le _, Nat.zero_le _⟩ dX12_layBest_65) cx.2.2.1 hP hD hS [] rfl rfl (fun r61 H locs hw60 hP hS => ?_)
              replace hw60 : (r61.toInt % 2 = 1) ∧ (r61 = J_X12_parts v59) := hw60
              obtain ⟨w62, w63⟩ := hw60
              refine lv_lstore_n (lv' := [(3, .long r61), (2, .int v51), (0, .ref (qm 0)), (1, .int p0)]) hx hb dX12_layBest_68 rfl hl (by decide) rfl (fun ls hl => ?_)
              refine lv_iconst (v := 0) hx hb dX12_layBest_69 (by decide) ?_
              refine lv_istore (lv' := [(5, .int 0), (3, .long r61), (2, .int v51), (0, .ref (qm 0)), (1, .int p0)]) hx hb dX12_layBest_70 hl (by decide) rfl (fun ls hl => ?_)
              obtain ⟨rr72_3, err72_3⟩ : ∃ r : Sum (Int32 × (Nat → Int64) × (Nat → Int64) × (Nat → Int32)) (Sum (Int32 × (Nat → Int64)) ((Nat → Int64) × (Nat → Int64) × (Nat → Int32))), LTs (Sum.inl default : Sum (Int32 × (Nat → Int64) × (Nat → Int64) × (Nat → Int32)) (Sum (Int32 × (Nat → Int64)) ((Nat → Int64) × (Nat → Int64) × (Nat → Int32)))) (B_X12_layBest_72_3 sm tm p0 v17 g18 v51 g52 g53 g54 r61) 501 ((0 : Int32), g53, g54) = r := ⟨_, rfl⟩
              have hrr72_3 : (B_X12_layBest_52_2 sm tm p0 v17 g18) (v51, g52, g53, g54) = rr72_3 := ((exl_X12_layBest_3 e58 e59 c56 w63)).trans err72_3
              have hL72 : ∀ (n81 : Nat) (v78 : Int32) (g79 : Nat → Int64) (g80 : Nat → Int32) (H : Heap) (locs : List Loc) (ls : Array Slot), 500 - v78.toInt < (n81 : Int) → (0 ≤ v78.toInt ∧ v78.toInt ≤ 500) → (LTs (Sum.inl default : Sum (Int32 × (Nat → Int64) × (Nat → Int64) × (Nat → Int32)) (Sum (Int32 × (Nat → Int64)) ((Nat → Int64) × (Nat → Int64) × (Nat → Int32)))) (B_X12_layBest_72_3 sm tm p0 v17 g18 v51 g52 g53 g54 r61) n81 (v78, g79, g80) = rr72_3) → va_P D vwCl [cell22_ qm sm tm, cell5_ k qm sm, cell13_ k qm sm, cell8_ k qm sm, cell6_ k qm sm, cell15_ k qm sm, cell14_ k qm tm, cell12_ k qm tm, cell18_ k qm tm, cell17_ k qm tm, (qm 10, .inl (k 1, 1500, .inr (.inl g52))), (qm 11, .inl (k 1, 1500, .inr (.inl g79))), (qm 12, .inl (k 0, 1500, .inl g80)), cell16_ k qm sm, cell11_ k qm sm, cell10_ k qm sm, cell9_ k qm sm, cell7_ k qm sm] H → va_D A [cell22_ qm sm tm, cell5_ k qm sm, cell13_ k qm sm, cell8_ k qm sm, cell6_ k qm sm, cell15_ k qm sm, cell14_ k qm tm, cell12_ k qm tm, cell18_ k qm tm, cell17_ k qm tm, (qm 10, .inl (k 1, 1500, .inr (.inl g52))), (qm 11, .inl (k 1, 1500, .inr (.inl g79))), (qm 12, .inl (k 0, 1500, .inl g80)), cell16_ k qm sm, cell11_ k qm sm, cell10_ k qm sm, cell9_ k qm sm, cell7_ k qm sm] → va_S A s.heap H locs → lv_has ls 6 [(5, .int v78), (3, .long r61), (2, .int v51), (0, .ref (qm 0)), (1, .int p0)] → W p l e ({ frames := 5, cells := 0, slots := 0, locals := 132 } : Room) s m ([.ref (qm 0), .int p0] : List Value).toArray below meth c H locs 0 0 Q (F0 m 72 ls []) := by
                intro n81
                induction n81 with
                | zero => intro v78 g79 g80 H locs ls hmn81 bv78 hzrr72_3 hP hD hS hl; exact absurd hmn81 (by omega)
                | succ n81 ih72 =>
                  intro v78 g79 g80 H locs ls hmn81 bv78 hzrr72_3 hP hD hS hl
                  refine lv_iload hx hb dX12_layBest_72 (lv_at hl 0 rfl) ?_
                  refine lv_sipush (v := 500) hx hb dX12_layBest_74 (by decide) ?_
                  refine lv_icmp_ge (tgt := 103) hx hb dX12_layBest_77 (by decide) (fun c82 => ?_) (fun c82 => ?_)
                  · have f82 : 500 ≤ v78.toInt := f_le (by decide) rfl c82
                    refine lv_iconst (v := 0) hx hb dX12_layBest_103 (by decide) ?_
                    refine lv_istore (lv' := [(5, .int 0), (3, .long r61), (2, .int v51), (0, .ref (qm 0)), (1, .int p0)]) hx hb dX12_layBest_104 hl (by decide) rfl (fun ls hl => ?_)
                    obtain ⟨rr106_4, err106_4⟩ : ∃ r : Sum (Int32 × (Nat → Int64) × (Nat → Int32)) (Sum (Int32 × (Nat → Int64) × (Nat → Int64) × (Nat → Int32)) (Sum (Int32 × (Nat → Int64)) ((Nat → Int64) × (Nat → Int64) × (Nat → Int32)))), LTs (Sum.inl default : Sum (Int32 × (Nat → Int64) × (Nat → Int32)) (Sum (Int32 × (Nat → Int64) × (Nat → Int64) × (Nat → Int32)) (Sum (Int32 × (Nat → Int64)) ((Nat → Int64) × (Nat → Int64) × (Nat → Int32))))) (B_X12_layBest_106_4 sm tm p0 v17 g18 v51 g52 g53 g54 v78 g79 g80 r61) 1501 ((0 : Int32), g52) = r := ⟨_, rfl⟩
                    have hrr106_4 : (B_X12_layBest_72_3 sm tm p0 v17 g18 v51 g52 g53 g54 r61) (v78, g79, g80) = rr106_4 := ((exl_X12_layBest_4 c82)).trans err106_4
                    have hL106 : ∀ (n90 : Nat) (v88 : Int32) (g89 : Nat → Int64) (H : Heap) (locs : List Loc) (ls : Array Slot), 1500 - v88.toInt < (n90 : Int) → (0 ≤ v88.toInt ∧ v88.toInt ≤ 1500) → (LTs (Sum.inl default : Sum (Int32 × (Nat → Int64) × (Nat → Int32)) (Sum (Int32 × (Nat → Int64) × (Nat → Int64) × (Nat → Int32)) (Sum (Int32 × (Nat → Int64)) ((Nat → Int64) × (Nat → Int64) × (Nat → Int32))))) (B_X12_layBest_106_4 sm tm p0 v17 g18 v51 g52 g53 g54 v78 g79 g80 r61) n90 (v88, g89) = rr106_4) → va_P D vwCl [cell22_ qm sm tm, cell5_ k qm sm, cell13_ k qm sm, cell8_ k qm sm, cell6_ k qm sm, cell15_ k qm sm, cell14_ k qm tm, cell12_ k qm tm, cell18_ k qm tm, cell17_ k qm tm, (qm 10, .inl (k 1, 1500, .inr (.inl g89))), (qm 11, .inl (k 1, 1500, .inr (.inl g79))), (qm 12, .inl (k 0, 1500, .inl g80)), cell16_ k qm sm, cell11_ k qm sm, cell10_ k qm sm, cell9_ k qm sm, cell7_ k qm sm] H → va_D A [cell22_ qm sm tm, cell5_ k qm sm, cell13_ k qm sm, cell8_ k qm sm, cell6_ k qm sm, cell15_ k qm sm, cell14_ k qm tm, cell12_ k qm tm, cell18_ k qm tm, cell17_ k qm tm, (qm 10, .inl (k 1, 1500, .inr (.inl g89))), (qm 11, .inl (k 1, 1500, .inr (.inl g79))), (qm 12, .inl (k 0, 1500, .inl g80)), cell16_ k qm sm, cell11_ k qm sm, cell10_ k qm sm, cell9_ k qm sm, cell7_ k qm sm] → va_S A s.heap H locs → lv_has ls 6 [(5, .int v88), (2, .int v51), (0, .ref (qm 0)), (1, .int p0)] → W p l e ({ frames := 5, cells := 0, slots := 0, locals := 132 } : Room) s m ([.ref (qm 0), .int p0] : List Value).toArray below meth c H locs 0 0 Q (F0 m 106 ls []) := by
                      intro n90
                      induction n90 with
                      | zero => intro v88 g89 H locs ls hmn90 bv88 hzrr106_4 hP hD hS hl; exact absurd hmn90 (by omega)
                      | succ n90 ih106 =>
                        intro v88 g89 H locs ls hmn90 bv88 hzrr106_4 hP hD hS hl
                        refine lv_iload hx hb dX12_layBest_106 (lv_at hl 0 rfl) ?_
                        refine lv_sipush (v := 1500) hx hb dX12_layBest_108 (by decide) ?_
                        refine lv_icmp_ge (tgt := 134) hx hb dX12_layBest_111 (by decide) (fun c91 => ?_) (fun c91 => ?_)
                        · have f91 : 1500 ≤ v88.toInt := f_le (by decide) rfl c91
                          obtain ⟨v92, e92⟩ : ∃ z : Int32, z = v51 + (-1) := ⟨_, rfl⟩
                          refine lv_iinc (v := v92) (lv' := [(2, .int v92), (5, .int v88), (0, .ref (qm 0)), (1, .int p0)]) hx hb dX12_layBest_134 hl (k := 1) rfl (by rw [e92]; rfl) (by decide) rfl (fun ls hl => ?_)
                          have t92 : v92.toInt = v51.toInt + (-1) := by rw [e92]; exact i_add rfl (by decide) (by omega) (by omega)
                          refine lv_goto (tgt := 52) hx hb dX12_layBest_137 (by decide) ?_
                          exact ih52 v92 g89 g79 g80 _ _ _ (by omega) (by first | decide | omega) (LT_g hzrr52_2 (hrr72_3.trans (LT_r hzrr72_3 (hrr106_4.trans (LT_r hzrr106_4 (exl_X12_layBest_5 e92 c91)))))) hP hD hS (lv_sub hl [0, 2, 3] rfl)
                        · have f91 : v88.toInt < 1500 := f_nle (by decide) rfl c91
                          refine lv_aload_n hx hb dX12_layBest_114 rfl (lv_at hl 2 rfl) ?_
                          refine g_get cx hP iw_X12_layBest_X12 0 rfl rfl 18 (by decide) rfl fw_X12_layBest_38 rfl dX12_layBest_115 ?_
                          refine lv_iload hx hb dX12_layBest_118 (lv_at hl 0 rfl) ?_
                          refine lv_aload_n hx hb dX12_layBest_120 rfl (lv_at hl 2 rfl) ?_
                          refine g_get cx hP iw_X12_layBest_X12 0 rfl rfl 19 (by decide) rfl fw_X12_layBest_41 rfl dX12_layBest_121 ?_
                          refine lv_iload hx hb dX12_layBest_124 (lv_at hl 0 rfl) ?_
                          have hn93 : vp_in v88 1500 := f_in (a := v88.toInt) rfl (by omega) (by omega)
                          refine va_lald hx hb cx.2.1 hP 11 1 rfl rfl hn93 dX12_layBest_126 (lv_topl (fun v94 e94 => ?_))
                          have hn95 : vp_in v88 1500 := f_in (a := v88.toInt) rfl (by omega) (by omega)
                          refine va_last hx hb cx.2.1 hP hD hS 10 1 rfl rfl hn95 dX12_layBest_127 (fun H locs hP hD hS => ?_)
                          obtain ⟨g96, eg96⟩ : ∃ g : Nat → Int64, g = vp_updL g89 (v88).toNatClampNeg v94 := ⟨_, rfl⟩
                          rw [← eg96] at hP hD
                          have hP : va_P D vwCl [cell22_ qm sm tm, cell5_ k qm sm, cell13_ k qm sm, cell8_ k qm sm, cell6_ k qm sm, cell15_ k qm sm, cell14_ k qm tm, cell12_ k qm tm, cell18_ k qm tm, cell17_ k qm tm, (qm 10, .inl (k 1, 1500, .inr (.inl g96))), (qm 11, .inl (k 1, 1500, .inr (.inl g79))), (qm 12, .inl (k 0, 1500, .inl g80)), cell16_ k qm sm, cell11_ k qm sm, cell10_ k qm sm, cell9_ k qm sm, cell7_ k qm sm] H := hP
                          have hD : va_D A [cell22_ qm sm tm, cell5_ k qm sm, cell13_ k qm sm, cell8_ k qm sm, cell6_ k qm sm, cell15_ k qm sm, cell14_ k qm tm, cell12_ k qm tm, cell18_ k qm tm, cell17_ k qm tm, (qm 10, .inl (k 1, 1500, .inr (.inl g96))), (qm 11, .inl (k 1, 1500, .inr (.inl g79))), (qm 12, .inl (k 0, 1500, .inl g80)), cell16_ k qm sm, cell11_ k qm sm, cell10_ k qm sm, cell9_ k qm sm, cell7_ k qm sm] := hD
                          obtain ⟨v97, e97⟩ : ∃ z : Int32, z = v88 + 1 := ⟨_, rfl⟩
                          refine lv_iinc (v := v97) (lv' := [(5, .int v97), (2, .int v51), (0, .ref (qm 0)), (1, .int p0)]) hx hb dX12_layBest_128 hl (k := 0) rfl (by rw [e97]; rfl) (by decide) rfl (fun ls hl => ?_)
                          have t97 : v97.toInt = v88.toInt + 1 := by rw [e97]; exact i_add rfl (by decide) (by omega) (by omega)
                          refine lv_goto (tgt := 106) hx hb dX12_layBest_131 (by decide) ?_
                          exact ih106 v97 g96 _ _ _ (by omega) (by first | decide | omega) (LT_g hzrr106_4 (exl_X12_layBest_6 e94 eg96 e97 c91)) hP hD hS (lv_sub hl [0, 1, 2, 3] rfl)
                    have hlit98 : (0 : Int32).toInt = 0 := by decide
                    exact hL106 (1501) 0 g52 _ _ _ (by omega) (by first | decide | omega) err106_4 hP hD hS (lv_sub hl [0, 2, 3, 4] rfl)
                  · have f82 : v78.toInt < 500 := f_nle (by decide) rfl c82
                    refine lv_aload_n hx hb dX12_layBest_80 rfl (lv_at hl 3 rfl) ?_
                    refine lv_iload hx hb dX12_layBest_81 (lv_at hl 0 rfl) ?_
                    refine g_iF (w1 := fun (_ : Unit) => [cell22_ qm sm tm, cell5_ k qm sm, cell13_ k qm sm, cell8_ k qm sm, cell6_ k qm sm, cell15_ k qm sm, cell14_ k qm tm, cell12_ k qm tm, cell18_ k qm tm, cell17_ k qm tm, (qm 10, .inl (k 1, 1500, .inr (.inl g52))), (qm 11, .inl (k 1, 1500, .inr (.inl g79))), (qm 12, .inl (k 0, 1500, .inl g80)), cell16_ k qm sm, cell11_ k qm sm, cell10_ k qm sm, cell9_ k qm sm, cell7_ k qm sm]) (g_runVF (ws := [cell22_ qm sm tm, cell5_ k qm sm, cell13_ k qm sm, cell8_ k qm sm, cell6_ k qm sm, cell15_ k qm sm, cell14_ k qm tm, cell12_ k qm tm, cell18_ k qm tm, cell17_ k qm tm, (qm 10, .inl (k 1, 1500, .inr (.inl g52))), (qm 11, .inl (k 1, 1500, .inr (.inl g79))), (qm 12, .inl (k 0, 1500, .inl g80)), cell16_ k qm sm, cell11_ k qm sm, cell10_ k qm sm, cell9_ k qm sm, cell7_ k qm sm]) (rest := []) cx hP hD hS [.int v78] (c_X12_isHands l D k b qm (up2 sm 12 g80) (up2L (up2L tm 10 g52) 11 g79) H.size v78 (show 0 ≤ ((sm 2) 1).toInt ∧ ((sm 2) 1).toInt ≤ 4 from by first | decide | omega)) gX12_layBest_X12_isHands rfl rfl rfl nd_X12_isHands ⟨Nat.le_of_ble_eq_true rfl, Nat.le_of_ble_eq_true rfl⟩ (ci := 10) (q0 := 0) rfl rfl rfl hl.1 rfl (Nat.le_of_ble_eq_true rfl) ⟨Nat.zero_le _, Nat.zero_le _⟩ dX12_layBest_83) cx.2.2.1 hD hS (fun r100 _ H locs hw99 hP hD hS => ?_)
                    replace hw99 : (0 ≤ r100.toInt ∧ r100.toInt ≤ 1) ∧ (Imp (r100.toInt = 1) (0 ≤ v78.toInt ∧ v78.toInt ≤ 400)) ∧ (r100 = J_X12_isHands (up2 sm 12 g80) (up2L (up2L tm 10 g52) 11 g79) v78) := hw99
                    obtain ⟨w101, w102, w103⟩ := hw99
                    have zr100 : 0 ≤ r100.toInt ∧ r100.toInt ≤ 1 := w101
                    refine lv_if_eq (tgt := 97) hx hb dX12_layBest_86 (by decide) (fun c105 => ?_) (fun c105 => ?_)
                    · have f105 : r100.toInt = 0 := f_eq rfl (by decide) c105
                      obtain ⟨v106, e106⟩ : ∃ z : Int32, z = v78 + 1 := ⟨_, rfl⟩
                      refine lv_iinc (v := v106) (lv' := [(5, .int v106), (3, .long r61), (2, .int v51), (0, .ref (qm 0)), (1, .int p0)]) hx hb dX12_layBest_97 hl (k := 0) rfl (by rw [e106]; rfl) (by decide) rfl (fun ls hl => ?_)
                      have t106 : v106.toInt = v78.toInt + 1 := by rw [e106]; exact i_add rfl (by decide) (by omega) (by omega)
                      refine lv_goto (tgt := 72) hx hb dX12_layBest_100 (by decide) ?_
                      exact ih72 v106 g79 g80 _ _ _ (by omega) (by first | decide | omega) (LT_g hzrr72_3 (exl_X12_layBest_7 e106 c82 w103 c105)) hP hD hS (lv_sub hl [0, 1, 2, 3, 4] rfl)
                    · have f105 : ¬ r100.toInt = 0 := f_ne rfl (by decide) c105
                      have k105 : (0 ≤ v78.toInt ∧ v78.toInt ≤ 400) := w102 (by omega)
                      refine lv_aload_n hx hb dX12_layBest_89 rfl (lv_at hl 3 rfl) ?_
                      refine lv_iload_n hx hb dX12_layBest_90 rfl (lv_at hl 2 rfl) ?_
                      refine lv_iload hx hb dX12_layBest_91 (lv_at hl 0 rfl) ?_
                      refine lv_lload_n hx hb dX12_layBest_93 rfl (lv_at hl 1 rfl) ?_
                      refine g_vF (w1 := fun (u : (Nat → Int64) × (Nat → Int32)) => [cell22_ qm sm tm, cell5_ k qm sm, cell13_ k qm sm, cell8_ k qm sm, cell6_ k qm sm, cell15_ k qm sm, cell14_ k qm tm, cell12_ k qm tm, cell18_ k qm tm, cell17_ k qm tm, (qm 10, .inl (k 1, 1500, .inr (.inl g52))), cell122_ k qm (u.1), cell123_ k qm (u.2), cell16_ k qm sm, cell11_ k qm sm, cell10_ k qm sm, cell9_ k qm sm, cell7_ k qm sm]) (g_runVF (ws := [cell22_ qm sm tm, cell5_ k qm sm, cell13_ k qm sm, cell8_ k qm sm, cell6_ k qm sm, cell15_ k qm sm, cell14_ k qm tm, cell12_ k qm tm, cell18_ k qm tm, cell17_ k qm tm, (qm 10, .inl (k 1, 1500, .inr (.inl g52))), (qm 11, .inl (k 1, 1500, .inr (.inl g79))), (qm 12, .inl (k 0, 1500, .inl g80)), cell16_ k qm sm, cell11_ k qm sm, cell10_ k qm sm, cell9_ k qm sm, cell7_ k qm sm]) (rest := []) cx hP hD hS [.int v51, .int v78, .long r61] (c_X12_layBestOf l D k b qm (up2 sm 12 g80) (up2L (up2L tm 10 g52) 11 g79) H.size v51 v78 r61 (show 0 ≤ ((sm 2) 0).toInt ∧ ((sm 2) 0).toInt ≤ 5 from by first | decide | omega) (show 0 ≤ ((sm 2) 1).toInt ∧ ((sm 2) 1).toInt ≤ 4 from by first | decide | omega) (show 0 ≤ v51.toInt ∧ v51.toInt ≤ 4 from by first | decide | omega) (show 0 ≤ v78.toInt ∧ v78.toInt ≤ 400 from by first | decide | omega)) gX12_layBest_X12_layBestOf rfl rfl rfl nd_X12_layBestOf ⟨Nat.le_of_ble_eq_true rfl, Nat.le_of_ble_eq_true rfl⟩ (ci := 10) (q0 := 0) rfl rfl rfl hl.1 rfl (Nat.le_of_ble_eq_true rfl) ⟨Nat.zero_le _, Nat.zero_le _⟩ dX12_layBest_94) cx.2.2.1 hD hS (fun u108 H locs hw107 hP hD hS => ?_)
                      obtain ⟨m109, m110⟩ := u108
                      have hP : va_P D vwCl [cell22_ qm sm tm, cell5_ k qm sm, cell13_ k qm sm, cell8_ k qm sm, cell6_ k qm sm, cell15_ k qm sm, cell14_ k qm tm, cell12_ k qm tm, cell18_ k qm tm, cell17_ k qm tm, (qm 10, .inl (k 1, 1500, .inr (.inl g52))), (qm 11, .inl (k 1, 1500, .inr (.inl m109))), (qm 12, .inl (k 0, 1500, .inl m110)), cell16_ k qm sm, cell11_ k qm sm, cell10_ k qm sm, cell9_ k qm sm, cell7_ k qm sm] H := hP
                      have hD : va_D A [cell22_ qm sm tm, cell5_ k qm sm, cell13_ k qm sm, cell8_ k qm sm, cell6_ k qm sm, cell15_ k qm sm, cell14_ k qm tm, cell12_ k qm tm, cell18_ k qm tm, cell17_ k qm tm, (qm 10, .inl (k 1, 1500, .inr (.inl g52))), (qm 11, .inl (k 1, 1500, .inr (.inl m109))), (qm 12, .inl (k 0, 1500, .inl m110)), cell16_ k qm sm, cell11_ k qm sm, cell10_ k qm sm, cell9_ k qm sm, cell7_ k qm sm] := hD
                      have w111 : (m109, m110) = J_X12_layBestOf (up2 sm 12 g80) (up2L (up2L tm 10 g52) 11 g79) v51 v78 r61 := hw107
                      clear hw107
                      obtain ⟨v113, e113⟩ : ∃ z : Int32, z = v78 + 1 := ⟨_, rfl⟩
                      refine lv_iinc (v := v113) (lv' := [(5, .int v113), (3, .long r61), (2, .int v51), (0, .ref (qm 0)), (1, .int p0)]) hx hb dX12_layBest_97 hl (k := 0) rfl (by rw [e113]; rfl) (by decide) rfl (fun ls hl => ?_)
                      have t113 : v113.toInt = v78.toInt + 1 := by rw [e113]; exact i_add rfl (by decide) (by omega) (by omega)
                      refine lv_goto (tgt := 72) hx hb dX12_layBest_100 (by decide) ?_
                      exact ih72 v113 m109 m110 _ _ _ (by omega) (by first | decide | omega) (LT_g hzrr72_3 (exl_X12_layBest_8 e113 c82 w103 c105 w111)) hP hD hS (lv_sub hl [0, 1, 2, 3, 4] rfl)
              have hlit114 : (0 : Int32).toInt = 0 := by decide
              exact hL72 (501) 0 g53 g54 _ _ _ (by omega) (by first | decide | omega) err72_3 hP hD hS (lv_sub hl [0, 1, 2, 3, 4] rfl)
        exact hL52 (6) v23 g18 (tm 11) (sm 12) _ _ _ (by omega) (by first | decide | omega) err52_2 hP hD hS (lv_sub hl [0, 1, 2] rfl)
      · have f20 : v17.toInt < 1500 := f_nle (by decide) rfl c20
        refine lv_aload_n hx hb dX12_layBest_9 rfl (lv_at hl 1 rfl) ?_
        refine g_get cx hP iw_X12_layBest_X12 0 rfl rfl 18 (by decide) rfl fw_X12_layBest_38 rfl dX12_layBest_10 ?_
        refine lv_iload_n hx hb dX12_layBest_13 rfl (lv_at hl 0 rfl) ?_
        refine lv_aload_n hx hb dX12_layBest_14 rfl (lv_at hl 1 rfl) ?_
        refine lv_iload_n hx hb dX12_layBest_15 rfl (lv_at hl 0 rfl) ?_
        refine lv_iconst (v := 3) hx hb dX12_layBest_16 (by decide) ?_
        refine lv_idiv hx hb dX12_layBest_17 (by decide) (lv_topi (fun v115 e115 => ?_))
        have t115 : v115.toInt = v17.toInt / 3 := by rw [e115]; exact i_div rfl (by decide) (by omega) (by omega) (by omega)
        refine g_iF (w1 := fun (_ : Unit) => [cell22_ qm sm tm, cell5_ k qm sm, cell13_ k qm sm, cell8_ k qm sm, cell6_ k qm sm, cell15_ k qm sm, cell14_ k qm tm, cell12_ k qm tm, cell18_ k qm tm, cell17_ k qm tm, (qm 10, .inl (k 1, 1500, .inr (.inl g18))), cell21_ k qm tm, cell20_ k qm sm, cell16_ k qm sm, cell11_ k qm sm, cell10_ k qm sm, cell9_ k qm sm, cell7_ k qm sm]) (g_runVF (ws := [cell22_ qm sm tm, cell5_ k qm sm, cell13_ k qm sm, cell8_ k qm sm, cell6_ k qm sm, cell15_ k qm sm, cell14_ k qm tm, cell12_ k qm tm, cell18_ k qm tm, cell17_ k qm tm, (qm 10, .inl (k 1, 1500, .inr (.inl g18))), cell21_ k qm tm, cell20_ k qm sm, cell16_ k qm sm, cell11_ k qm sm, cell10_ k qm sm, cell9_ k qm sm, cell7_ k qm sm]) (rest := [.int v17, .ref (qm 10)]) cx hP hD hS [.int v115] (c_X12_isHands l D k b qm sm (up2L tm 10 g18) H.size v115 (show 0 ≤ ((sm 2) 1).toInt ∧ ((sm 2) 1).toInt ≤ 4 from by first | decide | omega)) gX12_layBest_X12_isHands rfl rfl rfl nd_X12_isHands ⟨Nat.le_of_ble_eq_true rfl, Nat.le_of_ble_eq_true rfl⟩ (ci := 10) (q0 := 0) rfl rfl rfl hl.1 rfl (Nat.le_of_ble_eq_true rfl) ⟨Nat.zero_le _, Nat.zero_le _⟩ dX12_layBest_18) cx.2.2.1 hD hS (fun r117 _ H locs hw116 hP hD hS => ?_)
        replace hw116 : (0 ≤ r117.toInt ∧ r117.toInt ≤ 1) ∧ (Imp (r117.toInt = 1) (0 ≤ v115.toInt ∧ v115.toInt ≤ 400)) ∧ (r117 = J_X12_isHands sm (up2L tm 10 g18) v115) := hw116
        obtain ⟨w118, w119, w120⟩ := hw116
        have zr117 : 0 ≤ r117.toInt ∧ r117.toInt ≤ 1 := w118
        refine lv_if_eq (tgt := 35) hx hb dX12_layBest_21 (by decide) (fun c122 => ?_) (fun c122 => ?_)
        · have f122 : r117.toInt = 0 := f_eq rfl (by decide) c122
          refine lv_lconst (v := 0) hx hb dX12_layBest_35 (by decide) ?_
          have hn123 : vp_in v17 1500 := f_in (a := v17.toInt) rfl (by omega) (by omega)
          refine va_last hx hb cx.2.1 hP hD hS 10 1 rfl rfl hn123 dX12_layBest_36 (fun H locs hP hD hS => ?_)
          obtain ⟨g124, eg124⟩ : ∃ g : Nat → Int64, g = vp_updL g18 (v17).toNatClampNeg 0 := ⟨_, rfl⟩
          rw [← eg124] at hP hD
          have hP : va_P D vwCl [cell22_ qm sm tm, cell5_ k qm sm, cell13_ k qm sm, cell8_ k qm sm, cell6_ k qm sm, cell15_ k qm sm, cell14_ k qm tm, cell12_ k qm tm, cell18_ k qm tm, cell17_ k qm tm, (qm 10, .inl (k 1, 1500, .inr (.inl g124))), cell21_ k qm tm, cell20_ k qm sm, cell16_ k qm sm, cell11_ k qm sm, cell10_ k qm sm, cell9_ k qm sm, cell7_ k qm sm] H := hP
          have hD : va_D A [cell22_ qm sm tm, cell5_ k qm sm, cell13_ k qm sm, cell8_ k qm sm, cell6_ k qm sm, cell15_ k qm sm, cell14_ k qm tm, cell12_ k qm tm, cell18_ k qm tm, cell17_ k qm tm, (qm 10, .inl (k 1, 1500, .inr (.inl g124))), cell21_ k qm tm, cell20_ k qm sm, cell16_ k qm sm, cell11_ k qm sm, cell10_ k qm sm, cell9_ k qm sm, cell7_ k qm sm] := hD
          obtain ⟨v125, e125⟩ : ∃ z : Int32, z = v17 + 1 := ⟨_, rfl⟩
          refine lv_iinc (v := v125) (lv' := [(2, .int v125), (0, .ref (qm 0)), (1, .int p0)]) hx hb dX12_layBest_37 hl (k := 0) rfl (by rw [e125]; rfl) (by decide) rfl (fun ls hl => ?_)
          have t125 : v125.toInt = v17.toInt + 1 := by rw [e125]; exact i_add rfl (by decide) (by omega) (by omega)
          refine lv_goto (tgt := 2) hx hb dX12_layBest_40 (by decide) ?_
          exact ih2 v125 g124 _ _ _ (by omega) (by first | decide | omega) (LT_g hzrr2_1 (exl_X12_layBest_9 e115 eg124 e125 c20 w120 c122)) hP hD hS (lv_sub hl [0, 1, 2] rfl)
        · have f122 : ¬ r117.toInt = 0 := f_ne rfl (by decide) c122
          have k122 : (0 ≤ v115.toInt ∧ v115.toInt ≤ 400) := w119 (by omega)
          refine lv_aload_n hx hb dX12_layBest_24 rfl (lv_at hl 1 rfl) ?_
          refine lv_iload_n hx hb dX12_layBest_25 rfl (lv_at hl 0 rfl) ?_
          refine lv_iconst (v := 3) hx hb dX12_layBest_26 (by decide) ?_
          refine lv_idiv hx hb dX12_layBest_27 (by decide) (lv_topi (fun v126 e126 => ?_))
          have t126 : v126.toInt = v17.toInt / 3 := by rw [e126]; exact i_div rfl (by decide) (by omega) (by omega) (by omega)
          refine g_iF (w1 := fun (_ : Unit) => [cell22_ qm sm tm, cell5_ k qm sm, cell13_ k qm sm, cell8_ k qm sm, cell6_ k qm sm, cell15_ k qm sm, cell14_ k qm tm, cell12_ k qm tm, cell18_ k qm tm, cell17_ k qm tm, (qm 10, .inl (k 1, 1500, .inr (.inl g18))), cell21_ k qm tm, cell20_ k qm sm, cell16_ k qm sm, cell11_ k qm sm, cell10_ k qm sm, cell9_ k qm sm, cell7_ k qm sm]) (g_runVF (ws := [cell22_ qm sm tm, cell5_ k qm sm, cell13_ k qm sm, cell8_ k qm sm, cell6_ k qm sm, cell15_ k qm sm, cell14_ k qm tm, cell12_ k qm tm, cell18_ k qm tm, cell17_ k qm tm, (qm 10, .inl (k 1, 1500, .inr (.inl g18))), cell21_ k qm tm, cell20_ k qm sm, cell16_ k qm sm, cell11_ k qm sm, cell10_ k qm sm, cell9_ k qm sm, cell7_ k qm sm]) (rest := [.int v17, .ref (qm 10)]) cx hP hD hS [.int v126] (c_X12_bonus l D k b qm sm (up2L tm 10 g18) H.size v126) gX12_layBest_X12_bonus rfl rfl rfl nd_X12_bonus ⟨Nat.le_of_ble_eq_true rfl, Nat.le_of_ble_eq_true rfl⟩ (ci := 10) (q0 := 0) rfl rfl rfl hl.1 rfl (Nat.le_of_ble_eq_true rfl) ⟨Nat.zero_le _, Nat.zero_le _⟩ dX12_layBest_28) cx.2.2.1 hD hS (fun r128 _ H locs hw127 hP hD hS => ?_)
          have w129 : r128 = J_X12_bonus sm (up2L tm 10 g18) v126 := hw127
          clear hw127
          obtain ⟨v131, e131⟩ : ∃ z : Int64, z = (r128 : Int32).toInt64 := ⟨_, rfl⟩
          refine lv_i2l (v := v131) hx hb dX12_layBest_31 e131.symm ?_
          refine lv_goto (tgt := 36) hx hb dX12_layBest_32 (by decide) ?_
          have hn132 : vp_in v17 1500 := f_in (a := v17.toInt) rfl (by omega) (by omega)
          refine va_last hx hb cx.2.1 hP hD hS 10 1 rfl rfl hn132 dX12_layBest_36 (fun H locs hP hD hS => ?_)
          obtain ⟨g133, eg133⟩ : ∃ g : Nat → Int64, g = vp_updL g18 (v17).toNatClampNeg v131 := ⟨_, rfl⟩
          rw [← eg133] at hP hD
          have hP : va_P D vwCl [cell22_ qm sm tm, cell5_ k qm sm, cell13_ k qm sm, cell8_ k qm sm, cell6_ k qm sm, cell15_ k qm sm, cell14_ k qm tm, cell12_ k qm tm, cell18_ k qm tm, cell17_ k qm tm, (qm 10, .inl (k 1, 1500, .inr (.inl g133))), cell21_ k qm tm, cell20_ k qm sm, cell16_ k qm sm, cell11_ k qm sm, cell10_ k qm sm, cell9_ k qm sm, cell7_ k qm sm] H := hP
          have hD : va_D A [cell22_ qm sm tm, cell5_ k qm sm, cell13_ k qm sm, cell8_ k qm sm, cell6_ k qm sm, cell15_ k qm sm, cell14_ k qm tm, cell12_ k qm tm, cell18_ k qm tm, cell17_ k qm tm, (qm 10, .inl (k 1, 1500, .inr (.inl g133))), cell21_ k qm tm, cell20_ k qm sm, cell16_ k qm sm, cell11_ k qm sm, cell10_ k qm sm, cell9_ k qm sm, cell7_ k qm sm] := hD
          obtain ⟨v134, e134⟩ : ∃ z : Int32, z = v17 + 1 := ⟨_, rfl⟩
          refine lv_iinc (v := v134) (lv' := [(2, .int v134), (0, .ref (qm 0)), (1, .int p0)]) hx hb dX12_layBest_37 hl (k := 0) rfl (by rw [e134]; rfl) (by decide) rfl (fun ls hl => ?_)
          have t134 : v134.toInt = v17.toInt + 1 := by rw [e134]; exact i_add rfl (by decide) (by omega) (by omega)
          refine lv_goto (tgt := 2) hx hb dX12_layBest_40 (by decide) ?_
          exact ih2 v134 g133 _ _ _ (by omega) (by first | decide | omega) (LT_g hzrr2_1 (exl_X12_layBest_10 e115 e126 e131 eg133 e134 c20 w120 c122 w129)) hP hD hS (lv_sub hl [0, 1, 2] rfl)
  have hlit135 : (0 : Int32).toInt = 0 := by decide
  exact hL2 (1501) 0 (tm 10) _ _ _ (by omega) (by first | decide | omega) err2_1 hP hD hS (lv_sub hl [0, 1, 2] rfl)
theorem fw_X12_best_13 : Cond.fieldLink RX12 13 "StillInAugustModel" "house" "[I" ∈ wsX12_best := by decide +kernel
theorem fw_X12_best_38 : Cond.fieldLink RX12 38 "StillInAugustModel" "bests" "[J" ∈ wsX12_best := by decide +kernel
theorem kJ_X12_best_206 : Cond.constantLong RX12 206 (-2) ∈ wsX12_best := by decide +kernel
theorem kJ_X12_best_221 : Cond.constantLong RX12 221 (-1) ∈ wsX12_best := by decide +kernel
theorem nd_X12_layBest : yX12_layBest.cls = RX12 ∧ yX12_layBest.cls ≠ "java/lang/invoke/MethodHandle" ∧ yX12_layBest.cls ≠ "java/lang/invoke/VarHandle" ∧ (parseMethodDescriptor yX12_layBest.desc).map (fun d => d.parameters.length) = some 1 := by decide +kernel
theorem iw_X12_best_X12 : ∀ w ∈ u_ws RX12 TX12 33, w ∈ wsX12_best := fun _ h => List.mem_cons_of_mem _ (List.mem_append_right _ h)
def J_X12_best (sm : Nat → Nat → Int32) (tm : Nat → Nat → Int64) (p0 : Int32) (p1 : Int32) (p2 : Int32) (p3 : Int32) : Int64 × (Nat → Int64) × (Nat → Int64) × (Nat → Int32) := LetF (J_X12_isWeek sm tm p0) (fun y6 => if y6 = 0 then (((-1) : Int64), (tm 10), (tm 11), (sm 12)) else LetF (J_X12_isHands sm tm p1) (fun y13 => if y13 = 0 then (((-2) : Int64), (tm 10), (tm 11), (sm 12)) else LetF (J_X12_isComing sm tm p2) (fun y20 => if y20 = 0 then (((-2) : Int64), (tm 10), (tm 11), (sm 12)) else LetF (J_X12_layBest sm tm p0) (fun y28 => LetF (J_X12_parts ((((sm 2) (0 : Int32).toNatClampNeg) - p0))) (fun y40 => LetF (J_X12_told (((y28.1) ((((3 : Int32) * p1) + p2)).toNatClampNeg)) y40 p3) (fun y44 => (y44, (y28.1), (y28.2.1), (y28.2.2))))))))
theorem exl_X12_best_0 {sm : Nat → Nat → Int32} {tm : Nat → Nat → Int64} {p0 : Int32} {p1 : Int32} {p2 : Int32} {p3 : Int32} {r2 : Int32} {r9 : Int32} (w5 : r2 = J_X12_isWeek sm tm p0) (c7 : ¬ (r2 = (0 : Int32))) (w12 : r9 = J_X12_isHands sm tm p1) (c14 : r9 = (0 : Int32)) : (((-2) : Int64), (tm 10), (tm 11), (sm 12)) = J_X12_best sm tm p0 p1 p2 p3 := by refine Eq.symm ?_; unfold J_X12_best; refine lt_e w5 ?_; refine Eq.trans (if_neg c7) ?_; refine lt_e w12 ?_; refine Eq.trans (if_pos c14) ?_; rfl
theorem exl_X12_best_1 {sm : Nat → Nat → Int32} {tm : Nat → Nat → Int64} {p0 : Int32} {p1 : Int32} {p2 : Int32} {p3 : Int32} {r42 : Int64} {m24 : Nat → Int64} {m25 : Nat → Int64} {m26 : Nat → Int32} {v29 : Int32} {v30 : Int32} {v32 : Int64} {v34 : Int32} {v35 : Int32} {r2 : Int32} {r9 : Int32} {r16 : Int32} {r37 : Int64} (e29 : v29 = ((3 : Int32) * p1)) (e30 : v30 = (v29 + p2)) (e32 : v32 = (m24 (v30).toNatClampNeg)) (e34 : v34 = ((sm 2) ((0 : Int32).toNatClampNeg))) (e35 : v35 = (v34 - p0)) (w5 : r2 = J_X12_isWeek sm tm p0) (c7 : ¬ (r2 = (0 : Int32))) (w12 : r9 = J_X12_isHands sm tm p1) (c14 : ¬ (r9 = (0 : Int32))) (w19 : r16 = J_X12_isComing sm tm p2) (c21 : ¬ (r16 = (0 : Int32))) (w27 : (m24, m25, m26) = J_X12_layBest sm tm p0) (w39 : r37 = J_X12_parts v35) (w43 : r42 = J_X12_told v32 r37 p3) : (r42, m24, m25, m26) = J_X12_best sm tm p0 p1 p2 p3 := by subst e29 e30 e32 e34 e35; refine Eq.symm ?_; unfold J_X12_best; refine lt_e w5 ?_; refine Eq.trans (if_neg c7) ?_; refine lt_e w12 ?_; refine Eq.trans (if_neg c14) ?_; refine lt_e w19 ?_; refine Eq.trans (if_neg c21) ?_; refine lt_e w27 ?_; refine lt_e w39 ?_; refine lt_e w43 ?_; rfl
theorem exl_X12_best_2 {sm : Nat → Nat → Int32} {tm : Nat → Nat → Int64} {p0 : Int32} {p1 : Int32} {p2 : Int32} {p3 : Int32} {r2 : Int32} {r9 : Int32} {r16 : Int32} (w5 : r2 = J_X12_isWeek sm tm p0) (c7 : ¬ (r2 = (0 : Int32))) (w12 : r9 = J_X12_isHands sm tm p1) (c14 : ¬ (r9 = (0 : Int32))) (w19 : r16 = J_X12_isComing sm tm p2) (c21 : r16 = (0 : Int32)) : (((-2) : Int64), (tm 10), (tm 11), (sm 12)) = J_X12_best sm tm p0 p1 p2 p3 := by refine Eq.symm ?_; unfold J_X12_best; refine lt_e w5 ?_; refine Eq.trans (if_neg c7) ?_; refine lt_e w12 ?_; refine Eq.trans (if_neg c14) ?_; refine lt_e w19 ?_; refine Eq.trans (if_pos c21) ?_; rfl
theorem exl_X12_best_3 {sm : Nat → Nat → Int32} {tm : Nat → Nat → Int64} {p0 : Int32} {p1 : Int32} {p2 : Int32} {p3 : Int32} {r2 : Int32} (w5 : r2 = J_X12_isWeek sm tm p0) (c7 : r2 = (0 : Int32)) : (((-1) : Int64), (tm 10), (tm 11), (sm 12)) = J_X12_best sm tm p0 p1 p2 p3 := by refine Eq.symm ?_; unfold J_X12_best; refine lt_e w5 ?_; refine Eq.trans (if_pos c7) ?_; rfl
set_option maxHeartbeats 4000000 in
set_option maxRecDepth 100000 in
theorem c_X12_best (l : Launch) (D : va_G) (k : Nat → ClassId) (b : Nat → Nat) (qm : Nat → Nat) (sm : Nat → Nat → Int32) (tm : Nat → Nat → Int64) (sz : Nat) (p0 : Int32) (p1 : Int32) (p2 : Int32) (p3 : Int32) (h_w0 : 0 ≤ (sm 2 0).toInt ∧ (sm 2 0).toInt ≤ 5) (h_k1 : 0 ≤ (sm 2 1).toInt ∧ (sm 2 1).toInt ≤ 4) : MetL l D k b yX12_best wsX12_best ({ frames := 6, cells := 0, slots := 0, locals := 157 } : Room) [cell22_ qm sm tm, cell5_ k qm sm, cell13_ k qm sm, cell8_ k qm sm, cell6_ k qm sm, cell15_ k qm sm, cell14_ k qm tm, cell12_ k qm tm, cell18_ k qm tm, cell17_ k qm tm, cell19_ k qm tm, cell21_ k qm tm, cell20_ k qm sm, cell16_ k qm sm, cell11_ k qm sm, cell10_ k qm sm, cell9_ k qm sm, cell7_ k qm sm] sz [.ref (qm 0), .int p0, .int p1, .int p2, .int p3] (fun (r : Int64) (u : (Nat → Int64) × (Nat → Int64) × (Nat → Int32)) => (r, (u.1), (u.2.1), (u.2.2)) = J_X12_best sm tm p0 p1 p2 p3) (fun u => [cell22_ qm sm tm, cell5_ k qm sm, cell13_ k qm sm, cell8_ k qm sm, cell6_ k qm sm, cell15_ k qm sm, cell14_ k qm tm, cell12_ k qm tm, cell18_ k qm tm, cell17_ k qm tm, cell130_ k qm (u.1), cell122_ k qm (u.2.1), cell123_ k qm (u.2.2), cell16_ k qm sm, cell11_ k qm sm, cell10_ k qm sm, cell9_ k qm sm, cell7_ k qm sm]) := by
  refine g_enter (cc := cX12_best) (maxL := 5) (ret := (some .long)) (by decide) rfl (Nat.le_of_ble_eq_true rfl) ?_
  intro p e s m below meth c A hsz hAe cx hr hP hD hS ls hl
  rw [hAe]
  refine g_q (fun Q hQ => ?_)
  have hx := cx.1.1
  have hb := cx.1.2.1
  have bp0 := i_rng p0
  have bp1 := i_rng p1
  have bp2 := i_rng p2
  have bp3 := i_rng p3
  have hl : lv_has ls 5 [(0, .ref (qm 0)), (1, .int p0), (2, .int p1), (3, .int p2), (4, .int p3)] := hl
  obtain ⟨H, eH⟩ : ∃ H : Heap, H = s.heap := ⟨_, rfl⟩
  obtain ⟨locs, el⟩ : ∃ L : List Loc, L = [] := ⟨_, rfl⟩
  have hP : va_P D vwCl [cell22_ qm sm tm, cell5_ k qm sm, cell13_ k qm sm, cell8_ k qm sm, cell6_ k qm sm, cell15_ k qm sm, cell14_ k qm tm, cell12_ k qm tm, cell18_ k qm tm, cell17_ k qm tm, cell19_ k qm tm, cell21_ k qm tm, cell20_ k qm sm, cell16_ k qm sm, cell11_ k qm sm, cell10_ k qm sm, cell9_ k qm sm, cell7_ k qm sm] H := by rw [eH]; exact hP
  have hD : va_D A [cell22_ qm sm tm, cell5_ k qm sm, cell13_ k qm sm, cell8_ k qm sm, cell6_ k qm sm, cell15_ k qm sm, cell14_ k qm tm, cell12_ k qm tm, cell18_ k qm tm, cell17_ k qm tm, cell19_ k qm tm, cell21_ k qm tm, cell20_ k qm sm, cell16_ k qm sm, cell11_ k qm sm, cell10_ k qm sm, cell9_ k qm sm, cell7_ k qm sm] := hD
  have hS : va_S A s.heap H locs := by rw [eH, el]; exact hS
  suffices goal : W p l e ({ frames := 6, cells := 0, slots := 0, locals := 157 } : Room) s m ([.ref (qm 0), .int p0, .int p1, .int p2, .int p3] : List Value).toArray below meth c H locs 0 0 Q (F0 m 0 ls []) by rw [eH, el] at goal; exact goal
  refine lv_aload_n hx hb dX12_best_0 rfl (lv_at hl 0 rfl) ?_
  refine lv_iload_n hx hb dX12_best_1 rfl (lv_at hl 1 rfl) ?_
  refine g_iF (w1 := fun (_ : Unit) => [cell22_ qm sm tm, cell5_ k qm sm, cell13_ k qm sm, cell8_ k qm sm, cell6_ k qm sm, cell15_ k qm sm, cell14_ k qm tm, cell12_ k qm tm, cell18_ k qm tm, cell17_ k qm tm, cell19_ k qm tm, cell21_ k qm tm, cell20_ k qm sm, cell16_ k qm sm, cell11_ k qm sm, cell10_ k qm sm, cell9_ k qm sm, cell7_ k qm sm]) (g_runVF (ws := [cell22_ qm sm tm, cell5_ k qm sm, cell13_ k qm sm, cell8_ k qm sm, cell6_ k qm sm, cell15_ k qm sm, cell14_ k qm tm, cell12_ k qm tm, cell18_ k qm tm, cell17_ k qm tm, cell19_ k qm tm, cell21_ k qm tm, cell20_ k qm sm, cell16_ k qm sm, cell11_ k qm sm, cell10_ k qm sm, cell9_ k qm sm, cell7_ k qm sm]) (rest := []) cx hP hD hS [.int p0] (c_X12_isWeek l D k b qm sm tm H.size p0 (show 0 ≤ ((sm 2) 0).toInt ∧ ((sm 2) 0).toInt ≤ 5 from by first | decide | omega)) gX12_best_X12_isWeek rfl rfl rfl nd_X12_isWeek ⟨Nat.le_of_ble_eq_true rfl, Nat.le_of_ble_eq_true rfl⟩ (ci := 10) (q0 := 0) rfl rfl rfl hl.1 rfl (Nat.le_of_ble_eq_true rfl) ⟨Nat.zero_le _, Nat.zero_le _⟩ dX12_best_2) cx.2.2.1 hD hS (fun r2 _ H locs hw1 hP hD hS => ?_)
  replace hw1 : (0 ≤ r2.toInt ∧ r2.toInt ≤ 1) ∧ (Imp (r2.toInt = 1) (0 ≤ p0.toInt ∧ p0.toInt ≤ 4)) ∧ (r2 = J_X12_isWeek sm tm p0) := hw1
  obtain ⟨w3, w4, w5⟩ := hw1
  have zr2 : 0 ≤ r2.toInt ∧ r2.toInt ≤ 1 := w3
  refine lv_if_ne (tgt := 12) hx hb dX12_best_5 (by decide) (fun c7 => ?_) (fun c7 => ?_)
  · have f7 : ¬ r2.toInt = 0 := f_ne rfl (by decide) c7
    have k7 : (0 ≤ p0.toInt ∧ p0.toInt ≤ 4) := w4 (by omega)
    refine lv_aload_n hx hb dX12_best_12 rfl (lv_at hl 0 rfl) ?_
    refine lv_iload_n hx hb dX12_best_13 rfl (lv_at hl 2 rfl) ?_
    refine g_iF (w1 := fun (_ : Unit) => [cell22_ qm sm tm, cell5_ k qm sm, cell13_ k qm sm, cell8_ k qm sm, cell6_ k qm sm, cell15_ k qm sm, cell14_ k qm tm, cell12_ k qm tm, cell18_ k qm tm, cell17_ k qm tm, cell19_ k qm tm, cell21_ k qm tm, cell20_ k qm sm, cell16_ k qm sm, cell11_ k qm sm, cell10_ k qm sm, cell9_ k qm sm, cell7_ k qm sm]) (g_runVF (ws := [cell22_ qm sm tm, cell5_ k qm sm, cell13_ k qm sm, cell8_ k qm sm, cell6_ k qm sm, cell15_ k qm sm, cell14_ k qm tm, cell12_ k qm tm, cell18_ k qm tm, cell17_ k qm tm, cell19_ k qm tm, cell21_ k qm tm, cell20_ k qm sm, cell16_ k qm sm, cell11_ k qm sm, cell10_ k qm sm, cell9_ k qm sm, cell7_ k qm sm]) (rest := []) cx hP hD hS [.int p1] (c_X12_isHands l D k b qm sm tm H.size p1 (show 0 ≤ ((sm 2) 1).toInt ∧ ((sm 2) 1).toInt ≤ 4 from by first | decide | omega)) gX12_best_X12_isHands rfl rfl rfl nd_X12_isHands ⟨Nat.le_of_ble_eq_true rfl, Nat.le_of_ble_eq_true rfl⟩ (ci := 10) (q0 := 0) rfl rfl rfl hl.1 rfl (Nat.le_of_ble_eq_true rfl) ⟨Nat.zero_le _, Nat.zero_le _⟩ dX12_best_14) cx.2.2.1 hD hS (fun r9 _ H locs hw8 hP hD hS => ?_)
    replace hw8 : (0 ≤ r9.toInt ∧ r9.toInt ≤ 1) ∧ (Imp (r9.toInt = 1) (0 ≤ p1.toInt ∧ p1.toInt ≤ 400)) ∧ (r9 = J_X12_isHands sm tm p1) := hw8
    obtain ⟨w10, w11, w12⟩ := hw8
    have zr9 : 0 ≤ r9.toInt ∧ r9.toInt ≤ 1 := w10
    refine lv_if_eq (tgt := 28) hx hb dX12_best_17 (by decide) (fun c14 => ?_) (fun c14 => ?_)
    · have f14 : r9.toInt = 0 := f_eq rfl (by decide) c14
      refine lv_ldc2 (v := (-2)) hx hb cx.1.2.2.2.1 (cx.1.2.2.2.2 _ kJ_X12_best_206) dX12_best_28 ?_
      rw [hQ]
      exact x_l cx hr ((tm 10), (tm 11), (sm 12)) hP hD hS (show (((-2) : Int64), (tm 10), (tm 11), (sm 12)) = J_X12_best sm tm p0 p1 p2 p3 from (exl_X12_best_0 w5 c7 w12 c14)) dX12_best_31
    · have f14 : ¬ r9.toInt = 0 := f_ne rfl (by decide) c14
      have k14 : (0 ≤ p1.toInt ∧ p1.toInt ≤ 400) := w11 (by omega)
      refine lv_aload_n hx hb dX12_best_20 rfl (lv_at hl 0 rfl) ?_
      refine lv_iload_n hx hb dX12_best_21 rfl (lv_at hl 3 rfl) ?_
      refine g_iF (w1 := fun (_ : Unit) => [cell22_ qm sm tm, cell5_ k qm sm, cell13_ k qm sm, cell8_ k qm sm, cell6_ k qm sm, cell15_ k qm sm, cell14_ k qm tm, cell12_ k qm tm, cell18_ k qm tm, cell17_ k qm tm, cell19_ k qm tm, cell21_ k qm tm, cell20_ k qm sm, cell16_ k qm sm, cell11_ k qm sm, cell10_ k qm sm, cell9_ k qm sm, cell7_ k qm sm]) (g_runVF (ws := [cell22_ qm sm tm, cell5_ k qm sm, cell13_ k qm sm, cell8_ k qm sm, cell6_ k qm sm, cell15_ k qm sm, cell14_ k qm tm, cell12_ k qm tm, cell18_ k qm tm, cell17_ k qm tm, cell19_ k qm tm, cell21_ k qm tm, cell20_ k qm sm, cell16_ k qm sm, cell11_ k qm sm, cell10_ k qm sm, cell9_ k qm sm, cell7_ k qm sm]) (rest := []) cx hP hD hS [.int p2] (c_X12_isComing l D k b qm sm tm H.size p2) gX12_best_X12_isComing rfl rfl rfl nd_X12_isComing ⟨Nat.le_of_ble_eq_true rfl, Nat.le_of_ble_eq_true rfl⟩ (ci := 10) (q0 := 0) rfl rfl rfl hl.1 rfl (Nat.le_of_ble_eq_true rfl) ⟨Nat.zero_le _, Nat.zero_le _⟩ dX12_best_22) cx.2.2.1 hD hS (fun r16 _ H locs hw15 hP hD hS => ?_)
      replace hw15 : (0 ≤ r16.toInt ∧ r16.toInt ≤ 1) ∧ (Imp (r16.toInt = 1) (0 ≤ p2.toInt ∧ p2.toInt ≤ 2)) ∧ (r16 = J_X12_isComing sm tm p2) := hw15
      obtain ⟨w17, w18, w19⟩ := hw15
      have zr16 : 0 ≤ r16.toInt ∧ r16.toInt ≤ 1 := w17
      refine lv_if_ne (tgt := 32) hx hb dX12_best_25 (by decide) (fun c21 => ?_) (fun c21 => ?_)
      · have f21 : ¬ r16.toInt = 0 := f_ne rfl (by decide) c21
        have k21 : (0 ≤ p2.toInt ∧ p2.toInt ≤ 2) := w18 (by omega)
        refine lv_aload_n hx hb dX12_best_32 rfl (lv_at hl 0 rfl) ?_
        refine lv_iload_n hx hb dX12_best_33 rfl (lv_at hl 1 rfl) ?_
        refine g_vF (w1 := fun (u : (Nat → Int64) × (Nat → Int64) × (Nat → Int32)) => [cell22_ qm sm tm, cell5_ k qm sm, cell13_ k qm sm, cell8_ k qm sm, cell6_ k qm sm, cell15_ k qm sm, cell14_ k qm tm, cell12_ k qm tm, cell18_ k qm tm, cell17_ k qm tm, cell130_ k qm (u.1), cell122_ k qm (u.2.1), cell123_ k qm (u.2.2), cell16_ k qm sm, cell11_ k qm sm, cell10_ k qm sm, cell9_ k qm sm, cell7_ k qm sm]) (g_runVF (ws := [cell22_ qm sm tm, cell5_ k qm sm, cell13_ k qm sm, cell8_ k qm sm, cell6_ k qm sm, cell15_ k qm sm, cell14_ k qm tm, cell12_ k qm tm, cell18_ k qm tm, cell17_ k qm tm, cell19_ k qm tm, cell21_ k qm tm, cell20_ k qm sm, cell16_ k qm sm, cell11_ k qm sm, cell10_ k qm sm, cell9_ k qm sm, cell7_ k qm sm]) (rest := []) cx hP hD hS [.int p0] (c_X12_layBest l D k b qm sm tm H.size p0 (show 0 ≤ ((sm 2) 0).toInt ∧ ((sm 2) 0).toInt ≤ 5 from by first | decide | omega) (show 0 ≤ ((sm 2) 1).toInt ∧ ((sm 2) 1).toInt ≤ 4 from by first | decide | omega) (show 0 ≤ p0.toInt ∧ p0.toInt ≤ 4 from by first | decide | omega)) gX12_best_X12_layBest rfl rfl rfl nd_X12_layBest ⟨Nat.le_of_ble_eq_true rfl, Nat.le_of_ble_eq_true rfl⟩ (ci := 10) (q0 := 0) rfl rfl rfl hl.1 rfl (Nat.le_of_ble_eq_true rfl) ⟨Nat.zero_le _, Nat.zero_le _⟩ dX12_best_34) cx.2.2.1 hD hS (fun u23 H locs hw22 hP hD hS => ?_)
        obtain ⟨m24, m25, m26⟩ := u23
        have hP : va_P D vwCl [cell22_ qm sm tm, cell5_ k qm sm, cell13_ k qm sm, cell8_ k qm sm, cell6_ k qm sm, cell15_ k qm sm, cell14_ k qm tm, cell12_ k qm tm, cell18_ k qm tm, cell17_ k qm tm, (qm 10, .inl (k 1, 1500, .inr (.inl m24))), (qm 11, .inl (k 1, 1500, .inr (.inl m25))), (qm 12, .inl (k 0, 1500, .inl m26)), cell16_ k qm sm, cell11_ k qm sm, cell10_ k qm sm, cell9_ k qm sm, cell7_ k qm sm] H := hP
        have hD : va_D A [cell22_ qm sm tm, cell5_ k qm sm, cell13_ k qm sm, cell8_ k qm sm, cell6_ k qm sm, cell15_ k qm sm, cell14_ k qm tm, cell12_ k qm tm, cell18_ k qm tm, cell17_ k qm tm, (qm 10, .inl (k 1, 1500, .inr (.inl m24))), (qm 11, .inl (k 1, 1500, .inr (.inl m25))), (qm 12, .inl (k 0, 1500, .inl m26)), cell16_ k qm sm, cell11_ k qm sm, cell10_ k qm sm, cell9_ k qm sm, cell7_ k qm sm] := hD
        have w27 : (m24, m25, m26) = J_X12_layBest sm tm p0 := hw22
        clear hw22
        refine lv_aload_n hx hb dX12_best_37 rfl (lv_at hl 0 rfl) ?_
        refine g_get cx hP iw_X12_best_X12 0 rfl rfl 18 (by decide) rfl fw_X12_best_38 rfl dX12_best_38 ?_
        refine lv_iconst (v := 3) hx hb dX12_best_41 (by decide) ?_
        refine lv_iload_n hx hb dX12_best_42 rfl (lv_at hl 2 rfl) ?_
        refine lv_imul hx hb dX12_best_43 (lv_topi (fun v29 e29 => ?_))
        have t29 : v29.toInt = 3 * p1.toInt := by rw [e29]; exact i_mul (by decide) rfl (by omega) (by omega)
        refine lv_iload_n hx hb dX12_best_44 rfl (lv_at hl 3 rfl) ?_
        refine lv_iadd hx hb dX12_best_45 (lv_topi (fun v30 e30 => ?_))
        have t30 : v30.toInt = v29.toInt + p2.toInt := by rw [e30]; exact i_add rfl rfl (by omega) (by omega)
        have hn31 : vp_in v30 1500 := f_in (a := v30.toInt) rfl (by omega) (by omega)
        refine va_lald hx hb cx.2.1 hP 10 1 rfl rfl hn31 dX12_best_46 (lv_topl (fun v32 e32 => ?_))
        refine lv_aload_n hx hb dX12_best_47 rfl (lv_at hl 0 rfl) ?_
        refine g_get cx hP iw_X12_best_X12 0 rfl rfl 1 (by decide) rfl fw_X12_best_13 rfl dX12_best_48 ?_
        refine lv_iconst (v := 0) hx hb dX12_best_51 (by decide) ?_
        have hn33 : vp_in 0 26 := f_in (a := 0) (by decide) (by omega) (by omega)
        refine va_iald hx hb cx.2.1 hP 2 0 rfl rfl hn33 dX12_best_52 (lv_topi (fun v34 e34 => ?_))
        have uv34 : v34.toInt = ((sm 2) 0).toInt := congrArg Int32.toInt e34
        have t34 : 0 ≤ v34.toInt ∧ v34.toInt ≤ 5 := by rw [e34]; exact h_w0
        refine lv_iload_n hx hb dX12_best_53 rfl (lv_at hl 1 rfl) ?_
        refine lv_isub hx hb dX12_best_54 (lv_topi (fun v35 e35 => ?_))
        have t35 : v35.toInt = v34.toInt - p0.toInt := by rw [e35]; exact i_sub rfl rfl (by omega) (by omega)
        refine g_lr (g_runS (wc := []) (rest := [.long v32]) cx hP hD hS [] rfl (by decide) [.int v35] (c_X12_parts l D k b H.size v35) gX12_best_X12_parts rfl rfl rfl nd_X12_parts ⟨Nat.le_of_ble_eq_true rfl, Nat.le_of_ble_eq_true rfl⟩ rfl hl.1 rfl (Nat.le_of_ble_eq_true rfl) ⟨Nat.zero_le _, Nat.zero_le _⟩ dX12_best_55) cx.2.2.1 hP hD hS [] rfl rfl (fun r37 H locs hw36 hP hS => ?_)
        replace hw36 : (r37.toInt % 2 = 1) ∧ (r37 = J_X12_parts v35) := hw36
        obtain ⟨w38, w39⟩ := hw36
        refine lv_iload hx hb dX12_best_58 (lv_at hl 4 rfl) ?_
        refine g_lr (g_runS (wc := []) (rest := []) cx hP hD hS [] rfl (by decide) [.long v32, .long r37, .int p3] (c_X12_told l D k b H.size v32 r37 p3 (show ¬ r37.toInt = 0 from by first | decide | omega)) gX12_best_X12_told rfl rfl rfl nd_X12_told ⟨Nat.le_of_ble_eq_true rfl, Nat.le_of_ble_eq_true rfl⟩ rfl hl.1 rfl (Nat.le_of_ble_eq_true rfl) ⟨Nat.zero_le _, Nat.zero_le _⟩ dX12_best_60) cx.2.2.1 hP hD hS [] rfl rfl (fun r42 H locs hw41 hP hS => ?_)
        have w43 : r42 = J_X12_told v32 r37 p3 := hw41
        clear hw41
        rw [hQ]
        exact x_l cx hr (m24, m25, m26) hP hD hS (show (r42, m24, m25, m26) = J_X12_best sm tm p0 p1 p2 p3 from (exl_X12_best_1 e29 e30 e32 e34 e35 w5 c7 w12 c14 w19 c21 w27 w39 w43)) dX12_best_63
      · have f21 : r16.toInt = 0 := f_eq rfl (by decide) c21
        refine lv_ldc2 (v := (-2)) hx hb cx.1.2.2.2.1 (cx.1.2.2.2.2 _ kJ_X12_best_206) dX12_best_28 ?_
        rw [hQ]
        exact x_l cx hr ((tm 10), (tm 11), (sm 12)) hP hD hS (show (((-2) : Int64), (tm 10), (tm 11), (sm 12)) = J_X12_best sm tm p0 p1 p2 p3 from (exl_X12_best_2 w5 c7 w12 c14 w19 c21)) dX12_best_31
  · have f7 : r2.toInt = 0 := f_eq rfl (by decide) c7
    refine lv_ldc2 (v := (-1)) hx hb cx.1.2.2.2.1 (cx.1.2.2.2.2 _ kJ_X12_best_221) dX12_best_8 ?_
    rw [hQ]
    exact x_l cx hr ((tm 10), (tm 11), (sm 12)) hP hD hS (show (((-1) : Int64), (tm 10), (tm 11), (sm 12)) = J_X12_best sm tm p0 p1 p2 p3 from (exl_X12_best_3 w5 c7)) dX12_best_11
theorem fw_X12_bestAct_44 : Cond.fieldLink RX12 44 "StillInAugustModel" "bestActs" "[I" ∈ wsX12_bestAct := by decide +kernel
theorem iw_X12_bestAct_X12 : ∀ w ∈ u_ws RX12 TX12 33, w ∈ wsX12_bestAct := fun _ h => List.mem_cons_of_mem _ (List.mem_append_right _ h)
def J_X12_bestAct (sm : Nat → Nat → Int32) (tm : Nat → Nat → Int64) (p0 : Int32) (p1 : Int32) (p2 : Int32) : Int32 × (Nat → Int64) × (Nat → Int64) × (Nat → Int32) := LetF (J_X12_isWeek sm tm p0) (fun y6 => if y6 = 0 then (((-1) : Int32), (tm 10), (tm 11), (sm 12)) else LetF (J_X12_isHands sm tm p1) (fun y13 => if y13 = 0 then (((-2) : Int32), (tm 10), (tm 11), (sm 12)) else LetF (J_X12_isComing sm tm p2) (fun y21 => if y21 = 0 then (((-2) : Int32), (tm 10), (tm 11), (sm 12)) else LetF (J_X12_layBest sm tm p0) (fun y29 => (((y29.2.2) ((((3 : Int32) * p1) + p2)).toNatClampNeg), (y29.1), (y29.2.1), (y29.2.2))))))
theorem exl_X12_bestAct_0 {sm : Nat → Nat → Int32} {tm : Nat → Nat → Int64} {p0 : Int32} {p1 : Int32} {p2 : Int32} {r2 : Int32} {r9 : Int32} (w5 : r2 = J_X12_isWeek sm tm p0) (c7 : ¬ (r2 = (0 : Int32))) (w12 : r9 = J_X12_isHands sm tm p1) (c14 : r9 = (0 : Int32)) : (((-2) : Int32), (tm 10), (tm 11), (sm 12)) = J_X12_bestAct sm tm p0 p1 p2 := by refine Eq.symm ?_; unfold J_X12_bestAct; refine lt_e w5 ?_; refine Eq.trans (if_neg c7) ?_; refine lt_e w12 ?_; refine Eq.trans (if_pos c14) ?_; rfl
theorem exl_X12_bestAct_1 {sm : Nat → Nat → Int32} {tm : Nat → Nat → Int64} {p0 : Int32} {p1 : Int32} {p2 : Int32} {v33 : Int32} {m25 : Nat → Int64} {m26 : Nat → Int64} {m27 : Nat → Int32} {v30 : Int32} {v31 : Int32} {r2 : Int32} {r9 : Int32} {r17 : Int32} (e30 : v30 = ((3 : Int32) * p1)) (e31 : v31 = (v30 + p2)) (e33 : v33 = (m27 (v31).toNatClampNeg)) (w5 : r2 = J_X12_isWeek sm tm p0) (c7 : ¬ (r2 = (0 : Int32))) (w12 : r9 = J_X12_isHands sm tm p1) (c14 : ¬ (r9 = (0 : Int32))) (w20 : r17 = J_X12_isComing sm tm p2) (c22 : ¬ (r17 = (0 : Int32))) (w28 : (m25, m26, m27) = J_X12_layBest sm tm p0) : (v33, m25, m26, m27) = J_X12_bestAct sm tm p0 p1 p2 := by subst e30 e31 e33; refine Eq.symm ?_; unfold J_X12_bestAct; refine lt_e w5 ?_; refine Eq.trans (if_neg c7) ?_; refine lt_e w12 ?_; refine Eq.trans (if_neg c14) ?_; refine lt_e w20 ?_; refine Eq.trans (if_neg c22) ?_; refine lt_e w28 ?_; rfl
theorem exl_X12_bestAct_2 {sm : Nat → Nat → Int32} {tm : Nat → Nat → Int64} {p0 : Int32} {p1 : Int32} {p2 : Int32} {r2 : Int32} {r9 : Int32} {r17 : Int32} (w5 : r2 = J_X12_isWeek sm tm p0) (c7 : ¬ (r2 = (0 : Int32))) (w12 : r9 = J_X12_isHands sm tm p1) (c14 : ¬ (r9 = (0 : Int32))) (w20 : r17 = J_X12_isComing sm tm p2) (c22 : r17 = (0 : Int32)) : (((-2) : Int32), (tm 10), (tm 11), (sm 12)) = J_X12_bestAct sm tm p0 p1 p2 := by refine Eq.symm ?_; unfold J_X12_bestAct; refine lt_e w5 ?_; refine Eq.trans (if_neg c7) ?_; refine lt_e w12 ?_; refine Eq.trans (if_neg c14) ?_; refine lt_e w20 ?_; refine Eq.trans (if_pos c22) ?_; rfl
theorem exl_X12_bestAct_3 {sm : Nat → Nat → Int32} {tm : Nat → Nat → Int64} {p0 : Int32} {p1 : Int32} {p2 : Int32} {r2 : Int32} (w5 : r2 = J_X12_isWeek sm tm p0) (c7 : r2 = (0 : Int32)) : (((-1) : Int32), (tm 10), (tm 11), (sm 12)) = J_X12_bestAct sm tm p0 p1 p2 := by refine Eq.symm ?_; unfold J_X12_bestAct; refine lt_e w5 ?_; refine Eq.trans (if_pos c7) ?_; rfl
set_option maxHeartbeats 4000000 in
set_option maxRecDepth 100000 in
theorem c_X12_bestAct (l : Launch) (D : va_G) (k : Nat → ClassId) (b : Nat → Nat) (qm : Nat → Nat) (sm : Nat → Nat → Int32) (tm : Nat → Nat → Int64) (sz : Nat) (p0 : Int32) (p1 : Int32) (p2 : Int32) (h_w0 : 0 ≤ (sm 2 0).toInt ∧ (sm 2 0).toInt ≤ 5) (h_k1 : 0 ≤ (sm 2 1).toInt ∧ (sm 2 1).toInt ≤ 4) : MetI l D k b yX12_bestAct wsX12_bestAct ({ frames := 6, cells := 0, slots := 0, locals := 157 } : Room) [cell22_ qm sm tm, cell5_ k qm sm, cell13_ k qm sm, cell8_ k qm sm, cell6_ k qm sm, cell15_ k qm sm, cell14_ k qm tm, cell12_ k qm tm, cell18_ k qm tm, cell17_ k qm tm, cell19_ k qm tm, cell21_ k qm tm, cell20_ k qm sm, cell16_ k qm sm, cell11_ k qm sm, cell10_ k qm sm, cell9_ k qm sm, cell7_ k qm sm] sz [.ref (qm 0), .int p0, .int p1, .int p2] (fun (r : Int32) (u : (Nat → Int64) × (Nat → Int64) × (Nat → Int32)) => (r, (u.1), (u.2.1), (u.2.2)) = J_X12_bestAct sm tm p0 p1 p2) (fun u => [cell22_ qm sm tm, cell5_ k qm sm, cell13_ k qm sm, cell8_ k qm sm, cell6_ k qm sm, cell15_ k qm sm, cell14_ k qm tm, cell12_ k qm tm, cell18_ k qm tm, cell17_ k qm tm, cell130_ k qm (u.1), cell122_ k qm (u.2.1), cell123_ k qm (u.2.2), cell16_ k qm sm, cell11_ k qm sm, cell10_ k qm sm, cell9_ k qm sm, cell7_ k qm sm]) := by
  refine g_enter (cc := cX12_bestAct) (maxL := 4) (ret := (some .int)) (by decide) rfl (Nat.le_of_ble_eq_true rfl) ?_
  intro p e s m below meth c A hsz hAe cx hr hP hD hS ls hl
  rw [hAe]
  refine g_q (fun Q hQ => ?_)
  have hx := cx.1.1
  have hb := cx.1.2.1
  have bp0 := i_rng p0
  have bp1 := i_rng p1
  have bp2 := i_rng p2
  have hl : lv_has ls 4 [(0, .ref (qm 0)), (1, .int p0), (2, .int p1), (3, .int p2)] := hl
  obtain ⟨H, eH⟩ : ∃ H : Heap, H = s.heap := ⟨_, rfl⟩
  obtain ⟨locs, el⟩ : ∃ L : List Loc, L = [] := ⟨_, rfl⟩
  have hP : va_P D vwCl [cell22_ qm sm tm, cell5_ k qm sm, cell13_ k qm sm, cell8_ k qm sm, cell6_ k qm sm, cell15_ k qm sm, cell14_ k qm tm, cell12_ k qm tm, cell18_ k qm tm, cell17_ k qm tm, cell19_ k qm tm, cell21_ k qm tm, cell20_ k qm sm, cell16_ k qm sm, cell11_ k qm sm, cell10_ k qm sm, cell9_ k qm sm, cell7_ k qm sm] H := by rw [eH]; exact hP
  have hD : va_D A [cell22_ qm sm tm, cell5_ k qm sm, cell13_ k qm sm, cell8_ k qm sm, cell6_ k qm sm, cell15_ k qm sm, cell14_ k qm tm, cell12_ k qm tm, cell18_ k qm tm, cell17_ k qm tm, cell19_ k qm tm, cell21_ k qm tm, cell20_ k qm sm, cell16_ k qm sm, cell11_ k qm sm, cell10_ k qm sm, cell9_ k qm sm, cell7_ k qm sm] := hD
  have hS : va_S A s.heap H locs := by rw [eH, el]; exact hS
  suffices goal : W p l e ({ frames := 6, cells := 0, slots := 0, locals := 157 } : Room) s m ([.ref (qm 0), .int p0, .int p1, .int p2] : List Value).toArray below meth c H locs 0 0 Q (F0 m 0 ls []) by rw [eH, el] at goal; exact goal
  refine lv_aload_n hx hb dX12_bestAct_0 rfl (lv_at hl 0 rfl) ?_
  refine lv_iload_n hx hb dX12_bestAct_1 rfl (lv_at hl 1 rfl) ?_
  refine g_iF (w1 := fun (_ : Unit) => [cell22_ qm sm tm, cell5_ k qm sm, cell13_ k qm sm, cell8_ k qm sm, cell6_ k qm sm, cell15_ k qm sm, cell14_ k qm tm, cell12_ k qm tm, cell18_ k qm tm, cell17_ k qm tm, cell19_ k qm tm, cell21_ k qm tm, cell20_ k qm sm, cell16_ k qm sm, cell11_ k qm sm, cell10_ k qm sm, cell9_ k qm sm, cell7_ k qm sm]) (g_runVF (ws := [cell22_ qm sm tm, cell5_ k qm sm, cell13_ k qm sm, cell8_ k qm sm, cell6_ k qm sm, cell15_ k qm sm, cell14_ k qm tm, cell12_ k qm tm, cell18_ k qm tm, cell17_ k qm tm, cell19_ k qm tm, cell21_ k qm tm, cell20_ k qm sm, cell16_ k qm sm, cell11_ k qm sm, cell10_ k qm sm, cell9_ k qm sm, cell7_ k qm sm]) (rest := []) cx hP hD hS [.int p0] (c_X12_isWeek l D k b qm sm tm H.size p0 (show 0 ≤ ((sm 2) 0).toInt ∧ ((sm 2) 0).toInt ≤ 5 from by first | decide | omega)) gX12_bestAct_X12_isWeek rfl rfl rfl nd_X12_isWeek ⟨Nat.le_of_ble_eq_true rfl, Nat.le_of_ble_eq_true rfl⟩ (ci := 10) (q0 := 0) rfl rfl rfl hl.1 rfl (Nat.le_of_ble_eq_true rfl) ⟨Nat.zero_le _, Nat.zero_le _⟩ dX12_bestAct_2) cx.2.2.1 hD hS (fun r2 _ H locs hw1 hP hD hS => ?_)
  replace hw1 : (0 ≤ r2.toInt ∧ r2.toInt ≤ 1) ∧ (Imp (r2.toInt = 1) (0 ≤ p0.toInt ∧ p0.toInt ≤ 4)) ∧ (r2 = J_X12_isWeek sm tm p0) := hw1
  obtain ⟨w3, w4, w5⟩ := hw1
  have zr2 : 0 ≤ r2.toInt ∧ r2.toInt ≤ 1 := w3
  refine lv_if_ne (tgt := 10) hx hb dX12_bestAct_5 (by decide) (fun c7 => ?_) (fun c7 => ?_)
  · have f7 : ¬ r2.toInt = 0 := f_ne rfl (by decide) c7
    have k7 : (0 ≤ p0.toInt ∧ p0.toInt ≤ 4) := w4 (by omega)
    refine lv_aload_n hx hb dX12_bestAct_10 rfl (lv_at hl 0 rfl) ?_
    refine lv_iload_n hx hb dX12_bestAct_11 rfl (lv_at hl 2 rfl) ?_
    refine g_iF (w1 := fun (_ : Unit) => [cell22_ qm sm tm, cell5_ k qm sm, cell13_ k qm sm, cell8_ k qm sm, cell6_ k qm sm, cell15_ k qm sm, cell14_ k qm tm, cell12_ k qm tm, cell18_ k qm tm, cell17_ k qm tm, cell19_ k qm tm, cell21_ k qm tm, cell20_ k qm sm, cell16_ k qm sm, cell11_ k qm sm, cell10_ k qm sm, cell9_ k qm sm, cell7_ k qm sm]) (g_runVF (ws := [cell22_ qm sm tm, cell5_ k qm sm, cell13_ k qm sm, cell8_ k qm sm, cell6_ k qm sm, cell15_ k qm sm, cell14_ k qm tm, cell12_ k qm tm, cell18_ k qm tm, cell17_ k qm tm, cell19_ k qm tm, cell21_ k qm tm, cell20_ k qm sm, cell16_ k qm sm, cell11_ k qm sm, cell10_ k qm sm, cell9_ k qm sm, cell7_ k qm sm]) (rest := []) cx hP hD hS [.int p1] (c_X12_isHands l D k b qm sm tm H.size p1 (show 0 ≤ ((sm 2) 1).toInt ∧ ((sm 2) 1).toInt ≤ 4 from by first | decide | omega)) gX12_bestAct_X12_isHands rfl rfl rfl nd_X12_isHands ⟨Nat.le_of_ble_eq_true rfl, Nat.le_of_ble_eq_true rfl⟩ (ci := 10) (q0 := 0) rfl rfl rfl hl.1 rfl (Nat.le_of_ble_eq_true rfl) ⟨Nat.zero_le _, Nat.zero_le _⟩ dX12_bestAct_12) cx.2.2.1 hD hS (fun r9 _ H locs hw8 hP hD hS => ?_)
    replace hw8 : (0 ≤ r9.toInt ∧ r9.toInt ≤ 1) ∧ (Imp (r9.toInt = 1) (0 ≤ p1.toInt ∧ p1.toInt ≤ 400)) ∧ (r9 = J_X12_isHands sm tm p1) := hw8
    obtain ⟨w10, w11, w12⟩ := hw8
    have zr9 : 0 ≤ r9.toInt ∧ r9.toInt ≤ 1 := w10
    refine lv_if_eq (tgt := 26) hx hb dX12_bestAct_15 (by decide) (fun c14 => ?_) (fun c14 => ?_)
    · have f14 : r9.toInt = 0 := f_eq rfl (by decide) c14
      refine lv_bipush (v := (-2)) hx hb dX12_bestAct_26 (by decide) ?_
      have hlit15 : ((-2) : Int32).toInt = -2 := by decide
      rw [hQ]
      exact x_i cx hr ((tm 10), (tm 11), (sm 12)) hP hD hS (show (((-2) : Int32), (tm 10), (tm 11), (sm 12)) = J_X12_bestAct sm tm p0 p1 p2 from (exl_X12_bestAct_0 w5 c7 w12 c14)) dX12_bestAct_28
    · have f14 : ¬ r9.toInt = 0 := f_ne rfl (by decide) c14
      have k14 : (0 ≤ p1.toInt ∧ p1.toInt ≤ 400) := w11 (by omega)
      refine lv_aload_n hx hb dX12_bestAct_18 rfl (lv_at hl 0 rfl) ?_
      refine lv_iload_n hx hb dX12_bestAct_19 rfl (lv_at hl 3 rfl) ?_
      refine g_iF (w1 := fun (_ : Unit) => [cell22_ qm sm tm, cell5_ k qm sm, cell13_ k qm sm, cell8_ k qm sm, cell6_ k qm sm, cell15_ k qm sm, cell14_ k qm tm, cell12_ k qm tm, cell18_ k qm tm, cell17_ k qm tm, cell19_ k qm tm, cell21_ k qm tm, cell20_ k qm sm, cell16_ k qm sm, cell11_ k qm sm, cell10_ k qm sm, cell9_ k qm sm, cell7_ k qm sm]) (g_runVF (ws := [cell22_ qm sm tm, cell5_ k qm sm, cell13_ k qm sm, cell8_ k qm sm, cell6_ k qm sm, cell15_ k qm sm, cell14_ k qm tm, cell12_ k qm tm, cell18_ k qm tm, cell17_ k qm tm, cell19_ k qm tm, cell21_ k qm tm, cell20_ k qm sm, cell16_ k qm sm, cell11_ k qm sm, cell10_ k qm sm, cell9_ k qm sm, cell7_ k qm sm]) (rest := []) cx hP hD hS [.int p2] (c_X12_isComing l D k b qm sm tm H.size p2) gX12_bestAct_X12_isComing rfl rfl rfl nd_X12_isComing ⟨Nat.le_of_ble_eq_true rfl, Nat.le_of_ble_eq_true rfl⟩ (ci := 10) (q0 := 0) rfl rfl rfl hl.1 rfl (Nat.le_of_ble_eq_true rfl) ⟨Nat.zero_le _, Nat.zero_le _⟩ dX12_bestAct_20) cx.2.2.1 hD hS (fun r17 _ H locs hw16 hP hD hS => ?_)
      replace hw16 : (0 ≤ r17.toInt ∧ r17.toInt ≤ 1) ∧ (Imp (r17.toInt = 1) (0 ≤ p2.toInt ∧ p2.toInt ≤ 2)) ∧ (r17 = J_X12_isComing sm tm p2) := hw16
      obtain ⟨w18, w19, w20⟩ := hw16
      have zr17 : 0 ≤ r17.toInt ∧ r17.toInt ≤ 1 := w18
      refine lv_if_ne (tgt := 29) hx hb dX12_bestAct_23 (by decide) (fun c22 => ?_) (fun c22 => ?_)
      · have f22 : ¬ r17.toInt = 0 := f_ne rfl (by decide) c22
        have k22 : (0 ≤ p2.toInt ∧ p2.toInt ≤ 2) := w19 (by omega)
        refine lv_aload_n hx hb dX12_bestAct_29 rfl (lv_at hl 0 rfl) ?_
        refine lv_iload_n hx hb dX12_bestAct_30 rfl (lv_at hl 1 rfl) ?_
        refine g_vF (w1 := fun (u : (Nat → Int64) × (Nat → Int64) × (Nat → Int32)) => [cell22_ qm sm tm, cell5_ k qm sm, cell13_ k qm sm, cell8_ k qm sm, cell6_ k qm sm, cell15_ k qm sm, cell14_ k qm tm, cell12_ k qm tm, cell18_ k qm tm, cell17_ k qm tm, cell130_ k qm (u.1), cell122_ k qm (u.2.1), cell123_ k qm (u.2.2), cell16_ k qm sm, cell11_ k qm sm, cell10_ k qm sm, cell9_ k qm sm, cell7_ k qm sm]) (g_runVF (ws := [cell22_ qm sm tm, cell5_ k qm sm, cell13_ k qm sm, cell8_ k qm sm, cell6_ k qm sm, cell15_ k qm sm, cell14_ k qm tm, cell12_ k qm tm, cell18_ k qm tm, cell17_ k qm tm, cell19_ k qm tm, cell21_ k qm tm, cell20_ k qm sm, cell16_ k qm sm, cell11_ k qm sm, cell10_ k qm sm, cell9_ k qm sm, cell7_ k qm sm]) (rest := []) cx hP hD hS [.int p0] (c_X12_layBest l D k b qm sm tm H.size p0 (show 0 ≤ ((sm 2) 0).toInt ∧ ((sm 2) 0).toInt ≤ 5 from by first | decide | omega) (show 0 ≤ ((sm 2) 1).toInt ∧ ((sm 2) 1).toInt ≤ 4 from by first | decide | omega) (show 0 ≤ p0.toInt ∧ p0.toInt ≤ 4 from by first | decide | omega)) gX12_bestAct_X12_layBest rfl rfl rfl nd_X12_layBest ⟨Nat.le_of_ble_eq_true rfl, Nat.le_of_ble_eq_true rfl⟩ (ci := 10) (q0 := 0) rfl rfl rfl hl.1 rfl (Nat.le_of_ble_eq_true rfl) ⟨Nat.zero_le _, Nat.zero_le _⟩ dX12_bestAct_31) cx.2.2.1 hD hS (fun u24 H locs hw23 hP hD hS => ?_)
        obtain ⟨m25, m26, m27⟩ := u24
        have hP : va_P D vwCl [cell22_ qm sm tm, cell5_ k qm sm, cell13_ k qm sm, cell8_ k qm sm, cell6_ k qm sm, cell15_ k qm sm, cell14_ k qm tm, cell12_ k qm tm, cell18_ k qm tm, cell17_ k qm tm, (qm 10, .inl (k 1, 1500, .inr (.inl m25))), (qm 11, .inl (k 1, 1500, .inr (.inl m26))), (qm 12, .inl (k 0, 1500, .inl m27)), cell16_ k qm sm, cell11_ k qm sm, cell10_ k qm sm, cell9_ k qm sm, cell7_ k qm sm] H := hP
        have hD : va_D A [cell22_ qm sm tm, cell5_ k qm sm, cell13_ k qm sm, cell8_ k qm sm, cell6_ k qm sm, cell15_ k qm sm, cell14_ k qm tm, cell12_ k qm tm, cell18_ k qm tm, cell17_ k qm tm, (qm 10, .inl (k 1, 1500, .inr (.inl m25))), (qm 11, .inl (k 1, 1500, .inr (.inl m26))), (qm 12, .inl (k 0, 1500, .inl m27)), cell16_ k qm sm, cell11_ k qm sm, cell10_ k qm sm, cell9_ k qm sm, cell7_ k qm sm] := hD
        have w28 : (m25, m26, m27) = J_X12_layBest sm tm p0 := hw23
        clear hw23
        refine lv_aload_n hx hb dX12_bestAct_34 rfl (lv_at hl 0 rfl) ?_
        refine g_get cx hP iw_X12_bestAct_X12 0 rfl rfl 20 (by decide) rfl fw_X12_bestAct_44 rfl dX12_bestAct_35 ?_
        refine lv_iconst (v := 3) hx hb dX12_bestAct_38 (by decide) ?_
        refine lv_iload_n hx hb dX12_bestAct_39 rfl (lv_at hl 2 rfl) ?_
        refine lv_imul hx hb dX12_bestAct_40 (lv_topi (fun v30 e30 => ?_))
        have t30 : v30.toInt = 3 * p1.toInt := by rw [e30]; exact i_mul (by decide) rfl (by omega) (by omega)
        refine lv_iload_n hx hb dX12_bestAct_41 rfl (lv_at hl 3 rfl) ?_
        refine lv_iadd hx hb dX12_bestAct_42 (lv_topi (fun v31 e31 => ?_))
        have t31 : v31.toInt = v30.toInt + p2.toInt := by rw [e31]; exact i_add rfl rfl (by omega) (by omega)
        have hn32 : vp_in v31 1500 := f_in (a := v31.toInt) rfl (by omega) (by omega)
        refine va_iald hx hb cx.2.1 hP 12 0 rfl rfl hn32 dX12_bestAct_43 (lv_topi (fun v33 e33 => ?_))
        rw [hQ]
        exact x_i cx hr (m25, m26, m27) hP hD hS (show (v33, m25, m26, m27) = J_X12_bestAct sm tm p0 p1 p2 from (exl_X12_bestAct_1 e30 e31 e33 w5 c7 w12 c14 w20 c22 w28)) dX12_bestAct_44
      · have f22 : r17.toInt = 0 := f_eq rfl (by decide) c22
        refine lv_bipush (v := (-2)) hx hb dX12_bestAct_26 (by decide) ?_
        have hlit34 : ((-2) : Int32).toInt = -2 := by decide
        rw [hQ]
        exact x_i cx hr ((tm 10), (tm 11), (sm 12)) hP hD hS (show (((-2) : Int32), (tm 10), (tm 11), (sm 12)) = J_X12_bestAct sm tm p0 p1 p2 from (exl_X12_bestAct_2 w5 c7 w12 c14 w20 c22)) dX12_bestAct_28
  · have f7 : r2.toInt = 0 := f_eq rfl (by decide) c7
    refine lv_iconst (v := (-1)) hx hb dX12_bestAct_8 (by decide) ?_
    have hlit35 : ((-1) : Int32).toInt = -1 := by decide
    rw [hQ]
    exact x_i cx hr ((tm 10), (tm 11), (sm 12)) hP hD hS (show (((-1) : Int32), (tm 10), (tm 11), (sm 12)) = J_X12_bestAct sm tm p0 p1 p2 from (exl_X12_bestAct_3 w5 c7)) dX12_bestAct_9
theorem fw_X12_againstOf_13 : Cond.fieldLink RX12 13 "StillInAugustModel" "house" "[I" ∈ wsX12_againstOf := by decide +kernel
theorem fw_X12_againstOf_44 : Cond.fieldLink RX12 44 "StillInAugustModel" "bestActs" "[I" ∈ wsX12_againstOf := by decide +kernel
theorem iw_X12_againstOf_X12 : ∀ w ∈ u_ws RX12 TX12 33, w ∈ wsX12_againstOf := fun _ h => List.mem_cons_of_mem _ (List.mem_append_right _ h)
def B_X12_againstOf_2 (sm : Nat → Nat → Int32) (tm : Nat → Nat → Int64) (p0 : Int32) (p1 : Int32) (z : Int32) : Sum (Int32) (Int32) := let v29 := z; if 500 ≤ v29 then Sum.inr (((-9) : Int32)) else LetF (J_X12_isHands sm tm v29) (fun y38 => if y38 = 0 then Sum.inl ((v29 + 1)) else if ((sm 2) (((15 : Int32) + p0)).toNatClampNeg) ≤ (p1 - (J_X12_all v29)) then if (((sm 2) (1 : Int32).toNatClampNeg) - (J_X12_all v29)) ≤ ((sm 2) (((15 : Int32) + p0)).toNatClampNeg) then if (((sm 2) (1 : Int32).toNatClampNeg) - (J_X12_all v29)) ≤ 0 then if ((((sm 12) (((3 : Int32) * v29)).toNatClampNeg) / (100 : Int32)) - (((sm 12) (((3 : Int32) * v29)).toNatClampNeg) / (100 : Int32)) / (10 : Int32) * (10 : Int32)) = 0 then Sum.inl ((v29 + 1)) else Sum.inr (v29) else if ((((sm 12) (((3 : Int32) * v29)).toNatClampNeg) / (100 : Int32)) - (((sm 12) (((3 : Int32) * v29)).toNatClampNeg) / (100 : Int32)) / (10 : Int32) * (10 : Int32)) = (((sm 2) (1 : Int32).toNatClampNeg) - (J_X12_all v29)) then Sum.inl ((v29 + 1)) else Sum.inr (v29) else if ((sm 2) (((15 : Int32) + p0)).toNatClampNeg) ≤ 0 then if ((((sm 12) (((3 : Int32) * v29)).toNatClampNeg) / (100 : Int32)) - (((sm 12) (((3 : Int32) * v29)).toNatClampNeg) / (100 : Int32)) / (10 : Int32) * (10 : Int32)) = 0 then Sum.inl ((v29 + 1)) else Sum.inr (v29) else if ((((sm 12) (((3 : Int32) * v29)).toNatClampNeg) / (100 : Int32)) - (((sm 12) (((3 : Int32) * v29)).toNatClampNeg) / (100 : Int32)) / (10 : Int32) * (10 : Int32)) = ((sm 2) (((15 : Int32) + p0)).toNatClampNeg) then Sum.inl ((v29 + 1)) else Sum.inr (v29) else if (((sm 2) (1 : Int32).toNatClampNeg) - (J_X12_all v29)) ≤ (p1 - (J_X12_all v29)) then if (((sm 2) (1 : Int32).toNatClampNeg) - (J_X12_all v29)) ≤ 0 then if ((((sm 12) (((3 : Int32) * v29)).toNatClampNeg) / (100 : Int32)) - (((sm 12) (((3 : Int32) * v29)).toNatClampNeg) / (100 : Int32)) / (10 : Int32) * (10 : Int32)) = 0 then Sum.inl ((v29 + 1)) else Sum.inr (v29) else if ((((sm 12) (((3 : Int32) * v29)).toNatClampNeg) / (100 : Int32)) - (((sm 12) (((3 : Int32) * v29)).toNatClampNeg) / (100 : Int32)) / (10 : Int32) * (10 : Int32)) = (((sm 2) (1 : Int32).toNatClampNeg) - (J_X12_all v29)) then Sum.inl ((v29 + 1)) else Sum.inr (v29) else if (p1 - (J_X12_all v29)) ≤ 0 then if ((((sm 12) (((3 : Int32) * v29)).toNatClampNeg) / (100 : Int32)) - (((sm 12) (((3 : Int32) * v29)).toNatClampNeg) / (100 : Int32)) / (10 : Int32) * (10 : Int32)) = 0 then Sum.inl ((v29 + 1)) else Sum.inr (v29) else if ((((sm 12) (((3 : Int32) * v29)).toNatClampNeg) / (100 : Int32)) - (((sm 12) (((3 : Int32) * v29)).toNatClampNeg) / (100 : Int32)) / (10 : Int32) * (10 : Int32)) = (p1 - (J_X12_all v29)) then Sum.inl ((v29 + 1)) else Sum.inr (v29))
def J_X12_againstOf (sm : Nat → Nat → Int32) (tm : Nat → Nat → Int64) (p0 : Int32) (p1 : Int32) : Int32 := LTs default (B_X12_againstOf_2 sm tm p0 p1) 501 (0 : Int32)
theorem exl_X12_againstOf_0 {sm : Nat → Nat → Int32} {tm : Nat → Nat → Int64} {p0 : Int32} {p1 : Int32} : J_X12_againstOf sm tm p0 p1 = LTs (default : Int32) (B_X12_againstOf_2 sm tm p0 p1) 501 (0 : Int32) := by unfold J_X12_againstOf; rfl
theorem exl_X12_againstOf_1 {sm : Nat → Nat → Int32} {tm : Nat → Nat → Int64} {p0 : Int32} {p1 : Int32} {v29 : Int32} (c31 : (500 : Int32) ≤ v29) : (B_X12_againstOf_2 sm tm p0 p1) v29 = Sum.inr (((-9) : Int32)) := by unfold B_X12_againstOf_2; refine Eq.trans (if_pos c31) ?_; rfl
theorem exl_X12_againstOf_2 {sm : Nat → Nat → Int32} {tm : Nat → Nat → Int64} {p0 : Int32} {p1 : Int32} {v29 : Int32} {v40 : Int32} {r34 : Int32} (e40 : v40 = v29 + 1) (c31 : ¬ ((500 : Int32) ≤ v29)) (w37 : r34 = J_X12_isHands sm tm v29) (c39 : r34 = (0 : Int32)) : (B_X12_againstOf_2 sm tm p0 p1) v29 = Sum.inl v40 := by subst e40; unfold B_X12_againstOf_2; refine Eq.trans (if_neg c31) ?_; refine lt_e w37 ?_; refine Eq.trans (if_pos c39) ?_; rfl
theorem exl_X12_againstOf_3 {sm : Nat → Nat → Int32} {tm : Nat → Nat → Int64} {p0 : Int32} {p1 : Int32} {v29 : Int32} {v66 : Int32} {r42 : Int32} {v44 : Int32} {v46 : Int32} {r48 : Int32} {v50 : Int32} {v51 : Int32} {v53 : Int32} {v55 : Int32} {v57 : Int32} {v59 : Int32} {v61 : Int32} {v62 : Int32} {v63 : Int32} {r34 : Int32} (w43 : r42 = J_X12_all v29) (e44 : v44 = (p1 - r42)) (e46 : v46 = ((sm 2) ((1 : Int32).toNatClampNeg))) (w49 : r48 = J_X12_all v29) (e50 : v50 = (v46 - r48)) (e51 : v51 = ((15 : Int32) + p0)) (e53 : v53 = ((sm 2) (v51).toNatClampNeg)) (e55 : v55 = ((15 : Int32) + p0)) (e57 : v57 = ((sm 2) (v55).toNatClampNeg)) (e59 : v59 = ((3 : Int32) * v29)) (e61 : v61 = ((sm 12) (v59).toNatClampNeg)) (e62 : v62 = (v61 / (100 : Int32))) (e63 : v63 = (v62 - v62 / (10 : Int32) * (10 : Int32))) (e66 : v66 = v29 + 1) (c31 : ¬ ((500 : Int32) ≤ v29)) (w37 : r34 = J_X12_isHands sm tm v29) (c39 : ¬ (r34 = (0 : Int32))) (c54 : v53 ≤ v44) (c58 : v50 ≤ v57) (c64 : v50 ≤ (0 : Int32)) (c65 : v63 = (0 : Int32)) : (B_X12_againstOf_2 sm tm p0 p1) v29 = Sum.inl v66 := by subst w43 e44 e46 w49 e50 e51 e53 e55 e57 e59 e61 e62 e63 e66; unfold B_X12_againstOf_2; refine Eq.trans (if_neg c31) ?_; refine lt_e w37 ?_; refine Eq.trans (if_neg c39) ?_; refine Eq.trans (if_pos c54) ?_; refine Eq.trans (if_pos c58) ?_; refine Eq.trans (if_pos c64) ?_; refine Eq.trans (if_pos c65) ?_; rfl
theorem exl_X12_againstOf_4 {sm : Nat → Nat → Int32} {tm : Nat → Nat → Int64} {p0 : Int32} {p1 : Int32} {v29 : Int32} {r42 : Int32} {v44 : Int32} {v46 : Int32} {r48 : Int32} {v50 : Int32} {v51 : Int32} {v53 : Int32} {v55 : Int32} {v57 : Int32} {v59 : Int32} {v61 : Int32} {v62 : Int32} {v63 : Int32} {r34 : Int32} (w43 : r42 = J_X12_all v29) (e44 : v44 = (p1 - r42)) (e46 : v46 = ((sm 2) ((1 : Int32).toNatClampNeg))) (w49 : r48 = J_X12_all v29) (e50 : v50 = (v46 - r48)) (e51 : v51 = ((15 : Int32) + p0)) (e53 : v53 = ((sm 2) (v51).toNatClampNeg)) (e55 : v55 = ((15 : Int32) + p0)) (e57 : v57 = ((sm 2) (v55).toNatClampNeg)) (e59 : v59 = ((3 : Int32) * v29)) (e61 : v61 = ((sm 12) (v59).toNatClampNeg)) (e62 : v62 = (v61 / (100 : Int32))) (e63 : v63 = (v62 - v62 / (10 : Int32) * (10 : Int32))) (c31 : ¬ ((500 : Int32) ≤ v29)) (w37 : r34 = J_X12_isHands sm tm v29) (c39 : ¬ (r34 = (0 : Int32))) (c54 : v53 ≤ v44) (c58 : v50 ≤ v57) (c64 : v50 ≤ (0 : Int32)) (c65 : ¬ (v63 = (0 : Int32))) : (B_X12_againstOf_2 sm tm p0 p1) v29 = Sum.inr (v29) := by subst w43 e44 e46 w49 e50 e51 e53 e55 e57 e59 e61 e62 e63; unfold B_X12_againstOf_2; refine Eq.trans (if_neg c31) ?_; refine lt_e w37 ?_; refine Eq.trans (if_neg c39) ?_; refine Eq.trans (if_pos c54) ?_; refine Eq.trans (if_pos c58) ?_; refine Eq.trans (if_pos c64) ?_; refine Eq.trans (if_neg c65) ?_; rfl
theorem exl_X12_againstOf_5 {sm : Nat → Nat → Int32} {tm : Nat → Nat → Int64} {p0 : Int32} {p1 : Int32} {v29 : Int32} {v68 : Int32} {r42 : Int32} {v44 : Int32} {v46 : Int32} {r48 : Int32} {v50 : Int32} {v51 : Int32} {v53 : Int32} {v55 : Int32} {v57 : Int32} {v59 : Int32} {v61 : Int32} {v62 : Int32} {v63 : Int32} {r34 : Int32} (w43 : r42 = J_X12_all v29) (e44 : v44 = (p1 - r42)) (e46 : v46 = ((sm 2) ((1 : Int32).toNatClampNeg))) (w49 : r48 = J_X12_all v29) (e50 : v50 = (v46 - r48)) (e51 : v51 = ((15 : Int32) + p0)) (e53 : v53 = ((sm 2) (v51).toNatClampNeg)) (e55 : v55 = ((15 : Int32) + p0)) (e57 : v57 = ((sm 2) (v55).toNatClampNeg)) (e59 : v59 = ((3 : Int32) * v29)) (e61 : v61 = ((sm 12) (v59).toNatClampNeg)) (e62 : v62 = (v61 / (100 : Int32))) (e63 : v63 = (v62 - v62 / (10 : Int32) * (10 : Int32))) (e68 : v68 = v29 + 1) (c31 : ¬ ((500 : Int32) ≤ v29)) (w37 : r34 = J_X12_isHands sm tm v29) (c39 : ¬ (r34 = (0 : Int32))) (c54 : v53 ≤ v44) (c58 : v50 ≤ v57) (c64 : ¬ (v50 ≤ (0 : Int32))) (c67 : v63 = v50) : (B_X12_againstOf_2 sm tm p0 p1) v29 = Sum.inl v68 := by subst w43 e44 e46 w49 e50 e51 e53 e55 e57 e59 e61 e62 e63 e68; unfold B_X12_againstOf_2; refine Eq.trans (if_neg c31) ?_; refine lt_e w37 ?_; refine Eq.trans (if_neg c39) ?_; refine Eq.trans (if_pos c54) ?_; refine Eq.trans (if_pos c58) ?_; refine Eq.trans (if_neg c64) ?_; refine Eq.trans (if_pos c67) ?_; rfl
theorem exl_X12_againstOf_6 {sm : Nat → Nat → Int32} {tm : Nat → Nat → Int64} {p0 : Int32} {p1 : Int32} {v29 : Int32} {r42 : Int32} {v44 : Int32} {v46 : Int32} {r48 : Int32} {v50 : Int32} {v51 : Int32} {v53 : Int32} {v55 : Int32} {v57 : Int32} {v59 : Int32} {v61 : Int32} {v62 : Int32} {v63 : Int32} {r34 : Int32} (w43 : r42 = J_X12_all v29) (e44 : v44 = (p1 - r42)) (e46 : v46 = ((sm 2) ((1 : Int32).toNatClampNeg))) (w49 : r48 = J_X12_all v29) (e50 : v50 = (v46 - r48)) (e51 : v51 = ((15 : Int32) + p0)) (e53 : v53 = ((sm 2) (v51).toNatClampNeg)) (e55 : v55 = ((15 : Int32) + p0)) (e57 : v57 = ((sm 2) (v55).toNatClampNeg)) (e59 : v59 = ((3 : Int32) * v29)) (e61 : v61 = ((sm 12) (v59).toNatClampNeg)) (e62 : v62 = (v61 / (100 : Int32))) (e63 : v63 = (v62 - v62 / (10 : Int32) * (10 : Int32))) (c31 : ¬ ((500 : Int32) ≤ v29)) (w37 : r34 = J_X12_isHands sm tm v29) (c39 : ¬ (r34 = (0 : Int32))) (c54 : v53 ≤ v44) (c58 : v50 ≤ v57) (c64 : ¬ (v50 ≤ (0 : Int32))) (c67 : ¬ (v63 = v50)) : (B_X12_againstOf_2 sm tm p0 p1) v29 = Sum.inr (v29) := by subst w43 e44 e46 w49 e50 e51 e53 e55 e57 e59 e61 e62 e63; unfold B_X12_againstOf_2; refine Eq.trans (if_neg c31) ?_; refine lt_e w37 ?_; refine Eq.trans (if_neg c39) ?_; refine Eq.trans (if_pos c54) ?_; refine Eq.trans (if_pos c58) ?_; refine Eq.trans (if_neg c64) ?_; refine Eq.trans (if_neg c67) ?_; rfl
theorem exl_X12_againstOf_7 {sm : Nat → Nat → Int32} {tm : Nat → Nat → Int64} {p0 : Int32} {p1 : Int32} {v29 : Int32} {v76 : Int32} {r42 : Int32} {v44 : Int32} {v46 : Int32} {r48 : Int32} {v50 : Int32} {v51 : Int32} {v53 : Int32} {v55 : Int32} {v57 : Int32} {v69 : Int32} {v71 : Int32} {v72 : Int32} {v73 : Int32} {r34 : Int32} (w43 : r42 = J_X12_all v29) (e44 : v44 = (p1 - r42)) (e46 : v46 = ((sm 2) ((1 : Int32).toNatClampNeg))) (w49 : r48 = J_X12_all v29) (e50 : v50 = (v46 - r48)) (e51 : v51 = ((15 : Int32) + p0)) (e53 : v53 = ((sm 2) (v51).toNatClampNeg)) (e55 : v55 = ((15 : Int32) + p0)) (e57 : v57 = ((sm 2) (v55).toNatClampNeg)) (e69 : v69 = ((3 : Int32) * v29)) (e71 : v71 = ((sm 12) (v69).toNatClampNeg)) (e72 : v72 = (v71 / (100 : Int32))) (e73 : v73 = (v72 - v72 / (10 : Int32) * (10 : Int32))) (e76 : v76 = v29 + 1) (c31 : ¬ ((500 : Int32) ≤ v29)) (w37 : r34 = J_X12_isHands sm tm v29) (c39 : ¬ (r34 = (0 : Int32))) (c54 : v53 ≤ v44) (c58 : ¬ (v50 ≤ v57)) (c74 : v57 ≤ (0 : Int32)) (c75 : v73 = (0 : Int32)) : (B_X12_againstOf_2 sm tm p0 p1) v29 = Sum.inl v76 := by subst w43 e44 e46 w49 e50 e51 e53 e55 e57 e69 e71 e72 e73 e76; unfold B_X12_againstOf_2; refine Eq.trans (if_neg c31) ?_; refine lt_e w37 ?_; refine Eq.trans (if_neg c39) ?_; refine Eq.trans (if_pos c54) ?_; refine Eq.trans (if_neg c58) ?_; refine Eq.trans (if_pos c74) ?_; refine Eq.trans (if_pos c75) ?_; rfl
theorem exl_X12_againstOf_8 {sm : Nat → Nat → Int32} {tm : Nat → Nat → Int64} {p0 : Int32} {p1 : Int32} {v29 : Int32} {r42 : Int32} {v44 : Int32} {v46 : Int32} {r48 : Int32} {v50 : Int32} {v51 : Int32} {v53 : Int32} {v55 : Int32} {v57 : Int32} {v69 : Int32} {v71 : Int32} {v72 : Int32} {v73 : Int32} {r34 : Int32} (w43 : r42 = J_X12_all v29) (e44 : v44 = (p1 - r42)) (e46 : v46 = ((sm 2) ((1 : Int32).toNatClampNeg))) (w49 : r48 = J_X12_all v29) (e50 : v50 = (v46 - r48)) (e51 : v51 = ((15 : Int32) + p0)) (e53 : v53 = ((sm 2) (v51).toNatClampNeg)) (e55 : v55 = ((15 : Int32) + p0)) (e57 : v57 = ((sm 2) (v55).toNatClampNeg)) (e69 : v69 = ((3 : Int32) * v29)) (e71 : v71 = ((sm 12) (v69).toNatClampNeg)) (e72 : v72 = (v71 / (100 : Int32))) (e73 : v73 = (v72 - v72 / (10 : Int32) * (10 : Int32))) (c31 : ¬ ((500 : Int32) ≤ v29)) (w37 : r34 = J_X12_isHands sm tm v29) (c39 : ¬ (r34 = (0 : Int32))) (c54 : v53 ≤ v44) (c58 : ¬ (v50 ≤ v57)) (c74 : v57 ≤ (0 : Int32)) (c75 : ¬ (v73 = (0 : Int32))) : (B_X12_againstOf_2 sm tm p0 p1) v29 = Sum.inr (v29) := by subst w43 e44 e46 w49 e50 e51 e53 e55 e57 e69 e71 e72 e73; unfold B_X12_againstOf_2; refine Eq.trans (if_neg c31) ?_; refine lt_e w37 ?_; refine Eq.trans (if_neg c39) ?_; refine Eq.trans (if_pos c54) ?_; refine Eq.trans (if_neg c58) ?_; refine Eq.trans (if_pos c74) ?_; refine Eq.trans (if_neg c75) ?_; rfl
theorem exl_X12_againstOf_9 {sm : Nat → Nat → Int32} {tm : Nat → Nat → Int64} {p0 : Int32} {p1 : Int32} {v29 : Int32} {v78 : Int32} {r42 : Int32} {v44 : Int32} {v46 : Int32} {r48 : Int32} {v50 : Int32} {v51 : Int32} {v53 : Int32} {v55 : Int32} {v57 : Int32} {v69 : Int32} {v71 : Int32} {v72 : Int32} {v73 : Int32} {r34 : Int32} (w43 : r42 = J_X12_all v29) (e44 : v44 = (p1 - r42)) (e46 : v46 = ((sm 2) ((1 : Int32).toNatClampNeg))) (w49 : r48 = J_X12_all v29) (e50 : v50 = (v46 - r48)) (e51 : v51 = ((15 : Int32) + p0)) (e53 : v53 = ((sm 2) (v51).toNatClampNeg)) (e55 : v55 = ((15 : Int32) + p0)) (e57 : v57 = ((sm 2) (v55).toNatClampNeg)) (e69 : v69 = ((3 : Int32) * v29)) (e71 : v71 = ((sm 12) (v69).toNatClampNeg)) (e72 : v72 = (v71 / (100 : Int32))) (e73 : v73 = (v72 - v72 / (10 : Int32) * (10 : Int32))) (e78 : v78 = v29 + 1) (c31 : ¬ ((500 : Int32) ≤ v29)) (w37 : r34 = J_X12_isHands sm tm v29) (c39 : ¬ (r34 = (0 : Int32))) (c54 : v53 ≤ v44) (c58 : ¬ (v50 ≤ v57)) (c74 : ¬ (v57 ≤ (0 : Int32))) (c77 : v73 = v57) : (B_X12_againstOf_2 sm tm p0 p1) v29 = Sum.inl v78 := by subst w43 e44 e46 w49 e50 e51 e53 e55 e57 e69 e71 e72 e73 e78; unfold B_X12_againstOf_2; refine Eq.trans (if_neg c31) ?_; refine lt_e w37 ?_; refine Eq.trans (if_neg c39) ?_; refine Eq.trans (if_pos c54) ?_; refine Eq.trans (if_neg c58) ?_; refine Eq.trans (if_neg c74) ?_; refine Eq.trans (if_pos c77) ?_; rfl
theorem exl_X12_againstOf_10 {sm : Nat → Nat → Int32} {tm : Nat → Nat → Int64} {p0 : Int32} {p1 : Int32} {v29 : Int32} {r42 : Int32} {v44 : Int32} {v46 : Int32} {r48 : Int32} {v50 : Int32} {v51 : Int32} {v53 : Int32} {v55 : Int32} {v57 : Int32} {v69 : Int32} {v71 : Int32} {v72 : Int32} {v73 : Int32} {r34 : Int32} (w43 : r42 = J_X12_all v29) (e44 : v44 = (p1 - r42)) (e46 : v46 = ((sm 2) ((1 : Int32).toNatClampNeg))) (w49 : r48 = J_X12_all v29) (e50 : v50 = (v46 - r48)) (e51 : v51 = ((15 : Int32) + p0)) (e53 : v53 = ((sm 2) (v51).toNatClampNeg)) (e55 : v55 = ((15 : Int32) + p0)) (e57 : v57 = ((sm 2) (v55).toNatClampNeg)) (e69 : v69 = ((3 : Int32) * v29)) (e71 : v71 = ((sm 12) (v69).toNatClampNeg)) (e72 : v72 = (v71 / (100 : Int32))) (e73 : v73 = (v72 - v72 / (10 : Int32) * (10 : Int32))) (c31 : ¬ ((500 : Int32) ≤ v29)) (w37 : r34 = J_X12_isHands sm tm v29) (c39 : ¬ (r34 = (0 : Int32))) (c54 : v53 ≤ v44) (c58 : ¬ (v50 ≤ v57)) (c74 : ¬ (v57 ≤ (0 : Int32))) (c77 : ¬ (v73 = v57)) : (B_X12_againstOf_2 sm tm p0 p1) v29 = Sum.inr (v29) := by subst w43 e44 e46 w49 e50 e51 e53 e55 e57 e69 e71 e72 e73; unfold B_X12_againstOf_2; refine Eq.trans (if_neg c31) ?_; refine lt_e w37 ?_; refine Eq.trans (if_neg c39) ?_; refine Eq.trans (if_pos c54) ?_; refine Eq.trans (if_neg c58) ?_; refine Eq.trans (if_neg c74) ?_; refine Eq.trans (if_neg c77) ?_; rfl
theorem exl_X12_againstOf_11 {sm : Nat → Nat → Int32} {tm : Nat → Nat → Int64} {p0 : Int32} {p1 : Int32} {v29 : Int32} {v87 : Int32} {r42 : Int32} {v44 : Int32} {v46 : Int32} {r48 : Int32} {v50 : Int32} {v51 : Int32} {v53 : Int32} {v80 : Int32} {v82 : Int32} {v83 : Int32} {v84 : Int32} {r34 : Int32} (w43 : r42 = J_X12_all v29) (e44 : v44 = (p1 - r42)) (e46 : v46 = ((sm 2) ((1 : Int32).toNatClampNeg))) (w49 : r48 = J_X12_all v29) (e50 : v50 = (v46 - r48)) (e51 : v51 = ((15 : Int32) + p0)) (e53 : v53 = ((sm 2) (v51).toNatClampNeg)) (e80 : v80 = ((3 : Int32) * v29)) (e82 : v82 = ((sm 12) (v80).toNatClampNeg)) (e83 : v83 = (v82 / (100 : Int32))) (e84 : v84 = (v83 - v83 / (10 : Int32) * (10 : Int32))) (e87 : v87 = v29 + 1) (c31 : ¬ ((500 : Int32) ≤ v29)) (w37 : r34 = J_X12_isHands sm tm v29) (c39 : ¬ (r34 = (0 : Int32))) (c54 : ¬ (v53 ≤ v44)) (c79 : v50 ≤ v44) (c85 : v50 ≤ (0 : Int32)) (c86 : v84 = (0 : Int32)) : (B_X12_againstOf_2 sm tm p0 p1) v29 = Sum.inl v87 := by subst w43 e44 e46 w49 e50 e51 e53 e80 e82 e83 e84 e87; unfold B_X12_againstOf_2; refine Eq.trans (if_neg c31) ?_; refine lt_e w37 ?_; refine Eq.trans (if_neg c39) ?_; refine Eq.trans (if_neg c54) ?_; refine Eq.trans (if_pos c79) ?_; refine Eq.trans (if_pos c85) ?_; refine Eq.trans (if_pos c86) ?_; rfl
theorem exl_X12_againstOf_12 {sm : Nat → Nat → Int32} {tm : Nat → Nat → Int64} {p0 : Int32} {p1 : Int32} {v29 : Int32} {r42 : Int32} {v44 : Int32} {v46 : Int32} {r48 : Int32} {v50 : Int32} {v51 : Int32} {v53 : Int32} {v80 : Int32} {v82 : Int32} {v83 : Int32} {v84 : Int32} {r34 : Int32} (w43 : r42 = J_X12_all v29) (e44 : v44 = (p1 - r42)) (e46 : v46 = ((sm 2) ((1 : Int32).toNatClampNeg))) (w49 : r48 = J_X12_all v29) (e50 : v50 = (v46 - r48)) (e51 : v51 = ((15 : Int32) + p0)) (e53 : v53 = ((sm 2) (v51).toNatClampNeg)) (e80 : v80 = ((3 : Int32) * v29)) (e82 : v82 = ((sm 12) (v80).toNatClampNeg)) (e83 : v83 = (v82 / (100 : Int32))) (e84 : v84 = (v83 - v83 / (10 : Int32) * (10 : Int32))) (c31 : ¬ ((500 : Int32) ≤ v29)) (w37 : r34 = J_X12_isHands sm tm v29) (c39 : ¬ (r34 = (0 : Int32))) (c54 : ¬ (v53 ≤ v44)) (c79 : v50 ≤ v44) (c85 : v50 ≤ (0 : Int32)) (c86 : ¬ (v84 = (0 : Int32))) : (B_X12_againstOf_2 sm tm p0 p1) v29 = Sum.inr (v29) := by subst w43 e44 e46 w49 e50 e51 e53 e80 e82 e83 e84; unfold B_X12_againstOf_2; refine Eq.trans (if_neg c31) ?_; refine lt_e w37 ?_; refine Eq.trans (if_neg c39) ?_; refine Eq.trans (if_neg c54) ?_; refine Eq.trans (if_pos c79) ?_; refine Eq.trans (if_pos c85) ?_; refine Eq.trans (if_neg c86) ?_; rfl
theorem exl_X12_againstOf_13 {sm : Nat → Nat → Int32} {tm : Nat → Nat → Int64} {p0 : Int32} {p1 : Int32} {v29 : Int32} {v89 : Int32} {r42 : Int32} {v44 : Int32} {v46 : Int32} {r48 : Int32} {v50 : Int32} {v51 : Int32} {v53 : Int32} {v80 : Int32} {v82 : Int32} {v83 : Int32} {v84 : Int32} {r34 : Int32} (w43 : r42 = J_X12_all v29) (e44 : v44 = (p1 - r42)) (e46 : v46 = ((sm 2) ((1 : Int32).toNatClampNeg))) (w49 : r48 = J_X12_all v29) (e50 : v50 = (v46 - r48)) (e51 : v51 = ((15 : Int32) + p0)) (e53 : v53 = ((sm 2) (v51).toNatClampNeg)) (e80 : v80 = ((3 : Int32) * v29)) (e82 : v82 = ((sm 12) (v80).toNatClampNeg)) (e83 : v83 = (v82 / (100 : Int32))) (e84 : v84 = (v83 - v83 / (10 : Int32) * (10 : Int32))) (e89 : v89 = v29 + 1) (c31 : ¬ ((500 : Int32) ≤ v29)) (w37 : r34 = J_X12_isHands sm tm v29) (c39 : ¬ (r34 = (0 : Int32))) (c54 : ¬ (v53 ≤ v44)) (c79 : v50 ≤ v44) (c85 : ¬ (v50 ≤ (0 : Int32))) (c88 : v84 = v50) : (B_X12_againstOf_2 sm tm p0 p1) v29 = Sum.inl v89 := by subst w43 e44 e46 w49 e50 e51 e53 e80 e82 e83 e84 e89; unfold B_X12_againstOf_2; refine Eq.trans (if_neg c31) ?_; refine lt_e w37 ?_; refine Eq.trans (if_neg c39) ?_; refine Eq.trans (if_neg c54) ?_; refine Eq.trans (if_pos c79) ?_; refine Eq.trans (if_neg c85) ?_; refine Eq.trans (if_pos c88) ?_; rfl
theorem exl_X12_againstOf_14 {sm : Nat → Nat → Int32} {tm : Nat → Nat → Int64} {p0 : Int32} {p1 : Int32} {v29 : Int32} {r42 : Int32} {v44 : Int32} {v46 : Int32} {r48 : Int32} {v50 : Int32} {v51 : Int32} {v53 : Int32} {v80 : Int32} {v82 : Int32} {v83 : Int32} {v84 : Int32} {r34 : Int32} (w43 : r42 = J_X12_all v29) (e44 : v44 = (p1 - r42)) (e46 : v46 = ((sm 2) ((1 : Int32).toNatClampNeg))) (w49 : r48 = J_X12_all v29) (e50 : v50 = (v46 - r48)) (e51 : v51 = ((15 : Int32) + p0)) (e53 : v53 = ((sm 2) (v51).toNatClampNeg)) (e80 : v80 = ((3 : Int32) * v29)) (e82 : v82 = ((sm 12) (v80).toNatClampNeg)) (e83 : v83 = (v82 / (100 : Int32))) (e84 : v84 = (v83 - v83 / (10 : Int32) * (10 : Int32))) (c31 : ¬ ((500 : Int32) ≤ v29)) (w37 : r34 = J_X12_isHands sm tm v29) (c39 : ¬ (r34 = (0 : Int32))) (c54 : ¬ (v53 ≤ v44)) (c79 : v50 ≤ v44) (c85 : ¬ (v50 ≤ (0 : Int32))) (c88 : ¬ (v84 = v50)) : (B_X12_againstOf_2 sm tm p0 p1) v29 = Sum.inr (v29) := by subst w43 e44 e46 w49 e50 e51 e53 e80 e82 e83 e84; unfold B_X12_againstOf_2; refine Eq.trans (if_neg c31) ?_; refine lt_e w37 ?_; refine Eq.trans (if_neg c39) ?_; refine Eq.trans (if_neg c54) ?_; refine Eq.trans (if_pos c79) ?_; refine Eq.trans (if_neg c85) ?_; refine Eq.trans (if_neg c88) ?_; rfl
theorem exl_X12_againstOf_15 {sm : Nat → Nat → Int32} {tm : Nat → Nat → Int64} {p0 : Int32} {p1 : Int32} {v29 : Int32} {v97 : Int32} {r42 : Int32} {v44 : Int32} {v46 : Int32} {r48 : Int32} {v50 : Int32} {v51 : Int32} {v53 : Int32} {v90 : Int32} {v92 : Int32} {v93 : Int32} {v94 : Int32} {r34 : Int32} (w43 : r42 = J_X12_all v29) (e44 : v44 = (p1 - r42)) (e46 : v46 = ((sm 2) ((1 : Int32).toNatClampNeg))) (w49 : r48 = J_X12_all v29) (e50 : v50 = (v46 - r48)) (e51 : v51 = ((15 : Int32) + p0)) (e53 : v53 = ((sm 2) (v51).toNatClampNeg)) (e90 : v90 = ((3 : Int32) * v29)) (e92 : v92 = ((sm 12) (v90).toNatClampNeg)) (e93 : v93 = (v92 / (100 : Int32))) (e94 : v94 = (v93 - v93 / (10 : Int32) * (10 : Int32))) (e97 : v97 = v29 + 1) (c31 : ¬ ((500 : Int32) ≤ v29)) (w37 : r34 = J_X12_isHands sm tm v29) (c39 : ¬ (r34 = (0 : Int32))) (c54 : ¬ (v53 ≤ v44)) (c79 : ¬ (v50 ≤ v44)) (c95 : v44 ≤ (0 : Int32)) (c96 : v94 = (0 : Int32)) : (B_X12_againstOf_2 sm tm p0 p1) v29 = Sum.inl v97 := by subst w43 e44 e46 w49 e50 e51 e53 e90 e92 e93 e94 e97; unfold B_X12_againstOf_2; refine Eq.trans (if_neg c31) ?_; refine lt_e w37 ?_; refine Eq.trans (if_neg c39) ?_; refine Eq.trans (if_neg c54) ?_; refine Eq.trans (if_neg c79) ?_; refine Eq.trans (if_pos c95) ?_; refine Eq.trans (if_pos c96) ?_; rfl
theorem exl_X12_againstOf_16 {sm : Nat → Nat → Int32} {tm : Nat → Nat → Int64} {p0 : Int32} {p1 : Int32} {v29 : Int32} {r42 : Int32} {v44 : Int32} {v46 : Int32} {r48 : Int32} {v50 : Int32} {v51 : Int32} {v53 : Int32} {v90 : Int32} {v92 : Int32} {v93 : Int32} {v94 : Int32} {r34 : Int32} (w43 : r42 = J_X12_all v29) (e44 : v44 = (p1 - r42)) (e46 : v46 = ((sm 2) ((1 : Int32).toNatClampNeg))) (w49 : r48 = J_X12_all v29) (e50 : v50 = (v46 - r48)) (e51 : v51 = ((15 : Int32) + p0)) (e53 : v53 = ((sm 2) (v51).toNatClampNeg)) (e90 : v90 = ((3 : Int32) * v29)) (e92 : v92 = ((sm 12) (v90).toNatClampNeg)) (e93 : v93 = (v92 / (100 : Int32))) (e94 : v94 = (v93 - v93 / (10 : Int32) * (10 : Int32))) (c31 : ¬ ((500 : Int32) ≤ v29)) (w37 : r34 = J_X12_isHands sm tm v29) (c39 : ¬ (r34 = (0 : Int32))) (c54 : ¬ (v53 ≤ v44)) (c79 : ¬ (v50 ≤ v44)) (c95 : v44 ≤ (0 : Int32)) (c96 : ¬ (v94 = (0 : Int32))) : (B_X12_againstOf_2 sm tm p0 p1) v29 = Sum.inr (v29) := by subst w43 e44 e46 w49 e50 e51 e53 e90 e92 e93 e94; unfold B_X12_againstOf_2; refine Eq.trans (if_neg c31) ?_; refine lt_e w37 ?_; refine Eq.trans (if_neg c39) ?_; refine Eq.trans (if_neg c54) ?_; refine Eq.trans (if_neg c79) ?_; refine Eq.trans (if_pos c95) ?_; refine Eq.trans (if_neg c96) ?_; rfl
theorem exl_X12_againstOf_17 {sm : Nat → Nat → Int32} {tm : Nat → Nat → Int64} {p0 : Int32} {p1 : Int32} {v29 : Int32} {v99 : Int32} {r42 : Int32} {v44 : Int32} {v46 : Int32} {r48 : Int32} {v50 : Int32} {v51 : Int32} {v53 : Int32} {v90 : Int32} {v92 : Int32} {v93 : Int32} {v94 : Int32} {r34 : Int32} (w43 : r42 = J_X12_all v29) (e44 : v44 = (p1 - r42)) (e46 : v46 = ((sm 2) ((1 : Int32).toNatClampNeg))) (w49 : r48 = J_X12_all v29) (e50 : v50 = (v46 - r48)) (e51 : v51 = ((15 : Int32) + p0)) (e53 : v53 = ((sm 2) (v51).toNatClampNeg)) (e90 : v90 = ((3 : Int32) * v29)) (e92 : v92 = ((sm 12) (v90).toNatClampNeg)) (e93 : v93 = (v92 / (100 : Int32))) (e94 : v94 = (v93 - v93 / (10 : Int32) * (10 : Int32))) (e99 : v99 = v29 + 1) (c31 : ¬ ((500 : Int32) ≤ v29)) (w37 : r34 = J_X12_isHands sm tm v29) (c39 : ¬ (r34 = (0 : Int32))) (c54 : ¬ (v53 ≤ v44)) (c79 : ¬ (v50 ≤ v44)) (c95 : ¬ (v44 ≤ (0 : Int32))) (c98 : v94 = v44) : (B_X12_againstOf_2 sm tm p0 p1) v29 = Sum.inl v99 := by subst w43 e44 e46 w49 e50 e51 e53 e90 e92 e93 e94 e99; unfold B_X12_againstOf_2; refine Eq.trans (if_neg c31) ?_; refine lt_e w37 ?_; refine Eq.trans (if_neg c39) ?_; refine Eq.trans (if_neg c54) ?_; refine Eq.trans (if_neg c79) ?_; refine Eq.trans (if_neg c95) ?_; refine Eq.trans (if_pos c98) ?_; rfl
theorem exl_X12_againstOf_18 {sm : Nat → Nat → Int32} {tm : Nat → Nat → Int64} {p0 : Int32} {p1 : Int32} {v29 : Int32} {r42 : Int32} {v44 : Int32} {v46 : Int32} {r48 : Int32} {v50 : Int32} {v51 : Int32} {v53 : Int32} {v90 : Int32} {v92 : Int32} {v93 : Int32} {v94 : Int32} {r34 : Int32} (w43 : r42 = J_X12_all v29) (e44 : v44 = (p1 - r42)) (e46 : v46 = ((sm 2) ((1 : Int32).toNatClampNeg))) (w49 : r48 = J_X12_all v29) (e50 : v50 = (v46 - r48)) (e51 : v51 = ((15 : Int32) + p0)) (e53 : v53 = ((sm 2) (v51).toNatClampNeg)) (e90 : v90 = ((3 : Int32) * v29)) (e92 : v92 = ((sm 12) (v90).toNatClampNeg)) (e93 : v93 = (v92 / (100 : Int32))) (e94 : v94 = (v93 - v93 / (10 : Int32) * (10 : Int32))) (c31 : ¬ ((500 : Int32) ≤ v29)) (w37 : r34 = J_X12_isHands sm tm v29) (c39 : ¬ (r34 = (0 : Int32))) (c54 : ¬ (v53 ≤ v44)) (c79 : ¬ (v50 ≤ v44)) (c95 : ¬ (v44 ≤ (0 : Int32))) (c98 : ¬ (v94 = v44)) : (B_X12_againstOf_2 sm tm p0 p1) v29 = Sum.inr (v29) := by subst w43 e44 e46 w49 e50 e51 e53 e90 e92 e93 e94; unfold B_X12_againstOf_2; refine Eq.trans (if_neg c31) ?_; refine lt_e w37 ?_; refine Eq.trans (if_neg c39) ?_; refine Eq.trans (if_neg c54) ?_; refine Eq.trans (if_neg c79) ?_; refine Eq.trans (if_neg c95) ?_; refine Eq.trans (if_neg c98) ?_; rfl
set_option maxHeartbeats 4000000 in
set_option maxRecDepth 100000 in
theorem c_X12_againstOf (l : Launch) (D : va_G) (k : Nat → ClassId) (b : Nat → Nat) (qm : Nat → Nat) (sm : Nat → Nat → Int32) (tm : Nat → Nat → Int64) (sz : Nat) (p0 : Int32) (p1 : Int32) (h_k1 : 0 ≤ (sm 2 1).toInt ∧ (sm 2 1).toInt ≤ 4) (hp0 : 0 ≤ p0.toInt ∧ p0.toInt ≤ 4) : MetI l D k b yX12_againstOf wsX12_againstOf ({ frames := 2, cells := 0, slots := 0, locals := 46 } : Room) [cell22_ qm sm tm, cell5_ k qm sm, cell13_ k qm sm, cell8_ k qm sm, cell6_ k qm sm, cell15_ k qm sm, cell14_ k qm tm, cell12_ k qm tm, cell18_ k qm tm, cell17_ k qm tm, cell19_ k qm tm, cell21_ k qm tm, cell20_ k qm sm, cell16_ k qm sm, cell11_ k qm sm, cell10_ k qm sm, cell9_ k qm sm, cell7_ k qm sm] sz [.ref (qm 0), .int p0, .int p1] (fun (r : Int32) (u : Unit) => r = J_X12_againstOf sm tm p0 p1) (fun u => [cell22_ qm sm tm, cell5_ k qm sm, cell13_ k qm sm, cell8_ k qm sm, cell6_ k qm sm, cell15_ k qm sm, cell14_ k qm tm, cell12_ k qm tm, cell18_ k qm tm, cell17_ k qm tm, cell19_ k qm tm, cell21_ k qm tm, cell20_ k qm sm, cell16_ k qm sm, cell11_ k qm sm, cell10_ k qm sm, cell9_ k qm sm, cell7_ k qm sm]) := by
  refine g_enter (cc := cX12_againstOf) (maxL := 7) (ret := (some .int)) (by decide) rfl (Nat.le_of_ble_eq_true rfl) ?_
  intro p e s m below meth c A hsz hAe cx hr hP hD hS ls hl
  rw [hAe]
  refine g_q (fun Q hQ => ?_)
  have hx := cx.1.1
  have hb := cx.1.2.1
  have bp0 := i_rng p0
  have bp1 := i_rng p1
  have hl : lv_has ls 7 [(0, .ref (qm 0)), (1, .int p0), (2, .int p1)] := hl
  obtain ⟨H, eH⟩ : ∃ H : Heap, H = s.heap := ⟨_, rfl⟩
  obtain ⟨locs, el⟩ : ∃ L : List Loc, L = [] := ⟨_, rfl⟩
  have hP : va_P D vwCl [cell22_ qm sm tm, cell5_ k qm sm, cell13_ k qm sm, cell8_ k qm sm, cell6_ k qm sm, cell15_ k qm sm, cell14_ k qm tm, cell12_ k qm tm, cell18_ k qm tm, cell17_ k qm tm, cell19_ k qm tm, cell21_ k qm tm, cell20_ k qm sm, cell16_ k qm sm, cell11_ k qm sm, cell10_ k qm sm, cell9_ k qm sm, cell7_ k qm sm] H := by rw [eH]; exact hP
  have hD : va_D A [cell22_ qm sm tm, cell5_ k qm sm, cell13_ k qm sm, cell8_ k qm sm, cell6_ k qm sm, cell15_ k qm sm, cell14_ k qm tm, cell12_ k qm tm, cell18_ k qm tm, cell17_ k qm tm, cell19_ k qm tm, cell21_ k qm tm, cell20_ k qm sm, cell16_ k qm sm, cell11_ k qm sm, cell10_ k qm sm, cell9_ k qm sm, cell7_ k qm sm] := hD
  have hS : va_S A s.heap H locs := by rw [eH, el]; exact hS
  suffices goal : W p l e ({ frames := 2, cells := 0, slots := 0, locals := 46 } : Room) s m ([.ref (qm 0), .int p0, .int p1] : List Value).toArray below meth c H locs 0 0 Q (F0 m 0 ls []) by rw [eH, el] at goal; exact goal
  refine lv_iconst (v := 0) hx hb dX12_againstOf_0 (by decide) ?_
  refine lv_istore_n (lv' := [(3, .int 0), (0, .ref (qm 0)), (1, .int p0), (2, .int p1)]) hx hb dX12_againstOf_1 rfl hl (by decide) rfl (fun ls hl => ?_)
  obtain ⟨rr2_1, err2_1⟩ : ∃ r : Int32, LTs (default : Int32) (B_X12_againstOf_2 sm tm p0 p1) 501 (0 : Int32) = r := ⟨_, rfl⟩
  have hrr2_1 : J_X12_againstOf sm tm p0 p1 = rr2_1 := ((exl_X12_againstOf_0)).trans err2_1
  have hL2 : ∀ (n30 : Nat) (v29 : Int32) (H : Heap) (locs : List Loc) (ls : Array Slot), 500 - v29.toInt < (n30 : Int) → (0 ≤ v29.toInt ∧ v29.toInt ≤ 500) → (LTs (default : Int32) (B_X12_againstOf_2 sm tm p0 p1) n30 v29 = rr2_1) → va_P D vwCl [cell22_ qm sm tm, cell5_ k qm sm, cell13_ k qm sm, cell8_ k qm sm, cell6_ k qm sm, cell15_ k qm sm, cell14_ k qm tm, cell12_ k qm tm, cell18_ k qm tm, cell17_ k qm tm, cell19_ k qm tm, cell21_ k qm tm, cell20_ k qm sm, cell16_ k qm sm, cell11_ k qm sm, cell10_ k qm sm, cell9_ k qm sm, cell7_ k qm sm] H → va_D A [cell22_ qm sm tm, cell5_ k qm sm, cell13_ k qm sm, cell8_ k qm sm, cell6_ k qm sm, cell15_ k qm sm, cell14_ k qm tm, cell12_ k qm tm, cell18_ k qm tm, cell17_ k qm tm, cell19_ k qm tm, cell21_ k qm tm, cell20_ k qm sm, cell16_ k qm sm, cell11_ k qm sm, cell10_ k qm sm, cell9_ k qm sm, cell7_ k qm sm] → va_S A s.heap H locs → lv_has ls 7 [(3, .int v29), (0, .ref (qm 0)), (1, .int p0), (2, .int p1)] → W p l e ({ frames := 2, cells := 0, slots := 0, locals := 46 } : Room) s m ([.ref (qm 0), .int p0, .int p1] : List Value).toArray below meth c H locs 0 0 Q (F0 m 2 ls []) := by
    intro n30
    induction n30 with
    | zero => intro v29 H locs ls hmn30 bv29 hzrr2_1 hP hD hS hl; exact absurd hmn30 (by omega)
    | succ n30 ih2 =>
      intro v29 H locs ls hmn30 bv29 hzrr2_1 hP hD hS hl
      refine lv_iload_n hx hb dX12_againstOf_2 rfl (lv_at hl 0 rfl) ?_
      refine lv_sipush (v := 500) hx hb dX12_againstOf_3 (by decide) ?_
      refine lv_icmp_ge (tgt := 120) hx hb dX12_againstOf_6 (by decide) (fun c31 => ?_) (fun c31 => ?_)
      · have f31 : 500 ≤ v29.toInt := f_le (by decide) rfl c31
        refine lv_bipush (v := (-9)) hx hb dX12_againstOf_120 (by decide) ?_
        have hlit32 : ((-9) : Int32).toInt = -9 := by decide
        rw [hQ]
        exact x_i cx hr () hP hD hS (show ((-9) : Int32) = J_X12_againstOf sm tm p0 p1 from ((hrr2_1.trans (LT_r hzrr2_1 (exl_X12_againstOf_1 c31)))).symm) dX12_againstOf_122
      · have f31 : v29.toInt < 500 := f_nle (by decide) rfl c31
        refine lv_aload_n hx hb dX12_againstOf_9 rfl (lv_at hl 1 rfl) ?_
        refine lv_iload_n hx hb dX12_againstOf_10 rfl (lv_at hl 0 rfl) ?_
        refine g_iF (w1 := fun (_ : Unit) => [cell22_ qm sm tm, cell5_ k qm sm, cell13_ k qm sm, cell8_ k qm sm, cell6_ k qm sm, cell15_ k qm sm, cell14_ k qm tm, cell12_ k qm tm, cell18_ k qm tm, cell17_ k qm tm, cell19_ k qm tm, cell21_ k qm tm, cell20_ k qm sm, cell16_ k qm sm, cell11_ k qm sm, cell10_ k qm sm, cell9_ k qm sm, cell7_ k qm sm]) (g_runVF (ws := [cell22_ qm sm tm, cell5_ k qm sm, cell13_ k qm sm, cell8_ k qm sm, cell6_ k qm sm, cell15_ k qm sm, cell14_ k qm tm, cell12_ k qm tm, cell18_ k qm tm, cell17_ k qm tm, cell19_ k qm tm, cell21_ k qm tm, cell20_ k qm sm, cell16_ k qm sm, cell11_ k qm sm, cell10_ k qm sm, cell9_ k qm sm, cell7_ k qm sm]) (rest := []) cx hP hD hS [.int v29] (c_X12_isHands l D k b qm sm tm H.size v29 (show 0 ≤ ((sm 2) 1).toInt ∧ ((sm 2) 1).toInt ≤ 4 from by first | decide | omega)) gX12_againstOf_X12_isHands rfl rfl rfl nd_X12_isHands ⟨Nat.le_of_ble_eq_true rfl, Nat.le_of_ble_eq_true rfl⟩ (ci := 10) (q0 := 0) rfl rfl rfl hl.1 rfl (Nat.le_of_ble_eq_true rfl) ⟨Nat.zero_le _, Nat.zero_le _⟩ dX12_againstOf_11) cx.2.2.1 hD hS (fun r34 _ H locs hw33 hP hD hS => ?_)
        replace hw33 : (0 ≤ r34.toInt ∧ r34.toInt ≤ 1) ∧ (Imp (r34.toInt = 1) (0 ≤ v29.toInt ∧ v29.toInt ≤ 400)) ∧ (r34 = J_X12_isHands sm tm v29) := hw33
        obtain ⟨w35, w36, w37⟩ := hw33
        have zr34 : 0 ≤ r34.toInt ∧ r34.toInt ≤ 1 := w35
        refine lv_if_eq (tgt := 114) hx hb dX12_againstOf_14 (by decide) (fun c39 => ?_) (fun c39 => ?_)
        · have f39 : r34.toInt = 0 := f_eq rfl (by decide) c39
          obtain ⟨v40, e40⟩ : ∃ z : Int32, z = v29 + 1 := ⟨_, rfl⟩
          refine lv_iinc (v := v40) (lv' := [(3, .int v40), (0, .ref (qm 0)), (1, .int p0), (2, .int p1)]) hx hb dX12_againstOf_114 hl (k := 0) rfl (by rw [e40]; rfl) (by decide) rfl (fun ls hl => ?_)
          have t40 : v40.toInt = v29.toInt + 1 := by rw [e40]; exact i_add rfl (by decide) (by omega) (by omega)
          refine lv_goto (tgt := 2) hx hb dX12_againstOf_117 (by decide) ?_
          exact ih2 v40 _ _ _ (by omega) (by first | decide | omega) (LT_g hzrr2_1 (exl_X12_againstOf_2 e40 c31 w37 c39)) hP hD hS (lv_sub hl [0, 1, 2, 3] rfl)
        · have f39 : ¬ r34.toInt = 0 := f_ne rfl (by decide) c39
          have k39 : (0 ≤ v29.toInt ∧ v29.toInt ≤ 400) := w36 (by omega)
          refine lv_iload_n hx hb dX12_againstOf_17 rfl (lv_at hl 3 rfl) ?_
          refine lv_iload_n hx hb dX12_againstOf_18 rfl (lv_at hl 0 rfl) ?_
          refine g_ir (g_runS (wc := []) (rest := [.int p1]) cx hP hD hS [] rfl (by decide) [.int v29] (c_X12_all l D k b H.size v29) gX12_againstOf_X12_all rfl rfl rfl nd_X12_all ⟨Nat.le_of_ble_eq_true rfl, Nat.le_of_ble_eq_true rfl⟩ rfl hl.1 rfl (Nat.le_of_ble_eq_true rfl) ⟨Nat.zero_le _, Nat.zero_le _⟩ dX12_againstOf_19) cx.2.2.1 hP hD hS [] rfl rfl (fun r42 H locs hw41 hP hS => ?_)
          have w43 : r42 = J_X12_all v29 := hw41
          clear hw41
          have zr42 := all_t w43 (show 0 ≤ v29.toInt from by omega)
          refine lv_isub hx hb dX12_againstOf_22 (lv_topi (fun v44 e44 => ?_))
          refine lv_istore (lv' := [(4, .int v44), (3, .int v29), (0, .ref (qm 0)), (1, .int p0), (2, .int p1)]) hx hb dX12_againstOf_23 hl (by decide) rfl (fun ls hl => ?_)
          refine lv_aload_n hx hb dX12_againstOf_25 rfl (lv_at hl 2 rfl) ?_
          refine g_get cx hP iw_X12_againstOf_X12 0 rfl rfl 1 (by decide) rfl fw_X12_againstOf_13 rfl dX12_againstOf_26 ?_
          refine lv_iconst (v := 1) hx hb dX12_againstOf_29 (by decide) ?_
          have hn45 : vp_in 1 26 := f_in (a := 1) (by decide) (by omega) (by omega)
          refine va_iald hx hb cx.2.1 hP 2 0 rfl rfl hn45 dX12_againstOf_30 (lv_topi (fun v46 e46 => ?_))
          have uv46 : v46.toInt = ((sm 2) 1).toInt := congrArg Int32.toInt e46
          have t46 : 0 ≤ v46.toInt ∧ v46.toInt ≤ 4 := by rw [e46]; exact h_k1
          refine lv_iload_n hx hb dX12_againstOf_31 rfl (lv_at hl 1 rfl) ?_
          refine g_ir (g_runS (wc := []) (rest := [.int v46]) cx hP hD hS [] rfl (by decide) [.int v29] (c_X12_all l D k b H.size v29) gX12_againstOf_X12_all rfl rfl rfl nd_X12_all ⟨Nat.le_of_ble_eq_true rfl, Nat.le_of_ble_eq_true rfl⟩ rfl hl.1 rfl (Nat.le_of_ble_eq_true rfl) ⟨Nat.zero_le _, Nat.zero_le _⟩ dX12_againstOf_32) cx.2.2.1 hP hD hS [] rfl rfl (fun r48 H locs hw47 hP hS => ?_)
          have w49 : r48 = J_X12_all v29 := hw47
          clear hw47
          have zr48 := all_t w49 (show 0 ≤ v29.toInt from by omega)
          refine lv_isub hx hb dX12_againstOf_35 (lv_topi (fun v50 e50 => ?_))
          have t50 : v50.toInt = v46.toInt - r48.toInt := by rw [e50]; exact i_sub rfl rfl (by omega) (by omega)
          refine lv_istore (lv' := [(5, .int v50), (4, .int v44), (3, .int v29), (0, .ref (qm 0)), (1, .int p0), (2, .int p1)]) hx hb dX12_againstOf_36 hl (by decide) rfl (fun ls hl => ?_)
          refine lv_iload hx hb dX12_againstOf_38 (lv_at hl 1 rfl) ?_
          refine lv_aload_n hx hb dX12_againstOf_40 rfl (lv_at hl 3 rfl) ?_
          refine g_get cx hP iw_X12_againstOf_X12 0 rfl rfl 1 (by decide) rfl fw_X12_againstOf_13 rfl dX12_againstOf_41 ?_
          refine lv_bipush (v := 15) hx hb dX12_againstOf_44 (by decide) ?_
          refine lv_iload_n hx hb dX12_againstOf_46 rfl (lv_at hl 4 rfl) ?_
          refine lv_iadd hx hb dX12_againstOf_47 (lv_topi (fun v51 e51 => ?_))
          have t51 : v51.toInt = 15 + p0.toInt := by rw [e51]; exact i_add (by decide) rfl (by omega) (by omega)
          have hn52 : vp_in v51 26 := f_in (a := v51.toInt) rfl (by omega) (by omega)
          refine va_iald hx hb cx.2.1 hP 2 0 rfl rfl hn52 dX12_againstOf_48 (lv_topi (fun v53 e53 => ?_))
          refine lv_icmp_ge (tgt := 57) hx hb dX12_againstOf_49 (by decide) (fun c54 => ?_) (fun c54 => ?_)
          · have f54 : v53.toInt ≤ v44.toInt := f_le rfl rfl c54
            refine lv_aload_n hx hb dX12_againstOf_57 rfl (lv_at hl 3 rfl) ?_
            refine g_get cx hP iw_X12_againstOf_X12 0 rfl rfl 1 (by decide) rfl fw_X12_againstOf_13 rfl dX12_againstOf_58 ?_
            refine lv_bipush (v := 15) hx hb dX12_againstOf_61 (by decide) ?_
            refine lv_iload_n hx hb dX12_againstOf_63 rfl (lv_at hl 4 rfl) ?_
            refine lv_iadd hx hb dX12_againstOf_64 (lv_topi (fun v55 e55 => ?_))
            have t55 : v55.toInt = 15 + p0.toInt := by rw [e55]; exact i_add (by decide) rfl (by omega) (by omega)
            have hn56 : vp_in v55 26 := f_in (a := v55.toInt) rfl (by omega) (by omega)
            refine va_iald hx hb cx.2.1 hP 2 0 rfl rfl hn56 dX12_againstOf_65 (lv_topi (fun v57 e57 => ?_))
            refine lv_istore (lv' := [(6, .int v57), (5, .int v50), (4, .int v44), (3, .int v29), (0, .ref (qm 0)), (1, .int p0), (2, .int p1)]) hx hb dX12_againstOf_66 hl (by decide) rfl (fun ls hl => ?_)
            refine lv_iload hx hb dX12_againstOf_68 (lv_at hl 0 rfl) ?_
            refine lv_iload hx hb dX12_againstOf_70 (lv_at hl 1 rfl) ?_
            refine lv_icmp_ge (tgt := 80) hx hb dX12_againstOf_72 (by decide) (fun c58 => ?_) (fun c58 => ?_)
            · have f58 : v50.toInt ≤ v57.toInt := f_le rfl rfl c58
              refine lv_iload hx hb dX12_againstOf_80 (lv_at hl 1 rfl) ?_
              refine lv_istore (lv' := [(6, .int v50), (5, .int v50), (4, .int v44), (3, .int v29), (0, .ref (qm 0)), (1, .int p0), (2, .int p1)]) hx hb dX12_againstOf_82 hl (by decide) rfl (fun ls hl => ?_)
              refine lv_aload_n hx hb dX12_againstOf_84 rfl (lv_at hl 4 rfl) ?_
              refine g_get cx hP iw_X12_againstOf_X12 0 rfl rfl 20 (by decide) rfl fw_X12_againstOf_44 rfl dX12_againstOf_85 ?_
              refine lv_iconst (v := 3) hx hb dX12_againstOf_88 (by decide) ?_
              refine lv_iload_n hx hb dX12_againstOf_89 rfl (lv_at hl 3 rfl) ?_
              refine lv_imul hx hb dX12_againstOf_90 (lv_topi (fun v59 e59 => ?_))
              have t59 : v59.toInt = 3 * v29.toInt := by rw [e59]; exact i_mul (by decide) rfl (by omega) (by omega)
              have hn60 : vp_in v59 1500 := f_in (a := v59.toInt) rfl (by omega) (by omega)
              refine va_iald hx hb cx.2.1 hP 12 0 rfl rfl hn60 dX12_againstOf_91 (lv_topi (fun v61 e61 => ?_))
              refine lv_bipush (v := 100) hx hb dX12_againstOf_92 (by decide) ?_
              refine lv_idiv hx hb dX12_againstOf_94 (by decide) (lv_topi (fun v62 e62 => ?_))
              refine lv_bipush (v := 10) hx hb dX12_againstOf_95 (by decide) ?_
              refine lv_irem hx hb dX12_againstOf_97 (by decide) (lv_topi (fun v63 e63 => ?_))
              have t63 : -10 < v63.toInt ∧ v63.toInt < 10 := by rw [e63]; exact i_remb (by decide) (by decide)
              refine lv_iload hx hb dX12_againstOf_98 (lv_at hl 0 rfl) ?_
              refine lv_if_le (tgt := 108) hx hb dX12_againstOf_100 (by decide) (fun c64 => ?_) (fun c64 => ?_)
              · have f64 : v50.toInt ≤ 0 := f_le rfl (by decide) c64
                refine lv_iconst (v := 0) hx hb dX12_againstOf_108 (by decide) ?_
                refine lv_icmp_eq (tgt := 114) hx hb dX12_againstOf_109 (by decide) (fun c65 => ?_) (fun c65 => ?_)
                · have f65 : v63.toInt = 0 := f_eq rfl (by decide) c65
                  obtain ⟨v66, e66⟩ : ∃ z : Int32, z = v29 + 1 := ⟨_, rfl⟩
                  refine lv_iinc (v := v66) (lv' := [(3, .int v66), (6, .int v50), (5, .int v50), (4, .int v44), (0, .ref (qm 0)), (1, .int p0), (2, .int p1)]) hx hb dX12_againstOf_114 hl (k := 3) rfl (by rw [e66]; rfl) (by decide) rfl (fun ls hl => ?_)
                  have t66 : v66.toInt = v29.toInt + 1 := by rw [e66]; exact i_add rfl (by decide) (by omega) (by omega)
                  refine lv_goto (tgt := 2) hx hb dX12_againstOf_117 (by decide) ?_
                  exact ih2 v66 _ _ _ (by omega) (by first | decide | omega) (LT_g hzrr2_1 (exl_X12_againstOf_3 w43 e44 e46 w49 e50 e51 e53 e55 e57 e59 e61 e62 e63 e66 c31 w37 c39 c54 c58 c64 c65)) hP hD hS (lv_sub hl [0, 4, 5, 6] rfl)
                · have f65 : ¬ v63.toInt = 0 := f_ne rfl (by decide) c65
                  refine lv_iload_n hx hb dX12_againstOf_112 rfl (lv_at hl 3 rfl) ?_
                  rw [hQ]
                  exact x_i cx hr () hP hD hS (show v29 = J_X12_againstOf sm tm p0 p1 from ((hrr2_1.trans (LT_r hzrr2_1 (exl_X12_againstOf_4 w43 e44 e46 w49 e50 e51 e53 e55 e57 e59 e61 e62 e63 c31 w37 c39 c54 c58 c64 c65)))).symm) dX12_againstOf_113
              · have f64 : 0 < v50.toInt := f_nle rfl (by decide) c64
                refine lv_iload hx hb dX12_againstOf_103 (lv_at hl 0 rfl) ?_
                refine lv_goto (tgt := 109) hx hb dX12_againstOf_105 (by decide) ?_
                refine lv_icmp_eq (tgt := 114) hx hb dX12_againstOf_109 (by decide) (fun c67 => ?_) (fun c67 => ?_)
                · have f67 : v63.toInt = v50.toInt := f_eq rfl rfl c67
                  obtain ⟨v68, e68⟩ : ∃ z : Int32, z = v29 + 1 := ⟨_, rfl⟩
                  refine lv_iinc (v := v68) (lv' := [(3, .int v68), (6, .int v50), (5, .int v50), (4, .int v44), (0, .ref (qm 0)), (1, .int p0), (2, .int p1)]) hx hb dX12_againstOf_114 hl (k := 3) rfl (by rw [e68]; rfl) (by decide) rfl (fun ls hl => ?_)
                  have t68 : v68.toInt = v29.toInt + 1 := by rw [e68]; exact i_add rfl (by decide) (by omega) (by omega)
                  refine lv_goto (tgt := 2) hx hb dX12_againstOf_117 (by decide) ?_
                  exact ih2 v68 _ _ _ (by omega) (by first | decide | omega) (LT_g hzrr2_1 (exl_X12_againstOf_5 w43 e44 e46 w49 e50 e51 e53 e55 e57 e59 e61 e62 e63 e68 c31 w37 c39 c54 c58 c64 c67)) hP hD hS (lv_sub hl [0, 4, 5, 6] rfl)
                · have f67 : ¬ v63.toInt = v50.toInt := f_ne rfl rfl c67
                  refine lv_iload_n hx hb dX12_againstOf_112 rfl (lv_at hl 3 rfl) ?_
                  rw [hQ]
                  exact x_i cx hr () hP hD hS (show v29 = J_X12_againstOf sm tm p0 p1 from ((hrr2_1.trans (LT_r hzrr2_1 (exl_X12_againstOf_6 w43 e44 e46 w49 e50 e51 e53 e55 e57 e59 e61 e62 e63 c31 w37 c39 c54 c58 c64 c67)))).symm) dX12_againstOf_113
            · have f58 : v57.toInt < v50.toInt := f_nle rfl rfl c58
              refine lv_iload hx hb dX12_againstOf_75 (lv_at hl 0 rfl) ?_
              refine lv_goto (tgt := 82) hx hb dX12_againstOf_77 (by decide) ?_
              refine lv_istore (lv' := [(6, .int v57), (5, .int v50), (4, .int v44), (3, .int v29), (0, .ref (qm 0)), (1, .int p0), (2, .int p1)]) hx hb dX12_againstOf_82 hl (by decide) rfl (fun ls hl => ?_)
              refine lv_aload_n hx hb dX12_againstOf_84 rfl (lv_at hl 4 rfl) ?_
              refine g_get cx hP iw_X12_againstOf_X12 0 rfl rfl 20 (by decide) rfl fw_X12_againstOf_44 rfl dX12_againstOf_85 ?_
              refine lv_iconst (v := 3) hx hb dX12_againstOf_88 (by decide) ?_
              refine lv_iload_n hx hb dX12_againstOf_89 rfl (lv_at hl 3 rfl) ?_
              refine lv_imul hx hb dX12_againstOf_90 (lv_topi (fun v69 e69 => ?_))
              have t69 : v69.toInt = 3 * v29.toInt := by rw [e69]; exact i_mul (by decide) rfl (by omega) (by omega)
              have hn70 : vp_in v69 1500 := f_in (a := v69.toInt) rfl (by omega) (by omega)
              refine va_iald hx hb cx.2.1 hP 12 0 rfl rfl hn70 dX12_againstOf_91 (lv_topi (fun v71 e71 => ?_))
              refine lv_bipush (v := 100) hx hb dX12_againstOf_92 (by decide) ?_
              refine lv_idiv hx hb dX12_againstOf_94 (by decide) (lv_topi (fun v72 e72 => ?_))
              refine lv_bipush (v := 10) hx hb dX12_againstOf_95 (by decide) ?_
              refine lv_irem hx hb dX12_againstOf_97 (by decide) (lv_topi (fun v73 e73 => ?_))
              have t73 : -10 < v73.toInt ∧ v73.toInt < 10 := by rw [e73]; exact i_remb (by decide) (by decide)
              refine lv_iload hx hb dX12_againstOf_98 (lv_at hl 0 rfl) ?_
              refine lv_if_le (tgt := 108) hx hb dX12_againstOf_100 (by decide) (fun c74 => ?_) (fun c74 => ?_)
              · have f74 : v57.toInt ≤ 0 := f_le rfl (by decide) c74
                refine lv_iconst (v := 0) hx hb dX12_againstOf_108 (by decide) ?_
                refine lv_icmp_eq (tgt := 114) hx hb dX12_againstOf_109 (by decide) (fun c75 => ?_) (fun c75 => ?_)
                · have f75 : v73.toInt = 0 := f_eq rfl (by decide) c75
                  obtain ⟨v76, e76⟩ : ∃ z : Int32, z = v29 + 1 := ⟨_, rfl⟩
                  refine lv_iinc (v := v76) (lv' := [(3, .int v76), (6, .int v57), (5, .int v50), (4, .int v44), (0, .ref (qm 0)), (1, .int p0), (2, .int p1)]) hx hb dX12_againstOf_114 hl (k := 3) rfl (by rw [e76]; rfl) (by decide) rfl (fun ls hl => ?_)
                  have t76 : v76.toInt = v29.toInt + 1 := by rw [e76]; exact i_add rfl (by decide) (by omega) (by omega)
                  refine lv_goto (tgt := 2) hx hb dX12_againstOf_117 (by decide) ?_
                  exact ih2 v76 _ _ _ (by omega) (by first | decide | omega) (LT_g hzrr2_1 (exl_X12_againstOf_7 w43 e44 e46 w49 e50 e51 e53 e55 e57 e69 e71 e72 e73 e76 c31 w37 c39 c54 c58 c74 c75)) hP hD hS (lv_sub hl [0, 4, 5, 6] rfl)
                · have f75 : ¬ v73.toInt = 0 := f_ne rfl (by decide) c75
                  refine lv_iload_n hx hb dX12_againstOf_112 rfl (lv_at hl 3 rfl) ?_
                  rw [hQ]
                  exact x_i cx hr () hP hD hS (show v29 = J_X12_againstOf sm tm p0 p1 from ((hrr2_1.trans (LT_r hzrr2_1 (exl_X12_againstOf_8 w43 e44 e46 w49 e50 e51 e53 e55 e57 e69 e71 e72 e73 c31 w37 c39 c54 c58 c74 c75)))).symm) dX12_againstOf_113
              · have f74 : 0 < v57.toInt := f_nle rfl (by decide) c74
                refine lv_iload hx hb dX12_againstOf_103 (lv_at hl 0 rfl) ?_
                refine lv_goto (tgt := 109) hx hb dX12_againstOf_105 (by decide) ?_
                refine lv_icmp_eq (tgt := 114) hx hb dX12_againstOf_109 (by decide) (fun c77 => ?_) (fun c77 => ?_)
                · have f77 : v73.toInt = v57.toInt := f_eq rfl rfl c77
                  obtain ⟨v78, e78⟩ : ∃ z : Int32, z = v29 + 1 := ⟨_, rfl⟩
                  refine lv_iinc (v := v78) (lv' := [(3, .int v78), (6, .int v57), (5, .int v50), (4, .int v44), (0, .ref (qm 0)), (1, .int p0), (2, .int p1)]) hx hb dX12_againstOf_114 hl (k := 3) rfl (by rw [e78]; rfl) (by decide) rfl (fun ls hl => ?_)
                  have t78 : v78.toInt = v29.toInt + 1 := by rw [e78]; exact i_add rfl (by decide) (by omega) (by omega)
                  refine lv_goto (tgt := 2) hx hb dX12_againstOf_117 (by decide) ?_
                  exact ih2 v78 _ _ _ (by omega) (by first | decide | omega) (LT_g hzrr2_1 (exl_X12_againstOf_9 w43 e44 e46 w49 e50 e51 e53 e55 e57 e69 e71 e72 e73 e78 c31 w37 c39 c54 c58 c74 c77)) hP hD hS (lv_sub hl [0, 4, 5, 6] rfl)
                · have f77 : ¬ v73.toInt = v57.toInt := f_ne rfl rfl c77
                  refine lv_iload_n hx hb dX12_againstOf_112 rfl (lv_at hl 3 rfl) ?_
                  rw [hQ]
                  exact x_i cx hr () hP hD hS (show v29 = J_X12_againstOf sm tm p0 p1 from ((hrr2_1.trans (LT_r hzrr2_1 (exl_X12_againstOf_10 w43 e44 e46 w49 e50 e51 e53 e55 e57 e69 e71 e72 e73 c31 w37 c39 c54 c58 c74 c77)))).symm) dX12_againstOf_113
          · have f54 : v44.toInt < v53.toInt := f_nle rfl rfl c54
            refine lv_iload hx hb dX12_againstOf_52 (lv_at hl 1 rfl) ?_
            refine lv_goto (tgt := 66) hx hb dX12_againstOf_54 (by decide) ?_
            refine lv_istore (lv' := [(6, .int v44), (5, .int v50), (4, .int v44), (3, .int v29), (0, .ref (qm 0)), (1, .int p0), (2, .int p1)]) hx hb dX12_againstOf_66 hl (by decide) rfl (fun ls hl => ?_)
            refine lv_iload hx hb dX12_againstOf_68 (lv_at hl 0 rfl) ?_
            refine lv_iload hx hb dX12_againstOf_70 (lv_at hl 1 rfl) ?_
            refine lv_icmp_ge (tgt := 80) hx hb dX12_againstOf_72 (by decide) (fun c79 => ?_) (fun c79 => ?_)
            · have f79 : v50.toInt ≤ v44.toInt := f_le rfl rfl c79
              refine lv_iload hx hb dX12_againstOf_80 (lv_at hl 1 rfl) ?_
              refine lv_istore (lv' := [(6, .int v50), (5, .int v50), (4, .int v44), (3, .int v29), (0, .ref (qm 0)), (1, .int p0), (2, .int p1)]) hx hb dX12_againstOf_82 hl (by decide) rfl (fun ls hl => ?_)
              refine lv_aload_n hx hb dX12_againstOf_84 rfl (lv_at hl 4 rfl) ?_
              refine g_get cx hP iw_X12_againstOf_X12 0 rfl rfl 20 (by decide) rfl fw_X12_againstOf_44 rfl dX12_againstOf_85 ?_
              refine lv_iconst (v := 3) hx hb dX12_againstOf_88 (by decide) ?_
              refine lv_iload_n hx hb dX12_againstOf_89 rfl (lv_at hl 3 rfl) ?_
              refine lv_imul hx hb dX12_againstOf_90 (lv_topi (fun v80 e80 => ?_))
              have t80 : v80.toInt = 3 * v29.toInt := by rw [e80]; exact i_mul (by decide) rfl (by omega) (by omega)
              have hn81 : vp_in v80 1500 := f_in (a := v80.toInt) rfl (by omega) (by omega)
              refine va_iald hx hb cx.2.1 hP 12 0 rfl rfl hn81 dX12_againstOf_91 (lv_topi (fun v82 e82 => ?_))
              refine lv_bipush (v := 100) hx hb dX12_againstOf_92 (by decide) ?_
              refine lv_idiv hx hb dX12_againstOf_94 (by decide) (lv_topi (fun v83 e83 => ?_))
              refine lv_bipush (v := 10) hx hb dX12_againstOf_95 (by decide) ?_
              refine lv_irem hx hb dX12_againstOf_97 (by decide) (lv_topi (fun v84 e84 => ?_))
              have t84 : -10 < v84.toInt ∧ v84.toInt < 10 := by rw [e84]; exact i_remb (by decide) (by decide)
              refine lv_iload hx hb dX12_againstOf_98 (lv_at hl 0 rfl) ?_
              refine lv_if_le (tgt := 108) hx hb dX12_againstOf_100 (by decide) (fun c85 => ?_) (fun c85 => ?_)
              · have f85 : v50.toInt ≤ 0 := f_le rfl (by decide) c85
                refine lv_iconst (v := 0) hx hb dX12_againstOf_108 (by decide) ?_
                refine lv_icmp_eq (tgt := 114) hx hb dX12_againstOf_109 (by decide) (fun c86 => ?_) (fun c86 => ?_)
                · have f86 : v84.toInt = 0 := f_eq rfl (by decide) c86
                  obtain ⟨v87, e87⟩ : ∃ z : Int32, z = v29 + 1 := ⟨_, rfl⟩
                  refine lv_iinc (v := v87) (lv' := [(3, .int v87), (6, .int v50), (5, .int v50), (4, .int v44), (0, .ref (qm 0)), (1, .int p0), (2, .int p1)]) hx hb dX12_againstOf_114 hl (k := 3) rfl (by rw [e87]; rfl) (by decide) rfl (fun ls hl => ?_)
                  have t87 : v87.toInt = v29.toInt + 1 := by rw [e87]; exact i_add rfl (by decide) (by omega) (by omega)
                  refine lv_goto (tgt := 2) hx hb dX12_againstOf_117 (by decide) ?_
                  exact ih2 v87 _ _ _ (by omega) (by first | decide | omega) (LT_g hzrr2_1 (exl_X12_againstOf_11 w43 e44 e46 w49 e50 e51 e53 e80 e82 e83 e84 e87 c31 w37 c39 c54 c79 c85 c86)) hP hD hS (lv_sub hl [0, 4, 5, 6] rfl)
                · have f86 : ¬ v84.toInt = 0 := f_ne rfl (by decide) c86
                  refine lv_iload_n hx hb dX12_againstOf_112 rfl (lv_at hl 3 rfl) ?_
                  rw [hQ]
                  exact x_i cx hr () hP hD hS (show v29 = J_X12_againstOf sm tm p0 p1 from ((hrr2_1.trans (LT_r hzrr2_1 (exl_X12_againstOf_12 w43 e44 e46 w49 e50 e51 e53 e80 e82 e83 e84 c31 w37 c39 c54 c79 c85 c86)))).symm) dX12_againstOf_113
              · have f85 : 0 < v50.toInt := f_nle rfl (by decide) c85
                refine lv_iload hx hb dX12_againstOf_103 (lv_at hl 0 rfl) ?_
                refine lv_goto (tgt := 109) hx hb dX12_againstOf_105 (by decide) ?_
                refine lv_icmp_eq (tgt := 114) hx hb dX12_againstOf_109 (by decide) (fun c88 => ?_) (fun c88 => ?_)
                · have f88 : v84.toInt = v50.toInt := f_eq rfl rfl c88
                  obtain ⟨v89, e89⟩ : ∃ z : Int32, z = v29 + 1 := ⟨_, rfl⟩
                  refine lv_iinc (v := v89) (lv' := [(3, .int v89), (6, .int v50), (5, .int v50), (4, .int v44), (0, .ref (qm 0)), (1, .int p0), (2, .int p1)]) hx hb dX12_againstOf_114 hl (k := 3) rfl (by rw [e89]; rfl) (by decide) rfl (fun ls hl => ?_)
                  have t89 : v89.toInt = v29.toInt + 1 := by rw [e89]; exact i_add rfl (by decide) (by omega) (by omega)
                  refine lv_goto (tgt := 2) hx hb dX12_againstOf_117 (by decide) ?_
                  exact ih2 v89 _ _ _ (by omega) (by first | decide | omega) (LT_g hzrr2_1 (exl_X12_againstOf_13 w43 e44 e46 w49 e50 e51 e53 e80 e82 e83 e84 e89 c31 w37 c39 c54 c79 c85 c88)) hP hD hS (lv_sub hl [0, 4, 5, 6] rfl)
                · have f88 : ¬ v84.toInt = v50.toInt := f_ne rfl rfl c88
                  refine lv_iload_n hx hb dX12_againstOf_112 rfl (lv_at hl 3 rfl) ?_
                  rw [hQ]
                  exact x_i cx hr () hP hD hS (show v29 = J_X12_againstOf sm tm p0 p1 from ((hrr2_1.trans (LT_r hzrr2_1 (exl_X12_againstOf_14 w43 e44 e46 w49 e50 e51 e53 e80 e82 e83 e84 c31 w37 c39 c54 c79 c85 c88)))).symm) dX12_againstOf_113
            · have f79 : v44.toInt < v50.toInt := f_nle rfl rfl c79
              refine lv_iload hx hb dX12_againstOf_75 (lv_at hl 0 rfl) ?_
              refine lv_goto (tgt := 82) hx hb dX12_againstOf_77 (by decide) ?_
              refine lv_istore (lv' := [(6, .int v44), (5, .int v50), (4, .int v44), (3, .int v29), (0, .ref (qm 0)), (1, .int p0), (2, .int p1)]) hx hb dX12_againstOf_82 hl (by decide) rfl (fun ls hl => ?_)
              refine lv_aload_n hx hb dX12_againstOf_84 rfl (lv_at hl 4 rfl) ?_
              refine g_get cx hP iw_X12_againstOf_X12 0 rfl rfl 20 (by decide) rfl fw_X12_againstOf_44 rfl dX12_againstOf_85 ?_
              refine lv_iconst (v := 3) hx hb dX12_againstOf_88 (by decide) ?_
              refine lv_iload_n hx hb dX12_againstOf_89 rfl (lv_at hl 3 rfl) ?_
              refine lv_imul hx hb dX12_againstOf_90 (lv_topi (fun v90 e90 => ?_))
              have t90 : v90.toInt = 3 * v29.toInt := by rw [e90]; exact i_mul (by decide) rfl (by omega) (by omega)
              have hn91 : vp_in v90 1500 := f_in (a := v90.toInt) rfl (by omega) (by omega)
              refine va_iald hx hb cx.2.1 hP 12 0 rfl rfl hn91 dX12_againstOf_91 (lv_topi (fun v92 e92 => ?_))
              refine lv_bipush (v := 100) hx hb dX12_againstOf_92 (by decide) ?_
              refine lv_idiv hx hb dX12_againstOf_94 (by decide) (lv_topi (fun v93 e93 => ?_))
              refine lv_bipush (v := 10) hx hb dX12_againstOf_95 (by decide) ?_
              refine lv_irem hx hb dX12_againstOf_97 (by decide) (lv_topi (fun v94 e94 => ?_))
              have t94 : -10 < v94.toInt ∧ v94.toInt < 10 := by rw [e94]; exact i_remb (by decide) (by decide)
              refine lv_iload hx hb dX12_againstOf_98 (lv_at hl 0 rfl) ?_
              refine lv_if_le (tgt := 108) hx hb dX12_againstOf_100 (by decide) (fun c95 => ?_) (fun c95 => ?_)
              · have f95 : v44.toInt ≤ 0 := f_le rfl (by decide) c95
                refine lv_iconst (v := 0) hx hb dX12_againstOf_108 (by decide) ?_
                refine lv_icmp_eq (tgt := 114) hx hb dX12_againstOf_109 (by decide) (fun c96 => ?_) (fun c96 => ?_)
                · have f96 : v94.toInt = 0 := f_eq rfl (by decide) c96
                  obtain ⟨v97, e97⟩ : ∃ z : Int32, z = v29 + 1 := ⟨_, rfl⟩
                  refine lv_iinc (v := v97) (lv' := [(3, .int v97), (6, .int v44), (5, .int v50), (4, .int v44), (0, .ref (qm 0)), (1, .int p0), (2, .int p1)]) hx hb dX12_againstOf_114 hl (k := 3) rfl (by rw [e97]; rfl) (by decide) rfl (fun ls hl => ?_)
                  have t97 : v97.toInt = v29.toInt + 1 := by rw [e97]; exact i_add rfl (by decide) (by omega) (by omega)
                  refine lv_goto (tgt := 2) hx hb dX12_againstOf_117 (by decide) ?_
                  exact ih2 v97 _ _ _ (by omega) (by first | decide | omega) (LT_g hzrr2_1 (exl_X12_againstOf_15 w43 e44 e46 w49 e50 e51 e53 e90 e92 e93 e94 e97 c31 w37 c39 c54 c79 c95 c96)) hP hD hS (lv_sub hl [0, 4, 5, 6] rfl)
                · have f96 : ¬ v94.toInt = 0 := f_ne rfl (by decide) c96
                  refine lv_iload_n hx hb dX12_againstOf_112 rfl (lv_at hl 3 rfl) ?_
                  rw [hQ]
                  exact x_i cx hr () hP hD hS (show v29 = J_X12_againstOf sm tm p0 p1 from ((hrr2_1.trans (LT_r hzrr2_1 (exl_X12_againstOf_16 w43 e44 e46 w49 e50 e51 e53 e90 e92 e93 e94 c31 w37 c39 c54 c79 c95 c96)))).symm) dX12_againstOf_113
              · have f95 : 0 < v44.toInt := f_nle rfl (by decide) c95
                refine lv_iload hx hb dX12_againstOf_103 (lv_at hl 0 rfl) ?_
                refine lv_goto (tgt := 109) hx hb dX12_againstOf_105 (by decide) ?_
                refine lv_icmp_eq (tgt := 114) hx hb dX12_againstOf_109 (by decide) (fun c98 => ?_) (fun c98 => ?_)
                · have f98 : v94.toInt = v44.toInt := f_eq rfl rfl c98
                  obtain ⟨v99, e99⟩ : ∃ z : Int32, z = v29 + 1 := ⟨_, rfl⟩
                  refine lv_iinc (v := v99) (lv' := [(3, .int v99), (6, .int v44), (5, .int v50), (4, .int v44), (0, .ref (qm 0)), (1, .int p0), (2, .int p1)]) hx hb dX12_againstOf_114 hl (k := 3) rfl (by rw [e99]; rfl) (by decide) rfl (fun ls hl => ?_)
                  have t99 : v99.toInt = v29.toInt + 1 := by rw [e99]; exact i_add rfl (by decide) (by omega) (by omega)
                  refine lv_goto (tgt := 2) hx hb dX12_againstOf_117 (by decide) ?_
                  exact ih2 v99 _ _ _ (by omega) (by first | decide | omega) (LT_g hzrr2_1 (exl_X12_againstOf_17 w43 e44 e46 w49 e50 e51 e53 e90 e92 e93 e94 e99 c31 w37 c39 c54 c79 c95 c98)) hP hD hS (lv_sub hl [0, 4, 5, 6] rfl)
                · have f98 : ¬ v94.toInt = v44.toInt := f_ne rfl rfl c98
                  refine lv_iload_n hx hb dX12_againstOf_112 rfl (lv_at hl 3 rfl) ?_
                  rw [hQ]
                  exact x_i cx hr () hP hD hS (show v29 = J_X12_againstOf sm tm p0 p1 from ((hrr2_1.trans (LT_r hzrr2_1 (exl_X12_againstOf_18 w43 e44 e46 w49 e50 e51 e53 e90 e92 e93 e94 c31 w37 c39 c54 c79 c95 c98)))).symm) dX12_againstOf_113
  have hlit100 : (0 : Int32).toInt = 0 := by decide
  exact hL2 (501) 0 _ _ _ (by omega) (by first | decide | omega) err2_1 hP hD hS (lv_sub hl [0, 1, 2, 3] rfl)
theorem nd_X12_againstOf : yX12_againstOf.cls = RX12 ∧ yX12_againstOf.cls ≠ "java/lang/invoke/MethodHandle" ∧ yX12_againstOf.cls ≠ "java/lang/invoke/VarHandle" ∧ (parseMethodDescriptor yX12_againstOf.desc).map (fun d => d.parameters.length) = some 2 := by decide +kernel
def B_X12_shape_17 (sm : Nat → Nat → Int32) (tm : Nat → Nat → Int64) (p0 : Int32) (y6 : Int32) (y14 : (Nat → Int64) × (Nat → Int64) × (Nat → Int32)) (z : Int32) : Sum (Int32) (Int32 × (Nat → Int64) × (Nat → Int64) × (Nat → Int32)) := let v20 := z; if 5 ≤ v20 then Sum.inr ((((-9) : Int32), (y14.1), (y14.2.1), (y14.2.2))) else LetF (J_X12_againstOf (up2 sm 12 (y14.2.2)) (up2L (up2L tm 10 (y14.1)) 11 (y14.2.1)) p0 v20) (fun y27 => if y27 = (-9) then Sum.inr ((v20, (y14.1), (y14.2.1), (y14.2.2))) else Sum.inl ((v20 + 1)))
def J_X12_shape (sm : Nat → Nat → Int32) (tm : Nat → Nat → Int64) (p0 : Int32) : Int32 × (Nat → Int64) × (Nat → Int64) × (Nat → Int32) := LetF (J_X12_isWeek sm tm p0) (fun y6 => if y6 = 0 then (((-1) : Int32), (tm 10), (tm 11), (sm 12)) else LetF (J_X12_layBest sm tm p0) (fun y14 => LTs default (B_X12_shape_17 sm tm p0 y6 y14) 6 (0 : Int32)))
theorem exl_X12_shape_0 {sm : Nat → Nat → Int32} {tm : Nat → Nat → Int64} {p0 : Int32} {r2 : Int32} {m10 : Nat → Int64} {m11 : Nat → Int64} {m12 : Nat → Int32} (w5 : r2 = J_X12_isWeek sm tm p0) (c7 : ¬ (r2 = (0 : Int32))) (w13 : (m10, m11, m12) = J_X12_layBest sm tm p0) : J_X12_shape sm tm p0 = LTs (default : Int32 × (Nat → Int64) × (Nat → Int64) × (Nat → Int32)) (B_X12_shape_17 sm tm p0 r2 (m10, m11, m12)) 6 (0 : Int32) := by unfold J_X12_shape; refine lt_e w5 ?_; refine Eq.trans (if_neg c7) ?_; refine lt_e w13 ?_; rfl
theorem exl_X12_shape_1 {sm : Nat → Nat → Int32} {tm : Nat → Nat → Int64} {p0 : Int32} {r2 : Int32} {m10 : Nat → Int64} {m11 : Nat → Int64} {m12 : Nat → Int32} {v20 : Int32} (c22 : (5 : Int32) ≤ v20) : (B_X12_shape_17 sm tm p0 r2 (m10, m11, m12)) v20 = Sum.inr ((((-9) : Int32), m10, m11, m12)) := by unfold B_X12_shape_17; refine Eq.trans (if_pos c22) ?_; rfl
theorem exl_X12_shape_2 {sm : Nat → Nat → Int32} {tm : Nat → Nat → Int64} {p0 : Int32} {r2 : Int32} {m10 : Nat → Int64} {m11 : Nat → Int64} {m12 : Nat → Int32} {v20 : Int32} {v29 : Int32} {r25 : Int32} (e29 : v29 = v20 + 1) (c22 : ¬ ((5 : Int32) ≤ v20)) (w26 : r25 = J_X12_againstOf (up2 sm 12 m12) (up2L (up2L tm 10 m10) 11 m11) p0 v20) (c28 : ¬ (r25 = ((-9) : Int32))) : (B_X12_shape_17 sm tm p0 r2 (m10, m11, m12)) v20 = Sum.inl v29 := by subst e29; unfold B_X12_shape_17; refine Eq.trans (if_neg c22) ?_; refine lt_e w26 ?_; refine Eq.trans (if_neg c28) ?_; rfl
theorem exl_X12_shape_3 {sm : Nat → Nat → Int32} {tm : Nat → Nat → Int64} {p0 : Int32} {r2 : Int32} {m10 : Nat → Int64} {m11 : Nat → Int64} {m12 : Nat → Int32} {v20 : Int32} {r25 : Int32} (c22 : ¬ ((5 : Int32) ≤ v20)) (w26 : r25 = J_X12_againstOf (up2 sm 12 m12) (up2L (up2L tm 10 m10) 11 m11) p0 v20) (c28 : r25 = ((-9) : Int32)) : (B_X12_shape_17 sm tm p0 r2 (m10, m11, m12)) v20 = Sum.inr ((v20, m10, m11, m12)) := by unfold B_X12_shape_17; refine Eq.trans (if_neg c22) ?_; refine lt_e w26 ?_; refine Eq.trans (if_pos c28) ?_; rfl
theorem exl_X12_shape_4 {sm : Nat → Nat → Int32} {tm : Nat → Nat → Int64} {p0 : Int32} {r2 : Int32} (w5 : r2 = J_X12_isWeek sm tm p0) (c7 : r2 = (0 : Int32)) : (((-1) : Int32), (tm 10), (tm 11), (sm 12)) = J_X12_shape sm tm p0 := by refine Eq.symm ?_; unfold J_X12_shape; refine lt_e w5 ?_; refine Eq.trans (if_pos c7) ?_; rfl
set_option maxHeartbeats 4000000 in
set_option maxRecDepth 100000 in
theorem c_X12_shape (l : Launch) (D : va_G) (k : Nat → ClassId) (b : Nat → Nat) (qm : Nat → Nat) (sm : Nat → Nat → Int32) (tm : Nat → Nat → Int64) (sz : Nat) (p0 : Int32) (h_w0 : 0 ≤ (sm 2 0).toInt ∧ (sm 2 0).toInt ≤ 5) (h_k1 : 0 ≤ (sm 2 1).toInt ∧ (sm 2 1).toInt ≤ 4) : MetI l D k b yX12_shape wsX12_shape ({ frames := 6, cells := 0, slots := 0, locals := 157 } : Room) [cell22_ qm sm tm, cell5_ k qm sm, cell13_ k qm sm, cell8_ k qm sm, cell6_ k qm sm, cell15_ k qm sm, cell14_ k qm tm, cell12_ k qm tm, cell18_ k qm tm, cell17_ k qm tm, cell19_ k qm tm, cell21_ k qm tm, cell20_ k qm sm, cell16_ k qm sm, cell11_ k qm sm, cell10_ k qm sm, cell9_ k qm sm, cell7_ k qm sm] sz [.ref (qm 0), .int p0] (fun (r : Int32) (u : (Nat → Int64) × (Nat → Int64) × (Nat → Int32)) => (r, (u.1), (u.2.1), (u.2.2)) = J_X12_shape sm tm p0) (fun u => [cell22_ qm sm tm, cell5_ k qm sm, cell13_ k qm sm, cell8_ k qm sm, cell6_ k qm sm, cell15_ k qm sm, cell14_ k qm tm, cell12_ k qm tm, cell18_ k qm tm, cell17_ k qm tm, cell130_ k qm (u.1), cell122_ k qm (u.2.1), cell123_ k qm (u.2.2), cell16_ k qm sm, cell11_ k qm sm, cell10_ k qm sm, cell9_ k qm sm, cell7_ k qm sm]) := by
  refine g_enter (cc := cX12_shape) (maxL := 3) (ret := (some .int)) (by decide) rfl (Nat.le_of_ble_eq_true rfl) ?_
  intro p e s m below meth c A hsz hAe cx hr hP hD hS ls hl
  rw [hAe]
  refine g_q (fun Q hQ => ?_)
  have hx := cx.1.1
  have hb := cx.1.2.1
  have bp0 := i_rng p0
  have hl : lv_has ls 3 [(0, .ref (qm 0)), (1, .int p0)] := hl
  obtain ⟨H, eH⟩ : ∃ H : Heap, H = s.heap := ⟨_, rfl⟩
  obtain ⟨locs, el⟩ : ∃ L : List Loc, L = [] := ⟨_, rfl⟩
  have hP : va_P D vwCl [cell22_ qm sm tm, cell5_ k qm sm, cell13_ k qm sm, cell8_ k qm sm, cell6_ k qm sm, cell15_ k qm sm, cell14_ k qm tm, cell12_ k qm tm, cell18_ k qm tm, cell17_ k qm tm, cell19_ k qm tm, cell21_ k qm tm, cell20_ k qm sm, cell16_ k qm sm, cell11_ k qm sm, cell10_ k qm sm, cell9_ k qm sm, cell7_ k qm sm] H := by rw [eH]; exact hP
  have hD : va_D A [cell22_ qm sm tm, cell5_ k qm sm, cell13_ k qm sm, cell8_ k qm sm, cell6_ k qm sm, cell15_ k qm sm, cell14_ k qm tm, cell12_ k qm tm, cell18_ k qm tm, cell17_ k qm tm, cell19_ k qm tm, cell21_ k qm tm, cell20_ k qm sm, cell16_ k qm sm, cell11_ k qm sm, cell10_ k qm sm, cell9_ k qm sm, cell7_ k qm sm] := hD
  have hS : va_S A s.heap H locs := by rw [eH, el]; exact hS
  suffices goal : W p l e ({ frames := 6, cells := 0, slots := 0, locals := 157 } : Room) s m ([.ref (qm 0), .int p0] : List Value).toArray below meth c H locs 0 0 Q (F0 m 0 ls []) by rw [eH, el] at goal; exact goal
  refine lv_aload_n hx hb dX12_shape_0 rfl (lv_at hl 0 rfl) ?_
  refine lv_iload_n hx hb dX12_shape_1 rfl (lv_at hl 1 rfl) ?_
  refine g_iF (w1 := fun (_ : Unit) => [cell22_ qm sm tm, cell5_ k qm sm, cell13_ k qm sm, cell8_ k qm sm, cell6_ k qm sm, cell15_ k qm sm, cell14_ k qm tm, cell12_ k qm tm, cell18_ k qm tm, cell17_ k qm tm, cell19_ k qm tm, cell21_ k qm tm, cell20_ k qm sm, cell16_ k qm sm, cell11_ k qm sm, cell10_ k qm sm, cell9_ k qm sm, cell7_ k qm sm]) (g_runVF (ws := [cell22_ qm sm tm, cell5_ k qm sm, cell13_ k qm sm, cell8_ k qm sm, cell6_ k qm sm, cell15_ k qm sm, cell14_ k qm tm, cell12_ k qm tm, cell18_ k qm tm, cell17_ k qm tm, cell19_ k qm tm, cell21_ k qm tm, cell20_ k qm sm, cell16_ k qm sm, cell11_ k qm sm, cell10_ k qm sm, cell9_ k qm sm, cell7_ k qm sm]) (rest := []) cx hP hD hS [.int p0] (c_X12_isWeek l D k b qm sm tm H.size p0 (show 0 ≤ ((sm 2) 0).toInt ∧ ((sm 2) 0).toInt ≤ 5 from by first | decide | omega)) gX12_shape_X12_isWeek rfl rfl rfl nd_X12_isWeek ⟨Nat.le_of_ble_eq_true rfl, Nat.le_of_ble_eq_true rfl⟩ (ci := 10) (q0 := 0) rfl rfl rfl hl.1 rfl (Nat.le_of_ble_eq_true rfl) ⟨Nat.zero_le _, Nat.zero_le _⟩ dX12_shape_2) cx.2.2.1 hD hS (fun r2 _ H locs hw1 hP hD hS => ?_)
  replace hw1 : (0 ≤ r2.toInt ∧ r2.toInt ≤ 1) ∧ (Imp (r2.toInt = 1) (0 ≤ p0.toInt ∧ p0.toInt ≤ 4)) ∧ (r2 = J_X12_isWeek sm tm p0) := hw1
  obtain ⟨w3, w4, w5⟩ := hw1
  have zr2 : 0 ≤ r2.toInt ∧ r2.toInt ≤ 1 := w3
  refine lv_if_ne (tgt := 10) hx hb dX12_shape_5 (by decide) (fun c7 => ?_) (fun c7 => ?_)
  · have f7 : ¬ r2.toInt = 0 := f_ne rfl (by decide) c7
    have k7 : (0 ≤ p0.toInt ∧ p0.toInt ≤ 4) := w4 (by omega)
    refine lv_aload_n hx hb dX12_shape_10 rfl (lv_at hl 0 rfl) ?_
    refine lv_iload_n hx hb dX12_shape_11 rfl (lv_at hl 1 rfl) ?_
    refine g_vF (w1 := fun (u : (Nat → Int64) × (Nat → Int64) × (Nat → Int32)) => [cell22_ qm sm tm, cell5_ k qm sm, cell13_ k qm sm, cell8_ k qm sm, cell6_ k qm sm, cell15_ k qm sm, cell14_ k qm tm, cell12_ k qm tm, cell18_ k qm tm, cell17_ k qm tm, cell130_ k qm (u.1), cell122_ k qm (u.2.1), cell123_ k qm (u.2.2), cell16_ k qm sm, cell11_ k qm sm, cell10_ k qm sm, cell9_ k qm sm, cell7_ k qm sm]) (g_runVF (ws := [cell22_ qm sm tm, cell5_ k qm sm, cell13_ k qm sm, cell8_ k qm sm, cell6_ k qm sm, cell15_ k qm sm, cell14_ k qm tm, cell12_ k qm tm, cell18_ k qm tm, cell17_ k qm tm, cell19_ k qm tm, cell21_ k qm tm, cell20_ k qm sm, cell16_ k qm sm, cell11_ k qm sm, cell10_ k qm sm, cell9_ k qm sm, cell7_ k qm sm]) (rest := []) cx hP hD hS [.int p0] (c_X12_layBest l D k b qm sm tm H.size p0 (show 0 ≤ ((sm 2) 0).toInt ∧ ((sm 2) 0).toInt ≤ 5 from by first | decide | omega) (show 0 ≤ ((sm 2) 1).toInt ∧ ((sm 2) 1).toInt ≤ 4 from by first | decide | omega) (show 0 ≤ p0.toInt ∧ p0.toInt ≤ 4 from by first | decide | omega)) gX12_shape_X12_layBest rfl rfl rfl nd_X12_layBest ⟨Nat.le_of_ble_eq_true rfl, Nat.le_of_ble_eq_true rfl⟩ (ci := 10) (q0 := 0) rfl rfl rfl hl.1 rfl (Nat.le_of_ble_eq_true rfl) ⟨Nat.zero_le _, Nat.zero_le _⟩ dX12_shape_12) cx.2.2.1 hD hS (fun u9 H locs hw8 hP hD hS => ?_)
    obtain ⟨m10, m11, m12⟩ := u9
    have hP : va_P D vwCl [cell22_ qm sm tm, cell5_ k qm sm, cell13_ k qm sm, cell8_ k qm sm, cell6_ k qm sm, cell15_ k qm sm, cell14_ k qm tm, cell12_ k qm tm, cell18_ k qm tm, cell17_ k qm tm, (qm 10, .inl (k 1, 1500, .inr (.inl m10))), (qm 11, .inl (k 1, 1500, .inr (.inl m11))), (qm 12, .inl (k 0, 1500, .inl m12)), cell16_ k qm sm, cell11_ k qm sm, cell10_ k qm sm, cell9_ k qm sm, cell7_ k qm sm] H := hP
    have hD : va_D A [cell22_ qm sm tm, cell5_ k qm sm, cell13_ k qm sm, cell8_ k qm sm, cell6_ k qm sm, cell15_ k qm sm, cell14_ k qm tm, cell12_ k qm tm, cell18_ k qm tm, cell17_ k qm tm, (qm 10, .inl (k 1, 1500, .inr (.inl m10))), (qm 11, .inl (k 1, 1500, .inr (.inl m11))), (qm 12, .inl (k 0, 1500, .inl m12)), cell16_ k qm sm, cell11_ k qm sm, cell10_ k qm sm, cell9_ k qm sm, cell7_ k qm sm] := hD
    have w13 : (m10, m11, m12) = J_X12_layBest sm tm p0 := hw8
    clear hw8
    refine lv_iconst (v := 0) hx hb dX12_shape_15 (by decide) ?_
    refine lv_istore_n (lv' := [(2, .int 0), (0, .ref (qm 0)), (1, .int p0)]) hx hb dX12_shape_16 rfl hl (by decide) rfl (fun ls hl => ?_)
    obtain ⟨rr17_1, err17_1⟩ : ∃ r : Int32 × (Nat → Int64) × (Nat → Int64) × (Nat → Int32), LTs (default : Int32 × (Nat → Int64) × (Nat → Int64) × (Nat → Int32)) (B_X12_shape_17 sm tm p0 r2 (m10, m11, m12)) 6 (0 : Int32) = r := ⟨_, rfl⟩
    have hrr17_1 : J_X12_shape sm tm p0 = rr17_1 := ((exl_X12_shape_0 w5 c7 w13)).trans err17_1
    have hL17 : ∀ (n21 : Nat) (v20 : Int32) (H : Heap) (locs : List Loc) (ls : Array Slot), 5 - v20.toInt < (n21 : Int) → (0 ≤ v20.toInt ∧ v20.toInt ≤ 5) → (LTs (default : Int32 × (Nat → Int64) × (Nat → Int64) × (Nat → Int32)) (B_X12_shape_17 sm tm p0 r2 (m10, m11, m12)) n21 v20 = rr17_1) → va_P D vwCl [cell22_ qm sm tm, cell5_ k qm sm, cell13_ k qm sm, cell8_ k qm sm, cell6_ k qm sm, cell15_ k qm sm, cell14_ k qm tm, cell12_ k qm tm, cell18_ k qm tm, cell17_ k qm tm, (qm 10, .inl (k 1, 1500, .inr (.inl m10))), (qm 11, .inl (k 1, 1500, .inr (.inl m11))), (qm 12, .inl (k 0, 1500, .inl m12)), cell16_ k qm sm, cell11_ k qm sm, cell10_ k qm sm, cell9_ k qm sm, cell7_ k qm sm] H → va_D A [cell22_ qm sm tm, cell5_ k qm sm, cell13_ k qm sm, cell8_ k qm sm, cell6_ k qm sm, cell15_ k qm sm, cell14_ k qm tm, cell12_ k qm tm, cell18_ k qm tm, cell17_ k qm tm, (qm 10, .inl (k 1, 1500, .inr (.inl m10))), (qm 11, .inl (k 1, 1500, .inr (.inl m11))), (qm 12, .inl (k 0, 1500, .inl m12)), cell16_ k qm sm, cell11_ k qm sm, cell10_ k qm sm, cell9_ k qm sm, cell7_ k qm sm] → va_S A s.heap H locs → lv_has ls 3 [(2, .int v20), (0, .ref (qm 0)), (1, .int p0)] → W p l e ({ frames := 6, cells := 0, slots := 0, locals := 157 } : Room) s m ([.ref (qm 0), .int p0] : List Value).toArray below meth c H locs 0 0 Q (F0 m 17 ls []) := by
      intro n21
      induction n21 with
      | zero => intro v20 H locs ls hmn21 bv20 hzrr17_1 hP hD hS hl; exact absurd hmn21 (by omega)
      | succ n21 ih17 =>
        intro v20 H locs ls hmn21 bv20 hzrr17_1 hP hD hS hl
        refine lv_iload_n hx hb dX12_shape_17 rfl (lv_at hl 0 rfl) ?_
        refine lv_iconst (v := 5) hx hb dX12_shape_18 (by decide) ?_
        refine lv_icmp_ge (tgt := 41) hx hb dX12_shape_19 (by decide) (fun c22 => ?_) (fun c22 => ?_)
        · have f22 : 5 ≤ v20.toInt := f_le (by decide) rfl c22
          refine lv_bipush (v := (-9)) hx hb dX12_shape_41 (by decide) ?_
          have hlit23 : ((-9) : Int32).toInt = -9 := by decide
          rw [hQ]
          exact x_i cx hr (m10, m11, m12) hP hD hS (show (((-9) : Int32), m10, m11, m12) = J_X12_shape sm tm p0 from ((hrr17_1.trans (LT_r hzrr17_1 (exl_X12_shape_1 c22)))).symm) dX12_shape_43
        · have f22 : v20.toInt < 5 := f_nle (by decide) rfl c22
          refine lv_aload_n hx hb dX12_shape_22 rfl (lv_at hl 1 rfl) ?_
          refine lv_iload_n hx hb dX12_shape_23 rfl (lv_at hl 2 rfl) ?_
          refine lv_iload_n hx hb dX12_shape_24 rfl (lv_at hl 0 rfl) ?_
          refine g_iF (w1 := fun (_ : Unit) => [cell22_ qm sm tm, cell5_ k qm sm, cell13_ k qm sm, cell8_ k qm sm, cell6_ k qm sm, cell15_ k qm sm, cell14_ k qm tm, cell12_ k qm tm, cell18_ k qm tm, cell17_ k qm tm, (qm 10, .inl (k 1, 1500, .inr (.inl m10))), (qm 11, .inl (k 1, 1500, .inr (.inl m11))), (qm 12, .inl (k 0, 1500, .inl m12)), cell16_ k qm sm, cell11_ k qm sm, cell10_ k qm sm, cell9_ k qm sm, cell7_ k qm sm]) (g_runVF (ws := [cell22_ qm sm tm, cell5_ k qm sm, cell13_ k qm sm, cell8_ k qm sm, cell6_ k qm sm, cell15_ k qm sm, cell14_ k qm tm, cell12_ k qm tm, cell18_ k qm tm, cell17_ k qm tm, (qm 10, .inl (k 1, 1500, .inr (.inl m10))), (qm 11, .inl (k 1, 1500, .inr (.inl m11))), (qm 12, .inl (k 0, 1500, .inl m12)), cell16_ k qm sm, cell11_ k qm sm, cell10_ k qm sm, cell9_ k qm sm, cell7_ k qm sm]) (rest := []) cx hP hD hS [.int p0, .int v20] (c_X12_againstOf l D k b qm (up2 sm 12 m12) (up2L (up2L tm 10 m10) 11 m11) H.size p0 v20 (show 0 ≤ ((sm 2) 1).toInt ∧ ((sm 2) 1).toInt ≤ 4 from by first | decide | omega) (show 0 ≤ p0.toInt ∧ p0.toInt ≤ 4 from by first | decide | omega)) gX12_shape_X12_againstOf rfl rfl rfl nd_X12_againstOf ⟨Nat.le_of_ble_eq_true rfl, Nat.le_of_ble_eq_true rfl⟩ (ci := 10) (q0 := 0) rfl rfl rfl hl.1 rfl (Nat.le_of_ble_eq_true rfl) ⟨Nat.zero_le _, Nat.zero_le _⟩ dX12_shape_25) cx.2.2.1 hD hS (fun r25 _ H locs hw24 hP hD hS => ?_)
          have w26 : r25 = J_X12_againstOf (up2 sm 12 m12) (up2L (up2L tm 10 m10) 11 m11) p0 v20 := hw24
          clear hw24
          refine lv_bipush (v := (-9)) hx hb dX12_shape_28 (by decide) ?_
          refine lv_icmp_ne (tgt := 35) hx hb dX12_shape_30 (by decide) (fun c28 => ?_) (fun c28 => ?_)
          · have f28 : ¬ r25.toInt = (-9) := f_ne rfl (by decide) c28
            obtain ⟨v29, e29⟩ : ∃ z : Int32, z = v20 + 1 := ⟨_, rfl⟩
            refine lv_iinc (v := v29) (lv' := [(2, .int v29), (0, .ref (qm 0)), (1, .int p0)]) hx hb dX12_shape_35 hl (k := 0) rfl (by rw [e29]; rfl) (by decide) rfl (fun ls hl => ?_)
            have t29 : v29.toInt = v20.toInt + 1 := by rw [e29]; exact i_add rfl (by decide) (by omega) (by omega)
            refine lv_goto (tgt := 17) hx hb dX12_shape_38 (by decide) ?_
            exact ih17 v29 _ _ _ (by omega) (by first | decide | omega) (LT_g hzrr17_1 (exl_X12_shape_2 e29 c22 w26 c28)) hP hD hS (lv_sub hl [0, 1, 2] rfl)
          · have f28 : r25.toInt = (-9) := f_eq rfl (by decide) c28
            refine lv_iload_n hx hb dX12_shape_33 rfl (lv_at hl 0 rfl) ?_
            rw [hQ]
            exact x_i cx hr (m10, m11, m12) hP hD hS (show (v20, m10, m11, m12) = J_X12_shape sm tm p0 from ((hrr17_1.trans (LT_r hzrr17_1 (exl_X12_shape_3 c22 w26 c28)))).symm) dX12_shape_34
    have hlit30 : (0 : Int32).toInt = 0 := by decide
    exact hL17 (6) 0 _ _ _ (by omega) (by first | decide | omega) err17_1 hP hD hS (lv_sub hl [0, 1, 2] rfl)
  · have f7 : r2.toInt = 0 := f_eq rfl (by decide) c7
    refine lv_iconst (v := (-1)) hx hb dX12_shape_8 (by decide) ?_
    have hlit31 : ((-1) : Int32).toInt = -1 := by decide
    rw [hQ]
    exact x_i cx hr ((tm 10), (tm 11), (sm 12)) hP hD hS (show (((-1) : Int32), (tm 10), (tm 11), (sm 12)) = J_X12_shape sm tm p0 from (exl_X12_shape_4 w5 c7)) dX12_shape_9
theorem kJ_X12_against_69 : Cond.constantLong RX12 69 (4) ∈ wsX12_against := by decide +kernel
def J_X12_against (sm : Nat → Nat → Int32) (tm : Nat → Nat → Int64) (p0 : Int32) (p1 : Int32) : Int32 × (Nat → Int64) × (Nat → Int64) × (Nat → Int32) := LetF (J_X12_isWeek sm tm p0) (fun y6 => if y6 = 0 then (((-1) : Int32), (tm 10), (tm 11), (sm 12)) else if (J_X12_in (p1.toInt64) 0 4) = 0 then (((-2) : Int32), (tm 10), (tm 11), (sm 12)) else LetF (J_X12_layBest sm tm p0) (fun y19 => LetF (J_X12_againstOf (up2 sm 12 (y19.2.2)) (up2L (up2L tm 10 (y19.1)) 11 (y19.2.1)) p0 p1) (fun y23 => (y23, (y19.1), (y19.2.1), (y19.2.2)))))
theorem exl_X12_against_0 {sm : Nat → Nat → Int32} {tm : Nat → Nat → Int64} {p0 : Int32} {p1 : Int32} {r21 : Int32} {m15 : Nat → Int64} {m16 : Nat → Int64} {m17 : Nat → Int32} {v8 : Int64} {r10 : Int32} {r2 : Int32} (e8 : v8 = (p1 : Int32).toInt64) (w11 : r10 = J_X12_in v8 (0 : Int64) (4 : Int64)) (w5 : r2 = J_X12_isWeek sm tm p0) (c7 : ¬ (r2 = (0 : Int32))) (c12 : ¬ (r10 = (0 : Int32))) (w18 : (m15, m16, m17) = J_X12_layBest sm tm p0) (w22 : r21 = J_X12_againstOf (up2 sm 12 m17) (up2L (up2L tm 10 m15) 11 m16) p0 p1) : (r21, m15, m16, m17) = J_X12_against sm tm p0 p1 := by subst e8 w11; refine Eq.symm ?_; unfold J_X12_against; refine lt_e w5 ?_; refine Eq.trans (if_neg c7) ?_; refine Eq.trans (if_neg c12) ?_; refine lt_e w18 ?_; refine lt_e w22 ?_; rfl
theorem exl_X12_against_1 {sm : Nat → Nat → Int32} {tm : Nat → Nat → Int64} {p0 : Int32} {p1 : Int32} {v8 : Int64} {r10 : Int32} {r2 : Int32} (e8 : v8 = (p1 : Int32).toInt64) (w11 : r10 = J_X12_in v8 (0 : Int64) (4 : Int64)) (w5 : r2 = J_X12_isWeek sm tm p0) (c7 : ¬ (r2 = (0 : Int32))) (c12 : r10 = (0 : Int32)) : (((-2) : Int32), (tm 10), (tm 11), (sm 12)) = J_X12_against sm tm p0 p1 := by subst e8 w11; refine Eq.symm ?_; unfold J_X12_against; refine lt_e w5 ?_; refine Eq.trans (if_neg c7) ?_; refine Eq.trans (if_pos c12) ?_; rfl
theorem exl_X12_against_2 {sm : Nat → Nat → Int32} {tm : Nat → Nat → Int64} {p0 : Int32} {p1 : Int32} {r2 : Int32} (w5 : r2 = J_X12_isWeek sm tm p0) (c7 : r2 = (0 : Int32)) : (((-1) : Int32), (tm 10), (tm 11), (sm 12)) = J_X12_against sm tm p0 p1 := by refine Eq.symm ?_; unfold J_X12_against; refine lt_e w5 ?_; refine Eq.trans (if_pos c7) ?_; rfl
set_option maxHeartbeats 4000000 in
set_option maxRecDepth 100000 in
theorem c_X12_against (l : Launch) (D : va_G) (k : Nat → ClassId) (b : Nat → Nat) (qm : Nat → Nat) (sm : Nat → Nat → Int32) (tm : Nat → Nat → Int64) (sz : Nat) (p0 : Int32) (p1 : Int32) (h_w0 : 0 ≤ (sm 2 0).toInt ∧ (sm 2 0).toInt ≤ 5) (h_k1 : 0 ≤ (sm 2 1).toInt ∧ (sm 2 1).toInt ≤ 4) : MetI l D k b yX12_against wsX12_against ({ frames := 6, cells := 0, slots := 0, locals := 157 } : Room) [cell22_ qm sm tm, cell5_ k qm sm, cell13_ k qm sm, cell8_ k qm sm, cell6_ k qm sm, cell15_ k qm sm, cell14_ k qm tm, cell12_ k qm tm, cell18_ k qm tm, cell17_ k qm tm, cell19_ k qm tm, cell21_ k qm tm, cell20_ k qm sm, cell16_ k qm sm, cell11_ k qm sm, cell10_ k qm sm, cell9_ k qm sm, cell7_ k qm sm] sz [.ref (qm 0), .int p0, .int p1] (fun (r : Int32) (u : (Nat → Int64) × (Nat → Int64) × (Nat → Int32)) => (r, (u.1), (u.2.1), (u.2.2)) = J_X12_against sm tm p0 p1) (fun u => [cell22_ qm sm tm, cell5_ k qm sm, cell13_ k qm sm, cell8_ k qm sm, cell6_ k qm sm, cell15_ k qm sm, cell14_ k qm tm, cell12_ k qm tm, cell18_ k qm tm, cell17_ k qm tm, cell130_ k qm (u.1), cell122_ k qm (u.2.1), cell123_ k qm (u.2.2), cell16_ k qm sm, cell11_ k qm sm, cell10_ k qm sm, cell9_ k qm sm, cell7_ k qm sm]) := by
  refine g_enter (cc := cX12_against) (maxL := 3) (ret := (some .int)) (by decide) rfl (Nat.le_of_ble_eq_true rfl) ?_
  intro p e s m below meth c A hsz hAe cx hr hP hD hS ls hl
  rw [hAe]
  refine g_q (fun Q hQ => ?_)
  have hx := cx.1.1
  have hb := cx.1.2.1
  have bp0 := i_rng p0
  have bp1 := i_rng p1
  have hl : lv_has ls 3 [(0, .ref (qm 0)), (1, .int p0), (2, .int p1)] := hl
  obtain ⟨H, eH⟩ : ∃ H : Heap, H = s.heap := ⟨_, rfl⟩
  obtain ⟨locs, el⟩ : ∃ L : List Loc, L = [] := ⟨_, rfl⟩
  have hP : va_P D vwCl [cell22_ qm sm tm, cell5_ k qm sm, cell13_ k qm sm, cell8_ k qm sm, cell6_ k qm sm, cell15_ k qm sm, cell14_ k qm tm, cell12_ k qm tm, cell18_ k qm tm, cell17_ k qm tm, cell19_ k qm tm, cell21_ k qm tm, cell20_ k qm sm, cell16_ k qm sm, cell11_ k qm sm, cell10_ k qm sm, cell9_ k qm sm, cell7_ k qm sm] H := by rw [eH]; exact hP
  have hD : va_D A [cell22_ qm sm tm, cell5_ k qm sm, cell13_ k qm sm, cell8_ k qm sm, cell6_ k qm sm, cell15_ k qm sm, cell14_ k qm tm, cell12_ k qm tm, cell18_ k qm tm, cell17_ k qm tm, cell19_ k qm tm, cell21_ k qm tm, cell20_ k qm sm, cell16_ k qm sm, cell11_ k qm sm, cell10_ k qm sm, cell9_ k qm sm, cell7_ k qm sm] := hD
  have hS : va_S A s.heap H locs := by rw [eH, el]; exact hS
  suffices goal : W p l e ({ frames := 6, cells := 0, slots := 0, locals := 157 } : Room) s m ([.ref (qm 0), .int p0, .int p1] : List Value).toArray below meth c H locs 0 0 Q (F0 m 0 ls []) by rw [eH, el] at goal; exact goal
  refine lv_aload_n hx hb dX12_against_0 rfl (lv_at hl 0 rfl) ?_
  refine lv_iload_n hx hb dX12_against_1 rfl (lv_at hl 1 rfl) ?_
  refine g_iF (w1 := fun (_ : Unit) => [cell22_ qm sm tm, cell5_ k qm sm, cell13_ k qm sm, cell8_ k qm sm, cell6_ k qm sm, cell15_ k qm sm, cell14_ k qm tm, cell12_ k qm tm, cell18_ k qm tm, cell17_ k qm tm, cell19_ k qm tm, cell21_ k qm tm, cell20_ k qm sm, cell16_ k qm sm, cell11_ k qm sm, cell10_ k qm sm, cell9_ k qm sm, cell7_ k qm sm]) (g_runVF (ws := [cell22_ qm sm tm, cell5_ k qm sm, cell13_ k qm sm, cell8_ k qm sm, cell6_ k qm sm, cell15_ k qm sm, cell14_ k qm tm, cell12_ k qm tm, cell18_ k qm tm, cell17_ k qm tm, cell19_ k qm tm, cell21_ k qm tm, cell20_ k qm sm, cell16_ k qm sm, cell11_ k qm sm, cell10_ k qm sm, cell9_ k qm sm, cell7_ k qm sm]) (rest := []) cx hP hD hS [.int p0] (c_X12_isWeek l D k b qm sm tm H.size p0 (show 0 ≤ ((sm 2) 0).toInt ∧ ((sm 2) 0).toInt ≤ 5 from by first | decide | omega)) gX12_against_X12_isWeek rfl rfl rfl nd_X12_isWeek ⟨Nat.le_of_ble_eq_true rfl, Nat.le_of_ble_eq_true rfl⟩ (ci := 10) (q0 := 0) rfl rfl rfl hl.1 rfl (Nat.le_of_ble_eq_true rfl) ⟨Nat.zero_le _, Nat.zero_le _⟩ dX12_against_2) cx.2.2.1 hD hS (fun r2 _ H locs hw1 hP hD hS => ?_)
  replace hw1 : (0 ≤ r2.toInt ∧ r2.toInt ≤ 1) ∧ (Imp (r2.toInt = 1) (0 ≤ p0.toInt ∧ p0.toInt ≤ 4)) ∧ (r2 = J_X12_isWeek sm tm p0) := hw1
  obtain ⟨w3, w4, w5⟩ := hw1
  have zr2 : 0 ≤ r2.toInt ∧ r2.toInt ≤ 1 := w3
  refine lv_if_ne (tgt := 10) hx hb dX12_against_5 (by decide) (fun c7 => ?_) (fun c7 => ?_)
  · have f7 : ¬ r2.toInt = 0 := f_ne rfl (by decide) c7
    have k7 : (0 ≤ p0.toInt ∧ p0.toInt ≤ 4) := w4 (by omega)
    refine lv_iload_n hx hb dX12_against_10 rfl (lv_at hl 2 rfl) ?_
    obtain ⟨v8, e8⟩ : ∃ z : Int64, z = (p1 : Int32).toInt64 := ⟨_, rfl⟩
    refine lv_i2l (v := v8) hx hb dX12_against_11 e8.symm ?_
    refine lv_lconst (v := 0) hx hb dX12_against_12 (by decide) ?_
    refine lv_ldc2 (v := 4) hx hb cx.1.2.2.2.1 (cx.1.2.2.2.2 _ kJ_X12_against_69) dX12_against_13 ?_
    refine g_ir (g_runS (wc := []) (rest := []) cx hP hD hS [] rfl (by decide) [.long v8, .long 0, .long 4] (c_X12_in l D k b H.size v8 0 4) gX12_against_X12_in rfl rfl rfl nd_X12_in ⟨Nat.le_of_ble_eq_true rfl, Nat.le_of_ble_eq_true rfl⟩ rfl hl.1 rfl (Nat.le_of_ble_eq_true rfl) ⟨Nat.zero_le _, Nat.zero_le _⟩ dX12_against_16) cx.2.2.1 hP hD hS [] rfl rfl (fun r10 H locs hw9 hP hS => ?_)
    have w11 : r10 = J_X12_in v8 (0 : Int64) (4 : Int64) := hw9
    clear hw9
    have zr10 := in_b w11
    refine lv_if_ne (tgt := 25) hx hb dX12_against_19 (by decide) (fun c12 => ?_) (fun c12 => ?_)
    · have f12 : ¬ r10.toInt = 0 := f_ne rfl (by decide) c12
      have k12 : 0 ≤ p1.toInt ∧ p1.toInt ≤ 4 := in_t (i2l_t rfl e8) (by decide) (by decide) w11 c12
      refine lv_aload_n hx hb dX12_against_25 rfl (lv_at hl 0 rfl) ?_
      refine lv_iload_n hx hb dX12_against_26 rfl (lv_at hl 1 rfl) ?_
      refine g_vF (w1 := fun (u : (Nat → Int64) × (Nat → Int64) × (Nat → Int32)) => [cell22_ qm sm tm, cell5_ k qm sm, cell13_ k qm sm, cell8_ k qm sm, cell6_ k qm sm, cell15_ k qm sm, cell14_ k qm tm, cell12_ k qm tm, cell18_ k qm tm, cell17_ k qm tm, cell130_ k qm (u.1), cell122_ k qm (u.2.1), cell123_ k qm (u.2.2), cell16_ k qm sm, cell11_ k qm sm, cell10_ k qm sm, cell9_ k qm sm, cell7_ k qm sm]) (g_runVF (ws := [cell22_ qm sm tm, cell5_ k qm sm, cell13_ k qm sm, cell8_ k qm sm, cell6_ k qm sm, cell15_ k qm sm, cell14_ k qm tm, cell12_ k qm tm, cell18_ k qm tm, cell17_ k qm tm, cell19_ k qm tm, cell21_ k qm tm, cell20_ k qm sm, cell16_ k qm sm, cell11_ k qm sm, cell10_ k qm sm, cell9_ k qm sm, cell7_ k qm sm]) (rest := []) cx hP hD hS [.int p0] (c_X12_layBest l D k b qm sm tm H.size p0 (show 0 ≤ ((sm 2) 0).toInt ∧ ((sm 2) 0).toInt ≤ 5 from by first | decide | omega) (show 0 ≤ ((sm 2) 1).toInt ∧ ((sm 2) 1).toInt ≤ 4 from by first | decide | omega) (show 0 ≤ p0.toInt ∧ p0.toInt ≤ 4 from by first | decide | omega)) gX12_against_X12_layBest rfl rfl rfl nd_X12_layBest ⟨Nat.le_of_ble_eq_true rfl, Nat.le_of_ble_eq_true rfl⟩ (ci := 10) (q0 := 0) rfl rfl rfl hl.1 rfl (Nat.le_of_ble_eq_true rfl) ⟨Nat.zero_le _, Nat.zero_le _⟩ dX12_against_27) cx.2.2.1 hD hS (fun u14 H locs hw13 hP hD hS => ?_)
      obtain ⟨m15, m16, m17⟩ := u14
      have hP : va_P D vwCl [cell22_ qm sm tm, cell5_ k qm sm, cell13_ k qm sm, cell8_ k qm sm, cell6_ k qm sm, cell15_ k qm sm, cell14_ k qm tm, cell12_ k qm tm, cell18_ k qm tm, cell17_ k qm tm, (qm 10, .inl (k 1, 1500, .inr (.inl m15))), (qm 11, .inl (k 1, 1500, .inr (.inl m16))), (qm 12, .inl (k 0, 1500, .inl m17)), cell16_ k qm sm, cell11_ k qm sm, cell10_ k qm sm, cell9_ k qm sm, cell7_ k qm sm] H := hP
      have hD : va_D A [cell22_ qm sm tm, cell5_ k qm sm, cell13_ k qm sm, cell8_ k qm sm, cell6_ k qm sm, cell15_ k qm sm, cell14_ k qm tm, cell12_ k qm tm, cell18_ k qm tm, cell17_ k qm tm, (qm 10, .inl (k 1, 1500, .inr (.inl m15))), (qm 11, .inl (k 1, 1500, .inr (.inl m16))), (qm 12, .inl (k 0, 1500, .inl m17)), cell16_ k qm sm, cell11_ k qm sm, cell10_ k qm sm, cell9_ k qm sm, cell7_ k qm sm] := hD
      have w18 : (m15, m16, m17) = J_X12_layBest sm tm p0 := hw13
      clear hw13
      refine lv_aload_n hx hb dX12_against_30 rfl (lv_at hl 0 rfl) ?_
      refine lv_iload_n hx hb dX12_against_31 rfl (lv_at hl 1 rfl) ?_
      refine lv_iload_n hx hb dX12_against_32 rfl (lv_at hl 2 rfl) ?_
      refine g_iF (w1 := fun (_ : Unit) => [cell22_ qm sm tm, cell5_ k qm sm, cell13_ k qm sm, cell8_ k qm sm, cell6_ k qm sm, cell15_ k qm sm, cell14_ k qm tm, cell12_ k qm tm, cell18_ k qm tm, cell17_ k qm tm, (qm 10, .inl (k 1, 1500, .inr (.inl m15))), (qm 11, .inl (k 1, 1500, .inr (.inl m16))), (qm 12, .inl (k 0, 1500, .inl m17)), cell16_ k qm sm, cell11_ k qm sm, cell10_ k qm sm, cell9_ k qm sm, cell7_ k qm sm]) (g_runVF (ws := [cell22_ qm sm tm, cell5_ k qm sm, cell13_ k qm sm, cell8_ k qm sm, cell6_ k qm sm, cell15_ k qm sm, cell14_ k qm tm, cell12_ k qm tm, cell18_ k qm tm, cell17_ k qm tm, (qm 10, .inl (k 1, 1500, .inr (.inl m15))), (qm 11, .inl (k 1, 1500, .inr (.inl m16))), (qm 12, .inl (k 0, 1500, .inl m17)), cell16_ k qm sm, cell11_ k qm sm, cell10_ k qm sm, cell9_ k qm sm, cell7_ k qm sm]) (rest := []) cx hP hD hS [.int p0, .int p1] (c_X12_againstOf l D k b qm (up2 sm 12 m17) (up2L (up2L tm 10 m15) 11 m16) H.size p0 p1 (show 0 ≤ ((sm 2) 1).toInt ∧ ((sm 2) 1).toInt ≤ 4 from by first | decide | omega) (show 0 ≤ p0.toInt ∧ p0.toInt ≤ 4 from by first | decide | omega)) gX12_against_X12_againstOf rfl rfl rfl nd_X12_againstOf ⟨Nat.le_of_ble_eq_true rfl, Nat.le_of_ble_eq_true rfl⟩ (ci := 10) (q0 := 0) rfl rfl rfl hl.1 rfl (Nat.le_of_ble_eq_true rfl) ⟨Nat.zero_le _, Nat.zero_le _⟩ dX12_against_33) cx.2.2.1 hD hS (fun r21 _ H locs hw20 hP hD hS => ?_)
      have w22 : r21 = J_X12_againstOf (up2 sm 12 m17) (up2L (up2L tm 10 m15) 11 m16) p0 p1 := hw20
      clear hw20
      rw [hQ]
      exact x_i cx hr (m15, m16, m17) hP hD hS (show (r21, m15, m16, m17) = J_X12_against sm tm p0 p1 from (exl_X12_against_0 e8 w11 w5 c7 c12 w18 w22)) dX12_against_36
    · have f12 : r10.toInt = 0 := f_eq rfl (by decide) c12
      have k12 : p1.toInt < 0 ∨ 4 < p1.toInt := in_f (i2l_t rfl e8) (by decide) (by decide) w11 c12
      refine lv_bipush (v := (-2)) hx hb dX12_against_22 (by decide) ?_
      have hlit24 : ((-2) : Int32).toInt = -2 := by decide
      rw [hQ]
      exact x_i cx hr ((tm 10), (tm 11), (sm 12)) hP hD hS (show (((-2) : Int32), (tm 10), (tm 11), (sm 12)) = J_X12_against sm tm p0 p1 from (exl_X12_against_1 e8 w11 w5 c7 c12)) dX12_against_24
  · have f7 : r2.toInt = 0 := f_eq rfl (by decide) c7
    refine lv_iconst (v := (-1)) hx hb dX12_against_8 (by decide) ?_
    have hlit25 : ((-1) : Int32).toInt = -1 := by decide
    rw [hQ]
    exact x_i cx hr ((tm 10), (tm 11), (sm 12)) hP hD hS (show (((-1) : Int32), (tm 10), (tm 11), (sm 12)) = J_X12_against sm tm p0 p1 from (exl_X12_against_2 w5 c7)) dX12_against_9
/-- four places changed and laid back -/
theorem rest8 {f g1 g2 g3 g4 g5 g6 g7 g8 : Nat → Int32} {a b c d x y z w : Int32} (e1 : g1 = upd f (4 : Int32).toNatClampNeg a) (e2 : g2 = upd g1 (5 : Int32).toNatClampNeg b) (e3 : g3 = upd g2 (6 : Int32).toNatClampNeg c) (e4 : g4 = upd g3 (7 : Int32).toNatClampNeg d) (e5 : g5 = upd g4 (4 : Int32).toNatClampNeg x) (e6 : g6 = upd g5 (5 : Int32).toNatClampNeg y) (e7 : g7 = upd g6 (6 : Int32).toNatClampNeg z) (e8 : g8 = upd g7 (7 : Int32).toNatClampNeg w) (hx : x = f (4 : Int32).toNatClampNeg) (hy : y = f (5 : Int32).toNatClampNeg) (hz : z = f (6 : Int32).toNatClampNeg) (hw : w = f (7 : Int32).toNatClampNeg) : g8 = f := by
  have n4 : (4 : Int32).toNatClampNeg = 4 := by decide
  have n5 : (5 : Int32).toNatClampNeg = 5 := by decide
  have n6 : (6 : Int32).toNatClampNeg = 6 := by decide
  have n7 : (7 : Int32).toNatClampNeg = 7 := by decide
  rw [n4] at e1 e5 hx
  rw [n5] at e2 e6 hy
  rw [n6] at e3 e7 hz
  rw [n7] at e4 e8 hw
  funext j
  by_cases q7 : j = 7
  · rw [e8, q7, pk_us, hw]
  · by_cases q6 : j = 6
    · rw [e8, pk_un q7, e7, q6, pk_us, hz]
    · by_cases q5 : j = 5
      · rw [e8, pk_un q7, e7, pk_un q6, e6, q5, pk_us, hy]
      · by_cases q4 : j = 4
        · rw [e8, pk_un q7, e7, pk_un q6, e6, pk_un q5, e5, q4, pk_us, hx]
        · rw [e8, pk_un q7, e7, pk_un q6, e6, pk_un q5, e5, pk_un q4, e4, pk_un q7, e3, pk_un q6, e2, pk_un q5, e1, pk_un q4]
theorem fw_X12_without_13 : Cond.fieldLink RX12 13 "StillInAugustModel" "house" "[I" ∈ wsX12_without := by decide +kernel
theorem fw_X12_without_38 : Cond.fieldLink RX12 38 "StillInAugustModel" "bests" "[J" ∈ wsX12_without := by decide +kernel
theorem kJ_X12_without_206 : Cond.constantLong RX12 206 (-2) ∈ wsX12_without := by decide +kernel
theorem kJ_X12_without_77 : Cond.constantLong RX12 77 (15) ∈ wsX12_without := by decide +kernel
theorem iw_X12_without_X12 : ∀ w ∈ u_ws RX12 TX12 33, w ∈ wsX12_without := fun _ h => List.mem_cons_of_mem _ (List.mem_append_right _ h)
def J_X12_without (sm : Nat → Nat → Int32) (tm : Nat → Nat → Int64) (p0 : Int32) (p1 : Int32) : Int64 × (Nat → Int64) × (Nat → Int64) × (Nat → Int32) × (Nat → Int32) := if (J_X12_in (p0.toInt64) 0 15) = 0 then (((-2) : Int64), (tm 10), (tm 11), (sm 12), (sm 2)) else if (p0 &&& (1 : Int32)) = 1 then if (p0 &&& (2 : Int32)) = 2 then if (p0 &&& (4 : Int32)) = 4 then if (p0 &&& (8 : Int32)) = 8 then LetF (J_X12_layBest (up2 sm 2 (upd (upd (upd (upd (sm 2) (4 : Int32).toNatClampNeg (-9)) (5 : Int32).toNatClampNeg (-9)) (6 : Int32).toNatClampNeg (-9)) (7 : Int32).toNatClampNeg (-9))) tm 0) (fun y890 => LetF (J_X12_parts (((upd (upd (upd (upd (upd (upd (upd (upd (sm 2) (4 : Int32).toNatClampNeg (-9)) (5 : Int32).toNatClampNeg (-9)) (6 : Int32).toNatClampNeg (-9)) (7 : Int32).toNatClampNeg (-9)) (4 : Int32).toNatClampNeg (((sm 2) (4 : Int32).toNatClampNeg))) (5 : Int32).toNatClampNeg (((sm 2) (5 : Int32).toNatClampNeg))) (6 : Int32).toNatClampNeg (((sm 2) (6 : Int32).toNatClampNeg))) (7 : Int32).toNatClampNeg (((sm 2) (7 : Int32).toNatClampNeg))) (0 : Int32).toNatClampNeg))) (fun y923 => LetF (J_X12_told (((y890.1) (0 : Int32).toNatClampNeg)) y923 p1) (fun y927 => (y927, (y890.1), (y890.2.1), (y890.2.2), (upd (upd (upd (upd (upd (upd (upd (upd (sm 2) (4 : Int32).toNatClampNeg (-9)) (5 : Int32).toNatClampNeg (-9)) (6 : Int32).toNatClampNeg (-9)) (7 : Int32).toNatClampNeg (-9)) (4 : Int32).toNatClampNeg (((sm 2) (4 : Int32).toNatClampNeg))) (5 : Int32).toNatClampNeg (((sm 2) (5 : Int32).toNatClampNeg))) (6 : Int32).toNatClampNeg (((sm 2) (6 : Int32).toNatClampNeg))) (7 : Int32).toNatClampNeg (((sm 2) (7 : Int32).toNatClampNeg))))))) else LetF (J_X12_layBest (up2 sm 2 (upd (upd (upd (upd (sm 2) (4 : Int32).toNatClampNeg (-9)) (5 : Int32).toNatClampNeg (-9)) (6 : Int32).toNatClampNeg (-9)) (7 : Int32).toNatClampNeg (((sm 2) (7 : Int32).toNatClampNeg)))) tm 0) (fun y840 => LetF (J_X12_parts (((upd (upd (upd (upd (upd (upd (upd (upd (sm 2) (4 : Int32).toNatClampNeg (-9)) (5 : Int32).toNatClampNeg (-9)) (6 : Int32).toNatClampNeg (-9)) (7 : Int32).toNatClampNeg (((sm 2) (7 : Int32).toNatClampNeg))) (4 : Int32).toNatClampNeg (((sm 2) (4 : Int32).toNatClampNeg))) (5 : Int32).toNatClampNeg (((sm 2) (5 : Int32).toNatClampNeg))) (6 : Int32).toNatClampNeg (((sm 2) (6 : Int32).toNatClampNeg))) (7 : Int32).toNatClampNeg (((sm 2) (7 : Int32).toNatClampNeg))) (0 : Int32).toNatClampNeg))) (fun y873 => LetF (J_X12_told (((y840.1) (0 : Int32).toNatClampNeg)) y873 p1) (fun y877 => (y877, (y840.1), (y840.2.1), (y840.2.2), (upd (upd (upd (upd (upd (upd (upd (upd (sm 2) (4 : Int32).toNatClampNeg (-9)) (5 : Int32).toNatClampNeg (-9)) (6 : Int32).toNatClampNeg (-9)) (7 : Int32).toNatClampNeg (((sm 2) (7 : Int32).toNatClampNeg))) (4 : Int32).toNatClampNeg (((sm 2) (4 : Int32).toNatClampNeg))) (5 : Int32).toNatClampNeg (((sm 2) (5 : Int32).toNatClampNeg))) (6 : Int32).toNatClampNeg (((sm 2) (6 : Int32).toNatClampNeg))) (7 : Int32).toNatClampNeg (((sm 2) (7 : Int32).toNatClampNeg))))))) else if (p0 &&& (8 : Int32)) = 8 then LetF (J_X12_layBest (up2 sm 2 (upd (upd (upd (upd (sm 2) (4 : Int32).toNatClampNeg (-9)) (5 : Int32).toNatClampNeg (-9)) (6 : Int32).toNatClampNeg (((sm 2) (6 : Int32).toNatClampNeg))) (7 : Int32).toNatClampNeg (-9))) tm 0) (fun y782 => LetF (J_X12_parts (((upd (upd (upd (upd (upd (upd (upd (upd (sm 2) (4 : Int32).toNatClampNeg (-9)) (5 : Int32).toNatClampNeg (-9)) (6 : Int32).toNatClampNeg (((sm 2) (6 : Int32).toNatClampNeg))) (7 : Int32).toNatClampNeg (-9)) (4 : Int32).toNatClampNeg (((sm 2) (4 : Int32).toNatClampNeg))) (5 : Int32).toNatClampNeg (((sm 2) (5 : Int32).toNatClampNeg))) (6 : Int32).toNatClampNeg (((sm 2) (6 : Int32).toNatClampNeg))) (7 : Int32).toNatClampNeg (((sm 2) (7 : Int32).toNatClampNeg))) (0 : Int32).toNatClampNeg))) (fun y815 => LetF (J_X12_told (((y782.1) (0 : Int32).toNatClampNeg)) y815 p1) (fun y819 => (y819, (y782.1), (y782.2.1), (y782.2.2), (upd (upd (upd (upd (upd (upd (upd (upd (sm 2) (4 : Int32).toNatClampNeg (-9)) (5 : Int32).toNatClampNeg (-9)) (6 : Int32).toNatClampNeg (((sm 2) (6 : Int32).toNatClampNeg))) (7 : Int32).toNatClampNeg (-9)) (4 : Int32).toNatClampNeg (((sm 2) (4 : Int32).toNatClampNeg))) (5 : Int32).toNatClampNeg (((sm 2) (5 : Int32).toNatClampNeg))) (6 : Int32).toNatClampNeg (((sm 2) (6 : Int32).toNatClampNeg))) (7 : Int32).toNatClampNeg (((sm 2) (7 : Int32).toNatClampNeg))))))) else LetF (J_X12_layBest (up2 sm 2 (upd (upd (upd (upd (sm 2) (4 : Int32).toNatClampNeg (-9)) (5 : Int32).toNatClampNeg (-9)) (6 : Int32).toNatClampNeg (((sm 2) (6 : Int32).toNatClampNeg))) (7 : Int32).toNatClampNeg (((sm 2) (7 : Int32).toNatClampNeg)))) tm 0) (fun y732 => LetF (J_X12_parts (((upd (upd (upd (upd (upd (upd (upd (upd (sm 2) (4 : Int32).toNatClampNeg (-9)) (5 : Int32).toNatClampNeg (-9)) (6 : Int32).toNatClampNeg (((sm 2) (6 : Int32).toNatClampNeg))) (7 : Int32).toNatClampNeg (((sm 2) (7 : Int32).toNatClampNeg))) (4 : Int32).toNatClampNeg (((sm 2) (4 : Int32).toNatClampNeg))) (5 : Int32).toNatClampNeg (((sm 2) (5 : Int32).toNatClampNeg))) (6 : Int32).toNatClampNeg (((sm 2) (6 : Int32).toNatClampNeg))) (7 : Int32).toNatClampNeg (((sm 2) (7 : Int32).toNatClampNeg))) (0 : Int32).toNatClampNeg))) (fun y765 => LetF (J_X12_told (((y732.1) (0 : Int32).toNatClampNeg)) y765 p1) (fun y769 => (y769, (y732.1), (y732.2.1), (y732.2.2), (upd (upd (upd (upd (upd (upd (upd (upd (sm 2) (4 : Int32).toNatClampNeg (-9)) (5 : Int32).toNatClampNeg (-9)) (6 : Int32).toNatClampNeg (((sm 2) (6 : Int32).toNatClampNeg))) (7 : Int32).toNatClampNeg (((sm 2) (7 : Int32).toNatClampNeg))) (4 : Int32).toNatClampNeg (((sm 2) (4 : Int32).toNatClampNeg))) (5 : Int32).toNatClampNeg (((sm 2) (5 : Int32).toNatClampNeg))) (6 : Int32).toNatClampNeg (((sm 2) (6 : Int32).toNatClampNeg))) (7 : Int32).toNatClampNeg (((sm 2) (7 : Int32).toNatClampNeg))))))) else if (p0 &&& (4 : Int32)) = 4 then if (p0 &&& (8 : Int32)) = 8 then LetF (J_X12_layBest (up2 sm 2 (upd (upd (upd (upd (sm 2) (4 : Int32).toNatClampNeg (-9)) (5 : Int32).toNatClampNeg (((sm 2) (5 : Int32).toNatClampNeg))) (6 : Int32).toNatClampNeg (-9)) (7 : Int32).toNatClampNeg (-9))) tm 0) (fun y666 => LetF (J_X12_parts (((upd (upd (upd (upd (upd (upd (upd (upd (sm 2) (4 : Int32).toNatClampNeg (-9)) (5 : Int32).toNatClampNeg (((sm 2) (5 : Int32).toNatClampNeg))) (6 : Int32).toNatClampNeg (-9)) (7 : Int32).toNatClampNeg (-9)) (4 : Int32).toNatClampNeg (((sm 2) (4 : Int32).toNatClampNeg))) (5 : Int32).toNatClampNeg (((sm 2) (5 : Int32).toNatClampNeg))) (6 : Int32).toNatClampNeg (((sm 2) (6 : Int32).toNatClampNeg))) (7 : Int32).toNatClampNeg (((sm 2) (7 : Int32).toNatClampNeg))) (0 : Int32).toNatClampNeg))) (fun y699 => LetF (J_X12_told (((y666.1) (0 : Int32).toNatClampNeg)) y699 p1) (fun y703 => (y703, (y666.1), (y666.2.1), (y666.2.2), (upd (upd (upd (upd (upd (upd (upd (upd (sm 2) (4 : Int32).toNatClampNeg (-9)) (5 : Int32).toNatClampNeg (((sm 2) (5 : Int32).toNatClampNeg))) (6 : Int32).toNatClampNeg (-9)) (7 : Int32).toNatClampNeg (-9)) (4 : Int32).toNatClampNeg (((sm 2) (4 : Int32).toNatClampNeg))) (5 : Int32).toNatClampNeg (((sm 2) (5 : Int32).toNatClampNeg))) (6 : Int32).toNatClampNeg (((sm 2) (6 : Int32).toNatClampNeg))) (7 : Int32).toNatClampNeg (((sm 2) (7 : Int32).toNatClampNeg))))))) else LetF (J_X12_layBest (up2 sm 2 (upd (upd (upd (upd (sm 2) (4 : Int32).toNatClampNeg (-9)) (5 : Int32).toNatClampNeg (((sm 2) (5 : Int32).toNatClampNeg))) (6 : Int32).toNatClampNeg (-9)) (7 : Int32).toNatClampNeg (((sm 2) (7 : Int32).toNatClampNeg)))) tm 0) (fun y616 => LetF (J_X12_parts (((upd (upd (upd (upd (upd (upd (upd (upd (sm 2) (4 : Int32).toNatClampNeg (-9)) (5 : Int32).toNatClampNeg (((sm 2) (5 : Int32).toNatClampNeg))) (6 : Int32).toNatClampNeg (-9)) (7 : Int32).toNatClampNeg (((sm 2) (7 : Int32).toNatClampNeg))) (4 : Int32).toNatClampNeg (((sm 2) (4 : Int32).toNatClampNeg))) (5 : Int32).toNatClampNeg (((sm 2) (5 : Int32).toNatClampNeg))) (6 : Int32).toNatClampNeg (((sm 2) (6 : Int32).toNatClampNeg))) (7 : Int32).toNatClampNeg (((sm 2) (7 : Int32).toNatClampNeg))) (0 : Int32).toNatClampNeg))) (fun y649 => LetF (J_X12_told (((y616.1) (0 : Int32).toNatClampNeg)) y649 p1) (fun y653 => (y653, (y616.1), (y616.2.1), (y616.2.2), (upd (upd (upd (upd (upd (upd (upd (upd (sm 2) (4 : Int32).toNatClampNeg (-9)) (5 : Int32).toNatClampNeg (((sm 2) (5 : Int32).toNatClampNeg))) (6 : Int32).toNatClampNeg (-9)) (7 : Int32).toNatClampNeg (((sm 2) (7 : Int32).toNatClampNeg))) (4 : Int32).toNatClampNeg (((sm 2) (4 : Int32).toNatClampNeg))) (5 : Int32).toNatClampNeg (((sm 2) (5 : Int32).toNatClampNeg))) (6 : Int32).toNatClampNeg (((sm 2) (6 : Int32).toNatClampNeg))) (7 : Int32).toNatClampNeg (((sm 2) (7 : Int32).toNatClampNeg))))))) else if (p0 &&& (8 : Int32)) = 8 then LetF (J_X12_layBest (up2 sm 2 (upd (upd (upd (upd (sm 2) (4 : Int32).toNatClampNeg (-9)) (5 : Int32).toNatClampNeg (((sm 2) (5 : Int32).toNatClampNeg))) (6 : Int32).toNatClampNeg (((sm 2) (6 : Int32).toNatClampNeg))) (7 : Int32).toNatClampNeg (-9))) tm 0) (fun y558 => LetF (J_X12_parts (((upd (upd (upd (upd (upd (upd (upd (upd (sm 2) (4 : Int32).toNatClampNeg (-9)) (5 : Int32).toNatClampNeg (((sm 2) (5 : Int32).toNatClampNeg))) (6 : Int32).toNatClampNeg (((sm 2) (6 : Int32).toNatClampNeg))) (7 : Int32).toNatClampNeg (-9)) (4 : Int32).toNatClampNeg (((sm 2) (4 : Int32).toNatClampNeg))) (5 : Int32).toNatClampNeg (((sm 2) (5 : Int32).toNatClampNeg))) (6 : Int32).toNatClampNeg (((sm 2) (6 : Int32).toNatClampNeg))) (7 : Int32).toNatClampNeg (((sm 2) (7 : Int32).toNatClampNeg))) (0 : Int32).toNatClampNeg))) (fun y591 => LetF (J_X12_told (((y558.1) (0 : Int32).toNatClampNeg)) y591 p1) (fun y595 => (y595, (y558.1), (y558.2.1), (y558.2.2), (upd (upd (upd (upd (upd (upd (upd (upd (sm 2) (4 : Int32).toNatClampNeg (-9)) (5 : Int32).toNatClampNeg (((sm 2) (5 : Int32).toNatClampNeg))) (6 : Int32).toNatClampNeg (((sm 2) (6 : Int32).toNatClampNeg))) (7 : Int32).toNatClampNeg (-9)) (4 : Int32).toNatClampNeg (((sm 2) (4 : Int32).toNatClampNeg))) (5 : Int32).toNatClampNeg (((sm 2) (5 : Int32).toNatClampNeg))) (6 : Int32).toNatClampNeg (((sm 2) (6 : Int32).toNatClampNeg))) (7 : Int32).toNatClampNeg (((sm 2) (7 : Int32).toNatClampNeg))))))) else LetF (J_X12_layBest (up2 sm 2 (upd (upd (upd (upd (sm 2) (4 : Int32).toNatClampNeg (-9)) (5 : Int32).toNatClampNeg (((sm 2) (5 : Int32).toNatClampNeg))) (6 : Int32).toNatClampNeg (((sm 2) (6 : Int32).toNatClampNeg))) (7 : Int32).toNatClampNeg (((sm 2) (7 : Int32).toNatClampNeg)))) tm 0) (fun y508 => LetF (J_X12_parts (((upd (upd (upd (upd (upd (upd (upd (upd (sm 2) (4 : Int32).toNatClampNeg (-9)) (5 : Int32).toNatClampNeg (((sm 2) (5 : Int32).toNatClampNeg))) (6 : Int32).toNatClampNeg (((sm 2) (6 : Int32).toNatClampNeg))) (7 : Int32).toNatClampNeg (((sm 2) (7 : Int32).toNatClampNeg))) (4 : Int32).toNatClampNeg (((sm 2) (4 : Int32).toNatClampNeg))) (5 : Int32).toNatClampNeg (((sm 2) (5 : Int32).toNatClampNeg))) (6 : Int32).toNatClampNeg (((sm 2) (6 : Int32).toNatClampNeg))) (7 : Int32).toNatClampNeg (((sm 2) (7 : Int32).toNatClampNeg))) (0 : Int32).toNatClampNeg))) (fun y541 => LetF (J_X12_told (((y508.1) (0 : Int32).toNatClampNeg)) y541 p1) (fun y545 => (y545, (y508.1), (y508.2.1), (y508.2.2), (upd (upd (upd (upd (upd (upd (upd (upd (sm 2) (4 : Int32).toNatClampNeg (-9)) (5 : Int32).toNatClampNeg (((sm 2) (5 : Int32).toNatClampNeg))) (6 : Int32).toNatClampNeg (((sm 2) (6 : Int32).toNatClampNeg))) (7 : Int32).toNatClampNeg (((sm 2) (7 : Int32).toNatClampNeg))) (4 : Int32).toNatClampNeg (((sm 2) (4 : Int32).toNatClampNeg))) (5 : Int32).toNatClampNeg (((sm 2) (5 : Int32).toNatClampNeg))) (6 : Int32).toNatClampNeg (((sm 2) (6 : Int32).toNatClampNeg))) (7 : Int32).toNatClampNeg (((sm 2) (7 : Int32).toNatClampNeg))))))) else if (p0 &&& (2 : Int32)) = 2 then if (p0 &&& (4 : Int32)) = 4 then if (p0 &&& (8 : Int32)) = 8 then LetF (J_X12_layBest (up2 sm 2 (upd (upd (upd (upd (sm 2) (4 : Int32).toNatClampNeg (((sm 2) (4 : Int32).toNatClampNeg))) (5 : Int32).toNatClampNeg (-9)) (6 : Int32).toNatClampNeg (-9)) (7 : Int32).toNatClampNeg (-9))) tm 0) (fun y434 => LetF (J_X12_parts (((upd (upd (upd (upd (upd (upd (upd (upd (sm 2) (4 : Int32).toNatClampNeg (((sm 2) (4 : Int32).toNatClampNeg))) (5 : Int32).toNatClampNeg (-9)) (6 : Int32).toNatClampNeg (-9)) (7 : Int32).toNatClampNeg (-9)) (4 : Int32).toNatClampNeg (((sm 2) (4 : Int32).toNatClampNeg))) (5 : Int32).toNatClampNeg (((sm 2) (5 : Int32).toNatClampNeg))) (6 : Int32).toNatClampNeg (((sm 2) (6 : Int32).toNatClampNeg))) (7 : Int32).toNatClampNeg (((sm 2) (7 : Int32).toNatClampNeg))) (0 : Int32).toNatClampNeg))) (fun y467 => LetF (J_X12_told (((y434.1) (0 : Int32).toNatClampNeg)) y467 p1) (fun y471 => (y471, (y434.1), (y434.2.1), (y434.2.2), (upd (upd (upd (upd (upd (upd (upd (upd (sm 2) (4 : Int32).toNatClampNeg (((sm 2) (4 : Int32).toNatClampNeg))) (5 : Int32).toNatClampNeg (-9)) (6 : Int32).toNatClampNeg (-9)) (7 : Int32).toNatClampNeg (-9)) (4 : Int32).toNatClampNeg (((sm 2) (4 : Int32).toNatClampNeg))) (5 : Int32).toNatClampNeg (((sm 2) (5 : Int32).toNatClampNeg))) (6 : Int32).toNatClampNeg (((sm 2) (6 : Int32).toNatClampNeg))) (7 : Int32).toNatClampNeg (((sm 2) (7 : Int32).toNatClampNeg))))))) else LetF (J_X12_layBest (up2 sm 2 (upd (upd (upd (upd (sm 2) (4 : Int32).toNatClampNeg (((sm 2) (4 : Int32).toNatClampNeg))) (5 : Int32).toNatClampNeg (-9)) (6 : Int32).toNatClampNeg (-9)) (7 : Int32).toNatClampNeg (((sm 2) (7 : Int32).toNatClampNeg)))) tm 0) (fun y384 => LetF (J_X12_parts (((upd (upd (upd (upd (upd (upd (upd (upd (sm 2) (4 : Int32).toNatClampNeg (((sm 2) (4 : Int32).toNatClampNeg))) (5 : Int32).toNatClampNeg (-9)) (6 : Int32).toNatClampNeg (-9)) (7 : Int32).toNatClampNeg (((sm 2) (7 : Int32).toNatClampNeg))) (4 : Int32).toNatClampNeg (((sm 2) (4 : Int32).toNatClampNeg))) (5 : Int32).toNatClampNeg (((sm 2) (5 : Int32).toNatClampNeg))) (6 : Int32).toNatClampNeg (((sm 2) (6 : Int32).toNatClampNeg))) (7 : Int32).toNatClampNeg (((sm 2) (7 : Int32).toNatClampNeg))) (0 : Int32).toNatClampNeg))) (fun y417 => LetF (J_X12_told (((y384.1) (0 : Int32).toNatClampNeg)) y417 p1) (fun y421 => (y421, (y384.1), (y384.2.1), (y384.2.2), (upd (upd (upd (upd (upd (upd (upd (upd (sm 2) (4 : Int32).toNatClampNeg (((sm 2) (4 : Int32).toNatClampNeg))) (5 : Int32).toNatClampNeg (-9)) (6 : Int32).toNatClampNeg (-9)) (7 : Int32).toNatClampNeg (((sm 2) (7 : Int32).toNatClampNeg))) (4 : Int32).toNatClampNeg (((sm 2) (4 : Int32).toNatClampNeg))) (5 : Int32).toNatClampNeg (((sm 2) (5 : Int32).toNatClampNeg))) (6 : Int32).toNatClampNeg (((sm 2) (6 : Int32).toNatClampNeg))) (7 : Int32).toNatClampNeg (((sm 2) (7 : Int32).toNatClampNeg))))))) else if (p0 &&& (8 : Int32)) = 8 then LetF (J_X12_layBest (up2 sm 2 (upd (upd (upd (upd (sm 2) (4 : Int32).toNatClampNeg (((sm 2) (4 : Int32).toNatClampNeg))) (5 : Int32).toNatClampNeg (-9)) (6 : Int32).toNatClampNeg (((sm 2) (6 : Int32).toNatClampNeg))) (7 : Int32).toNatClampNeg (-9))) tm 0) (fun y326 => LetF (J_X12_parts (((upd (upd (upd (upd (upd (upd (upd (upd (sm 2) (4 : Int32).toNatClampNeg (((sm 2) (4 : Int32).toNatClampNeg))) (5 : Int32).toNatClampNeg (-9)) (6 : Int32).toNatClampNeg (((sm 2) (6 : Int32).toNatClampNeg))) (7 : Int32).toNatClampNeg (-9)) (4 : Int32).toNatClampNeg (((sm 2) (4 : Int32).toNatClampNeg))) (5 : Int32).toNatClampNeg (((sm 2) (5 : Int32).toNatClampNeg))) (6 : Int32).toNatClampNeg (((sm 2) (6 : Int32).toNatClampNeg))) (7 : Int32).toNatClampNeg (((sm 2) (7 : Int32).toNatClampNeg))) (0 : Int32).toNatClampNeg))) (fun y359 => LetF (J_X12_told (((y326.1) (0 : Int32).toNatClampNeg)) y359 p1) (fun y363 => (y363, (y326.1), (y326.2.1), (y326.2.2), (upd (upd (upd (upd (upd (upd (upd (upd (sm 2) (4 : Int32).toNatClampNeg (((sm 2) (4 : Int32).toNatClampNeg))) (5 : Int32).toNatClampNeg (-9)) (6 : Int32).toNatClampNeg (((sm 2) (6 : Int32).toNatClampNeg))) (7 : Int32).toNatClampNeg (-9)) (4 : Int32).toNatClampNeg (((sm 2) (4 : Int32).toNatClampNeg))) (5 : Int32).toNatClampNeg (((sm 2) (5 : Int32).toNatClampNeg))) (6 : Int32).toNatClampNeg (((sm 2) (6 : Int32).toNatClampNeg))) (7 : Int32).toNatClampNeg (((sm 2) (7 : Int32).toNatClampNeg))))))) else LetF (J_X12_layBest (up2 sm 2 (upd (upd (upd (upd (sm 2) (4 : Int32).toNatClampNeg (((sm 2) (4 : Int32).toNatClampNeg))) (5 : Int32).toNatClampNeg (-9)) (6 : Int32).toNatClampNeg (((sm 2) (6 : Int32).toNatClampNeg))) (7 : Int32).toNatClampNeg (((sm 2) (7 : Int32).toNatClampNeg)))) tm 0) (fun y276 => LetF (J_X12_parts (((upd (upd (upd (upd (upd (upd (upd (upd (sm 2) (4 : Int32).toNatClampNeg (((sm 2) (4 : Int32).toNatClampNeg))) (5 : Int32).toNatClampNeg (-9)) (6 : Int32).toNatClampNeg (((sm 2) (6 : Int32).toNatClampNeg))) (7 : Int32).toNatClampNeg (((sm 2) (7 : Int32).toNatClampNeg))) (4 : Int32).toNatClampNeg (((sm 2) (4 : Int32).toNatClampNeg))) (5 : Int32).toNatClampNeg (((sm 2) (5 : Int32).toNatClampNeg))) (6 : Int32).toNatClampNeg (((sm 2) (6 : Int32).toNatClampNeg))) (7 : Int32).toNatClampNeg (((sm 2) (7 : Int32).toNatClampNeg))) (0 : Int32).toNatClampNeg))) (fun y309 => LetF (J_X12_told (((y276.1) (0 : Int32).toNatClampNeg)) y309 p1) (fun y313 => (y313, (y276.1), (y276.2.1), (y276.2.2), (upd (upd (upd (upd (upd (upd (upd (upd (sm 2) (4 : Int32).toNatClampNeg (((sm 2) (4 : Int32).toNatClampNeg))) (5 : Int32).toNatClampNeg (-9)) (6 : Int32).toNatClampNeg (((sm 2) (6 : Int32).toNatClampNeg))) (7 : Int32).toNatClampNeg (((sm 2) (7 : Int32).toNatClampNeg))) (4 : Int32).toNatClampNeg (((sm 2) (4 : Int32).toNatClampNeg))) (5 : Int32).toNatClampNeg (((sm 2) (5 : Int32).toNatClampNeg))) (6 : Int32).toNatClampNeg (((sm 2) (6 : Int32).toNatClampNeg))) (7 : Int32).toNatClampNeg (((sm 2) (7 : Int32).toNatClampNeg))))))) else if (p0 &&& (4 : Int32)) = 4 then if (p0 &&& (8 : Int32)) = 8 then LetF (J_X12_layBest (up2 sm 2 (upd (upd (upd (upd (sm 2) (4 : Int32).toNatClampNeg (((sm 2) (4 : Int32).toNatClampNeg))) (5 : Int32).toNatClampNeg (((sm 2) (5 : Int32).toNatClampNeg))) (6 : Int32).toNatClampNeg (-9)) (7 : Int32).toNatClampNeg (-9))) tm 0) (fun y210 => LetF (J_X12_parts (((upd (upd (upd (upd (upd (upd (upd (upd (sm 2) (4 : Int32).toNatClampNeg (((sm 2) (4 : Int32).toNatClampNeg))) (5 : Int32).toNatClampNeg (((sm 2) (5 : Int32).toNatClampNeg))) (6 : Int32).toNatClampNeg (-9)) (7 : Int32).toNatClampNeg (-9)) (4 : Int32).toNatClampNeg (((sm 2) (4 : Int32).toNatClampNeg))) (5 : Int32).toNatClampNeg (((sm 2) (5 : Int32).toNatClampNeg))) (6 : Int32).toNatClampNeg (((sm 2) (6 : Int32).toNatClampNeg))) (7 : Int32).toNatClampNeg (((sm 2) (7 : Int32).toNatClampNeg))) (0 : Int32).toNatClampNeg))) (fun y243 => LetF (J_X12_told (((y210.1) (0 : Int32).toNatClampNeg)) y243 p1) (fun y247 => (y247, (y210.1), (y210.2.1), (y210.2.2), (upd (upd (upd (upd (upd (upd (upd (upd (sm 2) (4 : Int32).toNatClampNeg (((sm 2) (4 : Int32).toNatClampNeg))) (5 : Int32).toNatClampNeg (((sm 2) (5 : Int32).toNatClampNeg))) (6 : Int32).toNatClampNeg (-9)) (7 : Int32).toNatClampNeg (-9)) (4 : Int32).toNatClampNeg (((sm 2) (4 : Int32).toNatClampNeg))) (5 : Int32).toNatClampNeg (((sm 2) (5 : Int32).toNatClampNeg))) (6 : Int32).toNatClampNeg (((sm 2) (6 : Int32).toNatClampNeg))) (7 : Int32).toNatClampNeg (((sm 2) (7 : Int32).toNatClampNeg))))))) else LetF (J_X12_layBest (up2 sm 2 (upd (upd (upd (upd (sm 2) (4 : Int32).toNatClampNeg (((sm 2) (4 : Int32).toNatClampNeg))) (5 : Int32).toNatClampNeg (((sm 2) (5 : Int32).toNatClampNeg))) (6 : Int32).toNatClampNeg (-9)) (7 : Int32).toNatClampNeg (((sm 2) (7 : Int32).toNatClampNeg)))) tm 0) (fun y160 => LetF (J_X12_parts (((upd (upd (upd (upd (upd (upd (upd (upd (sm 2) (4 : Int32).toNatClampNeg (((sm 2) (4 : Int32).toNatClampNeg))) (5 : Int32).toNatClampNeg (((sm 2) (5 : Int32).toNatClampNeg))) (6 : Int32).toNatClampNeg (-9)) (7 : Int32).toNatClampNeg (((sm 2) (7 : Int32).toNatClampNeg))) (4 : Int32).toNatClampNeg (((sm 2) (4 : Int32).toNatClampNeg))) (5 : Int32).toNatClampNeg (((sm 2) (5 : Int32).toNatClampNeg))) (6 : Int32).toNatClampNeg (((sm 2) (6 : Int32).toNatClampNeg))) (7 : Int32).toNatClampNeg (((sm 2) (7 : Int32).toNatClampNeg))) (0 : Int32).toNatClampNeg))) (fun y193 => LetF (J_X12_told (((y160.1) (0 : Int32).toNatClampNeg)) y193 p1) (fun y197 => (y197, (y160.1), (y160.2.1), (y160.2.2), (upd (upd (upd (upd (upd (upd (upd (upd (sm 2) (4 : Int32).toNatClampNeg (((sm 2) (4 : Int32).toNatClampNeg))) (5 : Int32).toNatClampNeg (((sm 2) (5 : Int32).toNatClampNeg))) (6 : Int32).toNatClampNeg (-9)) (7 : Int32).toNatClampNeg (((sm 2) (7 : Int32).toNatClampNeg))) (4 : Int32).toNatClampNeg (((sm 2) (4 : Int32).toNatClampNeg))) (5 : Int32).toNatClampNeg (((sm 2) (5 : Int32).toNatClampNeg))) (6 : Int32).toNatClampNeg (((sm 2) (6 : Int32).toNatClampNeg))) (7 : Int32).toNatClampNeg (((sm 2) (7 : Int32).toNatClampNeg))))))) else if (p0 &&& (8 : Int32)) = 8 then LetF (J_X12_layBest (up2 sm 2 (upd (upd (upd (upd (sm 2) (4 : Int32).toNatClampNeg (((sm 2) (4 : Int32).toNatClampNeg))) (5 : Int32).toNatClampNeg (((sm 2) (5 : Int32).toNatClampNeg))) (6 : Int32).toNatClampNeg (((sm 2) (6 : Int32).toNatClampNeg))) (7 : Int32).toNatClampNeg (-9))) tm 0) (fun y102 => LetF (J_X12_parts (((upd (upd (upd (upd (upd (upd (upd (upd (sm 2) (4 : Int32).toNatClampNeg (((sm 2) (4 : Int32).toNatClampNeg))) (5 : Int32).toNatClampNeg (((sm 2) (5 : Int32).toNatClampNeg))) (6 : Int32).toNatClampNeg (((sm 2) (6 : Int32).toNatClampNeg))) (7 : Int32).toNatClampNeg (-9)) (4 : Int32).toNatClampNeg (((sm 2) (4 : Int32).toNatClampNeg))) (5 : Int32).toNatClampNeg (((sm 2) (5 : Int32).toNatClampNeg))) (6 : Int32).toNatClampNeg (((sm 2) (6 : Int32).toNatClampNeg))) (7 : Int32).toNatClampNeg (((sm 2) (7 : Int32).toNatClampNeg))) (0 : Int32).toNatClampNeg))) (fun y135 => LetF (J_X12_told (((y102.1) (0 : Int32).toNatClampNeg)) y135 p1) (fun y139 => (y139, (y102.1), (y102.2.1), (y102.2.2), (upd (upd (upd (upd (upd (upd (upd (upd (sm 2) (4 : Int32).toNatClampNeg (((sm 2) (4 : Int32).toNatClampNeg))) (5 : Int32).toNatClampNeg (((sm 2) (5 : Int32).toNatClampNeg))) (6 : Int32).toNatClampNeg (((sm 2) (6 : Int32).toNatClampNeg))) (7 : Int32).toNatClampNeg (-9)) (4 : Int32).toNatClampNeg (((sm 2) (4 : Int32).toNatClampNeg))) (5 : Int32).toNatClampNeg (((sm 2) (5 : Int32).toNatClampNeg))) (6 : Int32).toNatClampNeg (((sm 2) (6 : Int32).toNatClampNeg))) (7 : Int32).toNatClampNeg (((sm 2) (7 : Int32).toNatClampNeg))))))) else LetF (J_X12_layBest (up2 sm 2 (upd (upd (upd (upd (sm 2) (4 : Int32).toNatClampNeg (((sm 2) (4 : Int32).toNatClampNeg))) (5 : Int32).toNatClampNeg (((sm 2) (5 : Int32).toNatClampNeg))) (6 : Int32).toNatClampNeg (((sm 2) (6 : Int32).toNatClampNeg))) (7 : Int32).toNatClampNeg (((sm 2) (7 : Int32).toNatClampNeg)))) tm 0) (fun y52 => LetF (J_X12_parts (((upd (upd (upd (upd (upd (upd (upd (upd (sm 2) (4 : Int32).toNatClampNeg (((sm 2) (4 : Int32).toNatClampNeg))) (5 : Int32).toNatClampNeg (((sm 2) (5 : Int32).toNatClampNeg))) (6 : Int32).toNatClampNeg (((sm 2) (6 : Int32).toNatClampNeg))) (7 : Int32).toNatClampNeg (((sm 2) (7 : Int32).toNatClampNeg))) (4 : Int32).toNatClampNeg (((sm 2) (4 : Int32).toNatClampNeg))) (5 : Int32).toNatClampNeg (((sm 2) (5 : Int32).toNatClampNeg))) (6 : Int32).toNatClampNeg (((sm 2) (6 : Int32).toNatClampNeg))) (7 : Int32).toNatClampNeg (((sm 2) (7 : Int32).toNatClampNeg))) (0 : Int32).toNatClampNeg))) (fun y85 => LetF (J_X12_told (((y52.1) (0 : Int32).toNatClampNeg)) y85 p1) (fun y89 => (y89, (y52.1), (y52.2.1), (y52.2.2), (upd (upd (upd (upd (upd (upd (upd (upd (sm 2) (4 : Int32).toNatClampNeg (((sm 2) (4 : Int32).toNatClampNeg))) (5 : Int32).toNatClampNeg (((sm 2) (5 : Int32).toNatClampNeg))) (6 : Int32).toNatClampNeg (((sm 2) (6 : Int32).toNatClampNeg))) (7 : Int32).toNatClampNeg (((sm 2) (7 : Int32).toNatClampNeg))) (4 : Int32).toNatClampNeg (((sm 2) (4 : Int32).toNatClampNeg))) (5 : Int32).toNatClampNeg (((sm 2) (5 : Int32).toNatClampNeg))) (6 : Int32).toNatClampNeg (((sm 2) (6 : Int32).toNatClampNeg))) (7 : Int32).toNatClampNeg (((sm 2) (7 : Int32).toNatClampNeg)))))))
theorem exl_X12_without_0 {sm : Nat → Nat → Int32} {tm : Nat → Nat → Int64} {p0 : Int32} {p1 : Int32} {r87 : Int64} {m48 : Nat → Int64} {m49 : Nat → Int64} {m50 : Nat → Int32} {g72 : Nat → Int32} {v1 : Int64} {r3 : Int32} {v7 : Int32} {v9 : Int32} {v11 : Int32} {v13 : Int32} {v14 : Int32} {g17 : Nat → Int32} {v22 : Int32} {g25 : Nat → Int32} {v30 : Int32} {g33 : Nat → Int32} {v38 : Int32} {g41 : Nat → Int32} {g54 : Nat → Int32} {g60 : Nat → Int32} {g66 : Nat → Int32} {v78 : Int64} {v80 : Int32} {r82 : Int64} (e1 : v1 = (p0 : Int32).toInt64) (w4 : r3 = J_X12_in v1 (0 : Int64) (15 : Int64)) (e7 : v7 = ((sm 2) ((4 : Int32).toNatClampNeg))) (e9 : v9 = ((sm 2) ((5 : Int32).toNatClampNeg))) (e11 : v11 = ((sm 2) ((6 : Int32).toNatClampNeg))) (e13 : v13 = ((sm 2) ((7 : Int32).toNatClampNeg))) (e14 : v14 = (p0 &&& (1 : Int32))) (eg17 : g17 = upd (sm 2) ((4 : Int32).toNatClampNeg) v7) (e22 : v22 = (p0 &&& (2 : Int32))) (eg25 : g25 = upd g17 ((5 : Int32).toNatClampNeg) v9) (e30 : v30 = (p0 &&& (4 : Int32))) (eg33 : g33 = upd g25 ((6 : Int32).toNatClampNeg) v11) (e38 : v38 = (p0 &&& (8 : Int32))) (eg41 : g41 = upd g33 ((7 : Int32).toNatClampNeg) v13) (eg54 : g54 = upd g41 ((4 : Int32).toNatClampNeg) v7) (eg60 : g60 = upd g54 ((5 : Int32).toNatClampNeg) v9) (eg66 : g66 = upd g60 ((6 : Int32).toNatClampNeg) v11) (eg72 : g72 = upd g66 ((7 : Int32).toNatClampNeg) v13) (e78 : v78 = (m48 ((0 : Int32).toNatClampNeg))) (e80 : v80 = (g72 ((0 : Int32).toNatClampNeg))) (c5 : ¬ (r3 = (0 : Int32))) (c15 : ¬ (v14 = (1 : Int32))) (c23 : ¬ (v22 = (2 : Int32))) (c31 : ¬ (v30 = (4 : Int32))) (c39 : ¬ (v38 = (8 : Int32))) (w51 : (m48, m49, m50) = J_X12_layBest (up2 sm 2 g41) tm (0 : Int32)) (w84 : r82 = J_X12_parts v80) (w88 : r87 = J_X12_told v78 r82 p1) : (r87, m48, m49, m50, g72) = J_X12_without sm tm p0 p1 := by subst e1 w4 e7 e9 e11 e13 e14 eg17 e22 eg25 e30 eg33 e38 eg41 eg54 eg60 eg66 eg72 e78 e80; refine Eq.symm ?_; unfold J_X12_without; refine Eq.trans (if_neg c5) ?_; refine Eq.trans (if_neg c15) ?_; refine Eq.trans (if_neg c23) ?_; refine Eq.trans (if_neg c31) ?_; refine Eq.trans (if_neg c39) ?_; refine lt_e w51 ?_; refine lt_e w84 ?_; refine lt_e w88 ?_; rfl
theorem exl_X12_without_1 {sm : Nat → Nat → Int32} {tm : Nat → Nat → Int64} {p0 : Int32} {p1 : Int32} {r137 : Int64} {m98 : Nat → Int64} {m99 : Nat → Int64} {m100 : Nat → Int32} {g122 : Nat → Int32} {v1 : Int64} {r3 : Int32} {v7 : Int32} {v9 : Int32} {v11 : Int32} {v13 : Int32} {v14 : Int32} {g17 : Nat → Int32} {v22 : Int32} {g25 : Nat → Int32} {v30 : Int32} {g33 : Nat → Int32} {v38 : Int32} {g91 : Nat → Int32} {g104 : Nat → Int32} {g110 : Nat → Int32} {g116 : Nat → Int32} {v128 : Int64} {v130 : Int32} {r132 : Int64} (e1 : v1 = (p0 : Int32).toInt64) (w4 : r3 = J_X12_in v1 (0 : Int64) (15 : Int64)) (e7 : v7 = ((sm 2) ((4 : Int32).toNatClampNeg))) (e9 : v9 = ((sm 2) ((5 : Int32).toNatClampNeg))) (e11 : v11 = ((sm 2) ((6 : Int32).toNatClampNeg))) (e13 : v13 = ((sm 2) ((7 : Int32).toNatClampNeg))) (e14 : v14 = (p0 &&& (1 : Int32))) (eg17 : g17 = upd (sm 2) ((4 : Int32).toNatClampNeg) v7) (e22 : v22 = (p0 &&& (2 : Int32))) (eg25 : g25 = upd g17 ((5 : Int32).toNatClampNeg) v9) (e30 : v30 = (p0 &&& (4 : Int32))) (eg33 : g33 = upd g25 ((6 : Int32).toNatClampNeg) v11) (e38 : v38 = (p0 &&& (8 : Int32))) (eg91 : g91 = upd g33 ((7 : Int32).toNatClampNeg) ((-9) : Int32)) (eg104 : g104 = upd g91 ((4 : Int32).toNatClampNeg) v7) (eg110 : g110 = upd g104 ((5 : Int32).toNatClampNeg) v9) (eg116 : g116 = upd g110 ((6 : Int32).toNatClampNeg) v11) (eg122 : g122 = upd g116 ((7 : Int32).toNatClampNeg) v13) (e128 : v128 = (m98 ((0 : Int32).toNatClampNeg))) (e130 : v130 = (g122 ((0 : Int32).toNatClampNeg))) (c5 : ¬ (r3 = (0 : Int32))) (c15 : ¬ (v14 = (1 : Int32))) (c23 : ¬ (v22 = (2 : Int32))) (c31 : ¬ (v30 = (4 : Int32))) (c39 : v38 = (8 : Int32)) (w101 : (m98, m99, m100) = J_X12_layBest (up2 sm 2 g91) tm (0 : Int32)) (w134 : r132 = J_X12_parts v130) (w138 : r137 = J_X12_told v128 r132 p1) : (r137, m98, m99, m100, g122) = J_X12_without sm tm p0 p1 := by subst e1 w4 e7 e9 e11 e13 e14 eg17 e22 eg25 e30 eg33 e38 eg91 eg104 eg110 eg116 eg122 e128 e130; refine Eq.symm ?_; unfold J_X12_without; refine Eq.trans (if_neg c5) ?_; refine Eq.trans (if_neg c15) ?_; refine Eq.trans (if_neg c23) ?_; refine Eq.trans (if_neg c31) ?_; refine Eq.trans (if_pos c39) ?_; refine lt_e w101 ?_; refine lt_e w134 ?_; refine lt_e w138 ?_; rfl
theorem exl_X12_without_2 {sm : Nat → Nat → Int32} {tm : Nat → Nat → Int64} {p0 : Int32} {p1 : Int32} {r195 : Int64} {m156 : Nat → Int64} {m157 : Nat → Int64} {m158 : Nat → Int32} {g180 : Nat → Int32} {v1 : Int64} {r3 : Int32} {v7 : Int32} {v9 : Int32} {v11 : Int32} {v13 : Int32} {v14 : Int32} {g17 : Nat → Int32} {v22 : Int32} {g25 : Nat → Int32} {v30 : Int32} {g141 : Nat → Int32} {v146 : Int32} {g149 : Nat → Int32} {g162 : Nat → Int32} {g168 : Nat → Int32} {g174 : Nat → Int32} {v186 : Int64} {v188 : Int32} {r190 : Int64} (e1 : v1 = (p0 : Int32).toInt64) (w4 : r3 = J_X12_in v1 (0 : Int64) (15 : Int64)) (e7 : v7 = ((sm 2) ((4 : Int32).toNatClampNeg))) (e9 : v9 = ((sm 2) ((5 : Int32).toNatClampNeg))) (e11 : v11 = ((sm 2) ((6 : Int32).toNatClampNeg))) (e13 : v13 = ((sm 2) ((7 : Int32).toNatClampNeg))) (e14 : v14 = (p0 &&& (1 : Int32))) (eg17 : g17 = upd (sm 2) ((4 : Int32).toNatClampNeg) v7) (e22 : v22 = (p0 &&& (2 : Int32))) (eg25 : g25 = upd g17 ((5 : Int32).toNatClampNeg) v9) (e30 : v30 = (p0 &&& (4 : Int32))) (eg141 : g141 = upd g25 ((6 : Int32).toNatClampNeg) ((-9) : Int32)) (e146 : v146 = (p0 &&& (8 : Int32))) (eg149 : g149 = upd g141 ((7 : Int32).toNatClampNeg) v13) (eg162 : g162 = upd g149 ((4 : Int32).toNatClampNeg) v7) (eg168 : g168 = upd g162 ((5 : Int32).toNatClampNeg) v9) (eg174 : g174 = upd g168 ((6 : Int32).toNatClampNeg) v11) (eg180 : g180 = upd g174 ((7 : Int32).toNatClampNeg) v13) (e186 : v186 = (m156 ((0 : Int32).toNatClampNeg))) (e188 : v188 = (g180 ((0 : Int32).toNatClampNeg))) (c5 : ¬ (r3 = (0 : Int32))) (c15 : ¬ (v14 = (1 : Int32))) (c23 : ¬ (v22 = (2 : Int32))) (c31 : v30 = (4 : Int32)) (c147 : ¬ (v146 = (8 : Int32))) (w159 : (m156, m157, m158) = J_X12_layBest (up2 sm 2 g149) tm (0 : Int32)) (w192 : r190 = J_X12_parts v188) (w196 : r195 = J_X12_told v186 r190 p1) : (r195, m156, m157, m158, g180) = J_X12_without sm tm p0 p1 := by subst e1 w4 e7 e9 e11 e13 e14 eg17 e22 eg25 e30 eg141 e146 eg149 eg162 eg168 eg174 eg180 e186 e188; refine Eq.symm ?_; unfold J_X12_without; refine Eq.trans (if_neg c5) ?_; refine Eq.trans (if_neg c15) ?_; refine Eq.trans (if_neg c23) ?_; refine Eq.trans (if_pos c31) ?_; refine Eq.trans (if_neg c147) ?_; refine lt_e w159 ?_; refine lt_e w192 ?_; refine lt_e w196 ?_; rfl
theorem exl_X12_without_3 {sm : Nat → Nat → Int32} {tm : Nat → Nat → Int64} {p0 : Int32} {p1 : Int32} {r245 : Int64} {m206 : Nat → Int64} {m207 : Nat → Int64} {m208 : Nat → Int32} {g230 : Nat → Int32} {v1 : Int64} {r3 : Int32} {v7 : Int32} {v9 : Int32} {v11 : Int32} {v13 : Int32} {v14 : Int32} {g17 : Nat → Int32} {v22 : Int32} {g25 : Nat → Int32} {v30 : Int32} {g141 : Nat → Int32} {v146 : Int32} {g199 : Nat → Int32} {g212 : Nat → Int32} {g218 : Nat → Int32} {g224 : Nat → Int32} {v236 : Int64} {v238 : Int32} {r240 : Int64} (e1 : v1 = (p0 : Int32).toInt64) (w4 : r3 = J_X12_in v1 (0 : Int64) (15 : Int64)) (e7 : v7 = ((sm 2) ((4 : Int32).toNatClampNeg))) (e9 : v9 = ((sm 2) ((5 : Int32).toNatClampNeg))) (e11 : v11 = ((sm 2) ((6 : Int32).toNatClampNeg))) (e13 : v13 = ((sm 2) ((7 : Int32).toNatClampNeg))) (e14 : v14 = (p0 &&& (1 : Int32))) (eg17 : g17 = upd (sm 2) ((4 : Int32).toNatClampNeg) v7) (e22 : v22 = (p0 &&& (2 : Int32))) (eg25 : g25 = upd g17 ((5 : Int32).toNatClampNeg) v9) (e30 : v30 = (p0 &&& (4 : Int32))) (eg141 : g141 = upd g25 ((6 : Int32).toNatClampNeg) ((-9) : Int32)) (e146 : v146 = (p0 &&& (8 : Int32))) (eg199 : g199 = upd g141 ((7 : Int32).toNatClampNeg) ((-9) : Int32)) (eg212 : g212 = upd g199 ((4 : Int32).toNatClampNeg) v7) (eg218 : g218 = upd g212 ((5 : Int32).toNatClampNeg) v9) (eg224 : g224 = upd g218 ((6 : Int32).toNatClampNeg) v11) (eg230 : g230 = upd g224 ((7 : Int32).toNatClampNeg) v13) (e236 : v236 = (m206 ((0 : Int32).toNatClampNeg))) (e238 : v238 = (g230 ((0 : Int32).toNatClampNeg))) (c5 : ¬ (r3 = (0 : Int32))) (c15 : ¬ (v14 = (1 : Int32))) (c23 : ¬ (v22 = (2 : Int32))) (c31 : v30 = (4 : Int32)) (c147 : v146 = (8 : Int32)) (w209 : (m206, m207, m208) = J_X12_layBest (up2 sm 2 g199) tm (0 : Int32)) (w242 : r240 = J_X12_parts v238) (w246 : r245 = J_X12_told v236 r240 p1) : (r245, m206, m207, m208, g230) = J_X12_without sm tm p0 p1 := by subst e1 w4 e7 e9 e11 e13 e14 eg17 e22 eg25 e30 eg141 e146 eg199 eg212 eg218 eg224 eg230 e236 e238; refine Eq.symm ?_; unfold J_X12_without; refine Eq.trans (if_neg c5) ?_; refine Eq.trans (if_neg c15) ?_; refine Eq.trans (if_neg c23) ?_; refine Eq.trans (if_pos c31) ?_; refine Eq.trans (if_pos c147) ?_; refine lt_e w209 ?_; refine lt_e w242 ?_; refine lt_e w246 ?_; rfl
theorem exl_X12_without_4 {sm : Nat → Nat → Int32} {tm : Nat → Nat → Int64} {p0 : Int32} {p1 : Int32} {r311 : Int64} {m272 : Nat → Int64} {m273 : Nat → Int64} {m274 : Nat → Int32} {g296 : Nat → Int32} {v1 : Int64} {r3 : Int32} {v7 : Int32} {v9 : Int32} {v11 : Int32} {v13 : Int32} {v14 : Int32} {g17 : Nat → Int32} {v22 : Int32} {g249 : Nat → Int32} {v254 : Int32} {g257 : Nat → Int32} {v262 : Int32} {g265 : Nat → Int32} {g278 : Nat → Int32} {g284 : Nat → Int32} {g290 : Nat → Int32} {v302 : Int64} {v304 : Int32} {r306 : Int64} (e1 : v1 = (p0 : Int32).toInt64) (w4 : r3 = J_X12_in v1 (0 : Int64) (15 : Int64)) (e7 : v7 = ((sm 2) ((4 : Int32).toNatClampNeg))) (e9 : v9 = ((sm 2) ((5 : Int32).toNatClampNeg))) (e11 : v11 = ((sm 2) ((6 : Int32).toNatClampNeg))) (e13 : v13 = ((sm 2) ((7 : Int32).toNatClampNeg))) (e14 : v14 = (p0 &&& (1 : Int32))) (eg17 : g17 = upd (sm 2) ((4 : Int32).toNatClampNeg) v7) (e22 : v22 = (p0 &&& (2 : Int32))) (eg249 : g249 = upd g17 ((5 : Int32).toNatClampNeg) ((-9) : Int32)) (e254 : v254 = (p0 &&& (4 : Int32))) (eg257 : g257 = upd g249 ((6 : Int32).toNatClampNeg) v11) (e262 : v262 = (p0 &&& (8 : Int32))) (eg265 : g265 = upd g257 ((7 : Int32).toNatClampNeg) v13) (eg278 : g278 = upd g265 ((4 : Int32).toNatClampNeg) v7) (eg284 : g284 = upd g278 ((5 : Int32).toNatClampNeg) v9) (eg290 : g290 = upd g284 ((6 : Int32).toNatClampNeg) v11) (eg296 : g296 = upd g290 ((7 : Int32).toNatClampNeg) v13) (e302 : v302 = (m272 ((0 : Int32).toNatClampNeg))) (e304 : v304 = (g296 ((0 : Int32).toNatClampNeg))) (c5 : ¬ (r3 = (0 : Int32))) (c15 : ¬ (v14 = (1 : Int32))) (c23 : v22 = (2 : Int32)) (c255 : ¬ (v254 = (4 : Int32))) (c263 : ¬ (v262 = (8 : Int32))) (w275 : (m272, m273, m274) = J_X12_layBest (up2 sm 2 g265) tm (0 : Int32)) (w308 : r306 = J_X12_parts v304) (w312 : r311 = J_X12_told v302 r306 p1) : (r311, m272, m273, m274, g296) = J_X12_without sm tm p0 p1 := by subst e1 w4 e7 e9 e11 e13 e14 eg17 e22 eg249 e254 eg257 e262 eg265 eg278 eg284 eg290 eg296 e302 e304; refine Eq.symm ?_; unfold J_X12_without; refine Eq.trans (if_neg c5) ?_; refine Eq.trans (if_neg c15) ?_; refine Eq.trans (if_pos c23) ?_; refine Eq.trans (if_neg c255) ?_; refine Eq.trans (if_neg c263) ?_; refine lt_e w275 ?_; refine lt_e w308 ?_; refine lt_e w312 ?_; rfl
theorem exl_X12_without_5 {sm : Nat → Nat → Int32} {tm : Nat → Nat → Int64} {p0 : Int32} {p1 : Int32} {r361 : Int64} {m322 : Nat → Int64} {m323 : Nat → Int64} {m324 : Nat → Int32} {g346 : Nat → Int32} {v1 : Int64} {r3 : Int32} {v7 : Int32} {v9 : Int32} {v11 : Int32} {v13 : Int32} {v14 : Int32} {g17 : Nat → Int32} {v22 : Int32} {g249 : Nat → Int32} {v254 : Int32} {g257 : Nat → Int32} {v262 : Int32} {g315 : Nat → Int32} {g328 : Nat → Int32} {g334 : Nat → Int32} {g340 : Nat → Int32} {v352 : Int64} {v354 : Int32} {r356 : Int64} (e1 : v1 = (p0 : Int32).toInt64) (w4 : r3 = J_X12_in v1 (0 : Int64) (15 : Int64)) (e7 : v7 = ((sm 2) ((4 : Int32).toNatClampNeg))) (e9 : v9 = ((sm 2) ((5 : Int32).toNatClampNeg))) (e11 : v11 = ((sm 2) ((6 : Int32).toNatClampNeg))) (e13 : v13 = ((sm 2) ((7 : Int32).toNatClampNeg))) (e14 : v14 = (p0 &&& (1 : Int32))) (eg17 : g17 = upd (sm 2) ((4 : Int32).toNatClampNeg) v7) (e22 : v22 = (p0 &&& (2 : Int32))) (eg249 : g249 = upd g17 ((5 : Int32).toNatClampNeg) ((-9) : Int32)) (e254 : v254 = (p0 &&& (4 : Int32))) (eg257 : g257 = upd g249 ((6 : Int32).toNatClampNeg) v11) (e262 : v262 = (p0 &&& (8 : Int32))) (eg315 : g315 = upd g257 ((7 : Int32).toNatClampNeg) ((-9) : Int32)) (eg328 : g328 = upd g315 ((4 : Int32).toNatClampNeg) v7) (eg334 : g334 = upd g328 ((5 : Int32).toNatClampNeg) v9) (eg340 : g340 = upd g334 ((6 : Int32).toNatClampNeg) v11) (eg346 : g346 = upd g340 ((7 : Int32).toNatClampNeg) v13) (e352 : v352 = (m322 ((0 : Int32).toNatClampNeg))) (e354 : v354 = (g346 ((0 : Int32).toNatClampNeg))) (c5 : ¬ (r3 = (0 : Int32))) (c15 : ¬ (v14 = (1 : Int32))) (c23 : v22 = (2 : Int32)) (c255 : ¬ (v254 = (4 : Int32))) (c263 : v262 = (8 : Int32)) (w325 : (m322, m323, m324) = J_X12_layBest (up2 sm 2 g315) tm (0 : Int32)) (w358 : r356 = J_X12_parts v354) (w362 : r361 = J_X12_told v352 r356 p1) : (r361, m322, m323, m324, g346) = J_X12_without sm tm p0 p1 := by subst e1 w4 e7 e9 e11 e13 e14 eg17 e22 eg249 e254 eg257 e262 eg315 eg328 eg334 eg340 eg346 e352 e354; refine Eq.symm ?_; unfold J_X12_without; refine Eq.trans (if_neg c5) ?_; refine Eq.trans (if_neg c15) ?_; refine Eq.trans (if_pos c23) ?_; refine Eq.trans (if_neg c255) ?_; refine Eq.trans (if_pos c263) ?_; refine lt_e w325 ?_; refine lt_e w358 ?_; refine lt_e w362 ?_; rfl
theorem exl_X12_without_6 {sm : Nat → Nat → Int32} {tm : Nat → Nat → Int64} {p0 : Int32} {p1 : Int32} {r419 : Int64} {m380 : Nat → Int64} {m381 : Nat → Int64} {m382 : Nat → Int32} {g404 : Nat → Int32} {v1 : Int64} {r3 : Int32} {v7 : Int32} {v9 : Int32} {v11 : Int32} {v13 : Int32} {v14 : Int32} {g17 : Nat → Int32} {v22 : Int32} {g249 : Nat → Int32} {v254 : Int32} {g365 : Nat → Int32} {v370 : Int32} {g373 : Nat → Int32} {g386 : Nat → Int32} {g392 : Nat → Int32} {g398 : Nat → Int32} {v410 : Int64} {v412 : Int32} {r414 : Int64} (e1 : v1 = (p0 : Int32).toInt64) (w4 : r3 = J_X12_in v1 (0 : Int64) (15 : Int64)) (e7 : v7 = ((sm 2) ((4 : Int32).toNatClampNeg))) (e9 : v9 = ((sm 2) ((5 : Int32).toNatClampNeg))) (e11 : v11 = ((sm 2) ((6 : Int32).toNatClampNeg))) (e13 : v13 = ((sm 2) ((7 : Int32).toNatClampNeg))) (e14 : v14 = (p0 &&& (1 : Int32))) (eg17 : g17 = upd (sm 2) ((4 : Int32).toNatClampNeg) v7) (e22 : v22 = (p0 &&& (2 : Int32))) (eg249 : g249 = upd g17 ((5 : Int32).toNatClampNeg) ((-9) : Int32)) (e254 : v254 = (p0 &&& (4 : Int32))) (eg365 : g365 = upd g249 ((6 : Int32).toNatClampNeg) ((-9) : Int32)) (e370 : v370 = (p0 &&& (8 : Int32))) (eg373 : g373 = upd g365 ((7 : Int32).toNatClampNeg) v13) (eg386 : g386 = upd g373 ((4 : Int32).toNatClampNeg) v7) (eg392 : g392 = upd g386 ((5 : Int32).toNatClampNeg) v9) (eg398 : g398 = upd g392 ((6 : Int32).toNatClampNeg) v11) (eg404 : g404 = upd g398 ((7 : Int32).toNatClampNeg) v13) (e410 : v410 = (m380 ((0 : Int32).toNatClampNeg))) (e412 : v412 = (g404 ((0 : Int32).toNatClampNeg))) (c5 : ¬ (r3 = (0 : Int32))) (c15 : ¬ (v14 = (1 : Int32))) (c23 : v22 = (2 : Int32)) (c255 : v254 = (4 : Int32)) (c371 : ¬ (v370 = (8 : Int32))) (w383 : (m380, m381, m382) = J_X12_layBest (up2 sm 2 g373) tm (0 : Int32)) (w416 : r414 = J_X12_parts v412) (w420 : r419 = J_X12_told v410 r414 p1) : (r419, m380, m381, m382, g404) = J_X12_without sm tm p0 p1 := by subst e1 w4 e7 e9 e11 e13 e14 eg17 e22 eg249 e254 eg365 e370 eg373 eg386 eg392 eg398 eg404 e410 e412; refine Eq.symm ?_; unfold J_X12_without; refine Eq.trans (if_neg c5) ?_; refine Eq.trans (if_neg c15) ?_; refine Eq.trans (if_pos c23) ?_; refine Eq.trans (if_pos c255) ?_; refine Eq.trans (if_neg c371) ?_; refine lt_e w383 ?_; refine lt_e w416 ?_; refine lt_e w420 ?_; rfl
theorem exl_X12_without_7 {sm : Nat → Nat → Int32} {tm : Nat → Nat → Int64} {p0 : Int32} {p1 : Int32} {r469 : Int64} {m430 : Nat → Int64} {m431 : Nat → Int64} {m432 : Nat → Int32} {g454 : Nat → Int32} {v1 : Int64} {r3 : Int32} {v7 : Int32} {v9 : Int32} {v11 : Int32} {v13 : Int32} {v14 : Int32} {g17 : Nat → Int32} {v22 : Int32} {g249 : Nat → Int32} {v254 : Int32} {g365 : Nat → Int32} {v370 : Int32} {g423 : Nat → Int32} {g436 : Nat → Int32} {g442 : Nat → Int32} {g448 : Nat → Int32} {v460 : Int64} {v462 : Int32} {r464 : Int64} (e1 : v1 = (p0 : Int32).toInt64) (w4 : r3 = J_X12_in v1 (0 : Int64) (15 : Int64)) (e7 : v7 = ((sm 2) ((4 : Int32).toNatClampNeg))) (e9 : v9 = ((sm 2) ((5 : Int32).toNatClampNeg))) (e11 : v11 = ((sm 2) ((6 : Int32).toNatClampNeg))) (e13 : v13 = ((sm 2) ((7 : Int32).toNatClampNeg))) (e14 : v14 = (p0 &&& (1 : Int32))) (eg17 : g17 = upd (sm 2) ((4 : Int32).toNatClampNeg) v7) (e22 : v22 = (p0 &&& (2 : Int32))) (eg249 : g249 = upd g17 ((5 : Int32).toNatClampNeg) ((-9) : Int32)) (e254 : v254 = (p0 &&& (4 : Int32))) (eg365 : g365 = upd g249 ((6 : Int32).toNatClampNeg) ((-9) : Int32)) (e370 : v370 = (p0 &&& (8 : Int32))) (eg423 : g423 = upd g365 ((7 : Int32).toNatClampNeg) ((-9) : Int32)) (eg436 : g436 = upd g423 ((4 : Int32).toNatClampNeg) v7) (eg442 : g442 = upd g436 ((5 : Int32).toNatClampNeg) v9) (eg448 : g448 = upd g442 ((6 : Int32).toNatClampNeg) v11) (eg454 : g454 = upd g448 ((7 : Int32).toNatClampNeg) v13) (e460 : v460 = (m430 ((0 : Int32).toNatClampNeg))) (e462 : v462 = (g454 ((0 : Int32).toNatClampNeg))) (c5 : ¬ (r3 = (0 : Int32))) (c15 : ¬ (v14 = (1 : Int32))) (c23 : v22 = (2 : Int32)) (c255 : v254 = (4 : Int32)) (c371 : v370 = (8 : Int32)) (w433 : (m430, m431, m432) = J_X12_layBest (up2 sm 2 g423) tm (0 : Int32)) (w466 : r464 = J_X12_parts v462) (w470 : r469 = J_X12_told v460 r464 p1) : (r469, m430, m431, m432, g454) = J_X12_without sm tm p0 p1 := by subst e1 w4 e7 e9 e11 e13 e14 eg17 e22 eg249 e254 eg365 e370 eg423 eg436 eg442 eg448 eg454 e460 e462; refine Eq.symm ?_; unfold J_X12_without; refine Eq.trans (if_neg c5) ?_; refine Eq.trans (if_neg c15) ?_; refine Eq.trans (if_pos c23) ?_; refine Eq.trans (if_pos c255) ?_; refine Eq.trans (if_pos c371) ?_; refine lt_e w433 ?_; refine lt_e w466 ?_; refine lt_e w470 ?_; rfl
theorem exl_X12_without_8 {sm : Nat → Nat → Int32} {tm : Nat → Nat → Int64} {p0 : Int32} {p1 : Int32} {r543 : Int64} {m504 : Nat → Int64} {m505 : Nat → Int64} {m506 : Nat → Int32} {g528 : Nat → Int32} {v1 : Int64} {r3 : Int32} {v7 : Int32} {v9 : Int32} {v11 : Int32} {v13 : Int32} {v14 : Int32} {g473 : Nat → Int32} {v478 : Int32} {g481 : Nat → Int32} {v486 : Int32} {g489 : Nat → Int32} {v494 : Int32} {g497 : Nat → Int32} {g510 : Nat → Int32} {g516 : Nat → Int32} {g522 : Nat → Int32} {v534 : Int64} {v536 : Int32} {r538 : Int64} (e1 : v1 = (p0 : Int32).toInt64) (w4 : r3 = J_X12_in v1 (0 : Int64) (15 : Int64)) (e7 : v7 = ((sm 2) ((4 : Int32).toNatClampNeg))) (e9 : v9 = ((sm 2) ((5 : Int32).toNatClampNeg))) (e11 : v11 = ((sm 2) ((6 : Int32).toNatClampNeg))) (e13 : v13 = ((sm 2) ((7 : Int32).toNatClampNeg))) (e14 : v14 = (p0 &&& (1 : Int32))) (eg473 : g473 = upd (sm 2) ((4 : Int32).toNatClampNeg) ((-9) : Int32)) (e478 : v478 = (p0 &&& (2 : Int32))) (eg481 : g481 = upd g473 ((5 : Int32).toNatClampNeg) v9) (e486 : v486 = (p0 &&& (4 : Int32))) (eg489 : g489 = upd g481 ((6 : Int32).toNatClampNeg) v11) (e494 : v494 = (p0 &&& (8 : Int32))) (eg497 : g497 = upd g489 ((7 : Int32).toNatClampNeg) v13) (eg510 : g510 = upd g497 ((4 : Int32).toNatClampNeg) v7) (eg516 : g516 = upd g510 ((5 : Int32).toNatClampNeg) v9) (eg522 : g522 = upd g516 ((6 : Int32).toNatClampNeg) v11) (eg528 : g528 = upd g522 ((7 : Int32).toNatClampNeg) v13) (e534 : v534 = (m504 ((0 : Int32).toNatClampNeg))) (e536 : v536 = (g528 ((0 : Int32).toNatClampNeg))) (c5 : ¬ (r3 = (0 : Int32))) (c15 : v14 = (1 : Int32)) (c479 : ¬ (v478 = (2 : Int32))) (c487 : ¬ (v486 = (4 : Int32))) (c495 : ¬ (v494 = (8 : Int32))) (w507 : (m504, m505, m506) = J_X12_layBest (up2 sm 2 g497) tm (0 : Int32)) (w540 : r538 = J_X12_parts v536) (w544 : r543 = J_X12_told v534 r538 p1) : (r543, m504, m505, m506, g528) = J_X12_without sm tm p0 p1 := by subst e1 w4 e7 e9 e11 e13 e14 eg473 e478 eg481 e486 eg489 e494 eg497 eg510 eg516 eg522 eg528 e534 e536; refine Eq.symm ?_; unfold J_X12_without; refine Eq.trans (if_neg c5) ?_; refine Eq.trans (if_pos c15) ?_; refine Eq.trans (if_neg c479) ?_; refine Eq.trans (if_neg c487) ?_; refine Eq.trans (if_neg c495) ?_; refine lt_e w507 ?_; refine lt_e w540 ?_; refine lt_e w544 ?_; rfl
theorem exl_X12_without_9 {sm : Nat → Nat → Int32} {tm : Nat → Nat → Int64} {p0 : Int32} {p1 : Int32} {r593 : Int64} {m554 : Nat → Int64} {m555 : Nat → Int64} {m556 : Nat → Int32} {g578 : Nat → Int32} {v1 : Int64} {r3 : Int32} {v7 : Int32} {v9 : Int32} {v11 : Int32} {v13 : Int32} {v14 : Int32} {g473 : Nat → Int32} {v478 : Int32} {g481 : Nat → Int32} {v486 : Int32} {g489 : Nat → Int32} {v494 : Int32} {g547 : Nat → Int32} {g560 : Nat → Int32} {g566 : Nat → Int32} {g572 : Nat → Int32} {v584 : Int64} {v586 : Int32} {r588 : Int64} (e1 : v1 = (p0 : Int32).toInt64) (w4 : r3 = J_X12_in v1 (0 : Int64) (15 : Int64)) (e7 : v7 = ((sm 2) ((4 : Int32).toNatClampNeg))) (e9 : v9 = ((sm 2) ((5 : Int32).toNatClampNeg))) (e11 : v11 = ((sm 2) ((6 : Int32).toNatClampNeg))) (e13 : v13 = ((sm 2) ((7 : Int32).toNatClampNeg))) (e14 : v14 = (p0 &&& (1 : Int32))) (eg473 : g473 = upd (sm 2) ((4 : Int32).toNatClampNeg) ((-9) : Int32)) (e478 : v478 = (p0 &&& (2 : Int32))) (eg481 : g481 = upd g473 ((5 : Int32).toNatClampNeg) v9) (e486 : v486 = (p0 &&& (4 : Int32))) (eg489 : g489 = upd g481 ((6 : Int32).toNatClampNeg) v11) (e494 : v494 = (p0 &&& (8 : Int32))) (eg547 : g547 = upd g489 ((7 : Int32).toNatClampNeg) ((-9) : Int32)) (eg560 : g560 = upd g547 ((4 : Int32).toNatClampNeg) v7) (eg566 : g566 = upd g560 ((5 : Int32).toNatClampNeg) v9) (eg572 : g572 = upd g566 ((6 : Int32).toNatClampNeg) v11) (eg578 : g578 = upd g572 ((7 : Int32).toNatClampNeg) v13) (e584 : v584 = (m554 ((0 : Int32).toNatClampNeg))) (e586 : v586 = (g578 ((0 : Int32).toNatClampNeg))) (c5 : ¬ (r3 = (0 : Int32))) (c15 : v14 = (1 : Int32)) (c479 : ¬ (v478 = (2 : Int32))) (c487 : ¬ (v486 = (4 : Int32))) (c495 : v494 = (8 : Int32)) (w557 : (m554, m555, m556) = J_X12_layBest (up2 sm 2 g547) tm (0 : Int32)) (w590 : r588 = J_X12_parts v586) (w594 : r593 = J_X12_told v584 r588 p1) : (r593, m554, m555, m556, g578) = J_X12_without sm tm p0 p1 := by subst e1 w4 e7 e9 e11 e13 e14 eg473 e478 eg481 e486 eg489 e494 eg547 eg560 eg566 eg572 eg578 e584 e586; refine Eq.symm ?_; unfold J_X12_without; refine Eq.trans (if_neg c5) ?_; refine Eq.trans (if_pos c15) ?_; refine Eq.trans (if_neg c479) ?_; refine Eq.trans (if_neg c487) ?_; refine Eq.trans (if_pos c495) ?_; refine lt_e w557 ?_; refine lt_e w590 ?_; refine lt_e w594 ?_; rfl
theorem exl_X12_without_10 {sm : Nat → Nat → Int32} {tm : Nat → Nat → Int64} {p0 : Int32} {p1 : Int32} {r651 : Int64} {m612 : Nat → Int64} {m613 : Nat → Int64} {m614 : Nat → Int32} {g636 : Nat → Int32} {v1 : Int64} {r3 : Int32} {v7 : Int32} {v9 : Int32} {v11 : Int32} {v13 : Int32} {v14 : Int32} {g473 : Nat → Int32} {v478 : Int32} {g481 : Nat → Int32} {v486 : Int32} {g597 : Nat → Int32} {v602 : Int32} {g605 : Nat → Int32} {g618 : Nat → Int32} {g624 : Nat → Int32} {g630 : Nat → Int32} {v642 : Int64} {v644 : Int32} {r646 : Int64} (e1 : v1 = (p0 : Int32).toInt64) (w4 : r3 = J_X12_in v1 (0 : Int64) (15 : Int64)) (e7 : v7 = ((sm 2) ((4 : Int32).toNatClampNeg))) (e9 : v9 = ((sm 2) ((5 : Int32).toNatClampNeg))) (e11 : v11 = ((sm 2) ((6 : Int32).toNatClampNeg))) (e13 : v13 = ((sm 2) ((7 : Int32).toNatClampNeg))) (e14 : v14 = (p0 &&& (1 : Int32))) (eg473 : g473 = upd (sm 2) ((4 : Int32).toNatClampNeg) ((-9) : Int32)) (e478 : v478 = (p0 &&& (2 : Int32))) (eg481 : g481 = upd g473 ((5 : Int32).toNatClampNeg) v9) (e486 : v486 = (p0 &&& (4 : Int32))) (eg597 : g597 = upd g481 ((6 : Int32).toNatClampNeg) ((-9) : Int32)) (e602 : v602 = (p0 &&& (8 : Int32))) (eg605 : g605 = upd g597 ((7 : Int32).toNatClampNeg) v13) (eg618 : g618 = upd g605 ((4 : Int32).toNatClampNeg) v7) (eg624 : g624 = upd g618 ((5 : Int32).toNatClampNeg) v9) (eg630 : g630 = upd g624 ((6 : Int32).toNatClampNeg) v11) (eg636 : g636 = upd g630 ((7 : Int32).toNatClampNeg) v13) (e642 : v642 = (m612 ((0 : Int32).toNatClampNeg))) (e644 : v644 = (g636 ((0 : Int32).toNatClampNeg))) (c5 : ¬ (r3 = (0 : Int32))) (c15 : v14 = (1 : Int32)) (c479 : ¬ (v478 = (2 : Int32))) (c487 : v486 = (4 : Int32)) (c603 : ¬ (v602 = (8 : Int32))) (w615 : (m612, m613, m614) = J_X12_layBest (up2 sm 2 g605) tm (0 : Int32)) (w648 : r646 = J_X12_parts v644) (w652 : r651 = J_X12_told v642 r646 p1) : (r651, m612, m613, m614, g636) = J_X12_without sm tm p0 p1 := by subst e1 w4 e7 e9 e11 e13 e14 eg473 e478 eg481 e486 eg597 e602 eg605 eg618 eg624 eg630 eg636 e642 e644; refine Eq.symm ?_; unfold J_X12_without; refine Eq.trans (if_neg c5) ?_; refine Eq.trans (if_pos c15) ?_; refine Eq.trans (if_neg c479) ?_; refine Eq.trans (if_pos c487) ?_; refine Eq.trans (if_neg c603) ?_; refine lt_e w615 ?_; refine lt_e w648 ?_; refine lt_e w652 ?_; rfl
theorem exl_X12_without_11 {sm : Nat → Nat → Int32} {tm : Nat → Nat → Int64} {p0 : Int32} {p1 : Int32} {r701 : Int64} {m662 : Nat → Int64} {m663 : Nat → Int64} {m664 : Nat → Int32} {g686 : Nat → Int32} {v1 : Int64} {r3 : Int32} {v7 : Int32} {v9 : Int32} {v11 : Int32} {v13 : Int32} {v14 : Int32} {g473 : Nat → Int32} {v478 : Int32} {g481 : Nat → Int32} {v486 : Int32} {g597 : Nat → Int32} {v602 : Int32} {g655 : Nat → Int32} {g668 : Nat → Int32} {g674 : Nat → Int32} {g680 : Nat → Int32} {v692 : Int64} {v694 : Int32} {r696 : Int64} (e1 : v1 = (p0 : Int32).toInt64) (w4 : r3 = J_X12_in v1 (0 : Int64) (15 : Int64)) (e7 : v7 = ((sm 2) ((4 : Int32).toNatClampNeg))) (e9 : v9 = ((sm 2) ((5 : Int32).toNatClampNeg))) (e11 : v11 = ((sm 2) ((6 : Int32).toNatClampNeg))) (e13 : v13 = ((sm 2) ((7 : Int32).toNatClampNeg))) (e14 : v14 = (p0 &&& (1 : Int32))) (eg473 : g473 = upd (sm 2) ((4 : Int32).toNatClampNeg) ((-9) : Int32)) (e478 : v478 = (p0 &&& (2 : Int32))) (eg481 : g481 = upd g473 ((5 : Int32).toNatClampNeg) v9) (e486 : v486 = (p0 &&& (4 : Int32))) (eg597 : g597 = upd g481 ((6 : Int32).toNatClampNeg) ((-9) : Int32)) (e602 : v602 = (p0 &&& (8 : Int32))) (eg655 : g655 = upd g597 ((7 : Int32).toNatClampNeg) ((-9) : Int32)) (eg668 : g668 = upd g655 ((4 : Int32).toNatClampNeg) v7) (eg674 : g674 = upd g668 ((5 : Int32).toNatClampNeg) v9) (eg680 : g680 = upd g674 ((6 : Int32).toNatClampNeg) v11) (eg686 : g686 = upd g680 ((7 : Int32).toNatClampNeg) v13) (e692 : v692 = (m662 ((0 : Int32).toNatClampNeg))) (e694 : v694 = (g686 ((0 : Int32).toNatClampNeg))) (c5 : ¬ (r3 = (0 : Int32))) (c15 : v14 = (1 : Int32)) (c479 : ¬ (v478 = (2 : Int32))) (c487 : v486 = (4 : Int32)) (c603 : v602 = (8 : Int32)) (w665 : (m662, m663, m664) = J_X12_layBest (up2 sm 2 g655) tm (0 : Int32)) (w698 : r696 = J_X12_parts v694) (w702 : r701 = J_X12_told v692 r696 p1) : (r701, m662, m663, m664, g686) = J_X12_without sm tm p0 p1 := by subst e1 w4 e7 e9 e11 e13 e14 eg473 e478 eg481 e486 eg597 e602 eg655 eg668 eg674 eg680 eg686 e692 e694; refine Eq.symm ?_; unfold J_X12_without; refine Eq.trans (if_neg c5) ?_; refine Eq.trans (if_pos c15) ?_; refine Eq.trans (if_neg c479) ?_; refine Eq.trans (if_pos c487) ?_; refine Eq.trans (if_pos c603) ?_; refine lt_e w665 ?_; refine lt_e w698 ?_; refine lt_e w702 ?_; rfl
theorem exl_X12_without_12 {sm : Nat → Nat → Int32} {tm : Nat → Nat → Int64} {p0 : Int32} {p1 : Int32} {r767 : Int64} {m728 : Nat → Int64} {m729 : Nat → Int64} {m730 : Nat → Int32} {g752 : Nat → Int32} {v1 : Int64} {r3 : Int32} {v7 : Int32} {v9 : Int32} {v11 : Int32} {v13 : Int32} {v14 : Int32} {g473 : Nat → Int32} {v478 : Int32} {g705 : Nat → Int32} {v710 : Int32} {g713 : Nat → Int32} {v718 : Int32} {g721 : Nat → Int32} {g734 : Nat → Int32} {g740 : Nat → Int32} {g746 : Nat → Int32} {v758 : Int64} {v760 : Int32} {r762 : Int64} (e1 : v1 = (p0 : Int32).toInt64) (w4 : r3 = J_X12_in v1 (0 : Int64) (15 : Int64)) (e7 : v7 = ((sm 2) ((4 : Int32).toNatClampNeg))) (e9 : v9 = ((sm 2) ((5 : Int32).toNatClampNeg))) (e11 : v11 = ((sm 2) ((6 : Int32).toNatClampNeg))) (e13 : v13 = ((sm 2) ((7 : Int32).toNatClampNeg))) (e14 : v14 = (p0 &&& (1 : Int32))) (eg473 : g473 = upd (sm 2) ((4 : Int32).toNatClampNeg) ((-9) : Int32)) (e478 : v478 = (p0 &&& (2 : Int32))) (eg705 : g705 = upd g473 ((5 : Int32).toNatClampNeg) ((-9) : Int32)) (e710 : v710 = (p0 &&& (4 : Int32))) (eg713 : g713 = upd g705 ((6 : Int32).toNatClampNeg) v11) (e718 : v718 = (p0 &&& (8 : Int32))) (eg721 : g721 = upd g713 ((7 : Int32).toNatClampNeg) v13) (eg734 : g734 = upd g721 ((4 : Int32).toNatClampNeg) v7) (eg740 : g740 = upd g734 ((5 : Int32).toNatClampNeg) v9) (eg746 : g746 = upd g740 ((6 : Int32).toNatClampNeg) v11) (eg752 : g752 = upd g746 ((7 : Int32).toNatClampNeg) v13) (e758 : v758 = (m728 ((0 : Int32).toNatClampNeg))) (e760 : v760 = (g752 ((0 : Int32).toNatClampNeg))) (c5 : ¬ (r3 = (0 : Int32))) (c15 : v14 = (1 : Int32)) (c479 : v478 = (2 : Int32)) (c711 : ¬ (v710 = (4 : Int32))) (c719 : ¬ (v718 = (8 : Int32))) (w731 : (m728, m729, m730) = J_X12_layBest (up2 sm 2 g721) tm (0 : Int32)) (w764 : r762 = J_X12_parts v760) (w768 : r767 = J_X12_told v758 r762 p1) : (r767, m728, m729, m730, g752) = J_X12_without sm tm p0 p1 := by subst e1 w4 e7 e9 e11 e13 e14 eg473 e478 eg705 e710 eg713 e718 eg721 eg734 eg740 eg746 eg752 e758 e760; refine Eq.symm ?_; unfold J_X12_without; refine Eq.trans (if_neg c5) ?_; refine Eq.trans (if_pos c15) ?_; refine Eq.trans (if_pos c479) ?_; refine Eq.trans (if_neg c711) ?_; refine Eq.trans (if_neg c719) ?_; refine lt_e w731 ?_; refine lt_e w764 ?_; refine lt_e w768 ?_; rfl
theorem exl_X12_without_13 {sm : Nat → Nat → Int32} {tm : Nat → Nat → Int64} {p0 : Int32} {p1 : Int32} {r817 : Int64} {m778 : Nat → Int64} {m779 : Nat → Int64} {m780 : Nat → Int32} {g802 : Nat → Int32} {v1 : Int64} {r3 : Int32} {v7 : Int32} {v9 : Int32} {v11 : Int32} {v13 : Int32} {v14 : Int32} {g473 : Nat → Int32} {v478 : Int32} {g705 : Nat → Int32} {v710 : Int32} {g713 : Nat → Int32} {v718 : Int32} {g771 : Nat → Int32} {g784 : Nat → Int32} {g790 : Nat → Int32} {g796 : Nat → Int32} {v808 : Int64} {v810 : Int32} {r812 : Int64} (e1 : v1 = (p0 : Int32).toInt64) (w4 : r3 = J_X12_in v1 (0 : Int64) (15 : Int64)) (e7 : v7 = ((sm 2) ((4 : Int32).toNatClampNeg))) (e9 : v9 = ((sm 2) ((5 : Int32).toNatClampNeg))) (e11 : v11 = ((sm 2) ((6 : Int32).toNatClampNeg))) (e13 : v13 = ((sm 2) ((7 : Int32).toNatClampNeg))) (e14 : v14 = (p0 &&& (1 : Int32))) (eg473 : g473 = upd (sm 2) ((4 : Int32).toNatClampNeg) ((-9) : Int32)) (e478 : v478 = (p0 &&& (2 : Int32))) (eg705 : g705 = upd g473 ((5 : Int32).toNatClampNeg) ((-9) : Int32)) (e710 : v710 = (p0 &&& (4 : Int32))) (eg713 : g713 = upd g705 ((6 : Int32).toNatClampNeg) v11) (e718 : v718 = (p0 &&& (8 : Int32))) (eg771 : g771 = upd g713 ((7 : Int32).toNatClampNeg) ((-9) : Int32)) (eg784 : g784 = upd g771 ((4 : Int32).toNatClampNeg) v7) (eg790 : g790 = upd g784 ((5 : Int32).toNatClampNeg) v9) (eg796 : g796 = upd g790 ((6 : Int32).toNatClampNeg) v11) (eg802 : g802 = upd g796 ((7 : Int32).toNatClampNeg) v13) (e808 : v808 = (m778 ((0 : Int32).toNatClampNeg))) (e810 : v810 = (g802 ((0 : Int32).toNatClampNeg))) (c5 : ¬ (r3 = (0 : Int32))) (c15 : v14 = (1 : Int32)) (c479 : v478 = (2 : Int32)) (c711 : ¬ (v710 = (4 : Int32))) (c719 : v718 = (8 : Int32)) (w781 : (m778, m779, m780) = J_X12_layBest (up2 sm 2 g771) tm (0 : Int32)) (w814 : r812 = J_X12_parts v810) (w818 : r817 = J_X12_told v808 r812 p1) : (r817, m778, m779, m780, g802) = J_X12_without sm tm p0 p1 := by subst e1 w4 e7 e9 e11 e13 e14 eg473 e478 eg705 e710 eg713 e718 eg771 eg784 eg790 eg796 eg802 e808 e810; refine Eq.symm ?_; unfold J_X12_without; refine Eq.trans (if_neg c5) ?_; refine Eq.trans (if_pos c15) ?_; refine Eq.trans (if_pos c479) ?_; refine Eq.trans (if_neg c711) ?_; refine Eq.trans (if_pos c719) ?_; refine lt_e w781 ?_; refine lt_e w814 ?_; refine lt_e w818 ?_; rfl
theorem exl_X12_without_14 {sm : Nat → Nat → Int32} {tm : Nat → Nat → Int64} {p0 : Int32} {p1 : Int32} {r875 : Int64} {m836 : Nat → Int64} {m837 : Nat → Int64} {m838 : Nat → Int32} {g860 : Nat → Int32} {v1 : Int64} {r3 : Int32} {v7 : Int32} {v9 : Int32} {v11 : Int32} {v13 : Int32} {v14 : Int32} {g473 : Nat → Int32} {v478 : Int32} {g705 : Nat → Int32} {v710 : Int32} {g821 : Nat → Int32} {v826 : Int32} {g829 : Nat → Int32} {g842 : Nat → Int32} {g848 : Nat → Int32} {g854 : Nat → Int32} {v866 : Int64} {v868 : Int32} {r870 : Int64} (e1 : v1 = (p0 : Int32).toInt64) (w4 : r3 = J_X12_in v1 (0 : Int64) (15 : Int64)) (e7 : v7 = ((sm 2) ((4 : Int32).toNatClampNeg))) (e9 : v9 = ((sm 2) ((5 : Int32).toNatClampNeg))) (e11 : v11 = ((sm 2) ((6 : Int32).toNatClampNeg))) (e13 : v13 = ((sm 2) ((7 : Int32).toNatClampNeg))) (e14 : v14 = (p0 &&& (1 : Int32))) (eg473 : g473 = upd (sm 2) ((4 : Int32).toNatClampNeg) ((-9) : Int32)) (e478 : v478 = (p0 &&& (2 : Int32))) (eg705 : g705 = upd g473 ((5 : Int32).toNatClampNeg) ((-9) : Int32)) (e710 : v710 = (p0 &&& (4 : Int32))) (eg821 : g821 = upd g705 ((6 : Int32).toNatClampNeg) ((-9) : Int32)) (e826 : v826 = (p0 &&& (8 : Int32))) (eg829 : g829 = upd g821 ((7 : Int32).toNatClampNeg) v13) (eg842 : g842 = upd g829 ((4 : Int32).toNatClampNeg) v7) (eg848 : g848 = upd g842 ((5 : Int32).toNatClampNeg) v9) (eg854 : g854 = upd g848 ((6 : Int32).toNatClampNeg) v11) (eg860 : g860 = upd g854 ((7 : Int32).toNatClampNeg) v13) (e866 : v866 = (m836 ((0 : Int32).toNatClampNeg))) (e868 : v868 = (g860 ((0 : Int32).toNatClampNeg))) (c5 : ¬ (r3 = (0 : Int32))) (c15 : v14 = (1 : Int32)) (c479 : v478 = (2 : Int32)) (c711 : v710 = (4 : Int32)) (c827 : ¬ (v826 = (8 : Int32))) (w839 : (m836, m837, m838) = J_X12_layBest (up2 sm 2 g829) tm (0 : Int32)) (w872 : r870 = J_X12_parts v868) (w876 : r875 = J_X12_told v866 r870 p1) : (r875, m836, m837, m838, g860) = J_X12_without sm tm p0 p1 := by subst e1 w4 e7 e9 e11 e13 e14 eg473 e478 eg705 e710 eg821 e826 eg829 eg842 eg848 eg854 eg860 e866 e868; refine Eq.symm ?_; unfold J_X12_without; refine Eq.trans (if_neg c5) ?_; refine Eq.trans (if_pos c15) ?_; refine Eq.trans (if_pos c479) ?_; refine Eq.trans (if_pos c711) ?_; refine Eq.trans (if_neg c827) ?_; refine lt_e w839 ?_; refine lt_e w872 ?_; refine lt_e w876 ?_; rfl
theorem exl_X12_without_15 {sm : Nat → Nat → Int32} {tm : Nat → Nat → Int64} {p0 : Int32} {p1 : Int32} {r925 : Int64} {m886 : Nat → Int64} {m887 : Nat → Int64} {m888 : Nat → Int32} {g910 : Nat → Int32} {v1 : Int64} {r3 : Int32} {v7 : Int32} {v9 : Int32} {v11 : Int32} {v13 : Int32} {v14 : Int32} {g473 : Nat → Int32} {v478 : Int32} {g705 : Nat → Int32} {v710 : Int32} {g821 : Nat → Int32} {v826 : Int32} {g879 : Nat → Int32} {g892 : Nat → Int32} {g898 : Nat → Int32} {g904 : Nat → Int32} {v916 : Int64} {v918 : Int32} {r920 : Int64} (e1 : v1 = (p0 : Int32).toInt64) (w4 : r3 = J_X12_in v1 (0 : Int64) (15 : Int64)) (e7 : v7 = ((sm 2) ((4 : Int32).toNatClampNeg))) (e9 : v9 = ((sm 2) ((5 : Int32).toNatClampNeg))) (e11 : v11 = ((sm 2) ((6 : Int32).toNatClampNeg))) (e13 : v13 = ((sm 2) ((7 : Int32).toNatClampNeg))) (e14 : v14 = (p0 &&& (1 : Int32))) (eg473 : g473 = upd (sm 2) ((4 : Int32).toNatClampNeg) ((-9) : Int32)) (e478 : v478 = (p0 &&& (2 : Int32))) (eg705 : g705 = upd g473 ((5 : Int32).toNatClampNeg) ((-9) : Int32)) (e710 : v710 = (p0 &&& (4 : Int32))) (eg821 : g821 = upd g705 ((6 : Int32).toNatClampNeg) ((-9) : Int32)) (e826 : v826 = (p0 &&& (8 : Int32))) (eg879 : g879 = upd g821 ((7 : Int32).toNatClampNeg) ((-9) : Int32)) (eg892 : g892 = upd g879 ((4 : Int32).toNatClampNeg) v7) (eg898 : g898 = upd g892 ((5 : Int32).toNatClampNeg) v9) (eg904 : g904 = upd g898 ((6 : Int32).toNatClampNeg) v11) (eg910 : g910 = upd g904 ((7 : Int32).toNatClampNeg) v13) (e916 : v916 = (m886 ((0 : Int32).toNatClampNeg))) (e918 : v918 = (g910 ((0 : Int32).toNatClampNeg))) (c5 : ¬ (r3 = (0 : Int32))) (c15 : v14 = (1 : Int32)) (c479 : v478 = (2 : Int32)) (c711 : v710 = (4 : Int32)) (c827 : v826 = (8 : Int32)) (w889 : (m886, m887, m888) = J_X12_layBest (up2 sm 2 g879) tm (0 : Int32)) (w922 : r920 = J_X12_parts v918) (w926 : r925 = J_X12_told v916 r920 p1) : (r925, m886, m887, m888, g910) = J_X12_without sm tm p0 p1 := by subst e1 w4 e7 e9 e11 e13 e14 eg473 e478 eg705 e710 eg821 e826 eg879 eg892 eg898 eg904 eg910 e916 e918; refine Eq.symm ?_; unfold J_X12_without; refine Eq.trans (if_neg c5) ?_; refine Eq.trans (if_pos c15) ?_; refine Eq.trans (if_pos c479) ?_; refine Eq.trans (if_pos c711) ?_; refine Eq.trans (if_pos c827) ?_; refine lt_e w889 ?_; refine lt_e w922 ?_; refine lt_e w926 ?_; rfl
theorem exl_X12_without_16 {sm : Nat → Nat → Int32} {tm : Nat → Nat → Int64} {p0 : Int32} {p1 : Int32} {v1 : Int64} {r3 : Int32} (e1 : v1 = (p0 : Int32).toInt64) (w4 : r3 = J_X12_in v1 (0 : Int64) (15 : Int64)) (c5 : r3 = (0 : Int32)) : (((-2) : Int64), (tm 10), (tm 11), (sm 12), (sm 2)) = J_X12_without sm tm p0 p1 := by subst e1 w4; refine Eq.symm ?_; unfold J_X12_without; refine Eq.trans (if_pos c5) ?_; rfl
set_option maxHeartbeats 4000000 in
set_option maxRecDepth 100000 in
theorem c_X12_without (l : Launch) (D : va_G) (k : Nat → ClassId) (b : Nat → Nat) (qm : Nat → Nat) (sm : Nat → Nat → Int32) (tm : Nat → Nat → Int64) (sz : Nat) (p0 : Int32) (p1 : Int32) (h_w0 : 0 ≤ (sm 2 0).toInt ∧ (sm 2 0).toInt ≤ 5) (h_k1 : 0 ≤ (sm 2 1).toInt ∧ (sm 2 1).toInt ≤ 4) : MetL l D k b yX12_without wsX12_without ({ frames := 6, cells := 0, slots := 0, locals := 157 } : Room) [cell22_ qm sm tm, cell5_ k qm sm, cell13_ k qm sm, cell8_ k qm sm, cell6_ k qm sm, cell15_ k qm sm, cell14_ k qm tm, cell12_ k qm tm, cell18_ k qm tm, cell17_ k qm tm, cell19_ k qm tm, cell21_ k qm tm, cell20_ k qm sm, cell16_ k qm sm, cell11_ k qm sm, cell10_ k qm sm, cell9_ k qm sm, cell7_ k qm sm] sz [.ref (qm 0), .int p0, .int p1] (fun (r : Int64) (u : (Nat → Int64) × (Nat → Int64) × (Nat → Int32) × (Nat → Int32)) => (0 ≤ ((u.2.2.2) 0).toInt ∧ ((u.2.2.2) 0).toInt ≤ 5) ∧ (0 ≤ ((u.2.2.2) 1).toInt ∧ ((u.2.2.2) 1).toInt ≤ 4) ∧ ((u.2.2.2) = (sm 2)) ∧ ((r, (u.1), (u.2.1), (u.2.2.1), (u.2.2.2)) = J_X12_without sm tm p0 p1)) (fun u => [cell22_ qm sm tm, cell5_ k qm sm, cell199_ k qm (u.2.2.2), cell8_ k qm sm, cell6_ k qm sm, cell15_ k qm sm, cell14_ k qm tm, cell12_ k qm tm, cell18_ k qm tm, cell17_ k qm tm, cell130_ k qm (u.1), cell122_ k qm (u.2.1), cell123_ k qm (u.2.2.1), cell16_ k qm sm, cell11_ k qm sm, cell10_ k qm sm, cell9_ k qm sm, cell7_ k qm sm]) := by
  refine g_enter (cc := cX12_without) (maxL := 7) (ret := (some .long)) (by decide) rfl (Nat.le_of_ble_eq_true rfl) ?_
  intro p e s m below meth c A hsz hAe cx hr hP hD hS ls hl
  rw [hAe]
  refine g_q (fun Q hQ => ?_)
  have hx := cx.1.1
  have hb := cx.1.2.1
  have bp0 := i_rng p0
  have bp1 := i_rng p1
  have hl : lv_has ls 7 [(0, .ref (qm 0)), (1, .int p0), (2, .int p1)] := hl
  obtain ⟨H, eH⟩ : ∃ H : Heap, H = s.heap := ⟨_, rfl⟩
  obtain ⟨locs, el⟩ : ∃ L : List Loc, L = [] := ⟨_, rfl⟩
  have hP : va_P D vwCl [cell22_ qm sm tm, cell5_ k qm sm, cell13_ k qm sm, cell8_ k qm sm, cell6_ k qm sm, cell15_ k qm sm, cell14_ k qm tm, cell12_ k qm tm, cell18_ k qm tm, cell17_ k qm tm, cell19_ k qm tm, cell21_ k qm tm, cell20_ k qm sm, cell16_ k qm sm, cell11_ k qm sm, cell10_ k qm sm, cell9_ k qm sm, cell7_ k qm sm] H := by rw [eH]; exact hP
  have hD : va_D A [cell22_ qm sm tm, cell5_ k qm sm, cell13_ k qm sm, cell8_ k qm sm, cell6_ k qm sm, cell15_ k qm sm, cell14_ k qm tm, cell12_ k qm tm, cell18_ k qm tm, cell17_ k qm tm, cell19_ k qm tm, cell21_ k qm tm, cell20_ k qm sm, cell16_ k qm sm, cell11_ k qm sm, cell10_ k qm sm, cell9_ k qm sm, cell7_ k qm sm] := hD
  have hS : va_S A s.heap H locs := by rw [eH, el]; exact hS
  suffices goal : W p l e ({ frames := 6, cells := 0, slots := 0, locals := 157 } : Room) s m ([.ref (qm 0), .int p0, .int p1] : List Value).toArray below meth c H locs 0 0 Q (F0 m 0 ls []) by rw [eH, el] at goal; exact goal
  refine lv_iload_n hx hb dX12_without_0 rfl (lv_at hl 1 rfl) ?_
  obtain ⟨v1, e1⟩ : ∃ z : Int64, z = (p0 : Int32).toInt64 := ⟨_, rfl⟩
  refine lv_i2l (v := v1) hx hb dX12_without_1 e1.symm ?_
  refine lv_lconst (v := 0) hx hb dX12_without_2 (by decide) ?_
  refine lv_ldc2 (v := 15) hx hb cx.1.2.2.2.1 (cx.1.2.2.2.2 _ kJ_X12_without_77) dX12_without_3 ?_
  refine g_ir (g_runS (wc := []) (rest := []) cx hP hD hS [] rfl (by decide) [.long v1, .long 0, .long 15] (c_X12_in l D k b H.size v1 0 15) gX12_without_X12_in rfl rfl rfl nd_X12_in ⟨Nat.le_of_ble_eq_true rfl, Nat.le_of_ble_eq_true rfl⟩ rfl hl.1 rfl (Nat.le_of_ble_eq_true rfl) ⟨Nat.zero_le _, Nat.zero_le _⟩ dX12_without_6) cx.2.2.1 hP hD hS [] rfl rfl (fun r3 H locs hw2 hP hS => ?_)
  have w4 : r3 = J_X12_in v1 (0 : Int64) (15 : Int64) := hw2
  clear hw2
  have zr3 := in_b w4
  refine lv_if_ne (tgt := 16) hx hb dX12_without_9 (by decide) (fun c5 => ?_) (fun c5 => ?_)
  · have f5 : ¬ r3.toInt = 0 := f_ne rfl (by decide) c5
    have k5 : 0 ≤ p0.toInt ∧ p0.toInt ≤ 15 := in_t (i2l_t rfl e1) (by decide) (by decide) w4 c5
    refine lv_aload_n hx hb dX12_without_16 rfl (lv_at hl 0 rfl) ?_
    refine g_get cx hP iw_X12_without_X12 0 rfl rfl 1 (by decide) rfl fw_X12_without_13 rfl dX12_without_17 ?_
    refine lv_iconst (v := 4) hx hb dX12_without_20 (by decide) ?_
    have hn6 : vp_in 4 26 := f_in (a := 4) (by decide) (by omega) (by omega)
    refine va_iald hx hb cx.2.1 hP 2 0 rfl rfl hn6 dX12_without_21 (lv_topi (fun v7 e7 => ?_))
    have uv7 : v7.toInt = ((sm 2) 4).toInt := congrArg Int32.toInt e7
    refine lv_istore_n (lv' := [(3, .int v7), (0, .ref (qm 0)), (1, .int p0), (2, .int p1)]) hx hb dX12_without_22 rfl hl (by decide) rfl (fun ls hl => ?_)
    refine lv_aload_n hx hb dX12_without_23 rfl (lv_at hl 1 rfl) ?_
    refine g_get cx hP iw_X12_without_X12 0 rfl rfl 1 (by decide) rfl fw_X12_without_13 rfl dX12_without_24 ?_
    refine lv_iconst (v := 5) hx hb dX12_without_27 (by decide) ?_
    have hn8 : vp_in 5 26 := f_in (a := 5) (by decide) (by omega) (by omega)
    refine va_iald hx hb cx.2.1 hP 2 0 rfl rfl hn8 dX12_without_28 (lv_topi (fun v9 e9 => ?_))
    have uv9 : v9.toInt = ((sm 2) 5).toInt := congrArg Int32.toInt e9
    refine lv_istore (lv' := [(4, .int v9), (3, .int v7), (0, .ref (qm 0)), (1, .int p0), (2, .int p1)]) hx hb dX12_without_29 hl (by decide) rfl (fun ls hl => ?_)
    refine lv_aload_n hx hb dX12_without_31 rfl (lv_at hl 2 rfl) ?_
    refine g_get cx hP iw_X12_without_X12 0 rfl rfl 1 (by decide) rfl fw_X12_without_13 rfl dX12_without_32 ?_
    refine lv_bipush (v := 6) hx hb dX12_without_35 (by decide) ?_
    have hn10 : vp_in 6 26 := f_in (a := 6) (by decide) (by omega) (by omega)
    refine va_iald hx hb cx.2.1 hP 2 0 rfl rfl hn10 dX12_without_37 (lv_topi (fun v11 e11 => ?_))
    have uv11 : v11.toInt = ((sm 2) 6).toInt := congrArg Int32.toInt e11
    refine lv_istore (lv' := [(5, .int v11), (4, .int v9), (3, .int v7), (0, .ref (qm 0)), (1, .int p0), (2, .int p1)]) hx hb dX12_without_38 hl (by decide) rfl (fun ls hl => ?_)
    refine lv_aload_n hx hb dX12_without_40 rfl (lv_at hl 3 rfl) ?_
    refine g_get cx hP iw_X12_without_X12 0 rfl rfl 1 (by decide) rfl fw_X12_without_13 rfl dX12_without_41 ?_
    refine lv_bipush (v := 7) hx hb dX12_without_44 (by decide) ?_
    have hn12 : vp_in 7 26 := f_in (a := 7) (by decide) (by omega) (by omega)
    refine va_iald hx hb cx.2.1 hP 2 0 rfl rfl hn12 dX12_without_46 (lv_topi (fun v13 e13 => ?_))
    have uv13 : v13.toInt = ((sm 2) 7).toInt := congrArg Int32.toInt e13
    refine lv_istore (lv' := [(6, .int v13), (5, .int v11), (4, .int v9), (3, .int v7), (0, .ref (qm 0)), (1, .int p0), (2, .int p1)]) hx hb dX12_without_47 hl (by decide) rfl (fun ls hl => ?_)
    refine lv_aload_n hx hb dX12_without_49 rfl (lv_at hl 4 rfl) ?_
    refine g_get cx hP iw_X12_without_X12 0 rfl rfl 1 (by decide) rfl fw_X12_without_13 rfl dX12_without_50 ?_
    refine lv_iconst (v := 4) hx hb dX12_without_53 (by decide) ?_
    refine lv_iload_n hx hb dX12_without_54 rfl (lv_at hl 5 rfl) ?_
    refine lv_iconst (v := 1) hx hb dX12_without_55 (by decide) ?_
    refine lv_iand hx hb dX12_without_56 (lv_topi (fun v14 e14 => ?_))
    have t14 : 0 ≤ v14.toInt ∧ v14.toInt ≤ p0.toInt := by rw [e14]; exact and_l rfl (by omega)
    refine lv_iconst (v := 1) hx hb dX12_without_57 (by decide) ?_
    refine lv_icmp_ne (tgt := 66) hx hb dX12_without_58 (by decide) (fun c15 => ?_) (fun c15 => ?_)
    · have f15 : ¬ v14.toInt = 1 := f_ne rfl (by decide) c15
      refine lv_iload_n hx hb dX12_without_66 rfl (lv_at hl 3 rfl) ?_
      have hn16 : vp_in 4 26 := f_in (a := 4) (by decide) (by omega) (by omega)
      refine va_iast hx hb cx.2.1 hP hD hS 2 0 rfl rfl hn16 dX12_without_67 (fun H locs hP hD hS => ?_)
      obtain ⟨g17, eg17⟩ : ∃ g : Nat → Int32, g = upd (sm 2) ((4 : Int32).toNatClampNeg) v7 := ⟨_, rfl⟩
      rw [← eg17] at hP hD
      have hP : va_P D vwCl [cell22_ qm sm tm, cell5_ k qm sm, (qm 2, .inl (k 0, 26, .inl g17)), cell8_ k qm sm, cell6_ k qm sm, cell15_ k qm sm, cell14_ k qm tm, cell12_ k qm tm, cell18_ k qm tm, cell17_ k qm tm, cell19_ k qm tm, cell21_ k qm tm, cell20_ k qm sm, cell16_ k qm sm, cell11_ k qm sm, cell10_ k qm sm, cell9_ k qm sm, cell7_ k qm sm] H := hP
      have hD : va_D A [cell22_ qm sm tm, cell5_ k qm sm, (qm 2, .inl (k 0, 26, .inl g17)), cell8_ k qm sm, cell6_ k qm sm, cell15_ k qm sm, cell14_ k qm tm, cell12_ k qm tm, cell18_ k qm tm, cell17_ k qm tm, cell19_ k qm tm, cell21_ k qm tm, cell20_ k qm sm, cell16_ k qm sm, cell11_ k qm sm, cell10_ k qm sm, cell9_ k qm sm, cell7_ k qm sm] := hD
      have s18 := updI eg17 (by decide) (show 0 ≤ 4 from by omega) 0
      have s19 := updI eg17 (by decide) (show 0 ≤ 4 from by omega) 1
      have el20 : 0 ≤ (g17 0).toInt ∧ (g17 0).toInt ≤ 5 := by omega
      have el21 : 0 ≤ (g17 1).toInt ∧ (g17 1).toInt ≤ 4 := by omega
      refine lv_aload_n hx hb dX12_without_68 rfl (lv_at hl 4 rfl) ?_
      refine g_get cx hP iw_X12_without_X12 0 rfl rfl 1 (by decide) rfl fw_X12_without_13 rfl dX12_without_69 ?_
      refine lv_iconst (v := 5) hx hb dX12_without_72 (by decide) ?_
      refine lv_iload_n hx hb dX12_without_73 rfl (lv_at hl 5 rfl) ?_
      refine lv_iconst (v := 2) hx hb dX12_without_74 (by decide) ?_
      refine lv_iand hx hb dX12_without_75 (lv_topi (fun v22 e22 => ?_))
      have t22 : 0 ≤ v22.toInt ∧ v22.toInt ≤ p0.toInt := by rw [e22]; exact and_l rfl (by omega)
      refine lv_iconst (v := 2) hx hb dX12_without_76 (by decide) ?_
      refine lv_icmp_ne (tgt := 85) hx hb dX12_without_77 (by decide) (fun c23 => ?_) (fun c23 => ?_)
      · have f23 : ¬ v22.toInt = 2 := f_ne rfl (by decide) c23
        refine lv_iload hx hb dX12_without_85 (lv_at hl 2 rfl) ?_
        have hn24 : vp_in 5 26 := f_in (a := 5) (by decide) (by omega) (by omega)
        refine va_iast hx hb cx.2.1 hP hD hS 2 0 rfl rfl hn24 dX12_without_87 (fun H locs hP hD hS => ?_)
        obtain ⟨g25, eg25⟩ : ∃ g : Nat → Int32, g = upd g17 ((5 : Int32).toNatClampNeg) v9 := ⟨_, rfl⟩
        rw [← eg25] at hP hD
        have hP : va_P D vwCl [cell22_ qm sm tm, cell5_ k qm sm, (qm 2, .inl (k 0, 26, .inl g25)), cell8_ k qm sm, cell6_ k qm sm, cell15_ k qm sm, cell14_ k qm tm, cell12_ k qm tm, cell18_ k qm tm, cell17_ k qm tm, cell19_ k qm tm, cell21_ k qm tm, cell20_ k qm sm, cell16_ k qm sm, cell11_ k qm sm, cell10_ k qm sm, cell9_ k qm sm, cell7_ k qm sm] H := hP
        have hD : va_D A [cell22_ qm sm tm, cell5_ k qm sm, (qm 2, .inl (k 0, 26, .inl g25)), cell8_ k qm sm, cell6_ k qm sm, cell15_ k qm sm, cell14_ k qm tm, cell12_ k qm tm, cell18_ k qm tm, cell17_ k qm tm, cell19_ k qm tm, cell21_ k qm tm, cell20_ k qm sm, cell16_ k qm sm, cell11_ k qm sm, cell10_ k qm sm, cell9_ k qm sm, cell7_ k qm sm] := hD
        have s26 := updI eg25 (by decide) (show 0 ≤ 5 from by omega) 0
        have s27 := updI eg25 (by decide) (show 0 ≤ 5 from by omega) 1
        have el28 : 0 ≤ (g25 0).toInt ∧ (g25 0).toInt ≤ 5 := by omega
        have el29 : 0 ≤ (g25 1).toInt ∧ (g25 1).toInt ≤ 4 := by omega
        refine lv_aload_n hx hb dX12_without_88 rfl (lv_at hl 4 rfl) ?_
        refine g_get cx hP iw_X12_without_X12 0 rfl rfl 1 (by decide) rfl fw_X12_without_13 rfl dX12_without_89 ?_
        refine lv_bipush (v := 6) hx hb dX12_without_92 (by decide) ?_
        refine lv_iload_n hx hb dX12_without_94 rfl (lv_at hl 5 rfl) ?_
        refine lv_iconst (v := 4) hx hb dX12_without_95 (by decide) ?_
        refine lv_iand hx hb dX12_without_96 (lv_topi (fun v30 e30 => ?_))
        have t30 : 0 ≤ v30.toInt ∧ v30.toInt ≤ p0.toInt := by rw [e30]; exact and_l rfl (by omega)
        refine lv_iconst (v := 4) hx hb dX12_without_97 (by decide) ?_
        refine lv_icmp_ne (tgt := 106) hx hb dX12_without_98 (by decide) (fun c31 => ?_) (fun c31 => ?_)
        · have f31 : ¬ v30.toInt = 4 := f_ne rfl (by decide) c31
          refine lv_iload hx hb dX12_without_106 (lv_at hl 1 rfl) ?_
          have hn32 : vp_in 6 26 := f_in (a := 6) (by decide) (by omega) (by omega)
          refine va_iast hx hb cx.2.1 hP hD hS 2 0 rfl rfl hn32 dX12_without_108 (fun H locs hP hD hS => ?_)
          obtain ⟨g33, eg33⟩ : ∃ g : Nat → Int32, g = upd g25 ((6 : Int32).toNatClampNeg) v11 := ⟨_, rfl⟩
          rw [← eg33] at hP hD
          have hP : va_P D vwCl [cell22_ qm sm tm, cell5_ k qm sm, (qm 2, .inl (k 0, 26, .inl g33)), cell8_ k qm sm, cell6_ k qm sm, cell15_ k qm sm, cell14_ k qm tm, cell12_ k qm tm, cell18_ k qm tm, cell17_ k qm tm, cell19_ k qm tm, cell21_ k qm tm, cell20_ k qm sm, cell16_ k qm sm, cell11_ k qm sm, cell10_ k qm sm, cell9_ k qm sm, cell7_ k qm sm] H := hP
          have hD : va_D A [cell22_ qm sm tm, cell5_ k qm sm, (qm 2, .inl (k 0, 26, .inl g33)), cell8_ k qm sm, cell6_ k qm sm, cell15_ k qm sm, cell14_ k qm tm, cell12_ k qm tm, cell18_ k qm tm, cell17_ k qm tm, cell19_ k qm tm, cell21_ k qm tm, cell20_ k qm sm, cell16_ k qm sm, cell11_ k qm sm, cell10_ k qm sm, cell9_ k qm sm, cell7_ k qm sm] := hD
          have s34 := updI eg33 (by decide) (show 0 ≤ 6 from by omega) 0
          have s35 := updI eg33 (by decide) (show 0 ≤ 6 from by omega) 1
          have el36 : 0 ≤ (g33 0).toInt ∧ (g33 0).toInt ≤ 5 := by omega
          have el37 : 0 ≤ (g33 1).toInt ∧ (g33 1).toInt ≤ 4 := by omega
          refine lv_aload_n hx hb dX12_without_109 rfl (lv_at hl 4 rfl) ?_
          refine g_get cx hP iw_X12_without_X12 0 rfl rfl 1 (by decide) rfl fw_X12_without_13 rfl dX12_without_110 ?_
          refine lv_bipush (v := 7) hx hb dX12_without_113 (by decide) ?_
          refine lv_iload_n hx hb dX12_without_115 rfl (lv_at hl 5 rfl) ?_
          refine lv_bipush (v := 8) hx hb dX12_without_116 (by decide) ?_
          refine lv_iand hx hb dX12_without_118 (lv_topi (fun v38 e38 => ?_))
          have t38 : 0 ≤ v38.toInt ∧ v38.toInt ≤ p0.toInt := by rw [e38]; exact and_l rfl (by omega)
          refine lv_bipush (v := 8) hx hb dX12_without_119 (by decide) ?_
          refine lv_icmp_ne (tgt := 129) hx hb dX12_without_121 (by decide) (fun c39 => ?_) (fun c39 => ?_)
          · have f39 : ¬ v38.toInt = 8 := f_ne rfl (by decide) c39
            refine lv_iload hx hb dX12_without_129 (lv_at hl 0 rfl) ?_
            have hn40 : vp_in 7 26 := f_in (a := 7) (by decide) (by omega) (by omega)
            refine va_iast hx hb cx.2.1 hP hD hS 2 0 rfl rfl hn40 dX12_without_131 (fun H locs hP hD hS => ?_)
            obtain ⟨g41, eg41⟩ : ∃ g : Nat → Int32, g = upd g33 ((7 : Int32).toNatClampNeg) v13 := ⟨_, rfl⟩
            rw [← eg41] at hP hD
            have hP : va_P D vwCl [cell22_ qm sm tm, cell5_ k qm sm, (qm 2, .inl (k 0, 26, .inl g41)), cell8_ k qm sm, cell6_ k qm sm, cell15_ k qm sm, cell14_ k qm tm, cell12_ k qm tm, cell18_ k qm tm, cell17_ k qm tm, cell19_ k qm tm, cell21_ k qm tm, cell20_ k qm sm, cell16_ k qm sm, cell11_ k qm sm, cell10_ k qm sm, cell9_ k qm sm, cell7_ k qm sm] H := hP
            have hD : va_D A [cell22_ qm sm tm, cell5_ k qm sm, (qm 2, .inl (k 0, 26, .inl g41)), cell8_ k qm sm, cell6_ k qm sm, cell15_ k qm sm, cell14_ k qm tm, cell12_ k qm tm, cell18_ k qm tm, cell17_ k qm tm, cell19_ k qm tm, cell21_ k qm tm, cell20_ k qm sm, cell16_ k qm sm, cell11_ k qm sm, cell10_ k qm sm, cell9_ k qm sm, cell7_ k qm sm] := hD
            have s42 := updI eg41 (by decide) (show 0 ≤ 7 from by omega) 0
            have s43 := updI eg41 (by decide) (show 0 ≤ 7 from by omega) 1
            have el44 : 0 ≤ (g41 0).toInt ∧ (g41 0).toInt ≤ 5 := by omega
            have el45 : 0 ≤ (g41 1).toInt ∧ (g41 1).toInt ≤ 4 := by omega
            refine lv_aload_n hx hb dX12_without_132 rfl (lv_at hl 4 rfl) ?_
            refine lv_iconst (v := 0) hx hb dX12_without_133 (by decide) ?_
            refine g_vF (w1 := fun (u : (Nat → Int64) × (Nat → Int64) × (Nat → Int32)) => [cell22_ qm sm tm, cell5_ k qm sm, (qm 2, .inl (k 0, 26, .inl g41)), cell8_ k qm sm, cell6_ k qm sm, cell15_ k qm sm, cell14_ k qm tm, cell12_ k qm tm, cell18_ k qm tm, cell17_ k qm tm, cell130_ k qm (u.1), cell122_ k qm (u.2.1), cell123_ k qm (u.2.2), cell16_ k qm sm, cell11_ k qm sm, cell10_ k qm sm, cell9_ k qm sm, cell7_ k qm sm]) (g_runVF (ws := [cell22_ qm sm tm, cell5_ k qm sm, (qm 2, .inl (k 0, 26, .inl g41)), cell8_ k qm sm, cell6_ k qm sm, cell15_ k qm sm, cell14_ k qm tm, cell12_ k qm tm, cell18_ k qm tm, cell17_ k qm tm, cell19_ k qm tm, cell21_ k qm tm, cell20_ k qm sm, cell16_ k qm sm, cell11_ k qm sm, cell10_ k qm sm, cell9_ k qm sm, cell7_ k qm sm]) (rest := []) cx hP hD hS [.int 0] (c_X12_layBest l D k b qm (up2 sm 2 g41) tm H.size 0 (show 0 ≤ (g41 0).toInt ∧ (g41 0).toInt ≤ 5 from by first | decide | omega) (show 0 ≤ (g41 1).toInt ∧ (g41 1).toInt ≤ 4 from by first | decide | omega) (show 0 ≤ (0 : Int32).toInt ∧ (0 : Int32).toInt ≤ 4 from by first | decide | omega)) gX12_without_X12_layBest rfl rfl rfl nd_X12_layBest ⟨Nat.le_of_ble_eq_true rfl, Nat.le_of_ble_eq_true rfl⟩ (ci := 10) (q0 := 0) rfl rfl rfl hl.1 rfl (Nat.le_of_ble_eq_true rfl) ⟨Nat.zero_le _, Nat.zero_le _⟩ dX12_without_134) cx.2.2.1 hD hS (fun u47 H locs hw46 hP hD hS => ?_)
            obtain ⟨m48, m49, m50⟩ := u47
            have hP : va_P D vwCl [cell22_ qm sm tm, cell5_ k qm sm, (qm 2, .inl (k 0, 26, .inl g41)), cell8_ k qm sm, cell6_ k qm sm, cell15_ k qm sm, cell14_ k qm tm, cell12_ k qm tm, cell18_ k qm tm, cell17_ k qm tm, (qm 10, .inl (k 1, 1500, .inr (.inl m48))), (qm 11, .inl (k 1, 1500, .inr (.inl m49))), (qm 12, .inl (k 0, 1500, .inl m50)), cell16_ k qm sm, cell11_ k qm sm, cell10_ k qm sm, cell9_ k qm sm, cell7_ k qm sm] H := hP
            have hD : va_D A [cell22_ qm sm tm, cell5_ k qm sm, (qm 2, .inl (k 0, 26, .inl g41)), cell8_ k qm sm, cell6_ k qm sm, cell15_ k qm sm, cell14_ k qm tm, cell12_ k qm tm, cell18_ k qm tm, cell17_ k qm tm, (qm 10, .inl (k 1, 1500, .inr (.inl m48))), (qm 11, .inl (k 1, 1500, .inr (.inl m49))), (qm 12, .inl (k 0, 1500, .inl m50)), cell16_ k qm sm, cell11_ k qm sm, cell10_ k qm sm, cell9_ k qm sm, cell7_ k qm sm] := hD
            have w51 : (m48, m49, m50) = J_X12_layBest (up2 sm 2 g41) tm (0 : Int32) := hw46
            clear hw46
            refine lv_aload_n hx hb dX12_without_137 rfl (lv_at hl 4 rfl) ?_
            refine g_get cx hP iw_X12_without_X12 0 rfl rfl 1 (by decide) rfl fw_X12_without_13 rfl dX12_without_138 ?_
            refine lv_iconst (v := 4) hx hb dX12_without_141 (by decide) ?_
            refine lv_iload_n hx hb dX12_without_142 rfl (lv_at hl 3 rfl) ?_
            have hn53 : vp_in 4 26 := f_in (a := 4) (by decide) (by omega) (by omega)
            refine va_iast hx hb cx.2.1 hP hD hS 2 0 rfl rfl hn53 dX12_without_143 (fun H locs hP hD hS => ?_)
            obtain ⟨g54, eg54⟩ : ∃ g : Nat → Int32, g = upd g41 ((4 : Int32).toNatClampNeg) v7 := ⟨_, rfl⟩
            rw [← eg54] at hP hD
            have hP : va_P D vwCl [cell22_ qm sm tm, cell5_ k qm sm, (qm 2, .inl (k 0, 26, .inl g54)), cell8_ k qm sm, cell6_ k qm sm, cell15_ k qm sm, cell14_ k qm tm, cell12_ k qm tm, cell18_ k qm tm, cell17_ k qm tm, (qm 10, .inl (k 1, 1500, .inr (.inl m48))), (qm 11, .inl (k 1, 1500, .inr (.inl m49))), (qm 12, .inl (k 0, 1500, .inl m50)), cell16_ k qm sm, cell11_ k qm sm, cell10_ k qm sm, cell9_ k qm sm, cell7_ k qm sm] H := hP
            have hD : va_D A [cell22_ qm sm tm, cell5_ k qm sm, (qm 2, .inl (k 0, 26, .inl g54)), cell8_ k qm sm, cell6_ k qm sm, cell15_ k qm sm, cell14_ k qm tm, cell12_ k qm tm, cell18_ k qm tm, cell17_ k qm tm, (qm 10, .inl (k 1, 1500, .inr (.inl m48))), (qm 11, .inl (k 1, 1500, .inr (.inl m49))), (qm 12, .inl (k 0, 1500, .inl m50)), cell16_ k qm sm, cell11_ k qm sm, cell10_ k qm sm, cell9_ k qm sm, cell7_ k qm sm] := hD
            have s55 := updI eg54 (by decide) (show 0 ≤ 4 from by omega) 0
            have s56 := updI eg54 (by decide) (show 0 ≤ 4 from by omega) 1
            have el57 : 0 ≤ (g54 0).toInt ∧ (g54 0).toInt ≤ 5 := by omega
            have el58 : 0 ≤ (g54 1).toInt ∧ (g54 1).toInt ≤ 4 := by omega
            refine lv_aload_n hx hb dX12_without_144 rfl (lv_at hl 4 rfl) ?_
            refine g_get cx hP iw_X12_without_X12 0 rfl rfl 1 (by decide) rfl fw_X12_without_13 rfl dX12_without_145 ?_
            refine lv_iconst (v := 5) hx hb dX12_without_148 (by decide) ?_
            refine lv_iload hx hb dX12_without_149 (lv_at hl 2 rfl) ?_
            have hn59 : vp_in 5 26 := f_in (a := 5) (by decide) (by omega) (by omega)
            refine va_iast hx hb cx.2.1 hP hD hS 2 0 rfl rfl hn59 dX12_without_151 (fun H locs hP hD hS => ?_)
            obtain ⟨g60, eg60⟩ : ∃ g : Nat → Int32, g = upd g54 ((5 : Int32).toNatClampNeg) v9 := ⟨_, rfl⟩
            rw [← eg60] at hP hD
            have hP : va_P D vwCl [cell22_ qm sm tm, cell5_ k qm sm, (qm 2, .inl (k 0, 26, .inl g60)), cell8_ k qm sm, cell6_ k qm sm, cell15_ k qm sm, cell14_ k qm tm, cell12_ k qm tm, cell18_ k qm tm, cell17_ k qm tm, (qm 10, .inl (k 1, 1500, .inr (.inl m48))), (qm 11, .inl (k 1, 1500, .inr (.inl m49))), (qm 12, .inl (k 0, 1500, .inl m50)), cell16_ k qm sm, cell11_ k qm sm, cell10_ k qm sm, cell9_ k qm sm, cell7_ k qm sm] H := hP
            have hD : va_D A [cell22_ qm sm tm, cell5_ k qm sm, (qm 2, .inl (k 0, 26, .inl g60)), cell8_ k qm sm, cell6_ k qm sm, cell15_ k qm sm, cell14_ k qm tm, cell12_ k qm tm, cell18_ k qm tm, cell17_ k qm tm, (qm 10, .inl (k 1, 1500, .inr (.inl m48))), (qm 11, .inl (k 1, 1500, .inr (.inl m49))), (qm 12, .inl (k 0, 1500, .inl m50)), cell16_ k qm sm, cell11_ k qm sm, cell10_ k qm sm, cell9_ k qm sm, cell7_ k qm sm] := hD
            have s61 := updI eg60 (by decide) (show 0 ≤ 5 from by omega) 0
            have s62 := updI eg60 (by decide) (show 0 ≤ 5 from by omega) 1
            have el63 : 0 ≤ (g60 0).toInt ∧ (g60 0).toInt ≤ 5 := by omega
            have el64 : 0 ≤ (g60 1).toInt ∧ (g60 1).toInt ≤ 4 := by omega
            refine lv_aload_n hx hb dX12_without_152 rfl (lv_at hl 4 rfl) ?_
            refine g_get cx hP iw_X12_without_X12 0 rfl rfl 1 (by decide) rfl fw_X12_without_13 rfl dX12_without_153 ?_
            refine lv_bipush (v := 6) hx hb dX12_without_156 (by decide) ?_
            refine lv_iload hx hb dX12_without_158 (lv_at hl 1 rfl) ?_
            have hn65 : vp_in 6 26 := f_in (a := 6) (by decide) (by omega) (by omega)
            refine va_iast hx hb cx.2.1 hP hD hS 2 0 rfl rfl hn65 dX12_without_160 (fun H locs hP hD hS => ?_)
            obtain ⟨g66, eg66⟩ : ∃ g : Nat → Int32, g = upd g60 ((6 : Int32).toNatClampNeg) v11 := ⟨_, rfl⟩
            rw [← eg66] at hP hD
            have hP : va_P D vwCl [cell22_ qm sm tm, cell5_ k qm sm, (qm 2, .inl (k 0, 26, .inl g66)), cell8_ k qm sm, cell6_ k qm sm, cell15_ k qm sm, cell14_ k qm tm, cell12_ k qm tm, cell18_ k qm tm, cell17_ k qm tm, (qm 10, .inl (k 1, 1500, .inr (.inl m48))), (qm 11, .inl (k 1, 1500, .inr (.inl m49))), (qm 12, .inl (k 0, 1500, .inl m50)), cell16_ k qm sm, cell11_ k qm sm, cell10_ k qm sm, cell9_ k qm sm, cell7_ k qm sm] H := hP
            have hD : va_D A [cell22_ qm sm tm, cell5_ k qm sm, (qm 2, .inl (k 0, 26, .inl g66)), cell8_ k qm sm, cell6_ k qm sm, cell15_ k qm sm, cell14_ k qm tm, cell12_ k qm tm, cell18_ k qm tm, cell17_ k qm tm, (qm 10, .inl (k 1, 1500, .inr (.inl m48))), (qm 11, .inl (k 1, 1500, .inr (.inl m49))), (qm 12, .inl (k 0, 1500, .inl m50)), cell16_ k qm sm, cell11_ k qm sm, cell10_ k qm sm, cell9_ k qm sm, cell7_ k qm sm] := hD
            have s67 := updI eg66 (by decide) (show 0 ≤ 6 from by omega) 0
            have s68 := updI eg66 (by decide) (show 0 ≤ 6 from by omega) 1
            have el69 : 0 ≤ (g66 0).toInt ∧ (g66 0).toInt ≤ 5 := by omega
            have el70 : 0 ≤ (g66 1).toInt ∧ (g66 1).toInt ≤ 4 := by omega
            refine lv_aload_n hx hb dX12_without_161 rfl (lv_at hl 4 rfl) ?_
            refine g_get cx hP iw_X12_without_X12 0 rfl rfl 1 (by decide) rfl fw_X12_without_13 rfl dX12_without_162 ?_
            refine lv_bipush (v := 7) hx hb dX12_without_165 (by decide) ?_
            refine lv_iload hx hb dX12_without_167 (lv_at hl 0 rfl) ?_
            have hn71 : vp_in 7 26 := f_in (a := 7) (by decide) (by omega) (by omega)
            refine va_iast hx hb cx.2.1 hP hD hS 2 0 rfl rfl hn71 dX12_without_169 (fun H locs hP hD hS => ?_)
            obtain ⟨g72, eg72⟩ : ∃ g : Nat → Int32, g = upd g66 ((7 : Int32).toNatClampNeg) v13 := ⟨_, rfl⟩
            rw [← eg72] at hP hD
            have hP : va_P D vwCl [cell22_ qm sm tm, cell5_ k qm sm, (qm 2, .inl (k 0, 26, .inl g72)), cell8_ k qm sm, cell6_ k qm sm, cell15_ k qm sm, cell14_ k qm tm, cell12_ k qm tm, cell18_ k qm tm, cell17_ k qm tm, (qm 10, .inl (k 1, 1500, .inr (.inl m48))), (qm 11, .inl (k 1, 1500, .inr (.inl m49))), (qm 12, .inl (k 0, 1500, .inl m50)), cell16_ k qm sm, cell11_ k qm sm, cell10_ k qm sm, cell9_ k qm sm, cell7_ k qm sm] H := hP
            have hD : va_D A [cell22_ qm sm tm, cell5_ k qm sm, (qm 2, .inl (k 0, 26, .inl g72)), cell8_ k qm sm, cell6_ k qm sm, cell15_ k qm sm, cell14_ k qm tm, cell12_ k qm tm, cell18_ k qm tm, cell17_ k qm tm, (qm 10, .inl (k 1, 1500, .inr (.inl m48))), (qm 11, .inl (k 1, 1500, .inr (.inl m49))), (qm 12, .inl (k 0, 1500, .inl m50)), cell16_ k qm sm, cell11_ k qm sm, cell10_ k qm sm, cell9_ k qm sm, cell7_ k qm sm] := hD
            have s73 := updI eg72 (by decide) (show 0 ≤ 7 from by omega) 0
            have s74 := updI eg72 (by decide) (show 0 ≤ 7 from by omega) 1
            have el75 : 0 ≤ (g72 0).toInt ∧ (g72 0).toInt ≤ 5 := by omega
            have el76 : 0 ≤ (g72 1).toInt ∧ (g72 1).toInt ≤ 4 := by omega
            refine lv_aload_n hx hb dX12_without_170 rfl (lv_at hl 4 rfl) ?_
            refine g_get cx hP iw_X12_without_X12 0 rfl rfl 18 (by decide) rfl fw_X12_without_38 rfl dX12_without_171 ?_
            refine lv_iconst (v := 0) hx hb dX12_without_174 (by decide) ?_
            have hn77 : vp_in 0 1500 := f_in (a := 0) (by decide) (by omega) (by omega)
            refine va_lald hx hb cx.2.1 hP 10 1 rfl rfl hn77 dX12_without_175 (lv_topl (fun v78 e78 => ?_))
            refine lv_aload_n hx hb dX12_without_176 rfl (lv_at hl 4 rfl) ?_
            refine g_get cx hP iw_X12_without_X12 0 rfl rfl 1 (by decide) rfl fw_X12_without_13 rfl dX12_without_177 ?_
            refine lv_iconst (v := 0) hx hb dX12_without_180 (by decide) ?_
            have hn79 : vp_in 0 26 := f_in (a := 0) (by decide) (by omega) (by omega)
            refine va_iald hx hb cx.2.1 hP 2 0 rfl rfl hn79 dX12_without_181 (lv_topi (fun v80 e80 => ?_))
            have uv80 : v80.toInt = (g72 0).toInt := congrArg Int32.toInt e80
            have t80 : 0 ≤ v80.toInt ∧ v80.toInt ≤ 5 := by rw [e80]; exact el75
            refine g_lr (g_runS (wc := []) (rest := [.long v78]) cx hP hD hS [] rfl (by decide) [.int v80] (c_X12_parts l D k b H.size v80) gX12_without_X12_parts rfl rfl rfl nd_X12_parts ⟨Nat.le_of_ble_eq_true rfl, Nat.le_of_ble_eq_true rfl⟩ rfl hl.1 rfl (Nat.le_of_ble_eq_true rfl) ⟨Nat.zero_le _, Nat.zero_le _⟩ dX12_without_182) cx.2.2.1 hP hD hS [] rfl rfl (fun r82 H locs hw81 hP hS => ?_)
            replace hw81 : (r82.toInt % 2 = 1) ∧ (r82 = J_X12_parts v80) := hw81
            obtain ⟨w83, w84⟩ := hw81
            refine lv_iload_n hx hb dX12_without_185 rfl (lv_at hl 6 rfl) ?_
            refine g_lr (g_runS (wc := []) (rest := []) cx hP hD hS [] rfl (by decide) [.long v78, .long r82, .int p1] (c_X12_told l D k b H.size v78 r82 p1 (show ¬ r82.toInt = 0 from by first | decide | omega)) gX12_without_X12_told rfl rfl rfl nd_X12_told ⟨Nat.le_of_ble_eq_true rfl, Nat.le_of_ble_eq_true rfl⟩ rfl hl.1 rfl (Nat.le_of_ble_eq_true rfl) ⟨Nat.zero_le _, Nat.zero_le _⟩ dX12_without_186) cx.2.2.1 hP hD hS [] rfl rfl (fun r87 H locs hw86 hP hS => ?_)
            have w88 : r87 = J_X12_told v78 r82 p1 := hw86
            clear hw86
            rw [hQ]
            exact x_l cx hr (m48, m49, m50, g72) hP hD hS ⟨(show 0 ≤ (g72 0).toInt ∧ (g72 0).toInt ≤ 5 from by omega), (show 0 ≤ (g72 1).toInt ∧ (g72 1).toInt ≤ 4 from by omega), (show g72 = (sm 2) from rest8 eg17 eg25 eg33 eg41 eg54 eg60 eg66 eg72 e7 e9 e11 e13), (show (r87, m48, m49, m50, g72) = J_X12_without sm tm p0 p1 from (exl_X12_without_0 e1 w4 e7 e9 e11 e13 e14 eg17 e22 eg25 e30 eg33 e38 eg41 eg54 eg60 eg66 eg72 e78 e80 c5 c15 c23 c31 c39 w51 w84 w88))⟩ dX12_without_189
          · have f39 : v38.toInt = 8 := f_eq rfl (by decide) c39
            refine lv_bipush (v := (-9)) hx hb dX12_without_124 (by decide) ?_
            refine lv_goto (tgt := 131) hx hb dX12_without_126 (by decide) ?_
            have hn90 : vp_in 7 26 := f_in (a := 7) (by decide) (by omega) (by omega)
            refine va_iast hx hb cx.2.1 hP hD hS 2 0 rfl rfl hn90 dX12_without_131 (fun H locs hP hD hS => ?_)
            obtain ⟨g91, eg91⟩ : ∃ g : Nat → Int32, g = upd g33 ((7 : Int32).toNatClampNeg) (-9) := ⟨_, rfl⟩
            rw [← eg91] at hP hD
            have hP : va_P D vwCl [cell22_ qm sm tm, cell5_ k qm sm, (qm 2, .inl (k 0, 26, .inl g91)), cell8_ k qm sm, cell6_ k qm sm, cell15_ k qm sm, cell14_ k qm tm, cell12_ k qm tm, cell18_ k qm tm, cell17_ k qm tm, cell19_ k qm tm, cell21_ k qm tm, cell20_ k qm sm, cell16_ k qm sm, cell11_ k qm sm, cell10_ k qm sm, cell9_ k qm sm, cell7_ k qm sm] H := hP
            have hD : va_D A [cell22_ qm sm tm, cell5_ k qm sm, (qm 2, .inl (k 0, 26, .inl g91)), cell8_ k qm sm, cell6_ k qm sm, cell15_ k qm sm, cell14_ k qm tm, cell12_ k qm tm, cell18_ k qm tm, cell17_ k qm tm, cell19_ k qm tm, cell21_ k qm tm, cell20_ k qm sm, cell16_ k qm sm, cell11_ k qm sm, cell10_ k qm sm, cell9_ k qm sm, cell7_ k qm sm] := hD
            have s92 := updI eg91 (by decide) (show 0 ≤ 7 from by omega) 0
            have s92l : ((-9) : Int32).toInt = -9 := by decide
            have s93 := updI eg91 (by decide) (show 0 ≤ 7 from by omega) 1
            have s93l : ((-9) : Int32).toInt = -9 := by decide
            have el94 : 0 ≤ (g91 0).toInt ∧ (g91 0).toInt ≤ 5 := by omega
            have el95 : 0 ≤ (g91 1).toInt ∧ (g91 1).toInt ≤ 4 := by omega
            refine lv_aload_n hx hb dX12_without_132 rfl (lv_at hl 4 rfl) ?_
            refine lv_iconst (v := 0) hx hb dX12_without_133 (by decide) ?_
            refine g_vF (w1 := fun (u : (Nat → Int64) × (Nat → Int64) × (Nat → Int32)) => [cell22_ qm sm tm, cell5_ k qm sm, (qm 2, .inl (k 0, 26, .inl g91)), cell8_ k qm sm, cell6_ k qm sm, cell15_ k qm sm, cell14_ k qm tm, cell12_ k qm tm, cell18_ k qm tm, cell17_ k qm tm, cell130_ k qm (u.1), cell122_ k qm (u.2.1), cell123_ k qm (u.2.2), cell16_ k qm sm, cell11_ k qm sm, cell10_ k qm sm, cell9_ k qm sm, cell7_ k qm sm]) (g_runVF (ws := [cell22_ qm sm tm, cell5_ k qm sm, (qm 2, .inl (k 0, 26, .inl g91)), cell8_ k qm sm, cell6_ k qm sm, cell15_ k qm sm, cell14_ k qm tm, cell12_ k qm tm, cell18_ k qm tm, cell17_ k qm tm, cell19_ k qm tm, cell21_ k qm tm, cell20_ k qm sm, cell16_ k qm sm, cell11_ k qm sm, cell10_ k qm sm, cell9_ k qm sm, cell7_ k qm sm]) (rest := []) cx hP hD hS [.int 0] (c_X12_layBest l D k b qm (up2 sm 2 g91) tm H.size 0 (show 0 ≤ (g91 0).toInt ∧ (g91 0).toInt ≤ 5 from by first | decide | omega) (show 0 ≤ (g91 1).toInt ∧ (g91 1).toInt ≤ 4 from by first | decide | omega) (show 0 ≤ (0 : Int32).toInt ∧ (0 : Int32).toInt ≤ 4 from by first | decide | omega)) gX12_without_X12_layBest rfl rfl rfl nd_X12_layBest ⟨Nat.le_of_ble_eq_true rfl, Nat.le_of_ble_eq_true rfl⟩ (ci := 10) (q0 := 0) rfl rfl rfl hl.1 rfl (Nat.le_of_ble_eq_true rfl) ⟨Nat.zero_le _, Nat.zero_le _⟩ dX12_without_134) cx.2.2.1 hD hS (fun u97 H locs hw96 hP hD hS => ?_)
            obtain ⟨m98, m99, m100⟩ := u97
            have hP : va_P D vwCl [cell22_ qm sm tm, cell5_ k qm sm, (qm 2, .inl (k 0, 26, .inl g91)), cell8_ k qm sm, cell6_ k qm sm, cell15_ k qm sm, cell14_ k qm tm, cell12_ k qm tm, cell18_ k qm tm, cell17_ k qm tm, (qm 10, .inl (k 1, 1500, .inr (.inl m98))), (qm 11, .inl (k 1, 1500, .inr (.inl m99))), (qm 12, .inl (k 0, 1500, .inl m100)), cell16_ k qm sm, cell11_ k qm sm, cell10_ k qm sm, cell9_ k qm sm, cell7_ k qm sm] H := hP
            have hD : va_D A [cell22_ qm sm tm, cell5_ k qm sm, (qm 2, .inl (k 0, 26, .inl g91)), cell8_ k qm sm, cell6_ k qm sm, cell15_ k qm sm, cell14_ k qm tm, cell12_ k qm tm, cell18_ k qm tm, cell17_ k qm tm, (qm 10, .inl (k 1, 1500, .inr (.inl m98))), (qm 11, .inl (k 1, 1500, .inr (.inl m99))), (qm 12, .inl (k 0, 1500, .inl m100)), cell16_ k qm sm, cell11_ k qm sm, cell10_ k qm sm, cell9_ k qm sm, cell7_ k qm sm] := hD
            have w101 : (m98, m99, m100) = J_X12_layBest (up2 sm 2 g91) tm (0 : Int32) := hw96
            clear hw96
            refine lv_aload_n hx hb dX12_without_137 rfl (lv_at hl 4 rfl) ?_
            refine g_get cx hP iw_X12_without_X12 0 rfl rfl 1 (by decide) rfl fw_X12_without_13 rfl dX12_without_138 ?_
            refine lv_iconst (v := 4) hx hb dX12_without_141 (by decide) ?_
            refine lv_iload_n hx hb dX12_without_142 rfl (lv_at hl 3 rfl) ?_
            have hn103 : vp_in 4 26 := f_in (a := 4) (by decide) (by omega) (by omega)
            refine va_iast hx hb cx.2.1 hP hD hS 2 0 rfl rfl hn103 dX12_without_143 (fun H locs hP hD hS => ?_)
            obtain ⟨g104, eg104⟩ : ∃ g : Nat → Int32, g = upd g91 ((4 : Int32).toNatClampNeg) v7 := ⟨_, rfl⟩
            rw [← eg104] at hP hD
            have hP : va_P D vwCl [cell22_ qm sm tm, cell5_ k qm sm, (qm 2, .inl (k 0, 26, .inl g104)), cell8_ k qm sm, cell6_ k qm sm, cell15_ k qm sm, cell14_ k qm tm, cell12_ k qm tm, cell18_ k qm tm, cell17_ k qm tm, (qm 10, .inl (k 1, 1500, .inr (.inl m98))), (qm 11, .inl (k 1, 1500, .inr (.inl m99))), (qm 12, .inl (k 0, 1500, .inl m100)), cell16_ k qm sm, cell11_ k qm sm, cell10_ k qm sm, cell9_ k qm sm, cell7_ k qm sm] H := hP
            have hD : va_D A [cell22_ qm sm tm, cell5_ k qm sm, (qm 2, .inl (k 0, 26, .inl g104)), cell8_ k qm sm, cell6_ k qm sm, cell15_ k qm sm, cell14_ k qm tm, cell12_ k qm tm, cell18_ k qm tm, cell17_ k qm tm, (qm 10, .inl (k 1, 1500, .inr (.inl m98))), (qm 11, .inl (k 1, 1500, .inr (.inl m99))), (qm 12, .inl (k 0, 1500, .inl m100)), cell16_ k qm sm, cell11_ k qm sm, cell10_ k qm sm, cell9_ k qm sm, cell7_ k qm sm] := hD
            have s105 := updI eg104 (by decide) (show 0 ≤ 4 from by omega) 0
            have s106 := updI eg104 (by decide) (show 0 ≤ 4 from by omega) 1
            have el107 : 0 ≤ (g104 0).toInt ∧ (g104 0).toInt ≤ 5 := by omega
            have el108 : 0 ≤ (g104 1).toInt ∧ (g104 1).toInt ≤ 4 := by omega
            refine lv_aload_n hx hb dX12_without_144 rfl (lv_at hl 4 rfl) ?_
            refine g_get cx hP iw_X12_without_X12 0 rfl rfl 1 (by decide) rfl fw_X12_without_13 rfl dX12_without_145 ?_
            refine lv_iconst (v := 5) hx hb dX12_without_148 (by decide) ?_
            refine lv_iload hx hb dX12_without_149 (lv_at hl 2 rfl) ?_
            have hn109 : vp_in 5 26 := f_in (a := 5) (by decide) (by omega) (by omega)
            refine va_iast hx hb cx.2.1 hP hD hS 2 0 rfl rfl hn109 dX12_without_151 (fun H locs hP hD hS => ?_)
            obtain ⟨g110, eg110⟩ : ∃ g : Nat → Int32, g = upd g104 ((5 : Int32).toNatClampNeg) v9 := ⟨_, rfl⟩
            rw [← eg110] at hP hD
            have hP : va_P D vwCl [cell22_ qm sm tm, cell5_ k qm sm, (qm 2, .inl (k 0, 26, .inl g110)), cell8_ k qm sm, cell6_ k qm sm, cell15_ k qm sm, cell14_ k qm tm, cell12_ k qm tm, cell18_ k qm tm, cell17_ k qm tm, (qm 10, .inl (k 1, 1500, .inr (.inl m98))), (qm 11, .inl (k 1, 1500, .inr (.inl m99))), (qm 12, .inl (k 0, 1500, .inl m100)), cell16_ k qm sm, cell11_ k qm sm, cell10_ k qm sm, cell9_ k qm sm, cell7_ k qm sm] H := hP
            have hD : va_D A [cell22_ qm sm tm, cell5_ k qm sm, (qm 2, .inl (k 0, 26, .inl g110)), cell8_ k qm sm, cell6_ k qm sm, cell15_ k qm sm, cell14_ k qm tm, cell12_ k qm tm, cell18_ k qm tm, cell17_ k qm tm, (qm 10, .inl (k 1, 1500, .inr (.inl m98))), (qm 11, .inl (k 1, 1500, .inr (.inl m99))), (qm 12, .inl (k 0, 1500, .inl m100)), cell16_ k qm sm, cell11_ k qm sm, cell10_ k qm sm, cell9_ k qm sm, cell7_ k qm sm] := hD
            have s111 := updI eg110 (by decide) (show 0 ≤ 5 from by omega) 0
            have s112 := updI eg110 (by decide) (show 0 ≤ 5 from by omega) 1
            have el113 : 0 ≤ (g110 0).toInt ∧ (g110 0).toInt ≤ 5 := by omega
            have el114 : 0 ≤ (g110 1).toInt ∧ (g110 1).toInt ≤ 4 := by omega
            refine lv_aload_n hx hb dX12_without_152 rfl (lv_at hl 4 rfl) ?_
            refine g_get cx hP iw_X12_without_X12 0 rfl rfl 1 (by decide) rfl fw_X12_without_13 rfl dX12_without_153 ?_
            refine lv_bipush (v := 6) hx hb dX12_without_156 (by decide) ?_
            refine lv_iload hx hb dX12_without_158 (lv_at hl 1 rfl) ?_
            have hn115 : vp_in 6 26 := f_in (a := 6) (by decide) (by omega) (by omega)
            refine va_iast hx hb cx.2.1 hP hD hS 2 0 rfl rfl hn115 dX12_without_160 (fun H locs hP hD hS => ?_)
            obtain ⟨g116, eg116⟩ : ∃ g : Nat → Int32, g = upd g110 ((6 : Int32).toNatClampNeg) v11 := ⟨_, rfl⟩
            rw [← eg116] at hP hD
            have hP : va_P D vwCl [cell22_ qm sm tm, cell5_ k qm sm, (qm 2, .inl (k 0, 26, .inl g116)), cell8_ k qm sm, cell6_ k qm sm, cell15_ k qm sm, cell14_ k qm tm, cell12_ k qm tm, cell18_ k qm tm, cell17_ k qm tm, (qm 10, .inl (k 1, 1500, .inr (.inl m98))), (qm 11, .inl (k 1, 1500, .inr (.inl m99))), (qm 12, .inl (k 0, 1500, .inl m100)), cell16_ k qm sm, cell11_ k qm sm, cell10_ k qm sm, cell9_ k qm sm, cell7_ k qm sm] H := hP
            have hD : va_D A [cell22_ qm sm tm, cell5_ k qm sm, (qm 2, .inl (k 0, 26, .inl g116)), cell8_ k qm sm, cell6_ k qm sm, cell15_ k qm sm, cell14_ k qm tm, cell12_ k qm tm, cell18_ k qm tm, cell17_ k qm tm, (qm 10, .inl (k 1, 1500, .inr (.inl m98))), (qm 11, .inl (k 1, 1500, .inr (.inl m99))), (qm 12, .inl (k 0, 1500, .inl m100)), cell16_ k qm sm, cell11_ k qm sm, cell10_ k qm sm, cell9_ k qm sm, cell7_ k qm sm] := hD
            have s117 := updI eg116 (by decide) (show 0 ≤ 6 from by omega) 0
            have s118 := updI eg116 (by decide) (show 0 ≤ 6 from by omega) 1
            have el119 : 0 ≤ (g116 0).toInt ∧ (g116 0).toInt ≤ 5 := by omega
            have el120 : 0 ≤ (g116 1).toInt ∧ (g116 1).toInt ≤ 4 := by omega
            refine lv_aload_n hx hb dX12_without_161 rfl (lv_at hl 4 rfl) ?_
            refine g_get cx hP iw_X12_without_X12 0 rfl rfl 1 (by decide) rfl fw_X12_without_13 rfl dX12_without_162 ?_
            refine lv_bipush (v := 7) hx hb dX12_without_165 (by decide) ?_
            refine lv_iload hx hb dX12_without_167 (lv_at hl 0 rfl) ?_
            have hn121 : vp_in 7 26 := f_in (a := 7) (by decide) (by omega) (by omega)
            refine va_iast hx hb cx.2.1 hP hD hS 2 0 rfl rfl hn121 dX12_without_169 (fun H locs hP hD hS => ?_)
            obtain ⟨g122, eg122⟩ : ∃ g : Nat → Int32, g = upd g116 ((7 : Int32).toNatClampNeg) v13 := ⟨_, rfl⟩
            rw [← eg122] at hP hD
            have hP : va_P D vwCl [cell22_ qm sm tm, cell5_ k qm sm, (qm 2, .inl (k 0, 26, .inl g122)), cell8_ k qm sm, cell6_ k qm sm, cell15_ k qm sm, cell14_ k qm tm, cell12_ k qm tm, cell18_ k qm tm, cell17_ k qm tm, (qm 10, .inl (k 1, 1500, .inr (.inl m98))), (qm 11, .inl (k 1, 1500, .inr (.inl m99))), (qm 12, .inl (k 0, 1500, .inl m100)), cell16_ k qm sm, cell11_ k qm sm, cell10_ k qm sm, cell9_ k qm sm, cell7_ k qm sm] H := hP
            have hD : va_D A [cell22_ qm sm tm, cell5_ k qm sm, (qm 2, .inl (k 0, 26, .inl g122)), cell8_ k qm sm, cell6_ k qm sm, cell15_ k qm sm, cell14_ k qm tm, cell12_ k qm tm, cell18_ k qm tm, cell17_ k qm tm, (qm 10, .inl (k 1, 1500, .inr (.inl m98))), (qm 11, .inl (k 1, 1500, .inr (.inl m99))), (qm 12, .inl (k 0, 1500, .inl m100)), cell16_ k qm sm, cell11_ k qm sm, cell10_ k qm sm, cell9_ k qm sm, cell7_ k qm sm] := hD
            have s123 := updI eg122 (by decide) (show 0 ≤ 7 from by omega) 0
            have s124 := updI eg122 (by decide) (show 0 ≤ 7 from by omega) 1
            have el125 : 0 ≤ (g122 0).toInt ∧ (g122 0).toInt ≤ 5 := by omega
            have el126 : 0 ≤ (g122 1).toInt ∧ (g122 1).toInt ≤ 4 := by omega
            refine lv_aload_n hx hb dX12_without_170 rfl (lv_at hl 4 rfl) ?_
            refine g_get cx hP iw_X12_without_X12 0 rfl rfl 18 (by decide) rfl fw_X12_without_38 rfl dX12_without_171 ?_
            refine lv_iconst (v := 0) hx hb dX12_without_174 (by decide) ?_
            have hn127 : vp_in 0 1500 := f_in (a := 0) (by decide) (by omega) (by omega)
            refine va_lald hx hb cx.2.1 hP 10 1 rfl rfl hn127 dX12_without_175 (lv_topl (fun v128 e128 => ?_))
            refine lv_aload_n hx hb dX12_without_176 rfl (lv_at hl 4 rfl) ?_
            refine g_get cx hP iw_X12_without_X12 0 rfl rfl 1 (by decide) rfl fw_X12_without_13 rfl dX12_without_177 ?_
            refine lv_iconst (v := 0) hx hb dX12_without_180 (by decide) ?_
            have hn129 : vp_in 0 26 := f_in (a := 0) (by decide) (by omega) (by omega)
            refine va_iald hx hb cx.2.1 hP 2 0 rfl rfl hn129 dX12_without_181 (lv_topi (fun v130 e130 => ?_))
            have uv130 : v130.toInt = (g122 0).toInt := congrArg Int32.toInt e130
            have t130 : 0 ≤ v130.toInt ∧ v130.toInt ≤ 5 := by rw [e130]; exact el125
            refine g_lr (g_runS (wc := []) (rest := [.long v128]) cx hP hD hS [] rfl (by decide) [.int v130] (c_X12_parts l D k b H.size v130) gX12_without_X12_parts rfl rfl rfl nd_X12_parts ⟨Nat.le_of_ble_eq_true rfl, Nat.le_of_ble_eq_true rfl⟩ rfl hl.1 rfl (Nat.le_of_ble_eq_true rfl) ⟨Nat.zero_le _, Nat.zero_le _⟩ dX12_without_182) cx.2.2.1 hP hD hS [] rfl rfl (fun r132 H locs hw131 hP hS => ?_)
            replace hw131 : (r132.toInt % 2 = 1) ∧ (r132 = J_X12_parts v130) := hw131
            obtain ⟨w133, w134⟩ := hw131
            refine lv_iload_n hx hb dX12_without_185 rfl (lv_at hl 6 rfl) ?_
            refine g_lr (g_runS (wc := []) (rest := []) cx hP hD hS [] rfl (by decide) [.long v128, .long r132, .int p1] (c_X12_told l D k b H.size v128 r132 p1 (show ¬ r132.toInt = 0 from by first | decide | omega)) gX12_without_X12_told rfl rfl rfl nd_X12_told ⟨Nat.le_of_ble_eq_true rfl, Nat.le_of_ble_eq_true rfl⟩ rfl hl.1 rfl (Nat.le_of_ble_eq_true rfl) ⟨Nat.zero_le _, Nat.zero_le _⟩ dX12_without_186) cx.2.2.1 hP hD hS [] rfl rfl (fun r137 H locs hw136 hP hS => ?_)
            have w138 : r137 = J_X12_told v128 r132 p1 := hw136
            clear hw136
            rw [hQ]
            exact x_l cx hr (m98, m99, m100, g122) hP hD hS ⟨(show 0 ≤ (g122 0).toInt ∧ (g122 0).toInt ≤ 5 from by omega), (show 0 ≤ (g122 1).toInt ∧ (g122 1).toInt ≤ 4 from by omega), (show g122 = (sm 2) from rest8 eg17 eg25 eg33 eg91 eg104 eg110 eg116 eg122 e7 e9 e11 e13), (show (r137, m98, m99, m100, g122) = J_X12_without sm tm p0 p1 from (exl_X12_without_1 e1 w4 e7 e9 e11 e13 e14 eg17 e22 eg25 e30 eg33 e38 eg91 eg104 eg110 eg116 eg122 e128 e130 c5 c15 c23 c31 c39 w101 w134 w138))⟩ dX12_without_189
        · have f31 : v30.toInt = 4 := f_eq rfl (by decide) c31
          refine lv_bipush (v := (-9)) hx hb dX12_without_101 (by decide) ?_
          refine lv_goto (tgt := 108) hx hb dX12_without_103 (by decide) ?_
          have hn140 : vp_in 6 26 := f_in (a := 6) (by decide) (by omega) (by omega)
          refine va_iast hx hb cx.2.1 hP hD hS 2 0 rfl rfl hn140 dX12_without_108 (fun H locs hP hD hS => ?_)
          obtain ⟨g141, eg141⟩ : ∃ g : Nat → Int32, g = upd g25 ((6 : Int32).toNatClampNeg) (-9) := ⟨_, rfl⟩
          rw [← eg141] at hP hD
          have hP : va_P D vwCl [cell22_ qm sm tm, cell5_ k qm sm, (qm 2, .inl (k 0, 26, .inl g141)), cell8_ k qm sm, cell6_ k qm sm, cell15_ k qm sm, cell14_ k qm tm, cell12_ k qm tm, cell18_ k qm tm, cell17_ k qm tm, cell19_ k qm tm, cell21_ k qm tm, cell20_ k qm sm, cell16_ k qm sm, cell11_ k qm sm, cell10_ k qm sm, cell9_ k qm sm, cell7_ k qm sm] H := hP
          have hD : va_D A [cell22_ qm sm tm, cell5_ k qm sm, (qm 2, .inl (k 0, 26, .inl g141)), cell8_ k qm sm, cell6_ k qm sm, cell15_ k qm sm, cell14_ k qm tm, cell12_ k qm tm, cell18_ k qm tm, cell17_ k qm tm, cell19_ k qm tm, cell21_ k qm tm, cell20_ k qm sm, cell16_ k qm sm, cell11_ k qm sm, cell10_ k qm sm, cell9_ k qm sm, cell7_ k qm sm] := hD
          have s142 := updI eg141 (by decide) (show 0 ≤ 6 from by omega) 0
          have s142l : ((-9) : Int32).toInt = -9 := by decide
          have s143 := updI eg141 (by decide) (show 0 ≤ 6 from by omega) 1
          have s143l : ((-9) : Int32).toInt = -9 := by decide
          have el144 : 0 ≤ (g141 0).toInt ∧ (g141 0).toInt ≤ 5 := by omega
          have el145 : 0 ≤ (g141 1).toInt ∧ (g141 1).toInt ≤ 4 := by omega
          refine lv_aload_n hx hb dX12_without_109 rfl (lv_at hl 4 rfl) ?_
          refine g_get cx hP iw_X12_without_X12 0 rfl rfl 1 (by decide) rfl fw_X12_without_13 rfl dX12_without_110 ?_
          refine lv_bipush (v := 7) hx hb dX12_without_113 (by decide) ?_
          refine lv_iload_n hx hb dX12_without_115 rfl (lv_at hl 5 rfl) ?_
          refine lv_bipush (v := 8) hx hb dX12_without_116 (by decide) ?_
          refine lv_iand hx hb dX12_without_118 (lv_topi (fun v146 e146 => ?_))
          have t146 : 0 ≤ v146.toInt ∧ v146.toInt ≤ p0.toInt := by rw [e146]; exact and_l rfl (by omega)
          refine lv_bipush (v := 8) hx hb dX12_without_119 (by decide) ?_
          refine lv_icmp_ne (tgt := 129) hx hb dX12_without_121 (by decide) (fun c147 => ?_) (fun c147 => ?_)
          · have f147 : ¬ v146.toInt = 8 := f_ne rfl (by decide) c147
            refine lv_iload hx hb dX12_without_129 (lv_at hl 0 rfl) ?_
            have hn148 : vp_in 7 26 := f_in (a := 7) (by decide) (by omega) (by omega)
            refine va_iast hx hb cx.2.1 hP hD hS 2 0 rfl rfl hn148 dX12_without_131 (fun H locs hP hD hS => ?_)
            obtain ⟨g149, eg149⟩ : ∃ g : Nat → Int32, g = upd g141 ((7 : Int32).toNatClampNeg) v13 := ⟨_, rfl⟩
            rw [← eg149] at hP hD
            have hP : va_P D vwCl [cell22_ qm sm tm, cell5_ k qm sm, (qm 2, .inl (k 0, 26, .inl g149)), cell8_ k qm sm, cell6_ k qm sm, cell15_ k qm sm, cell14_ k qm tm, cell12_ k qm tm, cell18_ k qm tm, cell17_ k qm tm, cell19_ k qm tm, cell21_ k qm tm, cell20_ k qm sm, cell16_ k qm sm, cell11_ k qm sm, cell10_ k qm sm, cell9_ k qm sm, cell7_ k qm sm] H := hP
            have hD : va_D A [cell22_ qm sm tm, cell5_ k qm sm, (qm 2, .inl (k 0, 26, .inl g149)), cell8_ k qm sm, cell6_ k qm sm, cell15_ k qm sm, cell14_ k qm tm, cell12_ k qm tm, cell18_ k qm tm, cell17_ k qm tm, cell19_ k qm tm, cell21_ k qm tm, cell20_ k qm sm, cell16_ k qm sm, cell11_ k qm sm, cell10_ k qm sm, cell9_ k qm sm, cell7_ k qm sm] := hD
            have s150 := updI eg149 (by decide) (show 0 ≤ 7 from by omega) 0
            have s151 := updI eg149 (by decide) (show 0 ≤ 7 from by omega) 1
            have el152 : 0 ≤ (g149 0).toInt ∧ (g149 0).toInt ≤ 5 := by omega
            have el153 : 0 ≤ (g149 1).toInt ∧ (g149 1).toInt ≤ 4 := by omega
            refine lv_aload_n hx hb dX12_without_132 rfl (lv_at hl 4 rfl) ?_
            refine lv_iconst (v := 0) hx hb dX12_without_133 (by decide) ?_
            refine g_vF (w1 := fun (u : (Nat → Int64) × (Nat → Int64) × (Nat → Int32)) => [cell22_ qm sm tm, cell5_ k qm sm, (qm 2, .inl (k 0, 26, .inl g149)), cell8_ k qm sm, cell6_ k qm sm, cell15_ k qm sm, cell14_ k qm tm, cell12_ k qm tm, cell18_ k qm tm, cell17_ k qm tm, cell130_ k qm (u.1), cell122_ k qm (u.2.1), cell123_ k qm (u.2.2), cell16_ k qm sm, cell11_ k qm sm, cell10_ k qm sm, cell9_ k qm sm, cell7_ k qm sm]) (g_runVF (ws := [cell22_ qm sm tm, cell5_ k qm sm, (qm 2, .inl (k 0, 26, .inl g149)), cell8_ k qm sm, cell6_ k qm sm, cell15_ k qm sm, cell14_ k qm tm, cell12_ k qm tm, cell18_ k qm tm, cell17_ k qm tm, cell19_ k qm tm, cell21_ k qm tm, cell20_ k qm sm, cell16_ k qm sm, cell11_ k qm sm, cell10_ k qm sm, cell9_ k qm sm, cell7_ k qm sm]) (rest := []) cx hP hD hS [.int 0] (c_X12_layBest l D k b qm (up2 sm 2 g149) tm H.size 0 (show 0 ≤ (g149 0).toInt ∧ (g149 0).toInt ≤ 5 from by first | decide | omega) (show 0 ≤ (g149 1).toInt ∧ (g149 1).toInt ≤ 4 from by first | decide | omega) (show 0 ≤ (0 : Int32).toInt ∧ (0 : Int32).toInt ≤ 4 from by first | decide | omega)) gX12_without_X12_layBest rfl rfl rfl nd_X12_layBest ⟨Nat.le_of_ble_eq_true rfl, Nat.le_of_ble_eq_true rfl⟩ (ci := 10) (q0 := 0) rfl rfl rfl hl.1 rfl (Nat.le_of_ble_eq_true rfl) ⟨Nat.zero_le _, Nat.zero_le _⟩ dX12_without_134) cx.2.2.1 hD hS (fun u155 H locs hw154 hP hD hS => ?_)
            obtain ⟨m156, m157, m158⟩ := u155
            have hP : va_P D vwCl [cell22_ qm sm tm, cell5_ k qm sm, (qm 2, .inl (k 0, 26, .inl g149)), cell8_ k qm sm, cell6_ k qm sm, cell15_ k qm sm, cell14_ k qm tm, cell12_ k qm tm, cell18_ k qm tm, cell17_ k qm tm, (qm 10, .inl (k 1, 1500, .inr (.inl m156))), (qm 11, .inl (k 1, 1500, .inr (.inl m157))), (qm 12, .inl (k 0, 1500, .inl m158)), cell16_ k qm sm, cell11_ k qm sm, cell10_ k qm sm, cell9_ k qm sm, cell7_ k qm sm] H := hP
            have hD : va_D A [cell22_ qm sm tm, cell5_ k qm sm, (qm 2, .inl (k 0, 26, .inl g149)), cell8_ k qm sm, cell6_ k qm sm, cell15_ k qm sm, cell14_ k qm tm, cell12_ k qm tm, cell18_ k qm tm, cell17_ k qm tm, (qm 10, .inl (k 1, 1500, .inr (.inl m156))), (qm 11, .inl (k 1, 1500, .inr (.inl m157))), (qm 12, .inl (k 0, 1500, .inl m158)), cell16_ k qm sm, cell11_ k qm sm, cell10_ k qm sm, cell9_ k qm sm, cell7_ k qm sm] := hD
            have w159 : (m156, m157, m158) = J_X12_layBest (up2 sm 2 g149) tm (0 : Int32) := hw154
            clear hw154
            refine lv_aload_n hx hb dX12_without_137 rfl (lv_at hl 4 rfl) ?_
            refine g_get cx hP iw_X12_without_X12 0 rfl rfl 1 (by decide) rfl fw_X12_without_13 rfl dX12_without_138 ?_
            refine lv_iconst (v := 4) hx hb dX12_without_141 (by decide) ?_
            refine lv_iload_n hx hb dX12_without_142 rfl (lv_at hl 3 rfl) ?_
            have hn161 : vp_in 4 26 := f_in (a := 4) (by decide) (by omega) (by omega)
            refine va_iast hx hb cx.2.1 hP hD hS 2 0 rfl rfl hn161 dX12_without_143 (fun H locs hP hD hS => ?_)
            obtain ⟨g162, eg162⟩ : ∃ g : Nat → Int32, g = upd g149 ((4 : Int32).toNatClampNeg) v7 := ⟨_, rfl⟩
            rw [← eg162] at hP hD
            have hP : va_P D vwCl [cell22_ qm sm tm, cell5_ k qm sm, (qm 2, .inl (k 0, 26, .inl g162)), cell8_ k qm sm, cell6_ k qm sm, cell15_ k qm sm, cell14_ k qm tm, cell12_ k qm tm, cell18_ k qm tm, cell17_ k qm tm, (qm 10, .inl (k 1, 1500, .inr (.inl m156))), (qm 11, .inl (k 1, 1500, .inr (.inl m157))), (qm 12, .inl (k 0, 1500, .inl m158)), cell16_ k qm sm, cell11_ k qm sm, cell10_ k qm sm, cell9_ k qm sm, cell7_ k qm sm] H := hP
            have hD : va_D A [cell22_ qm sm tm, cell5_ k qm sm, (qm 2, .inl (k 0, 26, .inl g162)), cell8_ k qm sm, cell6_ k qm sm, cell15_ k qm sm, cell14_ k qm tm, cell12_ k qm tm, cell18_ k qm tm, cell17_ k qm tm, (qm 10, .inl (k 1, 1500, .inr (.inl m156))), (qm 11, .inl (k 1, 1500, .inr (.inl m157))), (qm 12, .inl (k 0, 1500, .inl m158)), cell16_ k qm sm, cell11_ k qm sm, cell10_ k qm sm, cell9_ k qm sm, cell7_ k qm sm] := hD
            have s163 := updI eg162 (by decide) (show 0 ≤ 4 from by omega) 0
            have s164 := updI eg162 (by decide) (show 0 ≤ 4 from by omega) 1
            have el165 : 0 ≤ (g162 0).toInt ∧ (g162 0).toInt ≤ 5 := by omega
            have el166 : 0 ≤ (g162 1).toInt ∧ (g162 1).toInt ≤ 4 := by omega
            refine lv_aload_n hx hb dX12_without_144 rfl (lv_at hl 4 rfl) ?_
            refine g_get cx hP iw_X12_without_X12 0 rfl rfl 1 (by decide) rfl fw_X12_without_13 rfl dX12_without_145 ?_
            refine lv_iconst (v := 5) hx hb dX12_without_148 (by decide) ?_
            refine lv_iload hx hb dX12_without_149 (lv_at hl 2 rfl) ?_
            have hn167 : vp_in 5 26 := f_in (a := 5) (by decide) (by omega) (by omega)
            refine va_iast hx hb cx.2.1 hP hD hS 2 0 rfl rfl hn167 dX12_without_151 (fun H locs hP hD hS => ?_)
            obtain ⟨g168, eg168⟩ : ∃ g : Nat → Int32, g = upd g162 ((5 : Int32).toNatClampNeg) v9 := ⟨_, rfl⟩
            rw [← eg168] at hP hD
            have hP : va_P D vwCl [cell22_ qm sm tm, cell5_ k qm sm, (qm 2, .inl (k 0, 26, .inl g168)), cell8_ k qm sm, cell6_ k qm sm, cell15_ k qm sm, cell14_ k qm tm, cell12_ k qm tm, cell18_ k qm tm, cell17_ k qm tm, (qm 10, .inl (k 1, 1500, .inr (.inl m156))), (qm 11, .inl (k 1, 1500, .inr (.inl m157))), (qm 12, .inl (k 0, 1500, .inl m158)), cell16_ k qm sm, cell11_ k qm sm, cell10_ k qm sm, cell9_ k qm sm, cell7_ k qm sm] H := hP
            have hD : va_D A [cell22_ qm sm tm, cell5_ k qm sm, (qm 2, .inl (k 0, 26, .inl g168)), cell8_ k qm sm, cell6_ k qm sm, cell15_ k qm sm, cell14_ k qm tm, cell12_ k qm tm, cell18_ k qm tm, cell17_ k qm tm, (qm 10, .inl (k 1, 1500, .inr (.inl m156))), (qm 11, .inl (k 1, 1500, .inr (.inl m157))), (qm 12, .inl (k 0, 1500, .inl m158)), cell16_ k qm sm, cell11_ k qm sm, cell10_ k qm sm, cell9_ k qm sm, cell7_ k qm sm] := hD
            have s169 := updI eg168 (by decide) (show 0 ≤ 5 from by omega) 0
            have s170 := updI eg168 (by decide) (show 0 ≤ 5 from by omega) 1
            have el171 : 0 ≤ (g168 0).toInt ∧ (g168 0).toInt ≤ 5 := by omega
            have el172 : 0 ≤ (g168 1).toInt ∧ (g168 1).toInt ≤ 4 := by omega
            refine lv_aload_n hx hb dX12_without_152 rfl (lv_at hl 4 rfl) ?_
            refine g_get cx hP iw_X12_without_X12 0 rfl rfl 1 (by decide) rfl fw_X12_without_13 rfl dX12_without_153 ?_
            refine lv_bipush (v := 6) hx hb dX12_without_156 (by decide) ?_
            refine lv_iload hx hb dX12_without_158 (lv_at hl 1 rfl) ?_
            have hn173 : vp_in 6 26 := f_in (a := 6) (by decide) (by omega) (by omega)
            refine va_iast hx hb cx.2.1 hP hD hS 2 0 rfl rfl hn173 dX12_without_160 (fun H locs hP hD hS => ?_)
            obtain ⟨g174, eg174⟩ : ∃ g : Nat → Int32, g = upd g168 ((6 : Int32).toNatClampNeg) v11 := ⟨_, rfl⟩
            rw [← eg174] at hP hD
            have hP : va_P D vwCl [cell22_ qm sm tm, cell5_ k qm sm, (qm 2, .inl (k 0, 26, .inl g174)), cell8_ k qm sm, cell6_ k qm sm, cell15_ k qm sm, cell14_ k qm tm, cell12_ k qm tm, cell18_ k qm tm, cell17_ k qm tm, (qm 10, .inl (k 1, 1500, .inr (.inl m156))), (qm 11, .inl (k 1, 1500, .inr (.inl m157))), (qm 12, .inl (k 0, 1500, .inl m158)), cell16_ k qm sm, cell11_ k qm sm, cell10_ k qm sm, cell9_ k qm sm, cell7_ k qm sm] H := hP
            have hD : va_D A [cell22_ qm sm tm, cell5_ k qm sm, (qm 2, .inl (k 0, 26, .inl g174)), cell8_ k qm sm, cell6_ k qm sm, cell15_ k qm sm, cell14_ k qm tm, cell12_ k qm tm, cell18_ k qm tm, cell17_ k qm tm, (qm 10, .inl (k 1, 1500, .inr (.inl m156))), (qm 11, .inl (k 1, 1500, .inr (.inl m157))), (qm 12, .inl (k 0, 1500, .inl m158)), cell16_ k qm sm, cell11_ k qm sm, cell10_ k qm sm, cell9_ k qm sm, cell7_ k qm sm] := hD
            have s175 := updI eg174 (by decide) (show 0 ≤ 6 from by omega) 0
            have s176 := updI eg174 (by decide) (show 0 ≤ 6 from by omega) 1
            have el177 : 0 ≤ (g174 0).toInt ∧ (g174 0).toInt ≤ 5 := by omega
            have el178 : 0 ≤ (g174 1).toInt ∧ (g174 1).toInt ≤ 4 := by omega
            refine lv_aload_n hx hb dX12_without_161 rfl (lv_at hl 4 rfl) ?_
            refine g_get cx hP iw_X12_without_X12 0 rfl rfl 1 (by decide) rfl fw_X12_without_13 rfl dX12_without_162 ?_
            refine lv_bipush (v := 7) hx hb dX12_without_165 (by decide) ?_
            refine lv_iload hx hb dX12_without_167 (lv_at hl 0 rfl) ?_
            have hn179 : vp_in 7 26 := f_in (a := 7) (by decide) (by omega) (by omega)
            refine va_iast hx hb cx.2.1 hP hD hS 2 0 rfl rfl hn179 dX12_without_169 (fun H locs hP hD hS => ?_)
            obtain ⟨g180, eg180⟩ : ∃ g : Nat → Int32, g = upd g174 ((7 : Int32).toNatClampNeg) v13 := ⟨_, rfl⟩
            rw [← eg180] at hP hD
            have hP : va_P D vwCl [cell22_ qm sm tm, cell5_ k qm sm, (qm 2, .inl (k 0, 26, .inl g180)), cell8_ k qm sm, cell6_ k qm sm, cell15_ k qm sm, cell14_ k qm tm, cell12_ k qm tm, cell18_ k qm tm, cell17_ k qm tm, (qm 10, .inl (k 1, 1500, .inr (.inl m156))), (qm 11, .inl (k 1, 1500, .inr (.inl m157))), (qm 12, .inl (k 0, 1500, .inl m158)), cell16_ k qm sm, cell11_ k qm sm, cell10_ k qm sm, cell9_ k qm sm, cell7_ k qm sm] H := hP
            have hD : va_D A [cell22_ qm sm tm, cell5_ k qm sm, (qm 2, .inl (k 0, 26, .inl g180)), cell8_ k qm sm, cell6_ k qm sm, cell15_ k qm sm, cell14_ k qm tm, cell12_ k qm tm, cell18_ k qm tm, cell17_ k qm tm, (qm 10, .inl (k 1, 1500, .inr (.inl m156))), (qm 11, .inl (k 1, 1500, .inr (.inl m157))), (qm 12, .inl (k 0, 1500, .inl m158)), cell16_ k qm sm, cell11_ k qm sm, cell10_ k qm sm, cell9_ k qm sm, cell7_ k qm sm] := hD
            have s181 := updI eg180 (by decide) (show 0 ≤ 7 from by omega) 0
            have s182 := updI eg180 (by decide) (show 0 ≤ 7 from by omega) 1
            have el183 : 0 ≤ (g180 0).toInt ∧ (g180 0).toInt ≤ 5 := by omega
            have el184 : 0 ≤ (g180 1).toInt ∧ (g180 1).toInt ≤ 4 := by omega
            refine lv_aload_n hx hb dX12_without_170 rfl (lv_at hl 4 rfl) ?_
            refine g_get cx hP iw_X12_without_X12 0 rfl rfl 18 (by decide) rfl fw_X12_without_38 rfl dX12_without_171 ?_
            refine lv_iconst (v := 0) hx hb dX12_without_174 (by decide) ?_
            have hn185 : vp_in 0 1500 := f_in (a := 0) (by decide) (by omega) (by omega)
            refine va_lald hx hb cx.2.1 hP 10 1 rfl rfl hn185 dX12_without_175 (lv_topl (fun v186 e186 => ?_))
            refine lv_aload_n hx hb dX12_without_176 rfl (lv_at hl 4 rfl) ?_
            refine g_get cx hP iw_X12_without_X12 0 rfl rfl 1 (by decide) rfl fw_X12_without_13 rfl dX12_without_177 ?_
            refine lv_iconst (v := 0) hx hb dX12_without_180 (by decide) ?_
            have hn187 : vp_in 0 26 := f_in (a := 0) (by decide) (by omega) (by omega)
            refine va_iald hx hb cx.2.1 hP 2 0 rfl rfl hn187 dX12_without_181 (lv_topi (fun v188 e188 => ?_))
            have uv188 : v188.toInt = (g180 0).toInt := congrArg Int32.toInt e188
            have t188 : 0 ≤ v188.toInt ∧ v188.toInt ≤ 5 := by rw [e188]; exact el183
            refine g_lr (g_runS (wc := []) (rest := [.long v186]) cx hP hD hS [] rfl (by decide) [.int v188] (c_X12_parts l D k b H.size v188) gX12_without_X12_parts rfl rfl rfl nd_X12_parts ⟨Nat.le_of_ble_eq_true rfl, Nat.le_of_ble_eq_true rfl⟩ rfl hl.1 rfl (Nat.le_of_ble_eq_true rfl) ⟨Nat.zero_le _, Nat.zero_le _⟩ dX12_without_182) cx.2.2.1 hP hD hS [] rfl rfl (fun r190 H locs hw189 hP hS => ?_)
            replace hw189 : (r190.toInt % 2 = 1) ∧ (r190 = J_X12_parts v188) := hw189
            obtain ⟨w191, w192⟩ := hw189
            refine lv_iload_n hx hb dX12_without_185 rfl (lv_at hl 6 rfl) ?_
            refine g_lr (g_runS (wc := []) (rest := []) cx hP hD hS [] rfl (by decide) [.long v186, .long r190, .int p1] (c_X12_told l D k b H.size v186 r190 p1 (show ¬ r190.toInt = 0 from by first | decide | omega)) gX12_without_X12_told rfl rfl rfl nd_X12_told ⟨Nat.le_of_ble_eq_true rfl, Nat.le_of_ble_eq_true rfl⟩ rfl hl.1 rfl (Nat.le_of_ble_eq_true rfl) ⟨Nat.zero_le _, Nat.zero_le _⟩ dX12_without_186) cx.2.2.1 hP hD hS [] rfl rfl (fun r195 H locs hw194 hP hS => ?_)
            have w196 : r195 = J_X12_told v186 r190 p1 := hw194
            clear hw194
            rw [hQ]
            exact x_l cx hr (m156, m157, m158, g180) hP hD hS ⟨(show 0 ≤ (g180 0).toInt ∧ (g180 0).toInt ≤ 5 from by omega), (show 0 ≤ (g180 1).toInt ∧ (g180 1).toInt ≤ 4 from by omega), (show g180 = (sm 2) from rest8 eg17 eg25 eg141 eg149 eg162 eg168 eg174 eg180 e7 e9 e11 e13), (show (r195, m156, m157, m158, g180) = J_X12_without sm tm p0 p1 from (exl_X12_without_2 e1 w4 e7 e9 e11 e13 e14 eg17 e22 eg25 e30 eg141 e146 eg149 eg162 eg168 eg174 eg180 e186 e188 c5 c15 c23 c31 c147 w159 w192 w196))⟩ dX12_without_189
          · have f147 : v146.toInt = 8 := f_eq rfl (by decide) c147
            refine lv_bipush (v := (-9)) hx hb dX12_without_124 (by decide) ?_
            refine lv_goto (tgt := 131) hx hb dX12_without_126 (by decide) ?_
            have hn198 : vp_in 7 26 := f_in (a := 7) (by decide) (by omega) (by omega)
            refine va_iast hx hb cx.2.1 hP hD hS 2 0 rfl rfl hn198 dX12_without_131 (fun H locs hP hD hS => ?_)
            obtain ⟨g199, eg199⟩ : ∃ g : Nat → Int32, g = upd g141 ((7 : Int32).toNatClampNeg) (-9) := ⟨_, rfl⟩
            rw [← eg199] at hP hD
            have hP : va_P D vwCl [cell22_ qm sm tm, cell5_ k qm sm, (qm 2, .inl (k 0, 26, .inl g199)), cell8_ k qm sm, cell6_ k qm sm, cell15_ k qm sm, cell14_ k qm tm, cell12_ k qm tm, cell18_ k qm tm, cell17_ k qm tm, cell19_ k qm tm, cell21_ k qm tm, cell20_ k qm sm, cell16_ k qm sm, cell11_ k qm sm, cell10_ k qm sm, cell9_ k qm sm, cell7_ k qm sm] H := hP
            have hD : va_D A [cell22_ qm sm tm, cell5_ k qm sm, (qm 2, .inl (k 0, 26, .inl g199)), cell8_ k qm sm, cell6_ k qm sm, cell15_ k qm sm, cell14_ k qm tm, cell12_ k qm tm, cell18_ k qm tm, cell17_ k qm tm, cell19_ k qm tm, cell21_ k qm tm, cell20_ k qm sm, cell16_ k qm sm, cell11_ k qm sm, cell10_ k qm sm, cell9_ k qm sm, cell7_ k qm sm] := hD
            have s200 := updI eg199 (by decide) (show 0 ≤ 7 from by omega) 0
            have s200l : ((-9) : Int32).toInt = -9 := by decide
            have s201 := updI eg199 (by decide) (show 0 ≤ 7 from by omega) 1
            have s201l : ((-9) : Int32).toInt = -9 := by decide
            have el202 : 0 ≤ (g199 0).toInt ∧ (g199 0).toInt ≤ 5 := by omega
            have el203 : 0 ≤ (g199 1).toInt ∧ (g199 1).toInt ≤ 4 := by omega
            refine lv_aload_n hx hb dX12_without_132 rfl (lv_at hl 4 rfl) ?_
            refine lv_iconst (v := 0) hx hb dX12_without_133 (by decide) ?_
            refine g_vF (w1 := fun (u : (Nat → Int64) × (Nat → Int64) × (Nat → Int32)) => [cell22_ qm sm tm, cell5_ k qm sm, (qm 2, .inl (k 0, 26, .inl g199)), cell8_ k qm sm, cell6_ k qm sm, cell15_ k qm sm, cell14_ k qm tm, cell12_ k qm tm, cell18_ k qm tm, cell17_ k qm tm, cell130_ k qm (u.1), cell122_ k qm (u.2.1), cell123_ k qm (u.2.2), cell16_ k qm sm, cell11_ k qm sm, cell10_ k qm sm, cell9_ k qm sm, cell7_ k qm sm]) (g_runVF (ws := [cell22_ qm sm tm, cell5_ k qm sm, (qm 2, .inl (k 0, 26, .inl g199)), cell8_ k qm sm, cell6_ k qm sm, cell15_ k qm sm, cell14_ k qm tm, cell12_ k qm tm, cell18_ k qm tm, cell17_ k qm tm, cell19_ k qm tm, cell21_ k qm tm, cell20_ k qm sm, cell16_ k qm sm, cell11_ k qm sm, cell10_ k qm sm, cell9_ k qm sm, cell7_ k qm sm]) (rest := []) cx hP hD hS [.int 0] (c_X12_layBest l D k b qm (up2 sm 2 g199) tm H.size 0 (show 0 ≤ (g199 0).toInt ∧ (g199 0).toInt ≤ 5 from by first | decide | omega) (show 0 ≤ (g199 1).toInt ∧ (g199 1).toInt ≤ 4 from by first | decide | omega) (show 0 ≤ (0 : Int32).toInt ∧ (0 : Int32).toInt ≤ 4 from by first | decide | omega)) gX12_without_X12_layBest rfl rfl rfl nd_X12_layBest ⟨Nat.le_of_ble_eq_true rfl, Nat.le_of_ble_eq_true rfl⟩ (ci := 10) (q0 := 0) rfl rfl rfl hl.1 rfl (Nat.le_of_ble_eq_true rfl) ⟨Nat.zero_le _, Nat.zero_le _⟩ dX12_without_134) cx.2.2.1 hD hS (fun u205 H locs hw204 hP hD hS => ?_)
            obtain ⟨m206, m207, m208⟩ := u205
            have hP : va_P D vwCl [cell22_ qm sm tm, cell5_ k qm sm, (qm 2, .inl (k 0, 26, .inl g199)), cell8_ k qm sm, cell6_ k qm sm, cell15_ k qm sm, cell14_ k qm tm, cell12_ k qm tm, cell18_ k qm tm, cell17_ k qm tm, (qm 10, .inl (k 1, 1500, .inr (.inl m206))), (qm 11, .inl (k 1, 1500, .inr (.inl m207))), (qm 12, .inl (k 0, 1500, .inl m208)), cell16_ k qm sm, cell11_ k qm sm, cell10_ k qm sm, cell9_ k qm sm, cell7_ k qm sm] H := hP
            have hD : va_D A [cell22_ qm sm tm, cell5_ k qm sm, (qm 2, .inl (k 0, 26, .inl g199)), cell8_ k qm sm, cell6_ k qm sm, cell15_ k qm sm, cell14_ k qm tm, cell12_ k qm tm, cell18_ k qm tm, cell17_ k qm tm, (qm 10, .inl (k 1, 1500, .inr (.inl m206))), (qm 11, .inl (k 1, 1500, .inr (.inl m207))), (qm 12, .inl (k 0, 1500, .inl m208)), cell16_ k qm sm, cell11_ k qm sm, cell10_ k qm sm, cell9_ k qm sm, cell7_ k qm sm] := hD
            have w209 : (m206, m207, m208) = J_X12_layBest (up2 sm 2 g199) tm (0 : Int32) := hw204
            clear hw204
            refine lv_aload_n hx hb dX12_without_137 rfl (lv_at hl 4 rfl) ?_
            refine g_get cx hP iw_X12_without_X12 0 rfl rfl 1 (by decide) rfl fw_X12_without_13 rfl dX12_without_138 ?_
            refine lv_iconst (v := 4) hx hb dX12_without_141 (by decide) ?_
            refine lv_iload_n hx hb dX12_without_142 rfl (lv_at hl 3 rfl) ?_
            have hn211 : vp_in 4 26 := f_in (a := 4) (by decide) (by omega) (by omega)
            refine va_iast hx hb cx.2.1 hP hD hS 2 0 rfl rfl hn211 dX12_without_143 (fun H locs hP hD hS => ?_)
            obtain ⟨g212, eg212⟩ : ∃ g : Nat → Int32, g = upd g199 ((4 : Int32).toNatClampNeg) v7 := ⟨_, rfl⟩
            rw [← eg212] at hP hD
            have hP : va_P D vwCl [cell22_ qm sm tm, cell5_ k qm sm, (qm 2, .inl (k 0, 26, .inl g212)), cell8_ k qm sm, cell6_ k qm sm, cell15_ k qm sm, cell14_ k qm tm, cell12_ k qm tm, cell18_ k qm tm, cell17_ k qm tm, (qm 10, .inl (k 1, 1500, .inr (.inl m206))), (qm 11, .inl (k 1, 1500, .inr (.inl m207))), (qm 12, .inl (k 0, 1500, .inl m208)), cell16_ k qm sm, cell11_ k qm sm, cell10_ k qm sm, cell9_ k qm sm, cell7_ k qm sm] H := hP
            have hD : va_D A [cell22_ qm sm tm, cell5_ k qm sm, (qm 2, .inl (k 0, 26, .inl g212)), cell8_ k qm sm, cell6_ k qm sm, cell15_ k qm sm, cell14_ k qm tm, cell12_ k qm tm, cell18_ k qm tm, cell17_ k qm tm, (qm 10, .inl (k 1, 1500, .inr (.inl m206))), (qm 11, .inl (k 1, 1500, .inr (.inl m207))), (qm 12, .inl (k 0, 1500, .inl m208)), cell16_ k qm sm, cell11_ k qm sm, cell10_ k qm sm, cell9_ k qm sm, cell7_ k qm sm] := hD
            have s213 := updI eg212 (by decide) (show 0 ≤ 4 from by omega) 0
            have s214 := updI eg212 (by decide) (show 0 ≤ 4 from by omega) 1
            have el215 : 0 ≤ (g212 0).toInt ∧ (g212 0).toInt ≤ 5 := by omega
            have el216 : 0 ≤ (g212 1).toInt ∧ (g212 1).toInt ≤ 4 := by omega
            refine lv_aload_n hx hb dX12_without_144 rfl (lv_at hl 4 rfl) ?_
            refine g_get cx hP iw_X12_without_X12 0 rfl rfl 1 (by decide) rfl fw_X12_without_13 rfl dX12_without_145 ?_
            refine lv_iconst (v := 5) hx hb dX12_without_148 (by decide) ?_
            refine lv_iload hx hb dX12_without_149 (lv_at hl 2 rfl) ?_
            have hn217 : vp_in 5 26 := f_in (a := 5) (by decide) (by omega) (by omega)
            refine va_iast hx hb cx.2.1 hP hD hS 2 0 rfl rfl hn217 dX12_without_151 (fun H locs hP hD hS => ?_)
            obtain ⟨g218, eg218⟩ : ∃ g : Nat → Int32, g = upd g212 ((5 : Int32).toNatClampNeg) v9 := ⟨_, rfl⟩
            rw [← eg218] at hP hD
            have hP : va_P D vwCl [cell22_ qm sm tm, cell5_ k qm sm, (qm 2, .inl (k 0, 26, .inl g218)), cell8_ k qm sm, cell6_ k qm sm, cell15_ k qm sm, cell14_ k qm tm, cell12_ k qm tm, cell18_ k qm tm, cell17_ k qm tm, (qm 10, .inl (k 1, 1500, .inr (.inl m206))), (qm 11, .inl (k 1, 1500, .inr (.inl m207))), (qm 12, .inl (k 0, 1500, .inl m208)), cell16_ k qm sm, cell11_ k qm sm, cell10_ k qm sm, cell9_ k qm sm, cell7_ k qm sm] H := hP
            have hD : va_D A [cell22_ qm sm tm, cell5_ k qm sm, (qm 2, .inl (k 0, 26, .inl g218)), cell8_ k qm sm, cell6_ k qm sm, cell15_ k qm sm, cell14_ k qm tm, cell12_ k qm tm, cell18_ k qm tm, cell17_ k qm tm, (qm 10, .inl (k 1, 1500, .inr (.inl m206))), (qm 11, .inl (k 1, 1500, .inr (.inl m207))), (qm 12, .inl (k 0, 1500, .inl m208)), cell16_ k qm sm, cell11_ k qm sm, cell10_ k qm sm, cell9_ k qm sm, cell7_ k qm sm] := hD
            have s219 := updI eg218 (by decide) (show 0 ≤ 5 from by omega) 0
            have s220 := updI eg218 (by decide) (show 0 ≤ 5 from by omega) 1
            have el221 : 0 ≤ (g218 0).toInt ∧ (g218 0).toInt ≤ 5 := by omega
            have el222 : 0 ≤ (g218 1).toInt ∧ (g218 1).toInt ≤ 4 := by omega
            refine lv_aload_n hx hb dX12_without_152 rfl (lv_at hl 4 rfl) ?_
            refine g_get cx hP iw_X12_without_X12 0 rfl rfl 1 (by decide) rfl fw_X12_without_13 rfl dX12_without_153 ?_
            refine lv_bipush (v := 6) hx hb dX12_without_156 (by decide) ?_
            refine lv_iload hx hb dX12_without_158 (lv_at hl 1 rfl) ?_
            have hn223 : vp_in 6 26 := f_in (a := 6) (by decide) (by omega) (by omega)
            refine va_iast hx hb cx.2.1 hP hD hS 2 0 rfl rfl hn223 dX12_without_160 (fun H locs hP hD hS => ?_)
            obtain ⟨g224, eg224⟩ : ∃ g : Nat → Int32, g = upd g218 ((6 : Int32).toNatClampNeg) v11 := ⟨_, rfl⟩
            rw [← eg224] at hP hD
            have hP : va_P D vwCl [cell22_ qm sm tm, cell5_ k qm sm, (qm 2, .inl (k 0, 26, .inl g224)), cell8_ k qm sm, cell6_ k qm sm, cell15_ k qm sm, cell14_ k qm tm, cell12_ k qm tm, cell18_ k qm tm, cell17_ k qm tm, (qm 10, .inl (k 1, 1500, .inr (.inl m206))), (qm 11, .inl (k 1, 1500, .inr (.inl m207))), (qm 12, .inl (k 0, 1500, .inl m208)), cell16_ k qm sm, cell11_ k qm sm, cell10_ k qm sm, cell9_ k qm sm, cell7_ k qm sm] H := hP
            have hD : va_D A [cell22_ qm sm tm, cell5_ k qm sm, (qm 2, .inl (k 0, 26, .inl g224)), cell8_ k qm sm, cell6_ k qm sm, cell15_ k qm sm, cell14_ k qm tm, cell12_ k qm tm, cell18_ k qm tm, cell17_ k qm tm, (qm 10, .inl (k 1, 1500, .inr (.inl m206))), (qm 11, .inl (k 1, 1500, .inr (.inl m207))), (qm 12, .inl (k 0, 1500, .inl m208)), cell16_ k qm sm, cell11_ k qm sm, cell10_ k qm sm, cell9_ k qm sm, cell7_ k qm sm] := hD
            have s225 := updI eg224 (by decide) (show 0 ≤ 6 from by omega) 0
            have s226 := updI eg224 (by decide) (show 0 ≤ 6 from by omega) 1
            have el227 : 0 ≤ (g224 0).toInt ∧ (g224 0).toInt ≤ 5 := by omega
            have el228 : 0 ≤ (g224 1).toInt ∧ (g224 1).toInt ≤ 4 := by omega
            refine lv_aload_n hx hb dX12_without_161 rfl (lv_at hl 4 rfl) ?_
            refine g_get cx hP iw_X12_without_X12 0 rfl rfl 1 (by decide) rfl fw_X12_without_13 rfl dX12_without_162 ?_
            refine lv_bipush (v := 7) hx hb dX12_without_165 (by decide) ?_
            refine lv_iload hx hb dX12_without_167 (lv_at hl 0 rfl) ?_
            have hn229 : vp_in 7 26 := f_in (a := 7) (by decide) (by omega) (by omega)
            refine va_iast hx hb cx.2.1 hP hD hS 2 0 rfl rfl hn229 dX12_without_169 (fun H locs hP hD hS => ?_)
            obtain ⟨g230, eg230⟩ : ∃ g : Nat → Int32, g = upd g224 ((7 : Int32).toNatClampNeg) v13 := ⟨_, rfl⟩
            rw [← eg230] at hP hD
            have hP : va_P D vwCl [cell22_ qm sm tm, cell5_ k qm sm, (qm 2, .inl (k 0, 26, .inl g230)), cell8_ k qm sm, cell6_ k qm sm, cell15_ k qm sm, cell14_ k qm tm, cell12_ k qm tm, cell18_ k qm tm, cell17_ k qm tm, (qm 10, .inl (k 1, 1500, .inr (.inl m206))), (qm 11, .inl (k 1, 1500, .inr (.inl m207))), (qm 12, .inl (k 0, 1500, .inl m208)), cell16_ k qm sm, cell11_ k qm sm, cell10_ k qm sm, cell9_ k qm sm, cell7_ k qm sm] H := hP
            have hD : va_D A [cell22_ qm sm tm, cell5_ k qm sm, (qm 2, .inl (k 0, 26, .inl g230)), cell8_ k qm sm, cell6_ k qm sm, cell15_ k qm sm, cell14_ k qm tm, cell12_ k qm tm, cell18_ k qm tm, cell17_ k qm tm, (qm 10, .inl (k 1, 1500, .inr (.inl m206))), (qm 11, .inl (k 1, 1500, .inr (.inl m207))), (qm 12, .inl (k 0, 1500, .inl m208)), cell16_ k qm sm, cell11_ k qm sm, cell10_ k qm sm, cell9_ k qm sm, cell7_ k qm sm] := hD
            have s231 := updI eg230 (by decide) (show 0 ≤ 7 from by omega) 0
            have s232 := updI eg230 (by decide) (show 0 ≤ 7 from by omega) 1
            have el233 : 0 ≤ (g230 0).toInt ∧ (g230 0).toInt ≤ 5 := by omega
            have el234 : 0 ≤ (g230 1).toInt ∧ (g230 1).toInt ≤ 4 := by omega
            refine lv_aload_n hx hb dX12_without_170 rfl (lv_at hl 4 rfl) ?_
            refine g_get cx hP iw_X12_without_X12 0 rfl rfl 18 (by decide) rfl fw_X12_without_38 rfl dX12_without_171 ?_
            refine lv_iconst (v := 0) hx hb dX12_without_174 (by decide) ?_
            have hn235 : vp_in 0 1500 := f_in (a := 0) (by decide) (by omega) (by omega)
            refine va_lald hx hb cx.2.1 hP 10 1 rfl rfl hn235 dX12_without_175 (lv_topl (fun v236 e236 => ?_))
            refine lv_aload_n hx hb dX12_without_176 rfl (lv_at hl 4 rfl) ?_
            refine g_get cx hP iw_X12_without_X12 0 rfl rfl 1 (by decide) rfl fw_X12_without_13 rfl dX12_without_177 ?_
            refine lv_iconst (v := 0) hx hb dX12_without_180 (by decide) ?_
            have hn237 : vp_in 0 26 := f_in (a := 0) (by decide) (by omega) (by omega)
            refine va_iald hx hb cx.2.1 hP 2 0 rfl rfl hn237 dX12_without_181 (lv_topi (fun v238 e238 => ?_))
            have uv238 : v238.toInt = (g230 0).toInt := congrArg Int32.toInt e238
            have t238 : 0 ≤ v238.toInt ∧ v238.toInt ≤ 5 := by rw [e238]; exact el233
            refine g_lr (g_runS (wc := []) (rest := [.long v236]) cx hP hD hS [] rfl (by decide) [.int v238] (c_X12_parts l D k b H.size v238) gX12_without_X12_parts rfl rfl rfl nd_X12_parts ⟨Nat.le_of_ble_eq_true rfl, Nat.le_of_ble_eq_true rfl⟩ rfl hl.1 rfl (Nat.le_of_ble_eq_true rfl) ⟨Nat.zero_le _, Nat.zero_le _⟩ dX12_without_182) cx.2.2.1 hP hD hS [] rfl rfl (fun r240 H locs hw239 hP hS => ?_)
            replace hw239 : (r240.toInt % 2 = 1) ∧ (r240 = J_X12_parts v238) := hw239
            obtain ⟨w241, w242⟩ := hw239
            refine lv_iload_n hx hb dX12_without_185 rfl (lv_at hl 6 rfl) ?_
            refine g_lr (g_runS (wc := []) (rest := []) cx hP hD hS [] rfl (by decide) [.long v236, .long r240, .int p1] (c_X12_told l D k b H.size v236 r240 p1 (show ¬ r240.toInt = 0 from by first | decide | omega)) gX12_without_X12_told rfl rfl rfl nd_X12_told ⟨Nat.le_of_ble_eq_true rfl, Nat.le_of_ble_eq_true rfl⟩ rfl hl.1 rfl (Nat.le_of_ble_eq_true rfl) ⟨Nat.zero_le _, Nat.zero_le _⟩ dX12_without_186) cx.2.2.1 hP hD hS [] rfl rfl (fun r245 H locs hw244 hP hS => ?_)
            have w246 : r245 = J_X12_told v236 r240 p1 := hw244
            clear hw244
            rw [hQ]
            exact x_l cx hr (m206, m207, m208, g230) hP hD hS ⟨(show 0 ≤ (g230 0).toInt ∧ (g230 0).toInt ≤ 5 from by omega), (show 0 ≤ (g230 1).toInt ∧ (g230 1).toInt ≤ 4 from by omega), (show g230 = (sm 2) from rest8 eg17 eg25 eg141 eg199 eg212 eg218 eg224 eg230 e7 e9 e11 e13), (show (r245, m206, m207, m208, g230) = J_X12_without sm tm p0 p1 from (exl_X12_without_3 e1 w4 e7 e9 e11 e13 e14 eg17 e22 eg25 e30 eg141 e146 eg199 eg212 eg218 eg224 eg230 e236 e238 c5 c15 c23 c31 c147 w209 w242 w246))⟩ dX12_without_189
      · have f23 : v22.toInt = 2 := f_eq rfl (by decide) c23
        refine lv_bipush (v := (-9)) hx hb dX12_without_80 (by decide) ?_
        refine lv_goto (tgt := 87) hx hb dX12_without_82 (by decide) ?_
        have hn248 : vp_in 5 26 := f_in (a := 5) (by decide) (by omega) (by omega)
        refine va_iast hx hb cx.2.1 hP hD hS 2 0 rfl rfl hn248 dX12_without_87 (fun H locs hP hD hS => ?_)
        obtain ⟨g249, eg249⟩ : ∃ g : Nat → Int32, g = upd g17 ((5 : Int32).toNatClampNeg) (-9) := ⟨_, rfl⟩
        rw [← eg249] at hP hD
        have hP : va_P D vwCl [cell22_ qm sm tm, cell5_ k qm sm, (qm 2, .inl (k 0, 26, .inl g249)), cell8_ k qm sm, cell6_ k qm sm, cell15_ k qm sm, cell14_ k qm tm, cell12_ k qm tm, cell18_ k qm tm, cell17_ k qm tm, cell19_ k qm tm, cell21_ k qm tm, cell20_ k qm sm, cell16_ k qm sm, cell11_ k qm sm, cell10_ k qm sm, cell9_ k qm sm, cell7_ k qm sm] H := hP
        have hD : va_D A [cell22_ qm sm tm, cell5_ k qm sm, (qm 2, .inl (k 0, 26, .inl g249)), cell8_ k qm sm, cell6_ k qm sm, cell15_ k qm sm, cell14_ k qm tm, cell12_ k qm tm, cell18_ k qm tm, cell17_ k qm tm, cell19_ k qm tm, cell21_ k qm tm, cell20_ k qm sm, cell16_ k qm sm, cell11_ k qm sm, cell10_ k qm sm, cell9_ k qm sm, cell7_ k qm sm] := hD
        have s250 := updI eg249 (by decide) (show 0 ≤ 5 from by omega) 0
        have s250l : ((-9) : Int32).toInt = -9 := by decide
        have s251 := updI eg249 (by decide) (show 0 ≤ 5 from by omega) 1
        have s251l : ((-9) : Int32).toInt = -9 := by decide
        have el252 : 0 ≤ (g249 0).toInt ∧ (g249 0).toInt ≤ 5 := by omega
        have el253 : 0 ≤ (g249 1).toInt ∧ (g249 1).toInt ≤ 4 := by omega
        refine lv_aload_n hx hb dX12_without_88 rfl (lv_at hl 4 rfl) ?_
        refine g_get cx hP iw_X12_without_X12 0 rfl rfl 1 (by decide) rfl fw_X12_without_13 rfl dX12_without_89 ?_
        refine lv_bipush (v := 6) hx hb dX12_without_92 (by decide) ?_
        refine lv_iload_n hx hb dX12_without_94 rfl (lv_at hl 5 rfl) ?_
        refine lv_iconst (v := 4) hx hb dX12_without_95 (by decide) ?_
        refine lv_iand hx hb dX12_without_96 (lv_topi (fun v254 e254 => ?_))
        have t254 : 0 ≤ v254.toInt ∧ v254.toInt ≤ p0.toInt := by rw [e254]; exact and_l rfl (by omega)
        refine lv_iconst (v := 4) hx hb dX12_without_97 (by decide) ?_
        refine lv_icmp_ne (tgt := 106) hx hb dX12_without_98 (by decide) (fun c255 => ?_) (fun c255 => ?_)
        · have f255 : ¬ v254.toInt = 4 := f_ne rfl (by decide) c255
          refine lv_iload hx hb dX12_without_106 (lv_at hl 1 rfl) ?_
          have hn256 : vp_in 6 26 := f_in (a := 6) (by decide) (by omega) (by omega)
          refine va_iast hx hb cx.2.1 hP hD hS 2 0 rfl rfl hn256 dX12_without_108 (fun H locs hP hD hS => ?_)
          obtain ⟨g257, eg257⟩ : ∃ g : Nat → Int32, g = upd g249 ((6 : Int32).toNatClampNeg) v11 := ⟨_, rfl⟩
          rw [← eg257] at hP hD
          have hP : va_P D vwCl [cell22_ qm sm tm, cell5_ k qm sm, (qm 2, .inl (k 0, 26, .inl g257)), cell8_ k qm sm, cell6_ k qm sm, cell15_ k qm sm, cell14_ k qm tm, cell12_ k qm tm, cell18_ k qm tm, cell17_ k qm tm, cell19_ k qm tm, cell21_ k qm tm, cell20_ k qm sm, cell16_ k qm sm, cell11_ k qm sm, cell10_ k qm sm, cell9_ k qm sm, cell7_ k qm sm] H := hP
          have hD : va_D A [cell22_ qm sm tm, cell5_ k qm sm, (qm 2, .inl (k 0, 26, .inl g257)), cell8_ k qm sm, cell6_ k qm sm, cell15_ k qm sm, cell14_ k qm tm, cell12_ k qm tm, cell18_ k qm tm, cell17_ k qm tm, cell19_ k qm tm, cell21_ k qm tm, cell20_ k qm sm, cell16_ k qm sm, cell11_ k qm sm, cell10_ k qm sm, cell9_ k qm sm, cell7_ k qm sm] := hD
          have s258 := updI eg257 (by decide) (show 0 ≤ 6 from by omega) 0
          have s259 := updI eg257 (by decide) (show 0 ≤ 6 from by omega) 1
          have el260 : 0 ≤ (g257 0).toInt ∧ (g257 0).toInt ≤ 5 := by omega
          have el261 : 0 ≤ (g257 1).toInt ∧ (g257 1).toInt ≤ 4 := by omega
          refine lv_aload_n hx hb dX12_without_109 rfl (lv_at hl 4 rfl) ?_
          refine g_get cx hP iw_X12_without_X12 0 rfl rfl 1 (by decide) rfl fw_X12_without_13 rfl dX12_without_110 ?_
          refine lv_bipush (v := 7) hx hb dX12_without_113 (by decide) ?_
          refine lv_iload_n hx hb dX12_without_115 rfl (lv_at hl 5 rfl) ?_
          refine lv_bipush (v := 8) hx hb dX12_without_116 (by decide) ?_
          refine lv_iand hx hb dX12_without_118 (lv_topi (fun v262 e262 => ?_))
          have t262 : 0 ≤ v262.toInt ∧ v262.toInt ≤ p0.toInt := by rw [e262]; exact and_l rfl (by omega)
          refine lv_bipush (v := 8) hx hb dX12_without_119 (by decide) ?_
          refine lv_icmp_ne (tgt := 129) hx hb dX12_without_121 (by decide) (fun c263 => ?_) (fun c263 => ?_)
          · have f263 : ¬ v262.toInt = 8 := f_ne rfl (by decide) c263
            refine lv_iload hx hb dX12_without_129 (lv_at hl 0 rfl) ?_
            have hn264 : vp_in 7 26 := f_in (a := 7) (by decide) (by omega) (by omega)
            refine va_iast hx hb cx.2.1 hP hD hS 2 0 rfl rfl hn264 dX12_without_131 (fun H locs hP hD hS => ?_)
            obtain ⟨g265, eg265⟩ : ∃ g : Nat → Int32, g = upd g257 ((7 : Int32).toNatClampNeg) v13 := ⟨_, rfl⟩
            rw [← eg265] at hP hD
            have hP : va_P D vwCl [cell22_ qm sm tm, cell5_ k qm sm, (qm 2, .inl (k 0, 26, .inl g265)), cell8_ k qm sm, cell6_ k qm sm, cell15_ k qm sm, cell14_ k qm tm, cell12_ k qm tm, cell18_ k qm tm, cell17_ k qm tm, cell19_ k qm tm, cell21_ k qm tm, cell20_ k qm sm, cell16_ k qm sm, cell11_ k qm sm, cell10_ k qm sm, cell9_ k qm sm, cell7_ k qm sm] H := hP
            have hD : va_D A [cell22_ qm sm tm, cell5_ k qm sm, (qm 2, .inl (k 0, 26, .inl g265)), cell8_ k qm sm, cell6_ k qm sm, cell15_ k qm sm, cell14_ k qm tm, cell12_ k qm tm, cell18_ k qm tm, cell17_ k qm tm, cell19_ k qm tm, cell21_ k qm tm, cell20_ k qm sm, cell16_ k qm sm, cell11_ k qm sm, cell10_ k qm sm, cell9_ k qm sm, cell7_ k qm sm] := hD
            have s266 := updI eg265 (by decide) (show 0 ≤ 7 from by omega) 0
            have s267 := updI eg265 (by decide) (show 0 ≤ 7 from by omega) 1
            have el268 : 0 ≤ (g265 0).toInt ∧ (g265 0).toInt ≤ 5 := by omega
            have el269 : 0 ≤ (g265 1).toInt ∧ (g265 1).toInt ≤ 4 := by omega
            refine lv_aload_n hx hb dX12_without_132 rfl (lv_at hl 4 rfl) ?_
            refine lv_iconst (v := 0) hx hb dX12_without_133 (by decide) ?_
            refine g_vF (w1 := fun (u : (Nat → Int64) × (Nat → Int64) × (Nat → Int32)) => [cell22_ qm sm tm, cell5_ k qm sm, (qm 2, .inl (k 0, 26, .inl g265)), cell8_ k qm sm, cell6_ k qm sm, cell15_ k qm sm, cell14_ k qm tm, cell12_ k qm tm, cell18_ k qm tm, cell17_ k qm tm, cell130_ k qm (u.1), cell122_ k qm (u.2.1), cell123_ k qm (u.2.2), cell16_ k qm sm, cell11_ k qm sm, cell10_ k qm sm, cell9_ k qm sm, cell7_ k qm sm]) (g_runVF (ws := [cell22_ qm sm tm, cell5_ k qm sm, (qm 2, .inl (k 0, 26, .inl g265)), cell8_ k qm sm, cell6_ k qm sm, cell15_ k qm sm, cell14_ k qm tm, cell12_ k qm tm, cell18_ k qm tm, cell17_ k qm tm, cell19_ k qm tm, cell21_ k qm tm, cell20_ k qm sm, cell16_ k qm sm, cell11_ k qm sm, cell10_ k qm sm, cell9_ k qm sm, cell7_ k qm sm]) (rest := []) cx hP hD hS [.int 0] (c_X12_layBest l D k b qm (up2 sm 2 g265) tm H.size 0 (show 0 ≤ (g265 0).toInt ∧ (g265 0).toInt ≤ 5 from by first | decide | omega) (show 0 ≤ (g265 1).toInt ∧ (g265 1).toInt ≤ 4 from by first | decide | omega) (show 0 ≤ (0 : Int32).toInt ∧ (0 : Int32).toInt ≤ 4 from by first | decide | omega)) gX12_without_X12_layBest rfl rfl rfl nd_X12_layBest ⟨Nat.le_of_ble_eq_true rfl, Nat.le_of_ble_eq_true rfl⟩ (ci := 10) (q0 := 0) rfl rfl rfl hl.1 rfl (Nat.le_of_ble_eq_true rfl) ⟨Nat.zero_le _, Nat.zero_le _⟩ dX12_without_134) cx.2.2.1 hD hS (fun u271 H locs hw270 hP hD hS => ?_)
            obtain ⟨m272, m273, m274⟩ := u271
            have hP : va_P D vwCl [cell22_ qm sm tm, cell5_ k qm sm, (qm 2, .inl (k 0, 26, .inl g265)), cell8_ k qm sm, cell6_ k qm sm, cell15_ k qm sm, cell14_ k qm tm, cell12_ k qm tm, cell18_ k qm tm, cell17_ k qm tm, (qm 10, .inl (k 1, 1500, .inr (.inl m272))), (qm 11, .inl (k 1, 1500, .inr (.inl m273))), (qm 12, .inl (k 0, 1500, .inl m274)), cell16_ k qm sm, cell11_ k qm sm, cell10_ k qm sm, cell9_ k qm sm, cell7_ k qm sm] H := hP
            have hD : va_D A [cell22_ qm sm tm, cell5_ k qm sm, (qm 2, .inl (k 0, 26, .inl g265)), cell8_ k qm sm, cell6_ k qm sm, cell15_ k qm sm, cell14_ k qm tm, cell12_ k qm tm, cell18_ k qm tm, cell17_ k qm tm, (qm 10, .inl (k 1, 1500, .inr (.inl m272))), (qm 11, .inl (k 1, 1500, .inr (.inl m273))), (qm 12, .inl (k 0, 1500, .inl m274)), cell16_ k qm sm, cell11_ k qm sm, cell10_ k qm sm, cell9_ k qm sm, cell7_ k qm sm] := hD
            have w275 : (m272, m273, m274) = J_X12_layBest (up2 sm 2 g265) tm (0 : Int32) := hw270
            clear hw270
            refine lv_aload_n hx hb dX12_without_137 rfl (lv_at hl 4 rfl) ?_
            refine g_get cx hP iw_X12_without_X12 0 rfl rfl 1 (by decide) rfl fw_X12_without_13 rfl dX12_without_138 ?_
            refine lv_iconst (v := 4) hx hb dX12_without_141 (by decide) ?_
            refine lv_iload_n hx hb dX12_without_142 rfl (lv_at hl 3 rfl) ?_
            have hn277 : vp_in 4 26 := f_in (a := 4) (by decide) (by omega) (by omega)
            refine va_iast hx hb cx.2.1 hP hD hS 2 0 rfl rfl hn277 dX12_without_143 (fun H locs hP hD hS => ?_)
            obtain ⟨g278, eg278⟩ : ∃ g : Nat → Int32, g = upd g265 ((4 : Int32).toNatClampNeg) v7 := ⟨_, rfl⟩
            rw [← eg278] at hP hD
            have hP : va_P D vwCl [cell22_ qm sm tm, cell5_ k qm sm, (qm 2, .inl (k 0, 26, .inl g278)), cell8_ k qm sm, cell6_ k qm sm, cell15_ k qm sm, cell14_ k qm tm, cell12_ k qm tm, cell18_ k qm tm, cell17_ k qm tm, (qm 10, .inl (k 1, 1500, .inr (.inl m272))), (qm 11, .inl (k 1, 1500, .inr (.inl m273))), (qm 12, .inl (k 0, 1500, .inl m274)), cell16_ k qm sm, cell11_ k qm sm, cell10_ k qm sm, cell9_ k qm sm, cell7_ k qm sm] H := hP
            have hD : va_D A [cell22_ qm sm tm, cell5_ k qm sm, (qm 2, .inl (k 0, 26, .inl g278)), cell8_ k qm sm, cell6_ k qm sm, cell15_ k qm sm, cell14_ k qm tm, cell12_ k qm tm, cell18_ k qm tm, cell17_ k qm tm, (qm 10, .inl (k 1, 1500, .inr (.inl m272))), (qm 11, .inl (k 1, 1500, .inr (.inl m273))), (qm 12, .inl (k 0, 1500, .inl m274)), cell16_ k qm sm, cell11_ k qm sm, cell10_ k qm sm, cell9_ k qm sm, cell7_ k qm sm] := hD
            have s279 := updI eg278 (by decide) (show 0 ≤ 4 from by omega) 0
            have s280 := updI eg278 (by decide) (show 0 ≤ 4 from by omega) 1
            have el281 : 0 ≤ (g278 0).toInt ∧ (g278 0).toInt ≤ 5 := by omega
            have el282 : 0 ≤ (g278 1).toInt ∧ (g278 1).toInt ≤ 4 := by omega
            refine lv_aload_n hx hb dX12_without_144 rfl (lv_at hl 4 rfl) ?_
            refine g_get cx hP iw_X12_without_X12 0 rfl rfl 1 (by decide) rfl fw_X12_without_13 rfl dX12_without_145 ?_
            refine lv_iconst (v := 5) hx hb dX12_without_148 (by decide) ?_
            refine lv_iload hx hb dX12_without_149 (lv_at hl 2 rfl) ?_
            have hn283 : vp_in 5 26 := f_in (a := 5) (by decide) (by omega) (by omega)
            refine va_iast hx hb cx.2.1 hP hD hS 2 0 rfl rfl hn283 dX12_without_151 (fun H locs hP hD hS => ?_)
            obtain ⟨g284, eg284⟩ : ∃ g : Nat → Int32, g = upd g278 ((5 : Int32).toNatClampNeg) v9 := ⟨_, rfl⟩
            rw [← eg284] at hP hD
            have hP : va_P D vwCl [cell22_ qm sm tm, cell5_ k qm sm, (qm 2, .inl (k 0, 26, .inl g284)), cell8_ k qm sm, cell6_ k qm sm, cell15_ k qm sm, cell14_ k qm tm, cell12_ k qm tm, cell18_ k qm tm, cell17_ k qm tm, (qm 10, .inl (k 1, 1500, .inr (.inl m272))), (qm 11, .inl (k 1, 1500, .inr (.inl m273))), (qm 12, .inl (k 0, 1500, .inl m274)), cell16_ k qm sm, cell11_ k qm sm, cell10_ k qm sm, cell9_ k qm sm, cell7_ k qm sm] H := hP
            have hD : va_D A [cell22_ qm sm tm, cell5_ k qm sm, (qm 2, .inl (k 0, 26, .inl g284)), cell8_ k qm sm, cell6_ k qm sm, cell15_ k qm sm, cell14_ k qm tm, cell12_ k qm tm, cell18_ k qm tm, cell17_ k qm tm, (qm 10, .inl (k 1, 1500, .inr (.inl m272))), (qm 11, .inl (k 1, 1500, .inr (.inl m273))), (qm 12, .inl (k 0, 1500, .inl m274)), cell16_ k qm sm, cell11_ k qm sm, cell10_ k qm sm, cell9_ k qm sm, cell7_ k qm sm] := hD
            have s285 := updI eg284 (by decide) (show 0 ≤ 5 from by omega) 0
            have s286 := updI eg284 (by decide) (show 0 ≤ 5 from by omega) 1
            have el287 : 0 ≤ (g284 0).toInt ∧ (g284 0).toInt ≤ 5 := by omega
            have el288 : 0 ≤ (g284 1).toInt ∧ (g284 1).toInt ≤ 4 := by omega
            refine lv_aload_n hx hb dX12_without_152 rfl (lv_at hl 4 rfl) ?_
            refine g_get cx hP iw_X12_without_X12 0 rfl rfl 1 (by decide) rfl fw_X12_without_13 rfl dX12_without_153 ?_
            refine lv_bipush (v := 6) hx hb dX12_without_156 (by decide) ?_
            refine lv_iload hx hb dX12_without_158 (lv_at hl 1 rfl) ?_
            have hn289 : vp_in 6 26 := f_in (a := 6) (by decide) (by omega) (by omega)
            refine va_iast hx hb cx.2.1 hP hD hS 2 0 rfl rfl hn289 dX12_without_160 (fun H locs hP hD hS => ?_)
            obtain ⟨g290, eg290⟩ : ∃ g : Nat → Int32, g = upd g284 ((6 : Int32).toNatClampNeg) v11 := ⟨_, rfl⟩
            rw [← eg290] at hP hD
            have hP : va_P D vwCl [cell22_ qm sm tm, cell5_ k qm sm, (qm 2, .inl (k 0, 26, .inl g290)), cell8_ k qm sm, cell6_ k qm sm, cell15_ k qm sm, cell14_ k qm tm, cell12_ k qm tm, cell18_ k qm tm, cell17_ k qm tm, (qm 10, .inl (k 1, 1500, .inr (.inl m272))), (qm 11, .inl (k 1, 1500, .inr (.inl m273))), (qm 12, .inl (k 0, 1500, .inl m274)), cell16_ k qm sm, cell11_ k qm sm, cell10_ k qm sm, cell9_ k qm sm, cell7_ k qm sm] H := hP
            have hD : va_D A [cell22_ qm sm tm, cell5_ k qm sm, (qm 2, .inl (k 0, 26, .inl g290)), cell8_ k qm sm, cell6_ k qm sm, cell15_ k qm sm, cell14_ k qm tm, cell12_ k qm tm, cell18_ k qm tm, cell17_ k qm tm, (qm 10, .inl (k 1, 1500, .inr (.inl m272))), (qm 11, .inl (k 1, 1500, .inr (.inl m273))), (qm 12, .inl (k 0, 1500, .inl m274)), cell16_ k qm sm, cell11_ k qm sm, cell10_ k qm sm, cell9_ k qm sm, cell7_ k qm sm] := hD
            have s291 := updI eg290 (by decide) (show 0 ≤ 6 from by omega) 0
            have s292 := updI eg290 (by decide) (show 0 ≤ 6 from by omega) 1
            have el293 : 0 ≤ (g290 0).toInt ∧ (g290 0).toInt ≤ 5 := by omega
            have el294 : 0 ≤ (g290 1).toInt ∧ (g290 1).toInt ≤ 4 := by omega
            refine lv_aload_n hx hb dX12_without_161 rfl (lv_at hl 4 rfl) ?_
            refine g_get cx hP iw_X12_without_X12 0 rfl rfl 1 (by decide) rfl fw_X12_without_13 rfl dX12_without_162 ?_
            refine lv_bipush (v := 7) hx hb dX12_without_165 (by decide) ?_
            refine lv_iload hx hb dX12_without_167 (lv_at hl 0 rfl) ?_
            have hn295 : vp_in 7 26 := f_in (a := 7) (by decide) (by omega) (by omega)
            refine va_iast hx hb cx.2.1 hP hD hS 2 0 rfl rfl hn295 dX12_without_169 (fun H locs hP hD hS => ?_)
            obtain ⟨g296, eg296⟩ : ∃ g : Nat → Int32, g = upd g290 ((7 : Int32).toNatClampNeg) v13 := ⟨_, rfl⟩
            rw [← eg296] at hP hD
            have hP : va_P D vwCl [cell22_ qm sm tm, cell5_ k qm sm, (qm 2, .inl (k 0, 26, .inl g296)), cell8_ k qm sm, cell6_ k qm sm, cell15_ k qm sm, cell14_ k qm tm, cell12_ k qm tm, cell18_ k qm tm, cell17_ k qm tm, (qm 10, .inl (k 1, 1500, .inr (.inl m272))), (qm 11, .inl (k 1, 1500, .inr (.inl m273))), (qm 12, .inl (k 0, 1500, .inl m274)), cell16_ k qm sm, cell11_ k qm sm, cell10_ k qm sm, cell9_ k qm sm, cell7_ k qm sm] H := hP
            have hD : va_D A [cell22_ qm sm tm, cell5_ k qm sm, (qm 2, .inl (k 0, 26, .inl g296)), cell8_ k qm sm, cell6_ k qm sm, cell15_ k qm sm, cell14_ k qm tm, cell12_ k qm tm, cell18_ k qm tm, cell17_ k qm tm, (qm 10, .inl (k 1, 1500, .inr (.inl m272))), (qm 11, .inl (k 1, 1500, .inr (.inl m273))), (qm 12, .inl (k 0, 1500, .inl m274)), cell16_ k qm sm, cell11_ k qm sm, cell10_ k qm sm, cell9_ k qm sm, cell7_ k qm sm] := hD
            have s297 := updI eg296 (by decide) (show 0 ≤ 7 from by omega) 0
            have s298 := updI eg296 (by decide) (show 0 ≤ 7 from by omega) 1
            have el299 : 0 ≤ (g296 0).toInt ∧ (g296 0).toInt ≤ 5 := by omega
            have el300 : 0 ≤ (g296 1).toInt ∧ (g296 1).toInt ≤ 4 := by omega
            refine lv_aload_n hx hb dX12_without_170 rfl (lv_at hl 4 rfl) ?_
            refine g_get cx hP iw_X12_without_X12 0 rfl rfl 18 (by decide) rfl fw_X12_without_38 rfl dX12_without_171 ?_
            refine lv_iconst (v := 0) hx hb dX12_without_174 (by decide) ?_
            have hn301 : vp_in 0 1500 := f_in (a := 0) (by decide) (by omega) (by omega)
            refine va_lald hx hb cx.2.1 hP 10 1 rfl rfl hn301 dX12_without_175 (lv_topl (fun v302 e302 => ?_))
            refine lv_aload_n hx hb dX12_without_176 rfl (lv_at hl 4 rfl) ?_
            refine g_get cx hP iw_X12_without_X12 0 rfl rfl 1 (by decide) rfl fw_X12_without_13 rfl dX12_without_177 ?_
            refine lv_iconst (v := 0) hx hb dX12_without_180 (by decide) ?_
            have hn303 : vp_in 0 26 := f_in (a := 0) (by decide) (by omega) (by omega)
            refine va_iald hx hb cx.2.1 hP 2 0 rfl rfl hn303 dX12_without_181 (lv_topi (fun v304 e304 => ?_))
            have uv304 : v304.toInt = (g296 0).toInt := congrArg Int32.toInt e304
            have t304 : 0 ≤ v304.toInt ∧ v304.toInt ≤ 5 := by rw [e304]; exact el299
            refine g_lr (g_runS (wc := []) (rest := [.long v302]) cx hP hD hS [] rfl (by decide) [.int v304] (c_X12_parts l D k b H.size v304) gX12_without_X12_parts rfl rfl rfl nd_X12_parts ⟨Nat.le_of_ble_eq_true rfl, Nat.le_of_ble_eq_true rfl⟩ rfl hl.1 rfl (Nat.le_of_ble_eq_true rfl) ⟨Nat.zero_le _, Nat.zero_le _⟩ dX12_without_182) cx.2.2.1 hP hD hS [] rfl rfl (fun r306 H locs hw305 hP hS => ?_)
            replace hw305 : (r306.toInt % 2 = 1) ∧ (r306 = J_X12_parts v304) := hw305
            obtain ⟨w307, w308⟩ := hw305
            refine lv_iload_n hx hb dX12_without_185 rfl (lv_at hl 6 rfl) ?_
            refine g_lr (g_runS (wc := []) (rest := []) cx hP hD hS [] rfl (by decide) [.long v302, .long r306, .int p1] (c_X12_told l D k b H.size v302 r306 p1 (show ¬ r306.toInt = 0 from by first | decide | omega)) gX12_without_X12_told rfl rfl rfl nd_X12_told ⟨Nat.le_of_ble_eq_true rfl, Nat.le_of_ble_eq_true rfl⟩ rfl hl.1 rfl (Nat.le_of_ble_eq_true rfl) ⟨Nat.zero_le _, Nat.zero_le _⟩ dX12_without_186) cx.2.2.1 hP hD hS [] rfl rfl (fun r311 H locs hw310 hP hS => ?_)
            have w312 : r311 = J_X12_told v302 r306 p1 := hw310
            clear hw310
            rw [hQ]
            exact x_l cx hr (m272, m273, m274, g296) hP hD hS ⟨(show 0 ≤ (g296 0).toInt ∧ (g296 0).toInt ≤ 5 from by omega), (show 0 ≤ (g296 1).toInt ∧ (g296 1).toInt ≤ 4 from by omega), (show g296 = (sm 2) from rest8 eg17 eg249 eg257 eg265 eg278 eg284 eg290 eg296 e7 e9 e11 e13), (show (r311, m272, m273, m274, g296) = J_X12_without sm tm p0 p1 from (exl_X12_without_4 e1 w4 e7 e9 e11 e13 e14 eg17 e22 eg249 e254 eg257 e262 eg265 eg278 eg284 eg290 eg296 e302 e304 c5 c15 c23 c255 c263 w275 w308 w312))⟩ dX12_without_189
          · have f263 : v262.toInt = 8 := f_eq rfl (by decide) c263
            refine lv_bipush (v := (-9)) hx hb dX12_without_124 (by decide) ?_
            refine lv_goto (tgt := 131) hx hb dX12_without_126 (by decide) ?_
            have hn314 : vp_in 7 26 := f_in (a := 7) (by decide) (by omega) (by omega)
            refine va_iast hx hb cx.2.1 hP hD hS 2 0 rfl rfl hn314 dX12_without_131 (fun H locs hP hD hS => ?_)
            obtain ⟨g315, eg315⟩ : ∃ g : Nat → Int32, g = upd g257 ((7 : Int32).toNatClampNeg) (-9) := ⟨_, rfl⟩
            rw [← eg315] at hP hD
            have hP : va_P D vwCl [cell22_ qm sm tm, cell5_ k qm sm, (qm 2, .inl (k 0, 26, .inl g315)), cell8_ k qm sm, cell6_ k qm sm, cell15_ k qm sm, cell14_ k qm tm, cell12_ k qm tm, cell18_ k qm tm, cell17_ k qm tm, cell19_ k qm tm, cell21_ k qm tm, cell20_ k qm sm, cell16_ k qm sm, cell11_ k qm sm, cell10_ k qm sm, cell9_ k qm sm, cell7_ k qm sm] H := hP
            have hD : va_D A [cell22_ qm sm tm, cell5_ k qm sm, (qm 2, .inl (k 0, 26, .inl g315)), cell8_ k qm sm, cell6_ k qm sm, cell15_ k qm sm, cell14_ k qm tm, cell12_ k qm tm, cell18_ k qm tm, cell17_ k qm tm, cell19_ k qm tm, cell21_ k qm tm, cell20_ k qm sm, cell16_ k qm sm, cell11_ k qm sm, cell10_ k qm sm, cell9_ k qm sm, cell7_ k qm sm] := hD
            have s316 := updI eg315 (by decide) (show 0 ≤ 7 from by omega) 0
            have s316l : ((-9) : Int32).toInt = -9 := by decide
            have s317 := updI eg315 (by decide) (show 0 ≤ 7 from by omega) 1
            have s317l : ((-9) : Int32).toInt = -9 := by decide
            have el318 : 0 ≤ (g315 0).toInt ∧ (g315 0).toInt ≤ 5 := by omega
            have el319 : 0 ≤ (g315 1).toInt ∧ (g315 1).toInt ≤ 4 := by omega
            refine lv_aload_n hx hb dX12_without_132 rfl (lv_at hl 4 rfl) ?_
            refine lv_iconst (v := 0) hx hb dX12_without_133 (by decide) ?_
            refine g_vF (w1 := fun (u : (Nat → Int64) × (Nat → Int64) × (Nat → Int32)) => [cell22_ qm sm tm, cell5_ k qm sm, (qm 2, .inl (k 0, 26, .inl g315)), cell8_ k qm sm, cell6_ k qm sm, cell15_ k qm sm, cell14_ k qm tm, cell12_ k qm tm, cell18_ k qm tm, cell17_ k qm tm, cell130_ k qm (u.1), cell122_ k qm (u.2.1), cell123_ k qm (u.2.2), cell16_ k qm sm, cell11_ k qm sm, cell10_ k qm sm, cell9_ k qm sm, cell7_ k qm sm]) (g_runVF (ws := [cell22_ qm sm tm, cell5_ k qm sm, (qm 2, .inl (k 0, 26, .inl g315)), cell8_ k qm sm, cell6_ k qm sm, cell15_ k qm sm, cell14_ k qm tm, cell12_ k qm tm, cell18_ k qm tm, cell17_ k qm tm, cell19_ k qm tm, cell21_ k qm tm, cell20_ k qm sm, cell16_ k qm sm, cell11_ k qm sm, cell10_ k qm sm, cell9_ k qm sm, cell7_ k qm sm]) (rest := []) cx hP hD hS [.int 0] (c_X12_layBest l D k b qm (up2 sm 2 g315) tm H.size 0 (show 0 ≤ (g315 0).toInt ∧ (g315 0).toInt ≤ 5 from by first | decide | omega) (show 0 ≤ (g315 1).toInt ∧ (g315 1).toInt ≤ 4 from by first | decide | omega) (show 0 ≤ (0 : Int32).toInt ∧ (0 : Int32).toInt ≤ 4 from by first | decide | omega)) gX12_without_X12_layBest rfl rfl rfl nd_X12_layBest ⟨Nat.le_of_ble_eq_true rfl, Nat.le_of_ble_eq_true rfl⟩ (ci := 10) (q0 := 0) rfl rfl rfl hl.1 rfl (Nat.le_of_ble_eq_true rfl) ⟨Nat.zero_le _, Nat.zero_le _⟩ dX12_without_134) cx.2.2.1 hD hS (fun u321 H locs hw320 hP hD hS => ?_)
            obtain ⟨m322, m323, m324⟩ := u321
            have hP : va_P D vwCl [cell22_ qm sm tm, cell5_ k qm sm, (qm 2, .inl (k 0, 26, .inl g315)), cell8_ k qm sm, cell6_ k qm sm, cell15_ k qm sm, cell14_ k qm tm, cell12_ k qm tm, cell18_ k qm tm, cell17_ k qm tm, (qm 10, .inl (k 1, 1500, .inr (.inl m322))), (qm 11, .inl (k 1, 1500, .inr (.inl m323))), (qm 12, .inl (k 0, 1500, .inl m324)), cell16_ k qm sm, cell11_ k qm sm, cell10_ k qm sm, cell9_ k qm sm, cell7_ k qm sm] H := hP
            have hD : va_D A [cell22_ qm sm tm, cell5_ k qm sm, (qm 2, .inl (k 0, 26, .inl g315)), cell8_ k qm sm, cell6_ k qm sm, cell15_ k qm sm, cell14_ k qm tm, cell12_ k qm tm, cell18_ k qm tm, cell17_ k qm tm, (qm 10, .inl (k 1, 1500, .inr (.inl m322))), (qm 11, .inl (k 1, 1500, .inr (.inl m323))), (qm 12, .inl (k 0, 1500, .inl m324)), cell16_ k qm sm, cell11_ k qm sm, cell10_ k qm sm, cell9_ k qm sm, cell7_ k qm sm] := hD
            have w325 : (m322, m323, m324) = J_X12_layBest (up2 sm 2 g315) tm (0 : Int32) := hw320
            clear hw320
            refine lv_aload_n hx hb dX12_without_137 rfl (lv_at hl 4 rfl) ?_
            refine g_get cx hP iw_X12_without_X12 0 rfl rfl 1 (by decide) rfl fw_X12_without_13 rfl dX12_without_138 ?_
            refine lv_iconst (v := 4) hx hb dX12_without_141 (by decide) ?_
            refine lv_iload_n hx hb dX12_without_142 rfl (lv_at hl 3 rfl) ?_
            have hn327 : vp_in 4 26 := f_in (a := 4) (by decide) (by omega) (by omega)
            refine va_iast hx hb cx.2.1 hP hD hS 2 0 rfl rfl hn327 dX12_without_143 (fun H locs hP hD hS => ?_)
            obtain ⟨g328, eg328⟩ : ∃ g : Nat → Int32, g = upd g315 ((4 : Int32).toNatClampNeg) v7 := ⟨_, rfl⟩
            rw [← eg328] at hP hD
            have hP : va_P D vwCl [cell22_ qm sm tm, cell5_ k qm sm, (qm 2, .inl (k 0, 26, .inl g328)), cell8_ k qm sm, cell6_ k qm sm, cell15_ k qm sm, cell14_ k qm tm, cell12_ k qm tm, cell18_ k qm tm, cell17_ k qm tm, (qm 10, .inl (k 1, 1500, .inr (.inl m322))), (qm 11, .inl (k 1, 1500, .inr (.inl m323))), (qm 12, .inl (k 0, 1500, .inl m324)), cell16_ k qm sm, cell11_ k qm sm, cell10_ k qm sm, cell9_ k qm sm, cell7_ k qm sm] H := hP
            have hD : va_D A [cell22_ qm sm tm, cell5_ k qm sm, (qm 2, .inl (k 0, 26, .inl g328)), cell8_ k qm sm, cell6_ k qm sm, cell15_ k qm sm, cell14_ k qm tm, cell12_ k qm tm, cell18_ k qm tm, cell17_ k qm tm, (qm 10, .inl (k 1, 1500, .inr (.inl m322))), (qm 11, .inl (k 1, 1500, .inr (.inl m323))), (qm 12, .inl (k 0, 1500, .inl m324)), cell16_ k qm sm, cell11_ k qm sm, cell10_ k qm sm, cell9_ k qm sm, cell7_ k qm sm] := hD
            have s329 := updI eg328 (by decide) (show 0 ≤ 4 from by omega) 0
            have s330 := updI eg328 (by decide) (show 0 ≤ 4 from by omega) 1
            have el331 : 0 ≤ (g328 0).toInt ∧ (g328 0).toInt ≤ 5 := by omega
            have el332 : 0 ≤ (g328 1).toInt ∧ (g328 1).toInt ≤ 4 := by omega
            refine lv_aload_n hx hb dX12_without_144 rfl (lv_at hl 4 rfl) ?_
            refine g_get cx hP iw_X12_without_X12 0 rfl rfl 1 (by decide) rfl fw_X12_without_13 rfl dX12_without_145 ?_
            refine lv_iconst (v := 5) hx hb dX12_without_148 (by decide) ?_
            refine lv_iload hx hb dX12_without_149 (lv_at hl 2 rfl) ?_
            have hn333 : vp_in 5 26 := f_in (a := 5) (by decide) (by omega) (by omega)
            refine va_iast hx hb cx.2.1 hP hD hS 2 0 rfl rfl hn333 dX12_without_151 (fun H locs hP hD hS => ?_)
            obtain ⟨g334, eg334⟩ : ∃ g : Nat → Int32, g = upd g328 ((5 : Int32).toNatClampNeg) v9 := ⟨_, rfl⟩
            rw [← eg334] at hP hD
            have hP : va_P D vwCl [cell22_ qm sm tm, cell5_ k qm sm, (qm 2, .inl (k 0, 26, .inl g334)), cell8_ k qm sm, cell6_ k qm sm, cell15_ k qm sm, cell14_ k qm tm, cell12_ k qm tm, cell18_ k qm tm, cell17_ k qm tm, (qm 10, .inl (k 1, 1500, .inr (.inl m322))), (qm 11, .inl (k 1, 1500, .inr (.inl m323))), (qm 12, .inl (k 0, 1500, .inl m324)), cell16_ k qm sm, cell11_ k qm sm, cell10_ k qm sm, cell9_ k qm sm, cell7_ k qm sm] H := hP
            have hD : va_D A [cell22_ qm sm tm, cell5_ k qm sm, (qm 2, .inl (k 0, 26, .inl g334)), cell8_ k qm sm, cell6_ k qm sm, cell15_ k qm sm, cell14_ k qm tm, cell12_ k qm tm, cell18_ k qm tm, cell17_ k qm tm, (qm 10, .inl (k 1, 1500, .inr (.inl m322))), (qm 11, .inl (k 1, 1500, .inr (.inl m323))), (qm 12, .inl (k 0, 1500, .inl m324)), cell16_ k qm sm, cell11_ k qm sm, cell10_ k qm sm, cell9_ k qm sm, cell7_ k qm sm] := hD
            have s335 := updI eg334 (by decide) (show 0 ≤ 5 from by omega) 0
            have s336 := updI eg334 (by decide) (show 0 ≤ 5 from by omega) 1
            have el337 : 0 ≤ (g334 0).toInt ∧ (g334 0).toInt ≤ 5 := by omega
            have el338 : 0 ≤ (g334 1).toInt ∧ (g334 1).toInt ≤ 4 := by omega
            refine lv_aload_n hx hb dX12_without_152 rfl (lv_at hl 4 rfl) ?_
            refine g_get cx hP iw_X12_without_X12 0 rfl rfl 1 (by decide) rfl fw_X12_without_13 rfl dX12_without_153 ?_
            refine lv_bipush (v := 6) hx hb dX12_without_156 (by decide) ?_
            refine lv_iload hx hb dX12_without_158 (lv_at hl 1 rfl) ?_
            have hn339 : vp_in 6 26 := f_in (a := 6) (by decide) (by omega) (by omega)
            refine va_iast hx hb cx.2.1 hP hD hS 2 0 rfl rfl hn339 dX12_without_160 (fun H locs hP hD hS => ?_)
            obtain ⟨g340, eg340⟩ : ∃ g : Nat → Int32, g = upd g334 ((6 : Int32).toNatClampNeg) v11 := ⟨_, rfl⟩
            rw [← eg340] at hP hD
            have hP : va_P D vwCl [cell22_ qm sm tm, cell5_ k qm sm, (qm 2, .inl (k 0, 26, .inl g340)), cell8_ k qm sm, cell6_ k qm sm, cell15_ k qm sm, cell14_ k qm tm, cell12_ k qm tm, cell18_ k qm tm, cell17_ k qm tm, (qm 10, .inl (k 1, 1500, .inr (.inl m322))), (qm 11, .inl (k 1, 1500, .inr (.inl m323))), (qm 12, .inl (k 0, 1500, .inl m324)), cell16_ k qm sm, cell11_ k qm sm, cell10_ k qm sm, cell9_ k qm sm, cell7_ k qm sm] H := hP
            have hD : va_D A [cell22_ qm sm tm, cell5_ k qm sm, (qm 2, .inl (k 0, 26, .inl g340)), cell8_ k qm sm, cell6_ k qm sm, cell15_ k qm sm, cell14_ k qm tm, cell12_ k qm tm, cell18_ k qm tm, cell17_ k qm tm, (qm 10, .inl (k 1, 1500, .inr (.inl m322))), (qm 11, .inl (k 1, 1500, .inr (.inl m323))), (qm 12, .inl (k 0, 1500, .inl m324)), cell16_ k qm sm, cell11_ k qm sm, cell10_ k qm sm, cell9_ k qm sm, cell7_ k qm sm] := hD
            have s341 := updI eg340 (by decide) (show 0 ≤ 6 from by omega) 0
            have s342 := updI eg340 (by decide) (show 0 ≤ 6 from by omega) 1
            have el343 : 0 ≤ (g340 0).toInt ∧ (g340 0).toInt ≤ 5 := by omega
            have el344 : 0 ≤ (g340 1).toInt ∧ (g340 1).toInt ≤ 4 := by omega
            refine lv_aload_n hx hb dX12_without_161 rfl (lv_at hl 4 rfl) ?_
            refine g_get cx hP iw_X12_without_X12 0 rfl rfl 1 (by decide) rfl fw_X12_without_13 rfl dX12_without_162 ?_
            refine lv_bipush (v := 7) hx hb dX12_without_165 (by decide) ?_
            refine lv_iload hx hb dX12_without_167 (lv_at hl 0 rfl) ?_
            have hn345 : vp_in 7 26 := f_in (a := 7) (by decide) (by omega) (by omega)
            refine va_iast hx hb cx.2.1 hP hD hS 2 0 rfl rfl hn345 dX12_without_169 (fun H locs hP hD hS => ?_)
            obtain ⟨g346, eg346⟩ : ∃ g : Nat → Int32, g = upd g340 ((7 : Int32).toNatClampNeg) v13 := ⟨_, rfl⟩
            rw [← eg346] at hP hD
            have hP : va_P D vwCl [cell22_ qm sm tm, cell5_ k qm sm, (qm 2, .inl (k 0, 26, .inl g346)), cell8_ k qm sm, cell6_ k qm sm, cell15_ k qm sm, cell14_ k qm tm, cell12_ k qm tm, cell18_ k qm tm, cell17_ k qm tm, (qm 10, .inl (k 1, 1500, .inr (.inl m322))), (qm 11, .inl (k 1, 1500, .inr (.inl m323))), (qm 12, .inl (k 0, 1500, .inl m324)), cell16_ k qm sm, cell11_ k qm sm, cell10_ k qm sm, cell9_ k qm sm, cell7_ k qm sm] H := hP
            have hD : va_D A [cell22_ qm sm tm, cell5_ k qm sm, (qm 2, .inl (k 0, 26, .inl g346)), cell8_ k qm sm, cell6_ k qm sm, cell15_ k qm sm, cell14_ k qm tm, cell12_ k qm tm, cell18_ k qm tm, cell17_ k qm tm, (qm 10, .inl (k 1, 1500, .inr (.inl m322))), (qm 11, .inl (k 1, 1500, .inr (.inl m323))), (qm 12, .inl (k 0, 1500, .inl m324)), cell16_ k qm sm, cell11_ k qm sm, cell10_ k qm sm, cell9_ k qm sm, cell7_ k qm sm] := hD
            have s347 := updI eg346 (by decide) (show 0 ≤ 7 from by omega) 0
            have s348 := updI eg346 (by decide) (show 0 ≤ 7 from by omega) 1
            have el349 : 0 ≤ (g346 0).toInt ∧ (g346 0).toInt ≤ 5 := by omega
            have el350 : 0 ≤ (g346 1).toInt ∧ (g346 1).toInt ≤ 4 := by omega
            refine lv_aload_n hx hb dX12_without_170 rfl (lv_at hl 4 rfl) ?_
            refine g_get cx hP iw_X12_without_X12 0 rfl rfl 18 (by decide) rfl fw_X12_without_38 rfl dX12_without_171 ?_
            refine lv_iconst (v := 0) hx hb dX12_without_174 (by decide) ?_
            have hn351 : vp_in 0 1500 := f_in (a := 0) (by decide) (by omega) (by omega)
            refine va_lald hx hb cx.2.1 hP 10 1 rfl rfl hn351 dX12_without_175 (lv_topl (fun v352 e352 => ?_))
            refine lv_aload_n hx hb dX12_without_176 rfl (lv_at hl 4 rfl) ?_
            refine g_get cx hP iw_X12_without_X12 0 rfl rfl 1 (by decide) rfl fw_X12_without_13 rfl dX12_without_177 ?_
            refine lv_iconst (v := 0) hx hb dX12_without_180 (by decide) ?_
            have hn353 : vp_in 0 26 := f_in (a := 0) (by decide) (by omega) (by omega)
            refine va_iald hx hb cx.2.1 hP 2 0 rfl rfl hn353 dX12_without_181 (lv_topi (fun v354 e354 => ?_))
            have uv354 : v354.toInt = (g346 0).toInt := congrArg Int32.toInt e354
            have t354 : 0 ≤ v354.toInt ∧ v354.toInt ≤ 5 := by rw [e354]; exact el349
            refine g_lr (g_runS (wc := []) (rest := [.long v352]) cx hP hD hS [] rfl (by decide) [.int v354] (c_X12_parts l D k b H.size v354) gX12_without_X12_parts rfl rfl rfl nd_X12_parts ⟨Nat.le_of_ble_eq_true rfl, Nat.le_of_ble_eq_true rfl⟩ rfl hl.1 rfl (Nat.le_of_ble_eq_true rfl) ⟨Nat.zero_le _, Nat.zero_le _⟩ dX12_without_182) cx.2.2.1 hP hD hS [] rfl rfl (fun r356 H locs hw355 hP hS => ?_)
            replace hw355 : (r356.toInt % 2 = 1) ∧ (r356 = J_X12_parts v354) := hw355
            obtain ⟨w357, w358⟩ := hw355
            refine lv_iload_n hx hb dX12_without_185 rfl (lv_at hl 6 rfl) ?_
            refine g_lr (g_runS (wc := []) (rest := []) cx hP hD hS [] rfl (by decide) [.long v352, .long r356, .int p1] (c_X12_told l D k b H.size v352 r356 p1 (show ¬ r356.toInt = 0 from by first | decide | omega)) gX12_without_X12_told rfl rfl rfl nd_X12_told ⟨Nat.le_of_ble_eq_true rfl, Nat.le_of_ble_eq_true rfl⟩ rfl hl.1 rfl (Nat.le_of_ble_eq_true rfl) ⟨Nat.zero_le _, Nat.zero_le _⟩ dX12_without_186) cx.2.2.1 hP hD hS [] rfl rfl (fun r361 H locs hw360 hP hS => ?_)
            have w362 : r361 = J_X12_told v352 r356 p1 := hw360
            clear hw360
            rw [hQ]
            exact x_l cx hr (m322, m323, m324, g346) hP hD hS ⟨(show 0 ≤ (g346 0).toInt ∧ (g346 0).toInt ≤ 5 from by omega), (show 0 ≤ (g346 1).toInt ∧ (g346 1).toInt ≤ 4 from by omega), (show g346 = (sm 2) from rest8 eg17 eg249 eg257 eg315 eg328 eg334 eg340 eg346 e7 e9 e11 e13), (show (r361, m322, m323, m324, g346) = J_X12_without sm tm p0 p1 from (exl_X12_without_5 e1 w4 e7 e9 e11 e13 e14 eg17 e22 eg249 e254 eg257 e262 eg315 eg328 eg334 eg340 eg346 e352 e354 c5 c15 c23 c255 c263 w325 w358 w362))⟩ dX12_without_189
        · have f255 : v254.toInt = 4 := f_eq rfl (by decide) c255
          refine lv_bipush (v := (-9)) hx hb dX12_without_101 (by decide) ?_
          refine lv_goto (tgt := 108) hx hb dX12_without_103 (by decide) ?_
          have hn364 : vp_in 6 26 := f_in (a := 6) (by decide) (by omega) (by omega)
          refine va_iast hx hb cx.2.1 hP hD hS 2 0 rfl rfl hn364 dX12_without_108 (fun H locs hP hD hS => ?_)
          obtain ⟨g365, eg365⟩ : ∃ g : Nat → Int32, g = upd g249 ((6 : Int32).toNatClampNeg) (-9) := ⟨_, rfl⟩
          rw [← eg365] at hP hD
          have hP : va_P D vwCl [cell22_ qm sm tm, cell5_ k qm sm, (qm 2, .inl (k 0, 26, .inl g365)), cell8_ k qm sm, cell6_ k qm sm, cell15_ k qm sm, cell14_ k qm tm, cell12_ k qm tm, cell18_ k qm tm, cell17_ k qm tm, cell19_ k qm tm, cell21_ k qm tm, cell20_ k qm sm, cell16_ k qm sm, cell11_ k qm sm, cell10_ k qm sm, cell9_ k qm sm, cell7_ k qm sm] H := hP
          have hD : va_D A [cell22_ qm sm tm, cell5_ k qm sm, (qm 2, .inl (k 0, 26, .inl g365)), cell8_ k qm sm, cell6_ k qm sm, cell15_ k qm sm, cell14_ k qm tm, cell12_ k qm tm, cell18_ k qm tm, cell17_ k qm tm, cell19_ k qm tm, cell21_ k qm tm, cell20_ k qm sm, cell16_ k qm sm, cell11_ k qm sm, cell10_ k qm sm, cell9_ k qm sm, cell7_ k qm sm] := hD
          have s366 := updI eg365 (by decide) (show 0 ≤ 6 from by omega) 0
          have s366l : ((-9) : Int32).toInt = -9 := by decide
          have s367 := updI eg365 (by decide) (show 0 ≤ 6 from by omega) 1
          have s367l : ((-9) : Int32).toInt = -9 := by decide
          have el368 : 0 ≤ (g365 0).toInt ∧ (g365 0).toInt ≤ 5 := by omega
          have el369 : 0 ≤ (g365 1).toInt ∧ (g365 1).toInt ≤ 4 := by omega
          refine lv_aload_n hx hb dX12_without_109 rfl (lv_at hl 4 rfl) ?_
          refine g_get cx hP iw_X12_without_X12 0 rfl rfl 1 (by decide) rfl fw_X12_without_13 rfl dX12_without_110 ?_
          refine lv_bipush (v := 7) hx hb dX12_without_113 (by decide) ?_
          refine lv_iload_n hx hb dX12_without_115 rfl (lv_at hl 5 rfl) ?_
          refine lv_bipush (v := 8) hx hb dX12_without_116 (by decide) ?_
          refine lv_iand hx hb dX12_without_118 (lv_topi (fun v370 e370 => ?_))
          have t370 : 0 ≤ v370.toInt ∧ v370.toInt ≤ p0.toInt := by rw [e370]; exact and_l rfl (by omega)
          refine lv_bipush (v := 8) hx hb dX12_without_119 (by decide) ?_
          refine lv_icmp_ne (tgt := 129) hx hb dX12_without_121 (by decide) (fun c371 => ?_) (fun c371 => ?_)
          · have f371 : ¬ v370.toInt = 8 := f_ne rfl (by decide) c371
            refine lv_iload hx hb dX12_without_129 (lv_at hl 0 rfl) ?_
            have hn372 : vp_in 7 26 := f_in (a := 7) (by decide) (by omega) (by omega)
            refine va_iast hx hb cx.2.1 hP hD hS 2 0 rfl rfl hn372 dX12_without_131 (fun H locs hP hD hS => ?_)
            obtain ⟨g373, eg373⟩ : ∃ g : Nat → Int32, g = upd g365 ((7 : Int32).toNatClampNeg) v13 := ⟨_, rfl⟩
            rw [← eg373] at hP hD
            have hP : va_P D vwCl [cell22_ qm sm tm, cell5_ k qm sm, (qm 2, .inl (k 0, 26, .inl g373)), cell8_ k qm sm, cell6_ k qm sm, cell15_ k qm sm, cell14_ k qm tm, cell12_ k qm tm, cell18_ k qm tm, cell17_ k qm tm, cell19_ k qm tm, cell21_ k qm tm, cell20_ k qm sm, cell16_ k qm sm, cell11_ k qm sm, cell10_ k qm sm, cell9_ k qm sm, cell7_ k qm sm] H := hP
            have hD : va_D A [cell22_ qm sm tm, cell5_ k qm sm, (qm 2, .inl (k 0, 26, .inl g373)), cell8_ k qm sm, cell6_ k qm sm, cell15_ k qm sm, cell14_ k qm tm, cell12_ k qm tm, cell18_ k qm tm, cell17_ k qm tm, cell19_ k qm tm, cell21_ k qm tm, cell20_ k qm sm, cell16_ k qm sm, cell11_ k qm sm, cell10_ k qm sm, cell9_ k qm sm, cell7_ k qm sm] := hD
            have s374 := updI eg373 (by decide) (show 0 ≤ 7 from by omega) 0
            have s375 := updI eg373 (by decide) (show 0 ≤ 7 from by omega) 1
            have el376 : 0 ≤ (g373 0).toInt ∧ (g373 0).toInt ≤ 5 := by omega
            have el377 : 0 ≤ (g373 1).toInt ∧ (g373 1).toInt ≤ 4 := by omega
            refine lv_aload_n hx hb dX12_without_132 rfl (lv_at hl 4 rfl) ?_
            refine lv_iconst (v := 0) hx hb dX12_without_133 (by decide) ?_
            refine g_vF (w1 := fun (u : (Nat → Int64) × (Nat → Int64) × (Nat → Int32)) => [cell22_ qm sm tm, cell5_ k qm sm, (qm 2, .inl (k 0, 26, .inl g373)), cell8_ k qm sm, cell6_ k qm sm, cell15_ k qm sm, cell14_ k qm tm, cell12_ k qm tm, cell18_ k qm tm, cell17_ k qm tm, cell130_ k qm (u.1), cell122_ k qm (u.2.1), cell123_ k qm (u.2.2), cell16_ k qm sm, cell11_ k qm sm, cell10_ k qm sm, cell9_ k qm sm, cell7_ k qm sm]) (g_runVF (ws := [cell22_ qm sm tm, cell5_ k qm sm, (qm 2, .inl (k 0, 26, .inl g373)), cell8_ k qm sm, cell6_ k qm sm, cell15_ k qm sm, cell14_ k qm tm, cell12_ k qm tm, cell18_ k qm tm, cell17_ k qm tm, cell19_ k qm tm, cell21_ k qm tm, cell20_ k qm sm, cell16_ k qm sm, cell11_ k qm sm, cell10_ k qm sm, cell9_ k qm sm, cell7_ k qm sm]) (rest := []) cx hP hD hS [.int 0] (c_X12_layBest l D k b qm (up2 sm 2 g373) tm H.size 0 (show 0 ≤ (g373 0).toInt ∧ (g373 0).toInt ≤ 5 from by first | decide | omega) (show 0 ≤ (g373 1).toInt ∧ (g373 1).toInt ≤ 4 from by first | decide | omega) (show 0 ≤ (0 : Int32).toInt ∧ (0 : Int32).toInt ≤ 4 from by first | decide | omega)) gX12_without_X12_layBest rfl rfl rfl nd_X12_layBest ⟨Nat.le_of_ble_eq_true rfl, Nat.le_of_ble_eq_true rfl⟩ (ci := 10) (q0 := 0) rfl rfl rfl hl.1 rfl (Nat.le_of_ble_eq_true rfl) ⟨Nat.zero_le _, Nat.zero_le _⟩ dX12_without_134) cx.2.2.1 hD hS (fun u379 H locs hw378 hP hD hS => ?_)
            obtain ⟨m380, m381, m382⟩ := u379
            have hP : va_P D vwCl [cell22_ qm sm tm, cell5_ k qm sm, (qm 2, .inl (k 0, 26, .inl g373)), cell8_ k qm sm, cell6_ k qm sm, cell15_ k qm sm, cell14_ k qm tm, cell12_ k qm tm, cell18_ k qm tm, cell17_ k qm tm, (qm 10, .inl (k 1, 1500, .inr (.inl m380))), (qm 11, .inl (k 1, 1500, .inr (.inl m381))), (qm 12, .inl (k 0, 1500, .inl m382)), cell16_ k qm sm, cell11_ k qm sm, cell10_ k qm sm, cell9_ k qm sm, cell7_ k qm sm] H := hP
            have hD : va_D A [cell22_ qm sm tm, cell5_ k qm sm, (qm 2, .inl (k 0, 26, .inl g373)), cell8_ k qm sm, cell6_ k qm sm, cell15_ k qm sm, cell14_ k qm tm, cell12_ k qm tm, cell18_ k qm tm, cell17_ k qm tm, (qm 10, .inl (k 1, 1500, .inr (.inl m380))), (qm 11, .inl (k 1, 1500, .inr (.inl m381))), (qm 12, .inl (k 0, 1500, .inl m382)), cell16_ k qm sm, cell11_ k qm sm, cell10_ k qm sm, cell9_ k qm sm, cell7_ k qm sm] := hD
            have w383 : (m380, m381, m382) = J_X12_layBest (up2 sm 2 g373) tm (0 : Int32) := hw378
            clear hw378
            refine lv_aload_n hx hb dX12_without_137 rfl (lv_at hl 4 rfl) ?_
            refine g_get cx hP iw_X12_without_X12 0 rfl rfl 1 (by decide) rfl fw_X12_without_13 rfl dX12_without_138 ?_
            refine lv_iconst (v := 4) hx hb dX12_without_141 (by decide) ?_
            refine lv_iload_n hx hb dX12_without_142 rfl (lv_at hl 3 rfl) ?_
            have hn385 : vp_in 4 26 := f_in (a := 4) (by decide) (by omega) (by omega)
            refine va_iast hx hb cx.2.1 hP hD hS 2 0 rfl rfl hn385 dX12_without_143 (fun H locs hP hD hS => ?_)
            obtain ⟨g386, eg386⟩ : ∃ g : Nat → Int32, g = upd g373 ((4 : Int32).toNatClampNeg) v7 := ⟨_, rfl⟩
            rw [← eg386] at hP hD
            have hP : va_P D vwCl [cell22_ qm sm tm, cell5_ k qm sm, (qm 2, .inl (k 0, 26, .inl g386)), cell8_ k qm sm, cell6_ k qm sm, cell15_ k qm sm, cell14_ k qm tm, cell12_ k qm tm, cell18_ k qm tm, cell17_ k qm tm, (qm 10, .inl (k 1, 1500, .inr (.inl m380))), (qm 11, .inl (k 1, 1500, .inr (.inl m381))), (qm 12, .inl (k 0, 1500, .inl m382)), cell16_ k qm sm, cell11_ k qm sm, cell10_ k qm sm, cell9_ k qm sm, cell7_ k qm sm] H := hP
            have hD : va_D A [cell22_ qm sm tm, cell5_ k qm sm, (qm 2, .inl (k 0, 26, .inl g386)), cell8_ k qm sm, cell6_ k qm sm, cell15_ k qm sm, cell14_ k qm tm, cell12_ k qm tm, cell18_ k qm tm, cell17_ k qm tm, (qm 10, .inl (k 1, 1500, .inr (.inl m380))), (qm 11, .inl (k 1, 1500, .inr (.inl m381))), (qm 12, .inl (k 0, 1500, .inl m382)), cell16_ k qm sm, cell11_ k qm sm, cell10_ k qm sm, cell9_ k qm sm, cell7_ k qm sm] := hD
            have s387 := updI eg386 (by decide) (show 0 ≤ 4 from by omega) 0
            have s388 := updI eg386 (by decide) (show 0 ≤ 4 from by omega) 1
            have el389 : 0 ≤ (g386 0).toInt ∧ (g386 0).toInt ≤ 5 := by omega
            have el390 : 0 ≤ (g386 1).toInt ∧ (g386 1).toInt ≤ 4 := by omega
            refine lv_aload_n hx hb dX12_without_144 rfl (lv_at hl 4 rfl) ?_
            refine g_get cx hP iw_X12_without_X12 0 rfl rfl 1 (by decide) rfl fw_X12_without_13 rfl dX12_without_145 ?_
            refine lv_iconst (v := 5) hx hb dX12_without_148 (by decide) ?_
            refine lv_iload hx hb dX12_without_149 (lv_at hl 2 rfl) ?_
            have hn391 : vp_in 5 26 := f_in (a := 5) (by decide) (by omega) (by omega)
            refine va_iast hx hb cx.2.1 hP hD hS 2 0 rfl rfl hn391 dX12_without_151 (fun H locs hP hD hS => ?_)
            obtain ⟨g392, eg392⟩ : ∃ g : Nat → Int32, g = upd g386 ((5 : Int32).toNatClampNeg) v9 := ⟨_, rfl⟩
            rw [← eg392] at hP hD
            have hP : va_P D vwCl [cell22_ qm sm tm, cell5_ k qm sm, (qm 2, .inl (k 0, 26, .inl g392)), cell8_ k qm sm, cell6_ k qm sm, cell15_ k qm sm, cell14_ k qm tm, cell12_ k qm tm, cell18_ k qm tm, cell17_ k qm tm, (qm 10, .inl (k 1, 1500, .inr (.inl m380))), (qm 11, .inl (k 1, 1500, .inr (.inl m381))), (qm 12, .inl (k 0, 1500, .inl m382)), cell16_ k qm sm, cell11_ k qm sm, cell10_ k qm sm, cell9_ k qm sm, cell7_ k qm sm] H := hP
            have hD : va_D A [cell22_ qm sm tm, cell5_ k qm sm, (qm 2, .inl (k 0, 26, .inl g392)), cell8_ k qm sm, cell6_ k qm sm, cell15_ k qm sm, cell14_ k qm tm, cell12_ k qm tm, cell18_ k qm tm, cell17_ k qm tm, (qm 10, .inl (k 1, 1500, .inr (.inl m380))), (qm 11, .inl (k 1, 1500, .inr (.inl m381))), (qm 12, .inl (k 0, 1500, .inl m382)), cell16_ k qm sm, cell11_ k qm sm, cell10_ k qm sm, cell9_ k qm sm, cell7_ k qm sm] := hD
            have s393 := updI eg392 (by decide) (show 0 ≤ 5 from by omega) 0
            have s394 := updI eg392 (by decide) (show 0 ≤ 5 from by omega) 1
            have el395 : 0 ≤ (g392 0).toInt ∧ (g392 0).toInt ≤ 5 := by omega
            have el396 : 0 ≤ (g392 1).toInt ∧ (g392 1).toInt ≤ 4 := by omega
            refine lv_aload_n hx hb dX12_without_152 rfl (lv_at hl 4 rfl) ?_
            refine g_get cx hP iw_X12_without_X12 0 rfl rfl 1 (by decide) rfl fw_X12_without_13 rfl dX12_without_153 ?_
            refine lv_bipush (v := 6) hx hb dX12_without_156 (by decide) ?_
            refine lv_iload hx hb dX12_without_158 (lv_at hl 1 rfl) ?_
            have hn397 : vp_in 6 26 := f_in (a := 6) (by decide) (by omega) (by omega)
            refine va_iast hx hb cx.2.1 hP hD hS 2 0 rfl rfl hn397 dX12_without_160 (fun H locs hP hD hS => ?_)
            obtain ⟨g398, eg398⟩ : ∃ g : Nat → Int32, g = upd g392 ((6 : Int32).toNatClampNeg) v11 := ⟨_, rfl⟩
            rw [← eg398] at hP hD
            have hP : va_P D vwCl [cell22_ qm sm tm, cell5_ k qm sm, (qm 2, .inl (k 0, 26, .inl g398)), cell8_ k qm sm, cell6_ k qm sm, cell15_ k qm sm, cell14_ k qm tm, cell12_ k qm tm, cell18_ k qm tm, cell17_ k qm tm, (qm 10, .inl (k 1, 1500, .inr (.inl m380))), (qm 11, .inl (k 1, 1500, .inr (.inl m381))), (qm 12, .inl (k 0, 1500, .inl m382)), cell16_ k qm sm, cell11_ k qm sm, cell10_ k qm sm, cell9_ k qm sm, cell7_ k qm sm] H := hP
            have hD : va_D A [cell22_ qm sm tm, cell5_ k qm sm, (qm 2, .inl (k 0, 26, .inl g398)), cell8_ k qm sm, cell6_ k qm sm, cell15_ k qm sm, cell14_ k qm tm, cell12_ k qm tm, cell18_ k qm tm, cell17_ k qm tm, (qm 10, .inl (k 1, 1500, .inr (.inl m380))), (qm 11, .inl (k 1, 1500, .inr (.inl m381))), (qm 12, .inl (k 0, 1500, .inl m382)), cell16_ k qm sm, cell11_ k qm sm, cell10_ k qm sm, cell9_ k qm sm, cell7_ k qm sm] := hD
            have s399 := updI eg398 (by decide) (show 0 ≤ 6 from by omega) 0
            have s400 := updI eg398 (by decide) (show 0 ≤ 6 from by omega) 1
            have el401 : 0 ≤ (g398 0).toInt ∧ (g398 0).toInt ≤ 5 := by omega
            have el402 : 0 ≤ (g398 1).toInt ∧ (g398 1).toInt ≤ 4 := by omega
            refine lv_aload_n hx hb dX12_without_161 rfl (lv_at hl 4 rfl) ?_
            refine g_get cx hP iw_X12_without_X12 0 rfl rfl 1 (by decide) rfl fw_X12_without_13 rfl dX12_without_162 ?_
            refine lv_bipush (v := 7) hx hb dX12_without_165 (by decide) ?_
            refine lv_iload hx hb dX12_without_167 (lv_at hl 0 rfl) ?_
            have hn403 : vp_in 7 26 := f_in (a := 7) (by decide) (by omega) (by omega)
            refine va_iast hx hb cx.2.1 hP hD hS 2 0 rfl rfl hn403 dX12_without_169 (fun H locs hP hD hS => ?_)
            obtain ⟨g404, eg404⟩ : ∃ g : Nat → Int32, g = upd g398 ((7 : Int32).toNatClampNeg) v13 := ⟨_, rfl⟩
            rw [← eg404] at hP hD
            have hP : va_P D vwCl [cell22_ qm sm tm, cell5_ k qm sm, (qm 2, .inl (k 0, 26, .inl g404)), cell8_ k qm sm, cell6_ k qm sm, cell15_ k qm sm, cell14_ k qm tm, cell12_ k qm tm, cell18_ k qm tm, cell17_ k qm tm, (qm 10, .inl (k 1, 1500, .inr (.inl m380))), (qm 11, .inl (k 1, 1500, .inr (.inl m381))), (qm 12, .inl (k 0, 1500, .inl m382)), cell16_ k qm sm, cell11_ k qm sm, cell10_ k qm sm, cell9_ k qm sm, cell7_ k qm sm] H := hP
            have hD : va_D A [cell22_ qm sm tm, cell5_ k qm sm, (qm 2, .inl (k 0, 26, .inl g404)), cell8_ k qm sm, cell6_ k qm sm, cell15_ k qm sm, cell14_ k qm tm, cell12_ k qm tm, cell18_ k qm tm, cell17_ k qm tm, (qm 10, .inl (k 1, 1500, .inr (.inl m380))), (qm 11, .inl (k 1, 1500, .inr (.inl m381))), (qm 12, .inl (k 0, 1500, .inl m382)), cell16_ k qm sm, cell11_ k qm sm, cell10_ k qm sm, cell9_ k qm sm, cell7_ k qm sm] := hD
            have s405 := updI eg404 (by decide) (show 0 ≤ 7 from by omega) 0
            have s406 := updI eg404 (by decide) (show 0 ≤ 7 from by omega) 1
            have el407 : 0 ≤ (g404 0).toInt ∧ (g404 0).toInt ≤ 5 := by omega
            have el408 : 0 ≤ (g404 1).toInt ∧ (g404 1).toInt ≤ 4 := by omega
            refine lv_aload_n hx hb dX12_without_170 rfl (lv_at hl 4 rfl) ?_
            refine g_get cx hP iw_X12_without_X12 0 rfl rfl 18 (by decide) rfl fw_X12_without_38 rfl dX12_without_171 ?_
            refine lv_iconst (v := 0) hx hb dX12_without_174 (by decide) ?_
            have hn409 : vp_in 0 1500 := f_in (a := 0) (by decide) (by omega) (by omega)
            refine va_lald hx hb cx.2.1 hP 10 1 rfl rfl hn409 dX12_without_175 (lv_topl (fun v410 e410 => ?_))
            refine lv_aload_n hx hb dX12_without_176 rfl (lv_at hl 4 rfl) ?_
            refine g_get cx hP iw_X12_without_X12 0 rfl rfl 1 (by decide) rfl fw_X12_without_13 rfl dX12_without_177 ?_
            refine lv_iconst (v := 0) hx hb dX12_without_180 (by decide) ?_
            have hn411 : vp_in 0 26 := f_in (a := 0) (by decide) (by omega) (by omega)
            refine va_iald hx hb cx.2.1 hP 2 0 rfl rfl hn411 dX12_without_181 (lv_topi (fun v412 e412 => ?_))
            have uv412 : v412.toInt = (g404 0).toInt := congrArg Int32.toInt e412
            have t412 : 0 ≤ v412.toInt ∧ v412.toInt ≤ 5 := by rw [e412]; exact el407
            refine g_lr (g_runS (wc := []) (rest := [.long v410]) cx hP hD hS [] rfl (by decide) [.int v412] (c_X12_parts l D k b H.size v412) gX12_without_X12_parts rfl rfl rfl nd_X12_parts ⟨Nat.le_of_ble_eq_true rfl, Nat.le_of_ble_eq_true rfl⟩ rfl hl.1 rfl (Nat.le_of_ble_eq_true rfl) ⟨Nat.zero_le _, Nat.zero_le _⟩ dX12_without_182) cx.2.2.1 hP hD hS [] rfl rfl (fun r414 H locs hw413 hP hS => ?_)
            replace hw413 : (r414.toInt % 2 = 1) ∧ (r414 = J_X12_parts v412) := hw413
            obtain ⟨w415, w416⟩ := hw413
            refine lv_iload_n hx hb dX12_without_185 rfl (lv_at hl 6 rfl) ?_
            refine g_lr (g_runS (wc := []) (rest := []) cx hP hD hS [] rfl (by decide) [.long v410, .long r414, .int p1] (c_X12_told l D k b H.size v410 r414 p1 (show ¬ r414.toInt = 0 from by first | decide | omega)) gX12_without_X12_told rfl rfl rfl nd_X12_told ⟨Nat.le_of_ble_eq_true rfl, Nat.le_of_ble_eq_true rfl⟩ rfl hl.1 rfl (Nat.le_of_ble_eq_true rfl) ⟨Nat.zero_le _, Nat.zero_le _⟩ dX12_without_186) cx.2.2.1 hP hD hS [] rfl rfl (fun r419 H locs hw418 hP hS => ?_)
            have w420 : r419 = J_X12_told v410 r414 p1 := hw418
            clear hw418
            rw [hQ]
            exact x_l cx hr (m380, m381, m382, g404) hP hD hS ⟨(show 0 ≤ (g404 0).toInt ∧ (g404 0).toInt ≤ 5 from by omega), (show 0 ≤ (g404 1).toInt ∧ (g404 1).toInt ≤ 4 from by omega), (show g404 = (sm 2) from rest8 eg17 eg249 eg365 eg373 eg386 eg392 eg398 eg404 e7 e9 e11 e13), (show (r419, m380, m381, m382, g404) = J_X12_without sm tm p0 p1 from (exl_X12_without_6 e1 w4 e7 e9 e11 e13 e14 eg17 e22 eg249 e254 eg365 e370 eg373 eg386 eg392 eg398 eg404 e410 e412 c5 c15 c23 c255 c371 w383 w416 w420))⟩ dX12_without_189
          · have f371 : v370.toInt = 8 := f_eq rfl (by decide) c371
            refine lv_bipush (v := (-9)) hx hb dX12_without_124 (by decide) ?_
            refine lv_goto (tgt := 131) hx hb dX12_without_126 (by decide) ?_
            have hn422 : vp_in 7 26 := f_in (a := 7) (by decide) (by omega) (by omega)
            refine va_iast hx hb cx.2.1 hP hD hS 2 0 rfl rfl hn422 dX12_without_131 (fun H locs hP hD hS => ?_)
            obtain ⟨g423, eg423⟩ : ∃ g : Nat → Int32, g = upd g365 ((7 : Int32).toNatClampNeg) (-9) := ⟨_, rfl⟩
            rw [← eg423] at hP hD
            have hP : va_P D vwCl [cell22_ qm sm tm, cell5_ k qm sm, (qm 2, .inl (k 0, 26, .inl g423)), cell8_ k qm sm, cell6_ k qm sm, cell15_ k qm sm, cell14_ k qm tm, cell12_ k qm tm, cell18_ k qm tm, cell17_ k qm tm, cell19_ k qm tm, cell21_ k qm tm, cell20_ k qm sm, cell16_ k qm sm, cell11_ k qm sm, cell10_ k qm sm, cell9_ k qm sm, cell7_ k qm sm] H := hP
            have hD : va_D A [cell22_ qm sm tm, cell5_ k qm sm, (qm 2, .inl (k 0, 26, .inl g423)), cell8_ k qm sm, cell6_ k qm sm, cell15_ k qm sm, cell14_ k qm tm, cell12_ k qm tm, cell18_ k qm tm, cell17_ k qm tm, cell19_ k qm tm, cell21_ k qm tm, cell20_ k qm sm, cell16_ k qm sm, cell11_ k qm sm, cell10_ k qm sm, cell9_ k qm sm, cell7_ k qm sm] := hD
            have s424 := updI eg423 (by decide) (show 0 ≤ 7 from by omega) 0
            have s424l : ((-9) : Int32).toInt = -9 := by decide
            have s425 := updI eg423 (by decide) (show 0 ≤ 7 from by omega) 1
            have s425l : ((-9) : Int32).toInt = -9 := by decide
            have el426 : 0 ≤ (g423 0).toInt ∧ (g423 0).toInt ≤ 5 := by omega
            have el427 : 0 ≤ (g423 1).toInt ∧ (g423 1).toInt ≤ 4 := by omega
            refine lv_aload_n hx hb dX12_without_132 rfl (lv_at hl 4 rfl) ?_
            refine lv_iconst (v := 0) hx hb dX12_without_133 (by decide) ?_
            refine g_vF (w1 := fun (u : (Nat → Int64) × (Nat → Int64) × (Nat → Int32)) => [cell22_ qm sm tm, cell5_ k qm sm, (qm 2, .inl (k 0, 26, .inl g423)), cell8_ k qm sm, cell6_ k qm sm, cell15_ k qm sm, cell14_ k qm tm, cell12_ k qm tm, cell18_ k qm tm, cell17_ k qm tm, cell130_ k qm (u.1), cell122_ k qm (u.2.1), cell123_ k qm (u.2.2), cell16_ k qm sm, cell11_ k qm sm, cell10_ k qm sm, cell9_ k qm sm, cell7_ k qm sm]) (g_runVF (ws := [cell22_ qm sm tm, cell5_ k qm sm, (qm 2, .inl (k 0, 26, .inl g423)), cell8_ k qm sm, cell6_ k qm sm, cell15_ k qm sm, cell14_ k qm tm, cell12_ k qm tm, cell18_ k qm tm, cell17_ k qm tm, cell19_ k qm tm, cell21_ k qm tm, cell20_ k qm sm, cell16_ k qm sm, cell11_ k qm sm, cell10_ k qm sm, cell9_ k qm sm, cell7_ k qm sm]) (rest := []) cx hP hD hS [.int 0] (c_X12_layBest l D k b qm (up2 sm 2 g423) tm H.size 0 (show 0 ≤ (g423 0).toInt ∧ (g423 0).toInt ≤ 5 from by first | decide | omega) (show 0 ≤ (g423 1).toInt ∧ (g423 1).toInt ≤ 4 from by first | decide | omega) (show 0 ≤ (0 : Int32).toInt ∧ (0 : Int32).toInt ≤ 4 from by first | decide | omega)) gX12_without_X12_layBest rfl rfl rfl nd_X12_layBest ⟨Nat.le_of_ble_eq_true rfl, Nat.le_of_ble_eq_true rfl⟩ (ci := 10) (q0 := 0) rfl rfl rfl hl.1 rfl (Nat.le_of_ble_eq_true rfl) ⟨Nat.zero_le _, Nat.zero_le _⟩ dX12_without_134) cx.2.2.1 hD hS (fun u429 H locs hw428 hP hD hS => ?_)
            obtain ⟨m430, m431, m432⟩ := u429
            have hP : va_P D vwCl [cell22_ qm sm tm, cell5_ k qm sm, (qm 2, .inl (k 0, 26, .inl g423)), cell8_ k qm sm, cell6_ k qm sm, cell15_ k qm sm, cell14_ k qm tm, cell12_ k qm tm, cell18_ k qm tm, cell17_ k qm tm, (qm 10, .inl (k 1, 1500, .inr (.inl m430))), (qm 11, .inl (k 1, 1500, .inr (.inl m431))), (qm 12, .inl (k 0, 1500, .inl m432)), cell16_ k qm sm, cell11_ k qm sm, cell10_ k qm sm, cell9_ k qm sm, cell7_ k qm sm] H := hP
            have hD : va_D A [cell22_ qm sm tm, cell5_ k qm sm, (qm 2, .inl (k 0, 26, .inl g423)), cell8_ k qm sm, cell6_ k qm sm, cell15_ k qm sm, cell14_ k qm tm, cell12_ k qm tm, cell18_ k qm tm, cell17_ k qm tm, (qm 10, .inl (k 1, 1500, .inr (.inl m430))), (qm 11, .inl (k 1, 1500, .inr (.inl m431))), (qm 12, .inl (k 0, 1500, .inl m432)), cell16_ k qm sm, cell11_ k qm sm, cell10_ k qm sm, cell9_ k qm sm, cell7_ k qm sm] := hD
            have w433 : (m430, m431, m432) = J_X12_layBest (up2 sm 2 g423) tm (0 : Int32) := hw428
            clear hw428
            refine lv_aload_n hx hb dX12_without_137 rfl (lv_at hl 4 rfl) ?_
            refine g_get cx hP iw_X12_without_X12 0 rfl rfl 1 (by decide) rfl fw_X12_without_13 rfl dX12_without_138 ?_
            refine lv_iconst (v := 4) hx hb dX12_without_141 (by decide) ?_
            refine lv_iload_n hx hb dX12_without_142 rfl (lv_at hl 3 rfl) ?_
            have hn435 : vp_in 4 26 := f_in (a := 4) (by decide) (by omega) (by omega)
            refine va_iast hx hb cx.2.1 hP hD hS 2 0 rfl rfl hn435 dX12_without_143 (fun H locs hP hD hS => ?_)
            obtain ⟨g436, eg436⟩ : ∃ g : Nat → Int32, g = upd g423 ((4 : Int32).toNatClampNeg) v7 := ⟨_, rfl⟩
            rw [← eg436] at hP hD
            have hP : va_P D vwCl [cell22_ qm sm tm, cell5_ k qm sm, (qm 2, .inl (k 0, 26, .inl g436)), cell8_ k qm sm, cell6_ k qm sm, cell15_ k qm sm, cell14_ k qm tm, cell12_ k qm tm, cell18_ k qm tm, cell17_ k qm tm, (qm 10, .inl (k 1, 1500, .inr (.inl m430))), (qm 11, .inl (k 1, 1500, .inr (.inl m431))), (qm 12, .inl (k 0, 1500, .inl m432)), cell16_ k qm sm, cell11_ k qm sm, cell10_ k qm sm, cell9_ k qm sm, cell7_ k qm sm] H := hP
            have hD : va_D A [cell22_ qm sm tm, cell5_ k qm sm, (qm 2, .inl (k 0, 26, .inl g436)), cell8_ k qm sm, cell6_ k qm sm, cell15_ k qm sm, cell14_ k qm tm, cell12_ k qm tm, cell18_ k qm tm, cell17_ k qm tm, (qm 10, .inl (k 1, 1500, .inr (.inl m430))), (qm 11, .inl (k 1, 1500, .inr (.inl m431))), (qm 12, .inl (k 0, 1500, .inl m432)), cell16_ k qm sm, cell11_ k qm sm, cell10_ k qm sm, cell9_ k qm sm, cell7_ k qm sm] := hD
            have s437 := updI eg436 (by decide) (show 0 ≤ 4 from by omega) 0
            have s438 := updI eg436 (by decide) (show 0 ≤ 4 from by omega) 1
            have el439 : 0 ≤ (g436 0).toInt ∧ (g436 0).toInt ≤ 5 := by omega
            have el440 : 0 ≤ (g436 1).toInt ∧ (g436 1).toInt ≤ 4 := by omega
            refine lv_aload_n hx hb dX12_without_144 rfl (lv_at hl 4 rfl) ?_
            refine g_get cx hP iw_X12_without_X12 0 rfl rfl 1 (by decide) rfl fw_X12_without_13 rfl dX12_without_145 ?_
            refine lv_iconst (v := 5) hx hb dX12_without_148 (by decide) ?_
            refine lv_iload hx hb dX12_without_149 (lv_at hl 2 rfl) ?_
            have hn441 : vp_in 5 26 := f_in (a := 5) (by decide) (by omega) (by omega)
            refine va_iast hx hb cx.2.1 hP hD hS 2 0 rfl rfl hn441 dX12_without_151 (fun H locs hP hD hS => ?_)
            obtain ⟨g442, eg442⟩ : ∃ g : Nat → Int32, g = upd g436 ((5 : Int32).toNatClampNeg) v9 := ⟨_, rfl⟩
            rw [← eg442] at hP hD
            have hP : va_P D vwCl [cell22_ qm sm tm, cell5_ k qm sm, (qm 2, .inl (k 0, 26, .inl g442)), cell8_ k qm sm, cell6_ k qm sm, cell15_ k qm sm, cell14_ k qm tm, cell12_ k qm tm, cell18_ k qm tm, cell17_ k qm tm, (qm 10, .inl (k 1, 1500, .inr (.inl m430))), (qm 11, .inl (k 1, 1500, .inr (.inl m431))), (qm 12, .inl (k 0, 1500, .inl m432)), cell16_ k qm sm, cell11_ k qm sm, cell10_ k qm sm, cell9_ k qm sm, cell7_ k qm sm] H := hP
            have hD : va_D A [cell22_ qm sm tm, cell5_ k qm sm, (qm 2, .inl (k 0, 26, .inl g442)), cell8_ k qm sm, cell6_ k qm sm, cell15_ k qm sm, cell14_ k qm tm, cell12_ k qm tm, cell18_ k qm tm, cell17_ k qm tm, (qm 10, .inl (k 1, 1500, .inr (.inl m430))), (qm 11, .inl (k 1, 1500, .inr (.inl m431))), (qm 12, .inl (k 0, 1500, .inl m432)), cell16_ k qm sm, cell11_ k qm sm, cell10_ k qm sm, cell9_ k qm sm, cell7_ k qm sm] := hD
            have s443 := updI eg442 (by decide) (show 0 ≤ 5 from by omega) 0
            have s444 := updI eg442 (by decide) (show 0 ≤ 5 from by omega) 1
            have el445 : 0 ≤ (g442 0).toInt ∧ (g442 0).toInt ≤ 5 := by omega
            have el446 : 0 ≤ (g442 1).toInt ∧ (g442 1).toInt ≤ 4 := by omega
            refine lv_aload_n hx hb dX12_without_152 rfl (lv_at hl 4 rfl) ?_
            refine g_get cx hP iw_X12_without_X12 0 rfl rfl 1 (by decide) rfl fw_X12_without_13 rfl dX12_without_153 ?_
            refine lv_bipush (v := 6) hx hb dX12_without_156 (by decide) ?_
            refine lv_iload hx hb dX12_without_158 (lv_at hl 1 rfl) ?_
            have hn447 : vp_in 6 26 := f_in (a := 6) (by decide) (by omega) (by omega)
            refine va_iast hx hb cx.2.1 hP hD hS 2 0 rfl rfl hn447 dX12_without_160 (fun H locs hP hD hS => ?_)
            obtain ⟨g448, eg448⟩ : ∃ g : Nat → Int32, g = upd g442 ((6 : Int32).toNatClampNeg) v11 := ⟨_, rfl⟩
            rw [← eg448] at hP hD
            have hP : va_P D vwCl [cell22_ qm sm tm, cell5_ k qm sm, (qm 2, .inl (k 0, 26, .inl g448)), cell8_ k qm sm, cell6_ k qm sm, cell15_ k qm sm, cell14_ k qm tm, cell12_ k qm tm, cell18_ k qm tm, cell17_ k qm tm, (qm 10, .inl (k 1, 1500, .inr (.inl m430))), (qm 11, .inl (k 1, 1500, .inr (.inl m431))), (qm 12, .inl (k 0, 1500, .inl m432)), cell16_ k qm sm, cell11_ k qm sm, cell10_ k qm sm, cell9_ k qm sm, cell7_ k qm sm] H := hP
            have hD : va_D A [cell22_ qm sm tm, cell5_ k qm sm, (qm 2, .inl (k 0, 26, .inl g448)), cell8_ k qm sm, cell6_ k qm sm, cell15_ k qm sm, cell14_ k qm tm, cell12_ k qm tm, cell18_ k qm tm, cell17_ k qm tm, (qm 10, .inl (k 1, 1500, .inr (.inl m430))), (qm 11, .inl (k 1, 1500, .inr (.inl m431))), (qm 12, .inl (k 0, 1500, .inl m432)), cell16_ k qm sm, cell11_ k qm sm, cell10_ k qm sm, cell9_ k qm sm, cell7_ k qm sm] := hD
            have s449 := updI eg448 (by decide) (show 0 ≤ 6 from by omega) 0
            have s450 := updI eg448 (by decide) (show 0 ≤ 6 from by omega) 1
            have el451 : 0 ≤ (g448 0).toInt ∧ (g448 0).toInt ≤ 5 := by omega
            have el452 : 0 ≤ (g448 1).toInt ∧ (g448 1).toInt ≤ 4 := by omega
            refine lv_aload_n hx hb dX12_without_161 rfl (lv_at hl 4 rfl) ?_
            refine g_get cx hP iw_X12_without_X12 0 rfl rfl 1 (by decide) rfl fw_X12_without_13 rfl dX12_without_162 ?_
            refine lv_bipush (v := 7) hx hb dX12_without_165 (by decide) ?_
            refine lv_iload hx hb dX12_without_167 (lv_at hl 0 rfl) ?_
            have hn453 : vp_in 7 26 := f_in (a := 7) (by decide) (by omega) (by omega)
            refine va_iast hx hb cx.2.1 hP hD hS 2 0 rfl rfl hn453 dX12_without_169 (fun H locs hP hD hS => ?_)
            obtain ⟨g454, eg454⟩ : ∃ g : Nat → Int32, g = upd g448 ((7 : Int32).toNatClampNeg) v13 := ⟨_, rfl⟩
            rw [← eg454] at hP hD
            have hP : va_P D vwCl [cell22_ qm sm tm, cell5_ k qm sm, (qm 2, .inl (k 0, 26, .inl g454)), cell8_ k qm sm, cell6_ k qm sm, cell15_ k qm sm, cell14_ k qm tm, cell12_ k qm tm, cell18_ k qm tm, cell17_ k qm tm, (qm 10, .inl (k 1, 1500, .inr (.inl m430))), (qm 11, .inl (k 1, 1500, .inr (.inl m431))), (qm 12, .inl (k 0, 1500, .inl m432)), cell16_ k qm sm, cell11_ k qm sm, cell10_ k qm sm, cell9_ k qm sm, cell7_ k qm sm] H := hP
            have hD : va_D A [cell22_ qm sm tm, cell5_ k qm sm, (qm 2, .inl (k 0, 26, .inl g454)), cell8_ k qm sm, cell6_ k qm sm, cell15_ k qm sm, cell14_ k qm tm, cell12_ k qm tm, cell18_ k qm tm, cell17_ k qm tm, (qm 10, .inl (k 1, 1500, .inr (.inl m430))), (qm 11, .inl (k 1, 1500, .inr (.inl m431))), (qm 12, .inl (k 0, 1500, .inl m432)), cell16_ k qm sm, cell11_ k qm sm, cell10_ k qm sm, cell9_ k qm sm, cell7_ k qm sm] := hD
            have s455 := updI eg454 (by decide) (show 0 ≤ 7 from by omega) 0
            have s456 := updI eg454 (by decide) (show 0 ≤ 7 from by omega) 1
            have el457 : 0 ≤ (g454 0).toInt ∧ (g454 0).toInt ≤ 5 := by omega
            have el458 : 0 ≤ (g454 1).toInt ∧ (g454 1).toInt ≤ 4 := by omega
            refine lv_aload_n hx hb dX12_without_170 rfl (lv_at hl 4 rfl) ?_
            refine g_get cx hP iw_X12_without_X12 0 rfl rfl 18 (by decide) rfl fw_X12_without_38 rfl dX12_without_171 ?_
            refine lv_iconst (v := 0) hx hb dX12_without_174 (by decide) ?_
            have hn459 : vp_in 0 1500 := f_in (a := 0) (by decide) (by omega) (by omega)
            refine va_lald hx hb cx.2.1 hP 10 1 rfl rfl hn459 dX12_without_175 (lv_topl (fun v460 e460 => ?_))
            refine lv_aload_n hx hb dX12_without_176 rfl (lv_at hl 4 rfl) ?_
            refine g_get cx hP iw_X12_without_X12 0 rfl rfl 1 (by decide) rfl fw_X12_without_13 rfl dX12_without_177 ?_
            refine lv_iconst (v := 0) hx hb dX12_without_180 (by decide) ?_
            have hn461 : vp_in 0 26 := f_in (a := 0) (by decide) (by omega) (by omega)
            refine va_iald hx hb cx.2.1 hP 2 0 rfl rfl hn461 dX12_without_181 (lv_topi (fun v462 e462 => ?_))
            have uv462 : v462.toInt = (g454 0).toInt := congrArg Int32.toInt e462
            have t462 : 0 ≤ v462.toInt ∧ v462.toInt ≤ 5 := by rw [e462]; exact el457
            refine g_lr (g_runS (wc := []) (rest := [.long v460]) cx hP hD hS [] rfl (by decide) [.int v462] (c_X12_parts l D k b H.size v462) gX12_without_X12_parts rfl rfl rfl nd_X12_parts ⟨Nat.le_of_ble_eq_true rfl, Nat.le_of_ble_eq_true rfl⟩ rfl hl.1 rfl (Nat.le_of_ble_eq_true rfl) ⟨Nat.zero_le _, Nat.zero_le _⟩ dX12_without_182) cx.2.2.1 hP hD hS [] rfl rfl (fun r464 H locs hw463 hP hS => ?_)
            replace hw463 : (r464.toInt % 2 = 1) ∧ (r464 = J_X12_parts v462) := hw463
            obtain ⟨w465, w466⟩ := hw463
            refine lv_iload_n hx hb dX12_without_185 rfl (lv_at hl 6 rfl) ?_
            refine g_lr (g_runS (wc := []) (rest := []) cx hP hD hS [] rfl (by decide) [.long v460, .long r464, .int p1] (c_X12_told l D k b H.size v460 r464 p1 (show ¬ r464.toInt = 0 from by first | decide | omega)) gX12_without_X12_told rfl rfl rfl nd_X12_told ⟨Nat.le_of_ble_eq_true rfl, Nat.le_of_ble_eq_true rfl⟩ rfl hl.1 rfl (Nat.le_of_ble_eq_true rfl) ⟨Nat.zero_le _, Nat.zero_le _⟩ dX12_without_186) cx.2.2.1 hP hD hS [] rfl rfl (fun r469 H locs hw468 hP hS => ?_)
            have w470 : r469 = J_X12_told v460 r464 p1 := hw468
            clear hw468
            rw [hQ]
            exact x_l cx hr (m430, m431, m432, g454) hP hD hS ⟨(show 0 ≤ (g454 0).toInt ∧ (g454 0).toInt ≤ 5 from by omega), (show 0 ≤ (g454 1).toInt ∧ (g454 1).toInt ≤ 4 from by omega), (show g454 = (sm 2) from rest8 eg17 eg249 eg365 eg423 eg436 eg442 eg448 eg454 e7 e9 e11 e13), (show (r469, m430, m431, m432, g454) = J_X12_without sm tm p0 p1 from (exl_X12_without_7 e1 w4 e7 e9 e11 e13 e14 eg17 e22 eg249 e254 eg365 e370 eg423 eg436 eg442 eg448 eg454 e460 e462 c5 c15 c23 c255 c371 w433 w466 w470))⟩ dX12_without_189
    · have f15 : v14.toInt = 1 := f_eq rfl (by decide) c15
      refine lv_bipush (v := (-9)) hx hb dX12_without_61 (by decide) ?_
      refine lv_goto (tgt := 67) hx hb dX12_without_63 (by decide) ?_
      have hn472 : vp_in 4 26 := f_in (a := 4) (by decide) (by omega) (by omega)
      refine va_iast hx hb cx.2.1 hP hD hS 2 0 rfl rfl hn472 dX12_without_67 (fun H locs hP hD hS => ?_)
      obtain ⟨g473, eg473⟩ : ∃ g : Nat → Int32, g = upd (sm 2) ((4 : Int32).toNatClampNeg) (-9) := ⟨_, rfl⟩
      rw [← eg473] at hP hD
      have hP : va_P D vwCl [cell22_ qm sm tm, cell5_ k qm sm, (qm 2, .inl (k 0, 26, .inl g473)), cell8_ k qm sm, cell6_ k qm sm, cell15_ k qm sm, cell14_ k qm tm, cell12_ k qm tm, cell18_ k qm tm, cell17_ k qm tm, cell19_ k qm tm, cell21_ k qm tm, cell20_ k qm sm, cell16_ k qm sm, cell11_ k qm sm, cell10_ k qm sm, cell9_ k qm sm, cell7_ k qm sm] H := hP
      have hD : va_D A [cell22_ qm sm tm, cell5_ k qm sm, (qm 2, .inl (k 0, 26, .inl g473)), cell8_ k qm sm, cell6_ k qm sm, cell15_ k qm sm, cell14_ k qm tm, cell12_ k qm tm, cell18_ k qm tm, cell17_ k qm tm, cell19_ k qm tm, cell21_ k qm tm, cell20_ k qm sm, cell16_ k qm sm, cell11_ k qm sm, cell10_ k qm sm, cell9_ k qm sm, cell7_ k qm sm] := hD
      have s474 := updI eg473 (by decide) (show 0 ≤ 4 from by omega) 0
      have s474l : ((-9) : Int32).toInt = -9 := by decide
      have s475 := updI eg473 (by decide) (show 0 ≤ 4 from by omega) 1
      have s475l : ((-9) : Int32).toInt = -9 := by decide
      have el476 : 0 ≤ (g473 0).toInt ∧ (g473 0).toInt ≤ 5 := by omega
      have el477 : 0 ≤ (g473 1).toInt ∧ (g473 1).toInt ≤ 4 := by omega
      refine lv_aload_n hx hb dX12_without_68 rfl (lv_at hl 4 rfl) ?_
      refine g_get cx hP iw_X12_without_X12 0 rfl rfl 1 (by decide) rfl fw_X12_without_13 rfl dX12_without_69 ?_
      refine lv_iconst (v := 5) hx hb dX12_without_72 (by decide) ?_
      refine lv_iload_n hx hb dX12_without_73 rfl (lv_at hl 5 rfl) ?_
      refine lv_iconst (v := 2) hx hb dX12_without_74 (by decide) ?_
      refine lv_iand hx hb dX12_without_75 (lv_topi (fun v478 e478 => ?_))
      have t478 : 0 ≤ v478.toInt ∧ v478.toInt ≤ p0.toInt := by rw [e478]; exact and_l rfl (by omega)
      refine lv_iconst (v := 2) hx hb dX12_without_76 (by decide) ?_
      refine lv_icmp_ne (tgt := 85) hx hb dX12_without_77 (by decide) (fun c479 => ?_) (fun c479 => ?_)
      · have f479 : ¬ v478.toInt = 2 := f_ne rfl (by decide) c479
        refine lv_iload hx hb dX12_without_85 (lv_at hl 2 rfl) ?_
        have hn480 : vp_in 5 26 := f_in (a := 5) (by decide) (by omega) (by omega)
        refine va_iast hx hb cx.2.1 hP hD hS 2 0 rfl rfl hn480 dX12_without_87 (fun H locs hP hD hS => ?_)
        obtain ⟨g481, eg481⟩ : ∃ g : Nat → Int32, g = upd g473 ((5 : Int32).toNatClampNeg) v9 := ⟨_, rfl⟩
        rw [← eg481] at hP hD
        have hP : va_P D vwCl [cell22_ qm sm tm, cell5_ k qm sm, (qm 2, .inl (k 0, 26, .inl g481)), cell8_ k qm sm, cell6_ k qm sm, cell15_ k qm sm, cell14_ k qm tm, cell12_ k qm tm, cell18_ k qm tm, cell17_ k qm tm, cell19_ k qm tm, cell21_ k qm tm, cell20_ k qm sm, cell16_ k qm sm, cell11_ k qm sm, cell10_ k qm sm, cell9_ k qm sm, cell7_ k qm sm] H := hP
        have hD : va_D A [cell22_ qm sm tm, cell5_ k qm sm, (qm 2, .inl (k 0, 26, .inl g481)), cell8_ k qm sm, cell6_ k qm sm, cell15_ k qm sm, cell14_ k qm tm, cell12_ k qm tm, cell18_ k qm tm, cell17_ k qm tm, cell19_ k qm tm, cell21_ k qm tm, cell20_ k qm sm, cell16_ k qm sm, cell11_ k qm sm, cell10_ k qm sm, cell9_ k qm sm, cell7_ k qm sm] := hD
        have s482 := updI eg481 (by decide) (show 0 ≤ 5 from by omega) 0
        have s483 := updI eg481 (by decide) (show 0 ≤ 5 from by omega) 1
        have el484 : 0 ≤ (g481 0).toInt ∧ (g481 0).toInt ≤ 5 := by omega
        have el485 : 0 ≤ (g481 1).toInt ∧ (g481 1).toInt ≤ 4 := by omega
        refine lv_aload_n hx hb dX12_without_88 rfl (lv_at hl 4 rfl) ?_
        refine g_get cx hP iw_X12_without_X12 0 rfl rfl 1 (by decide) rfl fw_X12_without_13 rfl dX12_without_89 ?_
        refine lv_bipush (v := 6) hx hb dX12_without_92 (by decide) ?_
        refine lv_iload_n hx hb dX12_without_94 rfl (lv_at hl 5 rfl) ?_
        refine lv_iconst (v := 4) hx hb dX12_without_95 (by decide) ?_
        refine lv_iand hx hb dX12_without_96 (lv_topi (fun v486 e486 => ?_))
        have t486 : 0 ≤ v486.toInt ∧ v486.toInt ≤ p0.toInt := by rw [e486]; exact and_l rfl (by omega)
        refine lv_iconst (v := 4) hx hb dX12_without_97 (by decide) ?_
        refine lv_icmp_ne (tgt := 106) hx hb dX12_without_98 (by decide) (fun c487 => ?_) (fun c487 => ?_)
        · have f487 : ¬ v486.toInt = 4 := f_ne rfl (by decide) c487
          refine lv_iload hx hb dX12_without_106 (lv_at hl 1 rfl) ?_
          have hn488 : vp_in 6 26 := f_in (a := 6) (by decide) (by omega) (by omega)
          refine va_iast hx hb cx.2.1 hP hD hS 2 0 rfl rfl hn488 dX12_without_108 (fun H locs hP hD hS => ?_)
          obtain ⟨g489, eg489⟩ : ∃ g : Nat → Int32, g = upd g481 ((6 : Int32).toNatClampNeg) v11 := ⟨_, rfl⟩
          rw [← eg489] at hP hD
          have hP : va_P D vwCl [cell22_ qm sm tm, cell5_ k qm sm, (qm 2, .inl (k 0, 26, .inl g489)), cell8_ k qm sm, cell6_ k qm sm, cell15_ k qm sm, cell14_ k qm tm, cell12_ k qm tm, cell18_ k qm tm, cell17_ k qm tm, cell19_ k qm tm, cell21_ k qm tm, cell20_ k qm sm, cell16_ k qm sm, cell11_ k qm sm, cell10_ k qm sm, cell9_ k qm sm, cell7_ k qm sm] H := hP
          have hD : va_D A [cell22_ qm sm tm, cell5_ k qm sm, (qm 2, .inl (k 0, 26, .inl g489)), cell8_ k qm sm, cell6_ k qm sm, cell15_ k qm sm, cell14_ k qm tm, cell12_ k qm tm, cell18_ k qm tm, cell17_ k qm tm, cell19_ k qm tm, cell21_ k qm tm, cell20_ k qm sm, cell16_ k qm sm, cell11_ k qm sm, cell10_ k qm sm, cell9_ k qm sm, cell7_ k qm sm] := hD
          have s490 := updI eg489 (by decide) (show 0 ≤ 6 from by omega) 0
          have s491 := updI eg489 (by decide) (show 0 ≤ 6 from by omega) 1
          have el492 : 0 ≤ (g489 0).toInt ∧ (g489 0).toInt ≤ 5 := by omega
          have el493 : 0 ≤ (g489 1).toInt ∧ (g489 1).toInt ≤ 4 := by omega
          refine lv_aload_n hx hb dX12_without_109 rfl (lv_at hl 4 rfl) ?_
          refine g_get cx hP iw_X12_without_X12 0 rfl rfl 1 (by decide) rfl fw_X12_without_13 rfl dX12_without_110 ?_
          refine lv_bipush (v := 7) hx hb dX12_without_113 (by decide) ?_
          refine lv_iload_n hx hb dX12_without_115 rfl (lv_at hl 5 rfl) ?_
          refine lv_bipush (v := 8) hx hb dX12_without_116 (by decide) ?_
          refine lv_iand hx hb dX12_without_118 (lv_topi (fun v494 e494 => ?_))
          have t494 : 0 ≤ v494.toInt ∧ v494.toInt ≤ p0.toInt := by rw [e494]; exact and_l rfl (by omega)
          refine lv_bipush (v := 8) hx hb dX12_without_119 (by decide) ?_
          refine lv_icmp_ne (tgt := 129) hx hb dX12_without_121 (by decide) (fun c495 => ?_) (fun c495 => ?_)
          · have f495 : ¬ v494.toInt = 8 := f_ne rfl (by decide) c495
            refine lv_iload hx hb dX12_without_129 (lv_at hl 0 rfl) ?_
            have hn496 : vp_in 7 26 := f_in (a := 7) (by decide) (by omega) (by omega)
            refine va_iast hx hb cx.2.1 hP hD hS 2 0 rfl rfl hn496 dX12_without_131 (fun H locs hP hD hS => ?_)
            obtain ⟨g497, eg497⟩ : ∃ g : Nat → Int32, g = upd g489 ((7 : Int32).toNatClampNeg) v13 := ⟨_, rfl⟩
            rw [← eg497] at hP hD
            have hP : va_P D vwCl [cell22_ qm sm tm, cell5_ k qm sm, (qm 2, .inl (k 0, 26, .inl g497)), cell8_ k qm sm, cell6_ k qm sm, cell15_ k qm sm, cell14_ k qm tm, cell12_ k qm tm, cell18_ k qm tm, cell17_ k qm tm, cell19_ k qm tm, cell21_ k qm tm, cell20_ k qm sm, cell16_ k qm sm, cell11_ k qm sm, cell10_ k qm sm, cell9_ k qm sm, cell7_ k qm sm] H := hP
            have hD : va_D A [cell22_ qm sm tm, cell5_ k qm sm, (qm 2, .inl (k 0, 26, .inl g497)), cell8_ k qm sm, cell6_ k qm sm, cell15_ k qm sm, cell14_ k qm tm, cell12_ k qm tm, cell18_ k qm tm, cell17_ k qm tm, cell19_ k qm tm, cell21_ k qm tm, cell20_ k qm sm, cell16_ k qm sm, cell11_ k qm sm, cell10_ k qm sm, cell9_ k qm sm, cell7_ k qm sm] := hD
            have s498 := updI eg497 (by decide) (show 0 ≤ 7 from by omega) 0
            have s499 := updI eg497 (by decide) (show 0 ≤ 7 from by omega) 1
            have el500 : 0 ≤ (g497 0).toInt ∧ (g497 0).toInt ≤ 5 := by omega
            have el501 : 0 ≤ (g497 1).toInt ∧ (g497 1).toInt ≤ 4 := by omega
            refine lv_aload_n hx hb dX12_without_132 rfl (lv_at hl 4 rfl) ?_
            refine lv_iconst (v := 0) hx hb dX12_without_133 (by decide) ?_
            refine g_vF (w1 := fun (u : (Nat → Int64) × (Nat → Int64) × (Nat → Int32)) => [cell22_ qm sm tm, cell5_ k qm sm, (qm 2, .inl (k 0, 26, .inl g497)), cell8_ k qm sm, cell6_ k qm sm, cell15_ k qm sm, cell14_ k qm tm, cell12_ k qm tm, cell18_ k qm tm, cell17_ k qm tm, cell130_ k qm (u.1), cell122_ k qm (u.2.1), cell123_ k qm (u.2.2), cell16_ k qm sm, cell11_ k qm sm, cell10_ k qm sm, cell9_ k qm sm, cell7_ k qm sm]) (g_runVF (ws := [cell22_ qm sm tm, cell5_ k qm sm, (qm 2, .inl (k 0, 26, .inl g497)), cell8_ k qm sm, cell6_ k qm sm, cell15_ k qm sm, cell14_ k qm tm, cell12_ k qm tm, cell18_ k qm tm, cell17_ k qm tm, cell19_ k qm tm, cell21_ k qm tm, cell20_ k qm sm, cell16_ k qm sm, cell11_ k qm sm, cell10_ k qm sm, cell9_ k qm sm, cell7_ k qm sm]) (rest := []) cx hP hD hS [.int 0] (c_X12_layBest l D k b qm (up2 sm 2 g497) tm H.size 0 (show 0 ≤ (g497 0).toInt ∧ (g497 0).toInt ≤ 5 from by first | decide | omega) (show 0 ≤ (g497 1).toInt ∧ (g497 1).toInt ≤ 4 from by first | decide | omega) (show 0 ≤ (0 : Int32).toInt ∧ (0 : Int32).toInt ≤ 4 from by first | decide | omega)) gX12_without_X12_layBest rfl rfl rfl nd_X12_layBest ⟨Nat.le_of_ble_eq_true rfl, Nat.le_of_ble_eq_true rfl⟩ (ci := 10) (q0 := 0) rfl rfl rfl hl.1 rfl (Nat.le_of_ble_eq_true rfl) ⟨Nat.zero_le _, Nat.zero_le _⟩ dX12_without_134) cx.2.2.1 hD hS (fun u503 H locs hw502 hP hD hS => ?_)
            obtain ⟨m504, m505, m506⟩ := u503
            have hP : va_P D vwCl [cell22_ qm sm tm, cell5_ k qm sm, (qm 2, .inl (k 0, 26, .inl g497)), cell8_ k qm sm, cell6_ k qm sm, cell15_ k qm sm, cell14_ k qm tm, cell12_ k qm tm, cell18_ k qm tm, cell17_ k qm tm, (qm 10, .inl (k 1, 1500, .inr (.inl m504))), (qm 11, .inl (k 1, 1500, .inr (.inl m505))), (qm 12, .inl (k 0, 1500, .inl m506)), cell16_ k qm sm, cell11_ k qm sm, cell10_ k qm sm, cell9_ k qm sm, cell7_ k qm sm] H := hP
            have hD : va_D A [cell22_ qm sm tm, cell5_ k qm sm, (qm 2, .inl (k 0, 26, .inl g497)), cell8_ k qm sm, cell6_ k qm sm, cell15_ k qm sm, cell14_ k qm tm, cell12_ k qm tm, cell18_ k qm tm, cell17_ k qm tm, (qm 10, .inl (k 1, 1500, .inr (.inl m504))), (qm 11, .inl (k 1, 1500, .inr (.inl m505))), (qm 12, .inl (k 0, 1500, .inl m506)), cell16_ k qm sm, cell11_ k qm sm, cell10_ k qm sm, cell9_ k qm sm, cell7_ k qm sm] := hD
            have w507 : (m504, m505, m506) = J_X12_layBest (up2 sm 2 g497) tm (0 : Int32) := hw502
            clear hw502
            refine lv_aload_n hx hb dX12_without_137 rfl (lv_at hl 4 rfl) ?_
            refine g_get cx hP iw_X12_without_X12 0 rfl rfl 1 (by decide) rfl fw_X12_without_13 rfl dX12_without_138 ?_
            refine lv_iconst (v := 4) hx hb dX12_without_141 (by decide) ?_
            refine lv_iload_n hx hb dX12_without_142 rfl (lv_at hl 3 rfl) ?_
            have hn509 : vp_in 4 26 := f_in (a := 4) (by decide) (by omega) (by omega)
            refine va_iast hx hb cx.2.1 hP hD hS 2 0 rfl rfl hn509 dX12_without_143 (fun H locs hP hD hS => ?_)
            obtain ⟨g510, eg510⟩ : ∃ g : Nat → Int32, g = upd g497 ((4 : Int32).toNatClampNeg) v7 := ⟨_, rfl⟩
            rw [← eg510] at hP hD
            have hP : va_P D vwCl [cell22_ qm sm tm, cell5_ k qm sm, (qm 2, .inl (k 0, 26, .inl g510)), cell8_ k qm sm, cell6_ k qm sm, cell15_ k qm sm, cell14_ k qm tm, cell12_ k qm tm, cell18_ k qm tm, cell17_ k qm tm, (qm 10, .inl (k 1, 1500, .inr (.inl m504))), (qm 11, .inl (k 1, 1500, .inr (.inl m505))), (qm 12, .inl (k 0, 1500, .inl m506)), cell16_ k qm sm, cell11_ k qm sm, cell10_ k qm sm, cell9_ k qm sm, cell7_ k qm sm] H := hP
            have hD : va_D A [cell22_ qm sm tm, cell5_ k qm sm, (qm 2, .inl (k 0, 26, .inl g510)), cell8_ k qm sm, cell6_ k qm sm, cell15_ k qm sm, cell14_ k qm tm, cell12_ k qm tm, cell18_ k qm tm, cell17_ k qm tm, (qm 10, .inl (k 1, 1500, .inr (.inl m504))), (qm 11, .inl (k 1, 1500, .inr (.inl m505))), (qm 12, .inl (k 0, 1500, .inl m506)), cell16_ k qm sm, cell11_ k qm sm, cell10_ k qm sm, cell9_ k qm sm, cell7_ k qm sm] := hD
            have s511 := updI eg510 (by decide) (show 0 ≤ 4 from by omega) 0
            have s512 := updI eg510 (by decide) (show 0 ≤ 4 from by omega) 1
            have el513 : 0 ≤ (g510 0).toInt ∧ (g510 0).toInt ≤ 5 := by omega
            have el514 : 0 ≤ (g510 1).toInt ∧ (g510 1).toInt ≤ 4 := by omega
            refine lv_aload_n hx hb dX12_without_144 rfl (lv_at hl 4 rfl) ?_
            refine g_get cx hP iw_X12_without_X12 0 rfl rfl 1 (by decide) rfl fw_X12_without_13 rfl dX12_without_145 ?_
            refine lv_iconst (v := 5) hx hb dX12_without_148 (by decide) ?_
            refine lv_iload hx hb dX12_without_149 (lv_at hl 2 rfl) ?_
            have hn515 : vp_in 5 26 := f_in (a := 5) (by decide) (by omega) (by omega)
            refine va_iast hx hb cx.2.1 hP hD hS 2 0 rfl rfl hn515 dX12_without_151 (fun H locs hP hD hS => ?_)
            obtain ⟨g516, eg516⟩ : ∃ g : Nat → Int32, g = upd g510 ((5 : Int32).toNatClampNeg) v9 := ⟨_, rfl⟩
            rw [← eg516] at hP hD
            have hP : va_P D vwCl [cell22_ qm sm tm, cell5_ k qm sm, (qm 2, .inl (k 0, 26, .inl g516)), cell8_ k qm sm, cell6_ k qm sm, cell15_ k qm sm, cell14_ k qm tm, cell12_ k qm tm, cell18_ k qm tm, cell17_ k qm tm, (qm 10, .inl (k 1, 1500, .inr (.inl m504))), (qm 11, .inl (k 1, 1500, .inr (.inl m505))), (qm 12, .inl (k 0, 1500, .inl m506)), cell16_ k qm sm, cell11_ k qm sm, cell10_ k qm sm, cell9_ k qm sm, cell7_ k qm sm] H := hP
            have hD : va_D A [cell22_ qm sm tm, cell5_ k qm sm, (qm 2, .inl (k 0, 26, .inl g516)), cell8_ k qm sm, cell6_ k qm sm, cell15_ k qm sm, cell14_ k qm tm, cell12_ k qm tm, cell18_ k qm tm, cell17_ k qm tm, (qm 10, .inl (k 1, 1500, .inr (.inl m504))), (qm 11, .inl (k 1, 1500, .inr (.inl m505))), (qm 12, .inl (k 0, 1500, .inl m506)), cell16_ k qm sm, cell11_ k qm sm, cell10_ k qm sm, cell9_ k qm sm, cell7_ k qm sm] := hD
            have s517 := updI eg516 (by decide) (show 0 ≤ 5 from by omega) 0
            have s518 := updI eg516 (by decide) (show 0 ≤ 5 from by omega) 1
            have el519 : 0 ≤ (g516 0).toInt ∧ (g516 0).toInt ≤ 5 := by omega
            have el520 : 0 ≤ (g516 1).toInt ∧ (g516 1).toInt ≤ 4 := by omega
            refine lv_aload_n hx hb dX12_without_152 rfl (lv_at hl 4 rfl) ?_
            refine g_get cx hP iw_X12_without_X12 0 rfl rfl 1 (by decide) rfl fw_X12_without_13 rfl dX12_without_153 ?_
            refine lv_bipush (v := 6) hx hb dX12_without_156 (by decide) ?_
            refine lv_iload hx hb dX12_without_158 (lv_at hl 1 rfl) ?_
            have hn521 : vp_in 6 26 := f_in (a := 6) (by decide) (by omega) (by omega)
            refine va_iast hx hb cx.2.1 hP hD hS 2 0 rfl rfl hn521 dX12_without_160 (fun H locs hP hD hS => ?_)
            obtain ⟨g522, eg522⟩ : ∃ g : Nat → Int32, g = upd g516 ((6 : Int32).toNatClampNeg) v11 := ⟨_, rfl⟩
            rw [← eg522] at hP hD
            have hP : va_P D vwCl [cell22_ qm sm tm, cell5_ k qm sm, (qm 2, .inl (k 0, 26, .inl g522)), cell8_ k qm sm, cell6_ k qm sm, cell15_ k qm sm, cell14_ k qm tm, cell12_ k qm tm, cell18_ k qm tm, cell17_ k qm tm, (qm 10, .inl (k 1, 1500, .inr (.inl m504))), (qm 11, .inl (k 1, 1500, .inr (.inl m505))), (qm 12, .inl (k 0, 1500, .inl m506)), cell16_ k qm sm, cell11_ k qm sm, cell10_ k qm sm, cell9_ k qm sm, cell7_ k qm sm] H := hP
            have hD : va_D A [cell22_ qm sm tm, cell5_ k qm sm, (qm 2, .inl (k 0, 26, .inl g522)), cell8_ k qm sm, cell6_ k qm sm, cell15_ k qm sm, cell14_ k qm tm, cell12_ k qm tm, cell18_ k qm tm, cell17_ k qm tm, (qm 10, .inl (k 1, 1500, .inr (.inl m504))), (qm 11, .inl (k 1, 1500, .inr (.inl m505))), (qm 12, .inl (k 0, 1500, .inl m506)), cell16_ k qm sm, cell11_ k qm sm, cell10_ k qm sm, cell9_ k qm sm, cell7_ k qm sm] := hD
            have s523 := updI eg522 (by decide) (show 0 ≤ 6 from by omega) 0
            have s524 := updI eg522 (by decide) (show 0 ≤ 6 from by omega) 1
            have el525 : 0 ≤ (g522 0).toInt ∧ (g522 0).toInt ≤ 5 := by omega
            have el526 : 0 ≤ (g522 1).toInt ∧ (g522 1).toInt ≤ 4 := by omega
            refine lv_aload_n hx hb dX12_without_161 rfl (lv_at hl 4 rfl) ?_
            refine g_get cx hP iw_X12_without_X12 0 rfl rfl 1 (by decide) rfl fw_X12_without_13 rfl dX12_without_162 ?_
            refine lv_bipush (v := 7) hx hb dX12_without_165 (by decide) ?_
            refine lv_iload hx hb dX12_without_167 (lv_at hl 0 rfl) ?_
            have hn527 : vp_in 7 26 := f_in (a := 7) (by decide) (by omega) (by omega)
            refine va_iast hx hb cx.2.1 hP hD hS 2 0 rfl rfl hn527 dX12_without_169 (fun H locs hP hD hS => ?_)
            obtain ⟨g528, eg528⟩ : ∃ g : Nat → Int32, g = upd g522 ((7 : Int32).toNatClampNeg) v13 := ⟨_, rfl⟩
            rw [← eg528] at hP hD
            have hP : va_P D vwCl [cell22_ qm sm tm, cell5_ k qm sm, (qm 2, .inl (k 0, 26, .inl g528)), cell8_ k qm sm, cell6_ k qm sm, cell15_ k qm sm, cell14_ k qm tm, cell12_ k qm tm, cell18_ k qm tm, cell17_ k qm tm, (qm 10, .inl (k 1, 1500, .inr (.inl m504))), (qm 11, .inl (k 1, 1500, .inr (.inl m505))), (qm 12, .inl (k 0, 1500, .inl m506)), cell16_ k qm sm, cell11_ k qm sm, cell10_ k qm sm, cell9_ k qm sm, cell7_ k qm sm] H := hP
            have hD : va_D A [cell22_ qm sm tm, cell5_ k qm sm, (qm 2, .inl (k 0, 26, .inl g528)), cell8_ k qm sm, cell6_ k qm sm, cell15_ k qm sm, cell14_ k qm tm, cell12_ k qm tm, cell18_ k qm tm, cell17_ k qm tm, (qm 10, .inl (k 1, 1500, .inr (.inl m504))), (qm 11, .inl (k 1, 1500, .inr (.inl m505))), (qm 12, .inl (k 0, 1500, .inl m506)), cell16_ k qm sm, cell11_ k qm sm, cell10_ k qm sm, cell9_ k qm sm, cell7_ k qm sm] := hD
            have s529 := updI eg528 (by decide) (show 0 ≤ 7 from by omega) 0
            have s530 := updI eg528 (by decide) (show 0 ≤ 7 from by omega) 1
            have el531 : 0 ≤ (g528 0).toInt ∧ (g528 0).toInt ≤ 5 := by omega
            have el532 : 0 ≤ (g528 1).toInt ∧ (g528 1).toInt ≤ 4 := by omega
            refine lv_aload_n hx hb dX12_without_170 rfl (lv_at hl 4 rfl) ?_
            refine g_get cx hP iw_X12_without_X12 0 rfl rfl 18 (by decide) rfl fw_X12_without_38 rfl dX12_without_171 ?_
            refine lv_iconst (v := 0) hx hb dX12_without_174 (by decide) ?_
            have hn533 : vp_in 0 1500 := f_in (a := 0) (by decide) (by omega) (by omega)
            refine va_lald hx hb cx.2.1 hP 10 1 rfl rfl hn533 dX12_without_175 (lv_topl (fun v534 e534 => ?_))
            refine lv_aload_n hx hb dX12_without_176 rfl (lv_at hl 4 rfl) ?_
            refine g_get cx hP iw_X12_without_X12 0 rfl rfl 1 (by decide) rfl fw_X12_without_13 rfl dX12_without_177 ?_
            refine lv_iconst (v := 0) hx hb dX12_without_180 (by decide) ?_
            have hn535 : vp_in 0 26 := f_in (a := 0) (by decide) (by omega) (by omega)
            refine va_iald hx hb cx.2.1 hP 2 0 rfl rfl hn535 dX12_without_181 (lv_topi (fun v536 e536 => ?_))
            have uv536 : v536.toInt = (g528 0).toInt := congrArg Int32.toInt e536
            have t536 : 0 ≤ v536.toInt ∧ v536.toInt ≤ 5 := by rw [e536]; exact el531
            refine g_lr (g_runS (wc := []) (rest := [.long v534]) cx hP hD hS [] rfl (by decide) [.int v536] (c_X12_parts l D k b H.size v536) gX12_without_X12_parts rfl rfl rfl nd_X12_parts ⟨Nat.le_of_ble_eq_true rfl, Nat.le_of_ble_eq_true rfl⟩ rfl hl.1 rfl (Nat.le_of_ble_eq_true rfl) ⟨Nat.zero_le _, Nat.zero_le _⟩ dX12_without_182) cx.2.2.1 hP hD hS [] rfl rfl (fun r538 H locs hw537 hP hS => ?_)
            replace hw537 : (r538.toInt % 2 = 1) ∧ (r538 = J_X12_parts v536) := hw537
            obtain ⟨w539, w540⟩ := hw537
            refine lv_iload_n hx hb dX12_without_185 rfl (lv_at hl 6 rfl) ?_
            refine g_lr (g_runS (wc := []) (rest := []) cx hP hD hS [] rfl (by decide) [.long v534, .long r538, .int p1] (c_X12_told l D k b H.size v534 r538 p1 (show ¬ r538.toInt = 0 from by first | decide | omega)) gX12_without_X12_told rfl rfl rfl nd_X12_told ⟨Nat.le_of_ble_eq_true rfl, Nat.le_of_ble_eq_true rfl⟩ rfl hl.1 rfl (Nat.le_of_ble_eq_true rfl) ⟨Nat.zero_le _, Nat.zero_le _⟩ dX12_without_186) cx.2.2.1 hP hD hS [] rfl rfl (fun r543 H locs hw542 hP hS => ?_)
            have w544 : r543 = J_X12_told v534 r538 p1 := hw542
            clear hw542
            rw [hQ]
            exact x_l cx hr (m504, m505, m506, g528) hP hD hS ⟨(show 0 ≤ (g528 0).toInt ∧ (g528 0).toInt ≤ 5 from by omega), (show 0 ≤ (g528 1).toInt ∧ (g528 1).toInt ≤ 4 from by omega), (show g528 = (sm 2) from rest8 eg473 eg481 eg489 eg497 eg510 eg516 eg522 eg528 e7 e9 e11 e13), (show (r543, m504, m505, m506, g528) = J_X12_without sm tm p0 p1 from (exl_X12_without_8 e1 w4 e7 e9 e11 e13 e14 eg473 e478 eg481 e486 eg489 e494 eg497 eg510 eg516 eg522 eg528 e534 e536 c5 c15 c479 c487 c495 w507 w540 w544))⟩ dX12_without_189
          · have f495 : v494.toInt = 8 := f_eq rfl (by decide) c495
            refine lv_bipush (v := (-9)) hx hb dX12_without_124 (by decide) ?_
            refine lv_goto (tgt := 131) hx hb dX12_without_126 (by decide) ?_
            have hn546 : vp_in 7 26 := f_in (a := 7) (by decide) (by omega) (by omega)
            refine va_iast hx hb cx.2.1 hP hD hS 2 0 rfl rfl hn546 dX12_without_131 (fun H locs hP hD hS => ?_)
            obtain ⟨g547, eg547⟩ : ∃ g : Nat → Int32, g = upd g489 ((7 : Int32).toNatClampNeg) (-9) := ⟨_, rfl⟩
            rw [← eg547] at hP hD
            have hP : va_P D vwCl [cell22_ qm sm tm, cell5_ k qm sm, (qm 2, .inl (k 0, 26, .inl g547)), cell8_ k qm sm, cell6_ k qm sm, cell15_ k qm sm, cell14_ k qm tm, cell12_ k qm tm, cell18_ k qm tm, cell17_ k qm tm, cell19_ k qm tm, cell21_ k qm tm, cell20_ k qm sm, cell16_ k qm sm, cell11_ k qm sm, cell10_ k qm sm, cell9_ k qm sm, cell7_ k qm sm] H := hP
            have hD : va_D A [cell22_ qm sm tm, cell5_ k qm sm, (qm 2, .inl (k 0, 26, .inl g547)), cell8_ k qm sm, cell6_ k qm sm, cell15_ k qm sm, cell14_ k qm tm, cell12_ k qm tm, cell18_ k qm tm, cell17_ k qm tm, cell19_ k qm tm, cell21_ k qm tm, cell20_ k qm sm, cell16_ k qm sm, cell11_ k qm sm, cell10_ k qm sm, cell9_ k qm sm, cell7_ k qm sm] := hD
            have s548 := updI eg547 (by decide) (show 0 ≤ 7 from by omega) 0
            have s548l : ((-9) : Int32).toInt = -9 := by decide
            have s549 := updI eg547 (by decide) (show 0 ≤ 7 from by omega) 1
            have s549l : ((-9) : Int32).toInt = -9 := by decide
            have el550 : 0 ≤ (g547 0).toInt ∧ (g547 0).toInt ≤ 5 := by omega
            have el551 : 0 ≤ (g547 1).toInt ∧ (g547 1).toInt ≤ 4 := by omega
            refine lv_aload_n hx hb dX12_without_132 rfl (lv_at hl 4 rfl) ?_
            refine lv_iconst (v := 0) hx hb dX12_without_133 (by decide) ?_
            refine g_vF (w1 := fun (u : (Nat → Int64) × (Nat → Int64) × (Nat → Int32)) => [cell22_ qm sm tm, cell5_ k qm sm, (qm 2, .inl (k 0, 26, .inl g547)), cell8_ k qm sm, cell6_ k qm sm, cell15_ k qm sm, cell14_ k qm tm, cell12_ k qm tm, cell18_ k qm tm, cell17_ k qm tm, cell130_ k qm (u.1), cell122_ k qm (u.2.1), cell123_ k qm (u.2.2), cell16_ k qm sm, cell11_ k qm sm, cell10_ k qm sm, cell9_ k qm sm, cell7_ k qm sm]) (g_runVF (ws := [cell22_ qm sm tm, cell5_ k qm sm, (qm 2, .inl (k 0, 26, .inl g547)), cell8_ k qm sm, cell6_ k qm sm, cell15_ k qm sm, cell14_ k qm tm, cell12_ k qm tm, cell18_ k qm tm, cell17_ k qm tm, cell19_ k qm tm, cell21_ k qm tm, cell20_ k qm sm, cell16_ k qm sm, cell11_ k qm sm, cell10_ k qm sm, cell9_ k qm sm, cell7_ k qm sm]) (rest := []) cx hP hD hS [.int 0] (c_X12_layBest l D k b qm (up2 sm 2 g547) tm H.size 0 (show 0 ≤ (g547 0).toInt ∧ (g547 0).toInt ≤ 5 from by first | decide | omega) (show 0 ≤ (g547 1).toInt ∧ (g547 1).toInt ≤ 4 from by first | decide | omega) (show 0 ≤ (0 : Int32).toInt ∧ (0 : Int32).toInt ≤ 4 from by first | decide | omega)) gX12_without_X12_layBest rfl rfl rfl nd_X12_layBest ⟨Nat.le_of_ble_eq_true rfl, Nat.le_of_ble_eq_true rfl⟩ (ci := 10) (q0 := 0) rfl rfl rfl hl.1 rfl (Nat.le_of_ble_eq_true rfl) ⟨Nat.zero_le _, Nat.zero_le _⟩ dX12_without_134) cx.2.2.1 hD hS (fun u553 H locs hw552 hP hD hS => ?_)
            obtain ⟨m554, m555, m556⟩ := u553
            have hP : va_P D vwCl [cell22_ qm sm tm, cell5_ k qm sm, (qm 2, .inl (k 0, 26, .inl g547)), cell8_ k qm sm, cell6_ k qm sm, cell15_ k qm sm, cell14_ k qm tm, cell12_ k qm tm, cell18_ k qm tm, cell17_ k qm tm, (qm 10, .inl (k 1, 1500, .inr (.inl m554))), (qm 11, .inl (k 1, 1500, .inr (.inl m555))), (qm 12, .inl (k 0, 1500, .inl m556)), cell16_ k qm sm, cell11_ k qm sm, cell10_ k qm sm, cell9_ k qm sm, cell7_ k qm sm] H := hP
            have hD : va_D A [cell22_ qm sm tm, cell5_ k qm sm, (qm 2, .inl (k 0, 26, .inl g547)), cell8_ k qm sm, cell6_ k qm sm, cell15_ k qm sm, cell14_ k qm tm, cell12_ k qm tm, cell18_ k qm tm, cell17_ k qm tm, (qm 10, .inl (k 1, 1500, .inr (.inl m554))), (qm 11, .inl (k 1, 1500, .inr (.inl m555))), (qm 12, .inl (k 0, 1500, .inl m556)), cell16_ k qm sm, cell11_ k qm sm, cell10_ k qm sm, cell9_ k qm sm, cell7_ k qm sm] := hD
            have w557 : (m554, m555, m556) = J_X12_layBest (up2 sm 2 g547) tm (0 : Int32) := hw552
            clear hw552
            refine lv_aload_n hx hb dX12_without_137 rfl (lv_at hl 4 rfl) ?_
            refine g_get cx hP iw_X12_without_X12 0 rfl rfl 1 (by decide) rfl fw_X12_without_13 rfl dX12_without_138 ?_
            refine lv_iconst (v := 4) hx hb dX12_without_141 (by decide) ?_
            refine lv_iload_n hx hb dX12_without_142 rfl (lv_at hl 3 rfl) ?_
            have hn559 : vp_in 4 26 := f_in (a := 4) (by decide) (by omega) (by omega)
            refine va_iast hx hb cx.2.1 hP hD hS 2 0 rfl rfl hn559 dX12_without_143 (fun H locs hP hD hS => ?_)
            obtain ⟨g560, eg560⟩ : ∃ g : Nat → Int32, g = upd g547 ((4 : Int32).toNatClampNeg) v7 := ⟨_, rfl⟩
            rw [← eg560] at hP hD
            have hP : va_P D vwCl [cell22_ qm sm tm, cell5_ k qm sm, (qm 2, .inl (k 0, 26, .inl g560)), cell8_ k qm sm, cell6_ k qm sm, cell15_ k qm sm, cell14_ k qm tm, cell12_ k qm tm, cell18_ k qm tm, cell17_ k qm tm, (qm 10, .inl (k 1, 1500, .inr (.inl m554))), (qm 11, .inl (k 1, 1500, .inr (.inl m555))), (qm 12, .inl (k 0, 1500, .inl m556)), cell16_ k qm sm, cell11_ k qm sm, cell10_ k qm sm, cell9_ k qm sm, cell7_ k qm sm] H := hP
            have hD : va_D A [cell22_ qm sm tm, cell5_ k qm sm, (qm 2, .inl (k 0, 26, .inl g560)), cell8_ k qm sm, cell6_ k qm sm, cell15_ k qm sm, cell14_ k qm tm, cell12_ k qm tm, cell18_ k qm tm, cell17_ k qm tm, (qm 10, .inl (k 1, 1500, .inr (.inl m554))), (qm 11, .inl (k 1, 1500, .inr (.inl m555))), (qm 12, .inl (k 0, 1500, .inl m556)), cell16_ k qm sm, cell11_ k qm sm, cell10_ k qm sm, cell9_ k qm sm, cell7_ k qm sm] := hD
            have s561 := updI eg560 (by decide) (show 0 ≤ 4 from by omega) 0
            have s562 := updI eg560 (by decide) (show 0 ≤ 4 from by omega) 1
            have el563 : 0 ≤ (g560 0).toInt ∧ (g560 0).toInt ≤ 5 := by omega
            have el564 : 0 ≤ (g560 1).toInt ∧ (g560 1).toInt ≤ 4 := by omega
            refine lv_aload_n hx hb dX12_without_144 rfl (lv_at hl 4 rfl) ?_
            refine g_get cx hP iw_X12_without_X12 0 rfl rfl 1 (by decide) rfl fw_X12_without_13 rfl dX12_without_145 ?_
            refine lv_iconst (v := 5) hx hb dX12_without_148 (by decide) ?_
            refine lv_iload hx hb dX12_without_149 (lv_at hl 2 rfl) ?_
            have hn565 : vp_in 5 26 := f_in (a := 5) (by decide) (by omega) (by omega)
            refine va_iast hx hb cx.2.1 hP hD hS 2 0 rfl rfl hn565 dX12_without_151 (fun H locs hP hD hS => ?_)
            obtain ⟨g566, eg566⟩ : ∃ g : Nat → Int32, g = upd g560 ((5 : Int32).toNatClampNeg) v9 := ⟨_, rfl⟩
            rw [← eg566] at hP hD
            have hP : va_P D vwCl [cell22_ qm sm tm, cell5_ k qm sm, (qm 2, .inl (k 0, 26, .inl g566)), cell8_ k qm sm, cell6_ k qm sm, cell15_ k qm sm, cell14_ k qm tm, cell12_ k qm tm, cell18_ k qm tm, cell17_ k qm tm, (qm 10, .inl (k 1, 1500, .inr (.inl m554))), (qm 11, .inl (k 1, 1500, .inr (.inl m555))), (qm 12, .inl (k 0, 1500, .inl m556)), cell16_ k qm sm, cell11_ k qm sm, cell10_ k qm sm, cell9_ k qm sm, cell7_ k qm sm] H := hP
            have hD : va_D A [cell22_ qm sm tm, cell5_ k qm sm, (qm 2, .inl (k 0, 26, .inl g566)), cell8_ k qm sm, cell6_ k qm sm, cell15_ k qm sm, cell14_ k qm tm, cell12_ k qm tm, cell18_ k qm tm, cell17_ k qm tm, (qm 10, .inl (k 1, 1500, .inr (.inl m554))), (qm 11, .inl (k 1, 1500, .inr (.inl m555))), (qm 12, .inl (k 0, 1500, .inl m556)), cell16_ k qm sm, cell11_ k qm sm, cell10_ k qm sm, cell9_ k qm sm, cell7_ k qm sm] := hD
            have s567 := updI eg566 (by decide) (show 0 ≤ 5 from by omega) 0
            have s568 := updI eg566 (by decide) (show 0 ≤ 5 from by omega) 1
            have el569 : 0 ≤ (g566 0).toInt ∧ (g566 0).toInt ≤ 5 := by omega
            have el570 : 0 ≤ (g566 1).toInt ∧ (g566 1).toInt ≤ 4 := by omega
            refine lv_aload_n hx hb dX12_without_152 rfl (lv_at hl 4 rfl) ?_
            refine g_get cx hP iw_X12_without_X12 0 rfl rfl 1 (by decide) rfl fw_X12_without_13 rfl dX12_without_153 ?_
            refine lv_bipush (v := 6) hx hb dX12_without_156 (by decide) ?_
            refine lv_iload hx hb dX12_without_158 (lv_at hl 1 rfl) ?_
            have hn571 : vp_in 6 26 := f_in (a := 6) (by decide) (by omega) (by omega)
            refine va_iast hx hb cx.2.1 hP hD hS 2 0 rfl rfl hn571 dX12_without_160 (fun H locs hP hD hS => ?_)
            obtain ⟨g572, eg572⟩ : ∃ g : Nat → Int32, g = upd g566 ((6 : Int32).toNatClampNeg) v11 := ⟨_, rfl⟩
            rw [← eg572] at hP hD
            have hP : va_P D vwCl [cell22_ qm sm tm, cell5_ k qm sm, (qm 2, .inl (k 0, 26, .inl g572)), cell8_ k qm sm, cell6_ k qm sm, cell15_ k qm sm, cell14_ k qm tm, cell12_ k qm tm, cell18_ k qm tm, cell17_ k qm tm, (qm 10, .inl (k 1, 1500, .inr (.inl m554))), (qm 11, .inl (k 1, 1500, .inr (.inl m555))), (qm 12, .inl (k 0, 1500, .inl m556)), cell16_ k qm sm, cell11_ k qm sm, cell10_ k qm sm, cell9_ k qm sm, cell7_ k qm sm] H := hP
            have hD : va_D A [cell22_ qm sm tm, cell5_ k qm sm, (qm 2, .inl (k 0, 26, .inl g572)), cell8_ k qm sm, cell6_ k qm sm, cell15_ k qm sm, cell14_ k qm tm, cell12_ k qm tm, cell18_ k qm tm, cell17_ k qm tm, (qm 10, .inl (k 1, 1500, .inr (.inl m554))), (qm 11, .inl (k 1, 1500, .inr (.inl m555))), (qm 12, .inl (k 0, 1500, .inl m556)), cell16_ k qm sm, cell11_ k qm sm, cell10_ k qm sm, cell9_ k qm sm, cell7_ k qm sm] := hD
            have s573 := updI eg572 (by decide) (show 0 ≤ 6 from by omega) 0
            have s574 := updI eg572 (by decide) (show 0 ≤ 6 from by omega) 1
            have el575 : 0 ≤ (g572 0).toInt ∧ (g572 0).toInt ≤ 5 := by omega
            have el576 : 0 ≤ (g572 1).toInt ∧ (g572 1).toInt ≤ 4 := by omega
            refine lv_aload_n hx hb dX12_without_161 rfl (lv_at hl 4 rfl) ?_
            refine g_get cx hP iw_X12_without_X12 0 rfl rfl 1 (by decide) rfl fw_X12_without_13 rfl dX12_without_162 ?_
            refine lv_bipush (v := 7) hx hb dX12_without_165 (by decide) ?_
            refine lv_iload hx hb dX12_without_167 (lv_at hl 0 rfl) ?_
            have hn577 : vp_in 7 26 := f_in (a := 7) (by decide) (by omega) (by omega)
            refine va_iast hx hb cx.2.1 hP hD hS 2 0 rfl rfl hn577 dX12_without_169 (fun H locs hP hD hS => ?_)
            obtain ⟨g578, eg578⟩ : ∃ g : Nat → Int32, g = upd g572 ((7 : Int32).toNatClampNeg) v13 := ⟨_, rfl⟩
            rw [← eg578] at hP hD
            have hP : va_P D vwCl [cell22_ qm sm tm, cell5_ k qm sm, (qm 2, .inl (k 0, 26, .inl g578)), cell8_ k qm sm, cell6_ k qm sm, cell15_ k qm sm, cell14_ k qm tm, cell12_ k qm tm, cell18_ k qm tm, cell17_ k qm tm, (qm 10, .inl (k 1, 1500, .inr (.inl m554))), (qm 11, .inl (k 1, 1500, .inr (.inl m555))), (qm 12, .inl (k 0, 1500, .inl m556)), cell16_ k qm sm, cell11_ k qm sm, cell10_ k qm sm, cell9_ k qm sm, cell7_ k qm sm] H := hP
            have hD : va_D A [cell22_ qm sm tm, cell5_ k qm sm, (qm 2, .inl (k 0, 26, .inl g578)), cell8_ k qm sm, cell6_ k qm sm, cell15_ k qm sm, cell14_ k qm tm, cell12_ k qm tm, cell18_ k qm tm, cell17_ k qm tm, (qm 10, .inl (k 1, 1500, .inr (.inl m554))), (qm 11, .inl (k 1, 1500, .inr (.inl m555))), (qm 12, .inl (k 0, 1500, .inl m556)), cell16_ k qm sm, cell11_ k qm sm, cell10_ k qm sm, cell9_ k qm sm, cell7_ k qm sm] := hD
            have s579 := updI eg578 (by decide) (show 0 ≤ 7 from by omega) 0
            have s580 := updI eg578 (by decide) (show 0 ≤ 7 from by omega) 1
            have el581 : 0 ≤ (g578 0).toInt ∧ (g578 0).toInt ≤ 5 := by omega
            have el582 : 0 ≤ (g578 1).toInt ∧ (g578 1).toInt ≤ 4 := by omega
            refine lv_aload_n hx hb dX12_without_170 rfl (lv_at hl 4 rfl) ?_
            refine g_get cx hP iw_X12_without_X12 0 rfl rfl 18 (by decide) rfl fw_X12_without_38 rfl dX12_without_171 ?_
            refine lv_iconst (v := 0) hx hb dX12_without_174 (by decide) ?_
            have hn583 : vp_in 0 1500 := f_in (a := 0) (by decide) (by omega) (by omega)
            refine va_lald hx hb cx.2.1 hP 10 1 rfl rfl hn583 dX12_without_175 (lv_topl (fun v584 e584 => ?_))
            refine lv_aload_n hx hb dX12_without_176 rfl (lv_at hl 4 rfl) ?_
            refine g_get cx hP iw_X12_without_X12 0 rfl rfl 1 (by decide) rfl fw_X12_without_13 rfl dX12_without_177 ?_
            refine lv_iconst (v := 0) hx hb dX12_without_180 (by decide) ?_
            have hn585 : vp_in 0 26 := f_in (a := 0) (by decide) (by omega) (by omega)
            refine va_iald hx hb cx.2.1 hP 2 0 rfl rfl hn585 dX12_without_181 (lv_topi (fun v586 e586 => ?_))
            have uv586 : v586.toInt = (g578 0).toInt := congrArg Int32.toInt e586
            have t586 : 0 ≤ v586.toInt ∧ v586.toInt ≤ 5 := by rw [e586]; exact el581
            refine g_lr (g_runS (wc := []) (rest := [.long v584]) cx hP hD hS [] rfl (by decide) [.int v586] (c_X12_parts l D k b H.size v586) gX12_without_X12_parts rfl rfl rfl nd_X12_parts ⟨Nat.le_of_ble_eq_true rfl, Nat.le_of_ble_eq_true rfl⟩ rfl hl.1 rfl (Nat.le_of_ble_eq_true rfl) ⟨Nat.zero_le _, Nat.zero_le _⟩ dX12_without_182) cx.2.2.1 hP hD hS [] rfl rfl (fun r588 H locs hw587 hP hS => ?_)
            replace hw587 : (r588.toInt % 2 = 1) ∧ (r588 = J_X12_parts v586) := hw587
            obtain ⟨w589, w590⟩ := hw587
            refine lv_iload_n hx hb dX12_without_185 rfl (lv_at hl 6 rfl) ?_
            refine g_lr (g_runS (wc := []) (rest := []) cx hP hD hS [] rfl (by decide) [.long v584, .long r588, .int p1] (c_X12_told l D k b H.size v584 r588 p1 (show ¬ r588.toInt = 0 from by first | decide | omega)) gX12_without_X12_told rfl rfl rfl nd_X12_told ⟨Nat.le_of_ble_eq_true rfl, Nat.le_of_ble_eq_true rfl⟩ rfl hl.1 rfl (Nat.le_of_ble_eq_true rfl) ⟨Nat.zero_le _, Nat.zero_le _⟩ dX12_without_186) cx.2.2.1 hP hD hS [] rfl rfl (fun r593 H locs hw592 hP hS => ?_)
            have w594 : r593 = J_X12_told v584 r588 p1 := hw592
            clear hw592
            rw [hQ]
            exact x_l cx hr (m554, m555, m556, g578) hP hD hS ⟨(show 0 ≤ (g578 0).toInt ∧ (g578 0).toInt ≤ 5 from by omega), (show 0 ≤ (g578 1).toInt ∧ (g578 1).toInt ≤ 4 from by omega), (show g578 = (sm 2) from rest8 eg473 eg481 eg489 eg547 eg560 eg566 eg572 eg578 e7 e9 e11 e13), (show (r593, m554, m555, m556, g578) = J_X12_without sm tm p0 p1 from (exl_X12_without_9 e1 w4 e7 e9 e11 e13 e14 eg473 e478 eg481 e486 eg489 e494 eg547 eg560 eg566 eg572 eg578 e584 e586 c5 c15 c479 c487 c495 w557 w590 w594))⟩ dX12_without_189
        · have f487 : v486.toInt = 4 := f_eq rfl (by decide) c487
          refine lv_bipush (v := (-9)) hx hb dX12_without_101 (by decide) ?_
          refine lv_goto (tgt := 108) hx hb dX12_without_103 (by decide) ?_
          have hn596 : vp_in 6 26 := f_in (a := 6) (by decide) (by omega) (by omega)
          refine va_iast hx hb cx.2.1 hP hD hS 2 0 rfl rfl hn596 dX12_without_108 (fun H locs hP hD hS => ?_)
          obtain ⟨g597, eg597⟩ : ∃ g : Nat → Int32, g = upd g481 ((6 : Int32).toNatClampNeg) (-9) := ⟨_, rfl⟩
          rw [← eg597] at hP hD
          have hP : va_P D vwCl [cell22_ qm sm tm, cell5_ k qm sm, (qm 2, .inl (k 0, 26, .inl g597)), cell8_ k qm sm, cell6_ k qm sm, cell15_ k qm sm, cell14_ k qm tm, cell12_ k qm tm, cell18_ k qm tm, cell17_ k qm tm, cell19_ k qm tm, cell21_ k qm tm, cell20_ k qm sm, cell16_ k qm sm, cell11_ k qm sm, cell10_ k qm sm, cell9_ k qm sm, cell7_ k qm sm] H := hP
          have hD : va_D A [cell22_ qm sm tm, cell5_ k qm sm, (qm 2, .inl (k 0, 26, .inl g597)), cell8_ k qm sm, cell6_ k qm sm, cell15_ k qm sm, cell14_ k qm tm, cell12_ k qm tm, cell18_ k qm tm, cell17_ k qm tm, cell19_ k qm tm, cell21_ k qm tm, cell20_ k qm sm, cell16_ k qm sm, cell11_ k qm sm, cell10_ k qm sm, cell9_ k qm sm, cell7_ k qm sm] := hD
          have s598 := updI eg597 (by decide) (show 0 ≤ 6 from by omega) 0
          have s598l : ((-9) : Int32).toInt = -9 := by decide
          have s599 := updI eg597 (by decide) (show 0 ≤ 6 from by omega) 1
          have s599l : ((-9) : Int32).toInt = -9 := by decide
          have el600 : 0 ≤ (g597 0).toInt ∧ (g597 0).toInt ≤ 5 := by omega
          have el601 : 0 ≤ (g597 1).toInt ∧ (g597 1).toInt ≤ 4 := by omega
          refine lv_aload_n hx hb dX12_without_109 rfl (lv_at hl 4 rfl) ?_
          refine g_get cx hP iw_X12_without_X12 0 rfl rfl 1 (by decide) rfl fw_X12_without_13 rfl dX12_without_110 ?_
          refine lv_bipush (v := 7) hx hb dX12_without_113 (by decide) ?_
          refine lv_iload_n hx hb dX12_without_115 rfl (lv_at hl 5 rfl) ?_
          refine lv_bipush (v := 8) hx hb dX12_without_116 (by decide) ?_
          refine lv_iand hx hb dX12_without_118 (lv_topi (fun v602 e602 => ?_))
          have t602 : 0 ≤ v602.toInt ∧ v602.toInt ≤ p0.toInt := by rw [e602]; exact and_l rfl (by omega)
          refine lv_bipush (v := 8) hx hb dX12_without_119 (by decide) ?_
          refine lv_icmp_ne (tgt := 129) hx hb dX12_without_121 (by decide) (fun c603 => ?_) (fun c603 => ?_)
          · have f603 : ¬ v602.toInt = 8 := f_ne rfl (by decide) c603
            refine lv_iload hx hb dX12_without_129 (lv_at hl 0 rfl) ?_
            have hn604 : vp_in 7 26 := f_in (a := 7) (by decide) (by omega) (by omega)
            refine va_iast hx hb cx.2.1 hP hD hS 2 0 rfl rfl hn604 dX12_without_131 (fun H locs hP hD hS => ?_)
            obtain ⟨g605, eg605⟩ : ∃ g : Nat → Int32, g = upd g597 ((7 : Int32).toNatClampNeg) v13 := ⟨_, rfl⟩
            rw [← eg605] at hP hD
            have hP : va_P D vwCl [cell22_ qm sm tm, cell5_ k qm sm, (qm 2, .inl (k 0, 26, .inl g605)), cell8_ k qm sm, cell6_ k qm sm, cell15_ k qm sm, cell14_ k qm tm, cell12_ k qm tm, cell18_ k qm tm, cell17_ k qm tm, cell19_ k qm tm, cell21_ k qm tm, cell20_ k qm sm, cell16_ k qm sm, cell11_ k qm sm, cell10_ k qm sm, cell9_ k qm sm, cell7_ k qm sm] H := hP
            have hD : va_D A [cell22_ qm sm tm, cell5_ k qm sm, (qm 2, .inl (k 0, 26, .inl g605)), cell8_ k qm sm, cell6_ k qm sm, cell15_ k qm sm, cell14_ k qm tm, cell12_ k qm tm, cell18_ k qm tm, cell17_ k qm tm, cell19_ k qm tm, cell21_ k qm tm, cell20_ k qm sm, cell16_ k qm sm, cell11_ k qm sm, cell10_ k qm sm, cell9_ k qm sm, cell7_ k qm sm] := hD
            have s606 := updI eg605 (by decide) (show 0 ≤ 7 from by omega) 0
            have s607 := updI eg605 (by decide) (show 0 ≤ 7 from by omega) 1
            have el608 : 0 ≤ (g605 0).toInt ∧ (g605 0).toInt ≤ 5 := by omega
            have el609 : 0 ≤ (g605 1).toInt ∧ (g605 1).toInt ≤ 4 := by omega
            refine lv_aload_n hx hb dX12_without_132 rfl (lv_at hl 4 rfl) ?_
            refine lv_iconst (v := 0) hx hb dX12_without_133 (by decide) ?_
            refine g_vF (w1 := fun (u : (Nat → Int64) × (Nat → Int64) × (Nat → Int32)) => [cell22_ qm sm tm, cell5_ k qm sm, (qm 2, .inl (k 0, 26, .inl g605)), cell8_ k qm sm, cell6_ k qm sm, cell15_ k qm sm, cell14_ k qm tm, cell12_ k qm tm, cell18_ k qm tm, cell17_ k qm tm, cell130_ k qm (u.1), cell122_ k qm (u.2.1), cell123_ k qm (u.2.2), cell16_ k qm sm, cell11_ k qm sm, cell10_ k qm sm, cell9_ k qm sm, cell7_ k qm sm]) (g_runVF (ws := [cell22_ qm sm tm, cell5_ k qm sm, (qm 2, .inl (k 0, 26, .inl g605)), cell8_ k qm sm, cell6_ k qm sm, cell15_ k qm sm, cell14_ k qm tm, cell12_ k qm tm, cell18_ k qm tm, cell17_ k qm tm, cell19_ k qm tm, cell21_ k qm tm, cell20_ k qm sm, cell16_ k qm sm, cell11_ k qm sm, cell10_ k qm sm, cell9_ k qm sm, cell7_ k qm sm]) (rest := []) cx hP hD hS [.int 0] (c_X12_layBest l D k b qm (up2 sm 2 g605) tm H.size 0 (show 0 ≤ (g605 0).toInt ∧ (g605 0).toInt ≤ 5 from by first | decide | omega) (show 0 ≤ (g605 1).toInt ∧ (g605 1).toInt ≤ 4 from by first | decide | omega) (show 0 ≤ (0 : Int32).toInt ∧ (0 : Int32).toInt ≤ 4 from by first | decide | omega)) gX12_without_X12_layBest rfl rfl rfl nd_X12_layBest ⟨Nat.le_of_ble_eq_true rfl, Nat.le_of_ble_eq_true rfl⟩ (ci := 10) (q0 := 0) rfl rfl rfl hl.1 rfl (Nat.le_of_ble_eq_true rfl) ⟨Nat.zero_le _, Nat.zero_le _⟩ dX12_without_134) cx.2.2.1 hD hS (fun u611 H locs hw610 hP hD hS => ?_)
            obtain ⟨m612, m613, m614⟩ := u611
            have hP : va_P D vwCl [cell22_ qm sm tm, cell5_ k qm sm, (qm 2, .inl (k 0, 26, .inl g605)), cell8_ k qm sm, cell6_ k qm sm, cell15_ k qm sm, cell14_ k qm tm, cell12_ k qm tm, cell18_ k qm tm, cell17_ k qm tm, (qm 10, .inl (k 1, 1500, .inr (.inl m612))), (qm 11, .inl (k 1, 1500, .inr (.inl m613))), (qm 12, .inl (k 0, 1500, .inl m614)), cell16_ k qm sm, cell11_ k qm sm, cell10_ k qm sm, cell9_ k qm sm, cell7_ k qm sm] H := hP
            have hD : va_D A [cell22_ qm sm tm, cell5_ k qm sm, (qm 2, .inl (k 0, 26, .inl g605)), cell8_ k qm sm, cell6_ k qm sm, cell15_ k qm sm, cell14_ k qm tm, cell12_ k qm tm, cell18_ k qm tm, cell17_ k qm tm, (qm 10, .inl (k 1, 1500, .inr (.inl m612))), (qm 11, .inl (k 1, 1500, .inr (.inl m613))), (qm 12, .inl (k 0, 1500, .inl m614)), cell16_ k qm sm, cell11_ k qm sm, cell10_ k qm sm, cell9_ k qm sm, cell7_ k qm sm] := hD
            have w615 : (m612, m613, m614) = J_X12_layBest (up2 sm 2 g605) tm (0 : Int32) := hw610
            clear hw610
            refine lv_aload_n hx hb dX12_without_137 rfl (lv_at hl 4 rfl) ?_
            refine g_get cx hP iw_X12_without_X12 0 rfl rfl 1 (by decide) rfl fw_X12_without_13 rfl dX12_without_138 ?_
            refine lv_iconst (v := 4) hx hb dX12_without_141 (by decide) ?_
            refine lv_iload_n hx hb dX12_without_142 rfl (lv_at hl 3 rfl) ?_
            have hn617 : vp_in 4 26 := f_in (a := 4) (by decide) (by omega) (by omega)
            refine va_iast hx hb cx.2.1 hP hD hS 2 0 rfl rfl hn617 dX12_without_143 (fun H locs hP hD hS => ?_)
            obtain ⟨g618, eg618⟩ : ∃ g : Nat → Int32, g = upd g605 ((4 : Int32).toNatClampNeg) v7 := ⟨_, rfl⟩
            rw [← eg618] at hP hD
            have hP : va_P D vwCl [cell22_ qm sm tm, cell5_ k qm sm, (qm 2, .inl (k 0, 26, .inl g618)), cell8_ k qm sm, cell6_ k qm sm, cell15_ k qm sm, cell14_ k qm tm, cell12_ k qm tm, cell18_ k qm tm, cell17_ k qm tm, (qm 10, .inl (k 1, 1500, .inr (.inl m612))), (qm 11, .inl (k 1, 1500, .inr (.inl m613))), (qm 12, .inl (k 0, 1500, .inl m614)), cell16_ k qm sm, cell11_ k qm sm, cell10_ k qm sm, cell9_ k qm sm, cell7_ k qm sm] H := hP
            have hD : va_D A [cell22_ qm sm tm, cell5_ k qm sm, (qm 2, .inl (k 0, 26, .inl g618)), cell8_ k qm sm, cell6_ k qm sm, cell15_ k qm sm, cell14_ k qm tm, cell12_ k qm tm, cell18_ k qm tm, cell17_ k qm tm, (qm 10, .inl (k 1, 1500, .inr (.inl m612))), (qm 11, .inl (k 1, 1500, .inr (.inl m613))), (qm 12, .inl (k 0, 1500, .inl m614)), cell16_ k qm sm, cell11_ k qm sm, cell10_ k qm sm, cell9_ k qm sm, cell7_ k qm sm] := hD
            have s619 := updI eg618 (by decide) (show 0 ≤ 4 from by omega) 0
            have s620 := updI eg618 (by decide) (show 0 ≤ 4 from by omega) 1
            have el621 : 0 ≤ (g618 0).toInt ∧ (g618 0).toInt ≤ 5 := by omega
            have el622 : 0 ≤ (g618 1).toInt ∧ (g618 1).toInt ≤ 4 := by omega
            refine lv_aload_n hx hb dX12_without_144 rfl (lv_at hl 4 rfl) ?_
            refine g_get cx hP iw_X12_without_X12 0 rfl rfl 1 (by decide) rfl fw_X12_without_13 rfl dX12_without_145 ?_
            refine lv_iconst (v := 5) hx hb dX12_without_148 (by decide) ?_
            refine lv_iload hx hb dX12_without_149 (lv_at hl 2 rfl) ?_
            have hn623 : vp_in 5 26 := f_in (a := 5) (by decide) (by omega) (by omega)
            refine va_iast hx hb cx.2.1 hP hD hS 2 0 rfl rfl hn623 dX12_without_151 (fun H locs hP hD hS => ?_)
            obtain ⟨g624, eg624⟩ : ∃ g : Nat → Int32, g = upd g618 ((5 : Int32).toNatClampNeg) v9 := ⟨_, rfl⟩
            rw [← eg624] at hP hD
            have hP : va_P D vwCl [cell22_ qm sm tm, cell5_ k qm sm, (qm 2, .inl (k 0, 26, .inl g624)), cell8_ k qm sm, cell6_ k qm sm, cell15_ k qm sm, cell14_ k qm tm, cell12_ k qm tm, cell18_ k qm tm, cell17_ k qm tm, (qm 10, .inl (k 1, 1500, .inr (.inl m612))), (qm 11, .inl (k 1, 1500, .inr (.inl m613))), (qm 12, .inl (k 0, 1500, .inl m614)), cell16_ k qm sm, cell11_ k qm sm, cell10_ k qm sm, cell9_ k qm sm, cell7_ k qm sm] H := hP
            have hD : va_D A [cell22_ qm sm tm, cell5_ k qm sm, (qm 2, .inl (k 0, 26, .inl g624)), cell8_ k qm sm, cell6_ k qm sm, cell15_ k qm sm, cell14_ k qm tm, cell12_ k qm tm, cell18_ k qm tm, cell17_ k qm tm, (qm 10, .inl (k 1, 1500, .inr (.inl m612))), (qm 11, .inl (k 1, 1500, .inr (.inl m613))), (qm 12, .inl (k 0, 1500, .inl m614)), cell16_ k qm sm, cell11_ k qm sm, cell10_ k qm sm, cell9_ k qm sm, cell7_ k qm sm] := hD
            have s625 := updI eg624 (by decide) (show 0 ≤ 5 from by omega) 0
            have s626 := updI eg624 (by decide) (show 0 ≤ 5 from by omega) 1
            have el627 : 0 ≤ (g624 0).toInt ∧ (g624 0).toInt ≤ 5 := by omega
            have el628 : 0 ≤ (g624 1).toInt ∧ (g624 1).toInt ≤ 4 := by omega
            refine lv_aload_n hx hb dX12_without_152 rfl (lv_at hl 4 rfl) ?_
            refine g_get cx hP iw_X12_without_X12 0 rfl rfl 1 (by decide) rfl fw_X12_without_13 rfl dX12_without_153 ?_
            refine lv_bipush (v := 6) hx hb dX12_without_156 (by decide) ?_
            refine lv_iload hx hb dX12_without_158 (lv_at hl 1 rfl) ?_
            have hn629 : vp_in 6 26 := f_in (a := 6) (by decide) (by omega) (by omega)
            refine va_iast hx hb cx.2.1 hP hD hS 2 0 rfl rfl hn629 dX12_without_160 (fun H locs hP hD hS => ?_)
            obtain ⟨g630, eg630⟩ : ∃ g : Nat → Int32, g = upd g624 ((6 : Int32).toNatClampNeg) v11 := ⟨_, rfl⟩
            rw [← eg630] at hP hD
            have hP : va_P D vwCl [cell22_ qm sm tm, cell5_ k qm sm, (qm 2, .inl (k 0, 26, .inl g630)), cell8_ k qm sm, cell6_ k qm sm, cell15_ k qm sm, cell14_ k qm tm, cell12_ k qm tm, cell18_ k qm tm, cell17_ k qm tm, (qm 10, .inl (k 1, 1500, .inr (.inl m612))), (qm 11, .inl (k 1, 1500, .inr (.inl m613))), (qm 12, .inl (k 0, 1500, .inl m614)), cell16_ k qm sm, cell11_ k qm sm, cell10_ k qm sm, cell9_ k qm sm, cell7_ k qm sm] H := hP
            have hD : va_D A [cell22_ qm sm tm, cell5_ k qm sm, (qm 2, .inl (k 0, 26, .inl g630)), cell8_ k qm sm, cell6_ k qm sm, cell15_ k qm sm, cell14_ k qm tm, cell12_ k qm tm, cell18_ k qm tm, cell17_ k qm tm, (qm 10, .inl (k 1, 1500, .inr (.inl m612))), (qm 11, .inl (k 1, 1500, .inr (.inl m613))), (qm 12, .inl (k 0, 1500, .inl m614)), cell16_ k qm sm, cell11_ k qm sm, cell10_ k qm sm, cell9_ k qm sm, cell7_ k qm sm] := hD
            have s631 := updI eg630 (by decide) (show 0 ≤ 6 from by omega) 0
            have s632 := updI eg630 (by decide) (show 0 ≤ 6 from by omega) 1
            have el633 : 0 ≤ (g630 0).toInt ∧ (g630 0).toInt ≤ 5 := by omega
            have el634 : 0 ≤ (g630 1).toInt ∧ (g630 1).toInt ≤ 4 := by omega
            refine lv_aload_n hx hb dX12_without_161 rfl (lv_at hl 4 rfl) ?_
            refine g_get cx hP iw_X12_without_X12 0 rfl rfl 1 (by decide) rfl fw_X12_without_13 rfl dX12_without_162 ?_
            refine lv_bipush (v := 7) hx hb dX12_without_165 (by decide) ?_
            refine lv_iload hx hb dX12_without_167 (lv_at hl 0 rfl) ?_
            have hn635 : vp_in 7 26 := f_in (a := 7) (by decide) (by omega) (by omega)
            refine va_iast hx hb cx.2.1 hP hD hS 2 0 rfl rfl hn635 dX12_without_169 (fun H locs hP hD hS => ?_)
            obtain ⟨g636, eg636⟩ : ∃ g : Nat → Int32, g = upd g630 ((7 : Int32).toNatClampNeg) v13 := ⟨_, rfl⟩
            rw [← eg636] at hP hD
            have hP : va_P D vwCl [cell22_ qm sm tm, cell5_ k qm sm, (qm 2, .inl (k 0, 26, .inl g636)), cell8_ k qm sm, cell6_ k qm sm, cell15_ k qm sm, cell14_ k qm tm, cell12_ k qm tm, cell18_ k qm tm, cell17_ k qm tm, (qm 10, .inl (k 1, 1500, .inr (.inl m612))), (qm 11, .inl (k 1, 1500, .inr (.inl m613))), (qm 12, .inl (k 0, 1500, .inl m614)), cell16_ k qm sm, cell11_ k qm sm, cell10_ k qm sm, cell9_ k qm sm, cell7_ k qm sm] H := hP
            have hD : va_D A [cell22_ qm sm tm, cell5_ k qm sm, (qm 2, .inl (k 0, 26, .inl g636)), cell8_ k qm sm, cell6_ k qm sm, cell15_ k qm sm, cell14_ k qm tm, cell12_ k qm tm, cell18_ k qm tm, cell17_ k qm tm, (qm 10, .inl (k 1, 1500, .inr (.inl m612))), (qm 11, .inl (k 1, 1500, .inr (.inl m613))), (qm 12, .inl (k 0, 1500, .inl m614)), cell16_ k qm sm, cell11_ k qm sm, cell10_ k qm sm, cell9_ k qm sm, cell7_ k qm sm] := hD
            have s637 := updI eg636 (by decide) (show 0 ≤ 7 from by omega) 0
            have s638 := updI eg636 (by decide) (show 0 ≤ 7 from by omega) 1
            have el639 : 0 ≤ (g636 0).toInt ∧ (g636 0).toInt ≤ 5 := by omega
            have el640 : 0 ≤ (g636 1).toInt ∧ (g636 1).toInt ≤ 4 := by omega
            refine lv_aload_n hx hb dX12_without_170 rfl (lv_at hl 4 rfl) ?_
            refine g_get cx hP iw_X12_without_X12 0 rfl rfl 18 (by decide) rfl fw_X12_without_38 rfl dX12_without_171 ?_
            refine lv_iconst (v := 0) hx hb dX12_without_174 (by decide) ?_
            have hn641 : vp_in 0 1500 := f_in (a := 0) (by decide) (by omega) (by omega)
            refine va_lald hx hb cx.2.1 hP 10 1 rfl rfl hn641 dX12_without_175 (lv_topl (fun v642 e642 => ?_))
            refine lv_aload_n hx hb dX12_without_176 rfl (lv_at hl 4 rfl) ?_
            refine g_get cx hP iw_X12_without_X12 0 rfl rfl 1 (by decide) rfl fw_X12_without_13 rfl dX12_without_177 ?_
            refine lv_iconst (v := 0) hx hb dX12_without_180 (by decide) ?_
            have hn643 : vp_in 0 26 := f_in (a := 0) (by decide) (by omega) (by omega)
            refine va_iald hx hb cx.2.1 hP 2 0 rfl rfl hn643 dX12_without_181 (lv_topi (fun v644 e644 => ?_))
            have uv644 : v644.toInt = (g636 0).toInt := congrArg Int32.toInt e644
            have t644 : 0 ≤ v644.toInt ∧ v644.toInt ≤ 5 := by rw [e644]; exact el639
            refine g_lr (g_runS (wc := []) (rest := [.long v642]) cx hP hD hS [] rfl (by decide) [.int v644] (c_X12_parts l D k b H.size v644) gX12_without_X12_parts rfl rfl rfl nd_X12_parts ⟨Nat.le_of_ble_eq_true rfl, Nat.le_of_ble_eq_true rfl⟩ rfl hl.1 rfl (Nat.le_of_ble_eq_true rfl) ⟨Nat.zero_le _, Nat.zero_le _⟩ dX12_without_182) cx.2.2.1 hP hD hS [] rfl rfl (fun r646 H locs hw645 hP hS => ?_)
            replace hw645 : (r646.toInt % 2 = 1) ∧ (r646 = J_X12_parts v644) := hw645
            obtain ⟨w647, w648⟩ := hw645
            refine lv_iload_n hx hb dX12_without_185 rfl (lv_at hl 6 rfl) ?_
            refine g_lr (g_runS (wc := []) (rest := []) cx hP hD hS [] rfl (by decide) [.long v642, .long r646, .int p1] (c_X12_told l D k b H.size v642 r646 p1 (show ¬ r646.toInt = 0 from by first | decide | omega)) gX12_without_X12_told rfl rfl rfl nd_X12_told ⟨Nat.le_of_ble_eq_true rfl, Nat.le_of_ble_eq_true rfl⟩ rfl hl.1 rfl (Nat.le_of_ble_eq_true rfl) ⟨Nat.zero_le _, Nat.zero_le _⟩ dX12_without_186) cx.2.2.1 hP hD hS [] rfl rfl (fun r651 H locs hw650 hP hS => ?_)
            have w652 : r651 = J_X12_told v642 r646 p1 := hw650
            clear hw650
            rw [hQ]
            exact x_l cx hr (m612, m613, m614, g636) hP hD hS ⟨(show 0 ≤ (g636 0).toInt ∧ (g636 0).toInt ≤ 5 from by omega), (show 0 ≤ (g636 1).toInt ∧ (g636 1).toInt ≤ 4 from by omega), (show g636 = (sm 2) from rest8 eg473 eg481 eg597 eg605 eg618 eg624 eg630 eg636 e7 e9 e11 e13), (show (r651, m612, m613, m614, g636) = J_X12_without sm tm p0 p1 from (exl_X12_without_10 e1 w4 e7 e9 e11 e13 e14 eg473 e478 eg481 e486 eg597 e602 eg605 eg618 eg624 eg630 eg636 e642 e644 c5 c15 c479 c487 c603 w615 w648 w652))⟩ dX12_without_189
          · have f603 : v602.toInt = 8 := f_eq rfl (by decide) c603
            refine lv_bipush (v := (-9)) hx hb dX12_without_124 (by decide) ?_
            refine lv_goto (tgt := 131) hx hb dX12_without_126 (by decide) ?_
            have hn654 : vp_in 7 26 := f_in (a := 7) (by decide) (by omega) (by omega)
            refine va_iast hx hb cx.2.1 hP hD hS 2 0 rfl rfl hn654 dX12_without_131 (fun H locs hP hD hS => ?_)
            obtain ⟨g655, eg655⟩ : ∃ g : Nat → Int32, g = upd g597 ((7 : Int32).toNatClampNeg) (-9) := ⟨_, rfl⟩
            rw [← eg655] at hP hD
            have hP : va_P D vwCl [cell22_ qm sm tm, cell5_ k qm sm, (qm 2, .inl (k 0, 26, .inl g655)), cell8_ k qm sm, cell6_ k qm sm, cell15_ k qm sm, cell14_ k qm tm, cell12_ k qm tm, cell18_ k qm tm, cell17_ k qm tm, cell19_ k qm tm, cell21_ k qm tm, cell20_ k qm sm, cell16_ k qm sm, cell11_ k qm sm, cell10_ k qm sm, cell9_ k qm sm, cell7_ k qm sm] H := hP
            have hD : va_D A [cell22_ qm sm tm, cell5_ k qm sm, (qm 2, .inl (k 0, 26, .inl g655)), cell8_ k qm sm, cell6_ k qm sm, cell15_ k qm sm, cell14_ k qm tm, cell12_ k qm tm, cell18_ k qm tm, cell17_ k qm tm, cell19_ k qm tm, cell21_ k qm tm, cell20_ k qm sm, cell16_ k qm sm, cell11_ k qm sm, cell10_ k qm sm, cell9_ k qm sm, cell7_ k qm sm] := hD
            have s656 := updI eg655 (by decide) (show 0 ≤ 7 from by omega) 0
            have s656l : ((-9) : Int32).toInt = -9 := by decide
            have s657 := updI eg655 (by decide) (show 0 ≤ 7 from by omega) 1
            have s657l : ((-9) : Int32).toInt = -9 := by decide
            have el658 : 0 ≤ (g655 0).toInt ∧ (g655 0).toInt ≤ 5 := by omega
            have el659 : 0 ≤ (g655 1).toInt ∧ (g655 1).toInt ≤ 4 := by omega
            refine lv_aload_n hx hb dX12_without_132 rfl (lv_at hl 4 rfl) ?_
            refine lv_iconst (v := 0) hx hb dX12_without_133 (by decide) ?_
            refine g_vF (w1 := fun (u : (Nat → Int64) × (Nat → Int64) × (Nat → Int32)) => [cell22_ qm sm tm, cell5_ k qm sm, (qm 2, .inl (k 0, 26, .inl g655)), cell8_ k qm sm, cell6_ k qm sm, cell15_ k qm sm, cell14_ k qm tm, cell12_ k qm tm, cell18_ k qm tm, cell17_ k qm tm, cell130_ k qm (u.1), cell122_ k qm (u.2.1), cell123_ k qm (u.2.2), cell16_ k qm sm, cell11_ k qm sm, cell10_ k qm sm, cell9_ k qm sm, cell7_ k qm sm]) (g_runVF (ws := [cell22_ qm sm tm, cell5_ k qm sm, (qm 2, .inl (k 0, 26, .inl g655)), cell8_ k qm sm, cell6_ k qm sm, cell15_ k qm sm, cell14_ k qm tm, cell12_ k qm tm, cell18_ k qm tm, cell17_ k qm tm, cell19_ k qm tm, cell21_ k qm tm, cell20_ k qm sm, cell16_ k qm sm, cell11_ k qm sm, cell10_ k qm sm, cell9_ k qm sm, cell7_ k qm sm]) (rest := []) cx hP hD hS [.int 0] (c_X12_layBest l D k b qm (up2 sm 2 g655) tm H.size 0 (show 0 ≤ (g655 0).toInt ∧ (g655 0).toInt ≤ 5 from by first | decide | omega) (show 0 ≤ (g655 1).toInt ∧ (g655 1).toInt ≤ 4 from by first | decide | omega) (show 0 ≤ (0 : Int32).toInt ∧ (0 : Int32).toInt ≤ 4 from by first | decide | omega)) gX12_without_X12_layBest rfl rfl rfl nd_X12_layBest ⟨Nat.le_of_ble_eq_true rfl, Nat.le_of_ble_eq_true rfl⟩ (ci := 10) (q0 := 0) rfl rfl rfl hl.1 rfl (Nat.le_of_ble_eq_true rfl) ⟨Nat.zero_le _, Nat.zero_le _⟩ dX12_without_134) cx.2.2.1 hD hS (fun u661 H locs hw660 hP hD hS => ?_)
            obtain ⟨m662, m663, m664⟩ := u661
            have hP : va_P D vwCl [cell22_ qm sm tm, cell5_ k qm sm, (qm 2, .inl (k 0, 26, .inl g655)), cell8_ k qm sm, cell6_ k qm sm, cell15_ k qm sm, cell14_ k qm tm, cell12_ k qm tm, cell18_ k qm tm, cell17_ k qm tm, (qm 10, .inl (k 1, 1500, .inr (.inl m662))), (qm 11, .inl (k 1, 1500, .inr (.inl m663))), (qm 12, .inl (k 0, 1500, .inl m664)), cell16_ k qm sm, cell11_ k qm sm, cell10_ k qm sm, cell9_ k qm sm, cell7_ k qm sm] H := hP
            have hD : va_D A [cell22_ qm sm tm, cell5_ k qm sm, (qm 2, .inl (k 0, 26, .inl g655)), cell8_ k qm sm, cell6_ k qm sm, cell15_ k qm sm, cell14_ k qm tm, cell12_ k qm tm, cell18_ k qm tm, cell17_ k qm tm, (qm 10, .inl (k 1, 1500, .inr (.inl m662))), (qm 11, .inl (k 1, 1500, .inr (.inl m663))), (qm 12, .inl (k 0, 1500, .inl m664)), cell16_ k qm sm, cell11_ k qm sm, cell10_ k qm sm, cell9_ k qm sm, cell7_ k qm sm] := hD
            have w665 : (m662, m663, m664) = J_X12_layBest (up2 sm 2 g655) tm (0 : Int32) := hw660
            clear hw660
            refine lv_aload_n hx hb dX12_without_137 rfl (lv_at hl 4 rfl) ?_
            refine g_get cx hP iw_X12_without_X12 0 rfl rfl 1 (by decide) rfl fw_X12_without_13 rfl dX12_without_138 ?_
            refine lv_iconst (v := 4) hx hb dX12_without_141 (by decide) ?_
            refine lv_iload_n hx hb dX12_without_142 rfl (lv_at hl 3 rfl) ?_
            have hn667 : vp_in 4 26 := f_in (a := 4) (by decide) (by omega) (by omega)
            refine va_iast hx hb cx.2.1 hP hD hS 2 0 rfl rfl hn667 dX12_without_143 (fun H locs hP hD hS => ?_)
            obtain ⟨g668, eg668⟩ : ∃ g : Nat → Int32, g = upd g655 ((4 : Int32).toNatClampNeg) v7 := ⟨_, rfl⟩
            rw [← eg668] at hP hD
            have hP : va_P D vwCl [cell22_ qm sm tm, cell5_ k qm sm, (qm 2, .inl (k 0, 26, .inl g668)), cell8_ k qm sm, cell6_ k qm sm, cell15_ k qm sm, cell14_ k qm tm, cell12_ k qm tm, cell18_ k qm tm, cell17_ k qm tm, (qm 10, .inl (k 1, 1500, .inr (.inl m662))), (qm 11, .inl (k 1, 1500, .inr (.inl m663))), (qm 12, .inl (k 0, 1500, .inl m664)), cell16_ k qm sm, cell11_ k qm sm, cell10_ k qm sm, cell9_ k qm sm, cell7_ k qm sm] H := hP
            have hD : va_D A [cell22_ qm sm tm, cell5_ k qm sm, (qm 2, .inl (k 0, 26, .inl g668)), cell8_ k qm sm, cell6_ k qm sm, cell15_ k qm sm, cell14_ k qm tm, cell12_ k qm tm, cell18_ k qm tm, cell17_ k qm tm, (qm 10, .inl (k 1, 1500, .inr (.inl m662))), (qm 11, .inl (k 1, 1500, .inr (.inl m663))), (qm 12, .inl (k 0, 1500, .inl m664)), cell16_ k qm sm, cell11_ k qm sm, cell10_ k qm sm, cell9_ k qm sm, cell7_ k qm sm] := hD
            have s669 := updI eg668 (by decide) (show 0 ≤ 4 from by omega) 0
            have s670 := updI eg668 (by decide) (show 0 ≤ 4 from by omega) 1
            have el671 : 0 ≤ (g668 0).toInt ∧ (g668 0).toInt ≤ 5 := by omega
            have el672 : 0 ≤ (g668 1).toInt ∧ (g668 1).toInt ≤ 4 := by omega
            refine lv_aload_n hx hb dX12_without_144 rfl (lv_at hl 4 rfl) ?_
            refine g_get cx hP iw_X12_without_X12 0 rfl rfl 1 (by decide) rfl fw_X12_without_13 rfl dX12_without_145 ?_
            refine lv_iconst (v := 5) hx hb dX12_without_148 (by decide) ?_
            refine lv_iload hx hb dX12_without_149 (lv_at hl 2 rfl) ?_
            have hn673 : vp_in 5 26 := f_in (a := 5) (by decide) (by omega) (by omega)
            refine va_iast hx hb cx.2.1 hP hD hS 2 0 rfl rfl hn673 dX12_without_151 (fun H locs hP hD hS => ?_)
            obtain ⟨g674, eg674⟩ : ∃ g : Nat → Int32, g = upd g668 ((5 : Int32).toNatClampNeg) v9 := ⟨_, rfl⟩
            rw [← eg674] at hP hD
            have hP : va_P D vwCl [cell22_ qm sm tm, cell5_ k qm sm, (qm 2, .inl (k 0, 26, .inl g674)), cell8_ k qm sm, cell6_ k qm sm, cell15_ k qm sm, cell14_ k qm tm, cell12_ k qm tm, cell18_ k qm tm, cell17_ k qm tm, (qm 10, .inl (k 1, 1500, .inr (.inl m662))), (qm 11, .inl (k 1, 1500, .inr (.inl m663))), (qm 12, .inl (k 0, 1500, .inl m664)), cell16_ k qm sm, cell11_ k qm sm, cell10_ k qm sm, cell9_ k qm sm, cell7_ k qm sm] H := hP
            have hD : va_D A [cell22_ qm sm tm, cell5_ k qm sm, (qm 2, .inl (k 0, 26, .inl g674)), cell8_ k qm sm, cell6_ k qm sm, cell15_ k qm sm, cell14_ k qm tm, cell12_ k qm tm, cell18_ k qm tm, cell17_ k qm tm, (qm 10, .inl (k 1, 1500, .inr (.inl m662))), (qm 11, .inl (k 1, 1500, .inr (.inl m663))), (qm 12, .inl (k 0, 1500, .inl m664)), cell16_ k qm sm, cell11_ k qm sm, cell10_ k qm sm, cell9_ k qm sm, cell7_ k qm sm] := hD
            have s675 := updI eg674 (by decide) (show 0 ≤ 5 from by omega) 0
            have s676 := updI eg674 (by decide) (show 0 ≤ 5 from by omega) 1
            have el677 : 0 ≤ (g674 0).toInt ∧ (g674 0).toInt ≤ 5 := by omega
            have el678 : 0 ≤ (g674 1).toInt ∧ (g674 1).toInt ≤ 4 := by omega
            refine lv_aload_n hx hb dX12_without_152 rfl (lv_at hl 4 rfl) ?_
            refine g_get cx hP iw_X12_without_X12 0 rfl rfl 1 (by decide) rfl fw_X12_without_13 rfl dX12_without_153 ?_
            refine lv_bipush (v := 6) hx hb dX12_without_156 (by decide) ?_
            refine lv_iload hx hb dX12_without_158 (lv_at hl 1 rfl) ?_
            have hn679 : vp_in 6 26 := f_in (a := 6) (by decide) (by omega) (by omega)
            refine va_iast hx hb cx.2.1 hP hD hS 2 0 rfl rfl hn679 dX12_without_160 (fun H locs hP hD hS => ?_)
            obtain ⟨g680, eg680⟩ : ∃ g : Nat → Int32, g = upd g674 ((6 : Int32).toNatClampNeg) v11 := ⟨_, rfl⟩
            rw [← eg680] at hP hD
            have hP : va_P D vwCl [cell22_ qm sm tm, cell5_ k qm sm, (qm 2, .inl (k 0, 26, .inl g680)), cell8_ k qm sm, cell6_ k qm sm, cell15_ k qm sm, cell14_ k qm tm, cell12_ k qm tm, cell18_ k qm tm, cell17_ k qm tm, (qm 10, .inl (k 1, 1500, .inr (.inl m662))), (qm 11, .inl (k 1, 1500, .inr (.inl m663))), (qm 12, .inl (k 0, 1500, .inl m664)), cell16_ k qm sm, cell11_ k qm sm, cell10_ k qm sm, cell9_ k qm sm, cell7_ k qm sm] H := hP
            have hD : va_D A [cell22_ qm sm tm, cell5_ k qm sm, (qm 2, .inl (k 0, 26, .inl g680)), cell8_ k qm sm, cell6_ k qm sm, cell15_ k qm sm, cell14_ k qm tm, cell12_ k qm tm, cell18_ k qm tm, cell17_ k qm tm, (qm 10, .inl (k 1, 1500, .inr (.inl m662))), (qm 11, .inl (k 1, 1500, .inr (.inl m663))), (qm 12, .inl (k 0, 1500, .inl m664)), cell16_ k qm sm, cell11_ k qm sm, cell10_ k qm sm, cell9_ k qm sm, cell7_ k qm sm] := hD
            have s681 := updI eg680 (by decide) (show 0 ≤ 6 from by omega) 0
            have s682 := updI eg680 (by decide) (show 0 ≤ 6 from by omega) 1
            have el683 : 0 ≤ (g680 0).toInt ∧ (g680 0).toInt ≤ 5 := by omega
            have el684 : 0 ≤ (g680 1).toInt ∧ (g680 1).toInt ≤ 4 := by omega
            refine lv_aload_n hx hb dX12_without_161 rfl (lv_at hl 4 rfl) ?_
            refine g_get cx hP iw_X12_without_X12 0 rfl rfl 1 (by decide) rfl fw_X12_without_13 rfl dX12_without_162 ?_
            refine lv_bipush (v := 7) hx hb dX12_without_165 (by decide) ?_
            refine lv_iload hx hb dX12_without_167 (lv_at hl 0 rfl) ?_
            have hn685 : vp_in 7 26 := f_in (a := 7) (by decide) (by omega) (by omega)
            refine va_iast hx hb cx.2.1 hP hD hS 2 0 rfl rfl hn685 dX12_without_169 (fun H locs hP hD hS => ?_)
            obtain ⟨g686, eg686⟩ : ∃ g : Nat → Int32, g = upd g680 ((7 : Int32).toNatClampNeg) v13 := ⟨_, rfl⟩
            rw [← eg686] at hP hD
            have hP : va_P D vwCl [cell22_ qm sm tm, cell5_ k qm sm, (qm 2, .inl (k 0, 26, .inl g686)), cell8_ k qm sm, cell6_ k qm sm, cell15_ k qm sm, cell14_ k qm tm, cell12_ k qm tm, cell18_ k qm tm, cell17_ k qm tm, (qm 10, .inl (k 1, 1500, .inr (.inl m662))), (qm 11, .inl (k 1, 1500, .inr (.inl m663))), (qm 12, .inl (k 0, 1500, .inl m664)), cell16_ k qm sm, cell11_ k qm sm, cell10_ k qm sm, cell9_ k qm sm, cell7_ k qm sm] H := hP
            have hD : va_D A [cell22_ qm sm tm, cell5_ k qm sm, (qm 2, .inl (k 0, 26, .inl g686)), cell8_ k qm sm, cell6_ k qm sm, cell15_ k qm sm, cell14_ k qm tm, cell12_ k qm tm, cell18_ k qm tm, cell17_ k qm tm, (qm 10, .inl (k 1, 1500, .inr (.inl m662))), (qm 11, .inl (k 1, 1500, .inr (.inl m663))), (qm 12, .inl (k 0, 1500, .inl m664)), cell16_ k qm sm, cell11_ k qm sm, cell10_ k qm sm, cell9_ k qm sm, cell7_ k qm sm] := hD
            have s687 := updI eg686 (by decide) (show 0 ≤ 7 from by omega) 0
            have s688 := updI eg686 (by decide) (show 0 ≤ 7 from by omega) 1
            have el689 : 0 ≤ (g686 0).toInt ∧ (g686 0).toInt ≤ 5 := by omega
            have el690 : 0 ≤ (g686 1).toInt ∧ (g686 1).toInt ≤ 4 := by omega
            refine lv_aload_n hx hb dX12_without_170 rfl (lv_at hl 4 rfl) ?_
            refine g_get cx hP iw_X12_without_X12 0 rfl rfl 18 (by decide) rfl fw_X12_without_38 rfl dX12_without_171 ?_
            refine lv_iconst (v := 0) hx hb dX12_without_174 (by decide) ?_
            have hn691 : vp_in 0 1500 := f_in (a := 0) (by decide) (by omega) (by omega)
            refine va_lald hx hb cx.2.1 hP 10 1 rfl rfl hn691 dX12_without_175 (lv_topl (fun v692 e692 => ?_))
            refine lv_aload_n hx hb dX12_without_176 rfl (lv_at hl 4 rfl) ?_
            refine g_get cx hP iw_X12_without_X12 0 rfl rfl 1 (by decide) rfl fw_X12_without_13 rfl dX12_without_177 ?_
            refine lv_iconst (v := 0) hx hb dX12_without_180 (by decide) ?_
            have hn693 : vp_in 0 26 := f_in (a := 0) (by decide) (by omega) (by omega)
            refine va_iald hx hb cx.2.1 hP 2 0 rfl rfl hn693 dX12_without_181 (lv_topi (fun v694 e694 => ?_))
            have uv694 : v694.toInt = (g686 0).toInt := congrArg Int32.toInt e694
            have t694 : 0 ≤ v694.toInt ∧ v694.toInt ≤ 5 := by rw [e694]; exact el689
            refine g_lr (g_runS (wc := []) (rest := [.long v692]) cx hP hD hS [] rfl (by decide) [.int v694] (c_X12_parts l D k b H.size v694) gX12_without_X12_parts rfl rfl rfl nd_X12_parts ⟨Nat.le_of_ble_eq_true rfl, Nat.le_of_ble_eq_true rfl⟩ rfl hl.1 rfl (Nat.le_of_ble_eq_true rfl) ⟨Nat.zero_le _, Nat.zero_le _⟩ dX12_without_182) cx.2.2.1 hP hD hS [] rfl rfl (fun r696 H locs hw695 hP hS => ?_)
            replace hw695 : (r696.toInt % 2 = 1) ∧ (r696 = J_X12_parts v694) := hw695
            obtain ⟨w697, w698⟩ := hw695
            refine lv_iload_n hx hb dX12_without_185 rfl (lv_at hl 6 rfl) ?_
            refine g_lr (g_runS (wc := []) (rest := []) cx hP hD hS [] rfl (by decide) [.long v692, .long r696, .int p1] (c_X12_told l D k b H.size v692 r696 p1 (show ¬ r696.toInt = 0 from by first | decide | omega)) gX12_without_X12_told rfl rfl rfl nd_X12_told ⟨Nat.le_of_ble_eq_true rfl, Nat.le_of_ble_eq_true rfl⟩ rfl hl.1 rfl (Nat.le_of_ble_eq_true rfl) ⟨Nat.zero_le _, Nat.zero_le _⟩ dX12_without_186) cx.2.2.1 hP hD hS [] rfl rfl (fun r701 H locs hw700 hP hS => ?_)
            have w702 : r701 = J_X12_told v692 r696 p1 := hw700
            clear hw700
            rw [hQ]
            exact x_l cx hr (m662, m663, m664, g686) hP hD hS ⟨(show 0 ≤ (g686 0).toInt ∧ (g686 0).toInt ≤ 5 from by omega), (show 0 ≤ (g686 1).toInt ∧ (g686 1).toInt ≤ 4 from by omega), (show g686 = (sm 2) from rest8 eg473 eg481 eg597 eg655 eg668 eg674 eg680 eg686 e7 e9 e11 e13), (show (r701, m662, m663, m664, g686) = J_X12_without sm tm p0 p1 from (exl_X12_without_11 e1 w4 e7 e9 e11 e13 e14 eg473 e478 eg481 e486 eg597 e602 eg655 eg668 eg674 eg680 eg686 e692 e694 c5 c15 c479 c487 c603 w665 w698 w702))⟩ dX12_without_189
      · have f479 : v478.toInt = 2 := f_eq rfl (by decide) c479
        refine lv_bipush (v := (-9)) hx hb dX12_without_80 (by decide) ?_
        refine lv_goto (tgt := 87) hx hb dX12_without_82 (by decide) ?_
        have hn704 : vp_in 5 26 := f_in (a := 5) (by decide) (by omega) (by omega)
        refine va_iast hx hb cx.2.1 hP hD hS 2 0 rfl rfl hn704 dX12_without_87 (fun H locs hP hD hS => ?_)
        obtain ⟨g705, eg705⟩ : ∃ g : Nat → Int32, g = upd g473 ((5 : Int32).toNatClampNeg) (-9) := ⟨_, rfl⟩
        rw [← eg705] at hP hD
        have hP : va_P D vwCl [cell22_ qm sm tm, cell5_ k qm sm, (qm 2, .inl (k 0, 26, .inl g705)), cell8_ k qm sm, cell6_ k qm sm, cell15_ k qm sm, cell14_ k qm tm, cell12_ k qm tm, cell18_ k qm tm, cell17_ k qm tm, cell19_ k qm tm, cell21_ k qm tm, cell20_ k qm sm, cell16_ k qm sm, cell11_ k qm sm, cell10_ k qm sm, cell9_ k qm sm, cell7_ k qm sm] H := hP
        have hD : va_D A [cell22_ qm sm tm, cell5_ k qm sm, (qm 2, .inl (k 0, 26, .inl g705)), cell8_ k qm sm, cell6_ k qm sm, cell15_ k qm sm, cell14_ k qm tm, cell12_ k qm tm, cell18_ k qm tm, cell17_ k qm tm, cell19_ k qm tm, cell21_ k qm tm, cell20_ k qm sm, cell16_ k qm sm, cell11_ k qm sm, cell10_ k qm sm, cell9_ k qm sm, cell7_ k qm sm] := hD
        have s706 := updI eg705 (by decide) (show 0 ≤ 5 from by omega) 0
        have s706l : ((-9) : Int32).toInt = -9 := by decide
        have s707 := updI eg705 (by decide) (show 0 ≤ 5 from by omega) 1
        have s707l : ((-9) : Int32).toInt = -9 := by decide
        have el708 : 0 ≤ (g705 0).toInt ∧ (g705 0).toInt ≤ 5 := by omega
        have el709 : 0 ≤ (g705 1).toInt ∧ (g705 1).toInt ≤ 4 := by omega
        refine lv_aload_n hx hb dX12_without_88 rfl (lv_at hl 4 rfl) ?_
        refine g_get cx hP iw_X12_without_X12 0 rfl rfl 1 (by decide) rfl fw_X12_without_13 rfl dX12_without_89 ?_
        refine lv_bipush (v := 6) hx hb dX12_without_92 (by decide) ?_
        refine lv_iload_n hx hb dX12_without_94 rfl (lv_at hl 5 rfl) ?_
        refine lv_iconst (v := 4) hx hb dX12_without_95 (by decide) ?_
        refine lv_iand hx hb dX12_without_96 (lv_topi (fun v710 e710 => ?_))
        have t710 : 0 ≤ v710.toInt ∧ v710.toInt ≤ p0.toInt := by rw [e710]; exact and_l rfl (by omega)
        refine lv_iconst (v := 4) hx hb dX12_without_97 (by decide) ?_
        refine lv_icmp_ne (tgt := 106) hx hb dX12_without_98 (by decide) (fun c711 => ?_) (fun c711 => ?_)
        · have f711 : ¬ v710.toInt = 4 := f_ne rfl (by decide) c711
          refine lv_iload hx hb dX12_without_106 (lv_at hl 1 rfl) ?_
          have hn712 : vp_in 6 26 := f_in (a := 6) (by decide) (by omega) (by omega)
          refine va_iast hx hb cx.2.1 hP hD hS 2 0 rfl rfl hn712 dX12_without_108 (fun H locs hP hD hS => ?_)
          obtain ⟨g713, eg713⟩ : ∃ g : Nat → Int32, g = upd g705 ((6 : Int32).toNatClampNeg) v11 := ⟨_, rfl⟩
          rw [← eg713] at hP hD
          have hP : va_P D vwCl [cell22_ qm sm tm, cell5_ k qm sm, (qm 2, .inl (k 0, 26, .inl g713)), cell8_ k qm sm, cell6_ k qm sm, cell15_ k qm sm, cell14_ k qm tm, cell12_ k qm tm, cell18_ k qm tm, cell17_ k qm tm, cell19_ k qm tm, cell21_ k qm tm, cell20_ k qm sm, cell16_ k qm sm, cell11_ k qm sm, cell10_ k qm sm, cell9_ k qm sm, cell7_ k qm sm] H := hP
          have hD : va_D A [cell22_ qm sm tm, cell5_ k qm sm, (qm 2, .inl (k 0, 26, .inl g713)), cell8_ k qm sm, cell6_ k qm sm, cell15_ k qm sm, cell14_ k qm tm, cell12_ k qm tm, cell18_ k qm tm, cell17_ k qm tm, cell19_ k qm tm, cell21_ k qm tm, cell20_ k qm sm, cell16_ k qm sm, cell11_ k qm sm, cell10_ k qm sm, cell9_ k qm sm, cell7_ k qm sm] := hD
          have s714 := updI eg713 (by decide) (show 0 ≤ 6 from by omega) 0
          have s715 := updI eg713 (by decide) (show 0 ≤ 6 from by omega) 1
          have el716 : 0 ≤ (g713 0).toInt ∧ (g713 0).toInt ≤ 5 := by omega
          have el717 : 0 ≤ (g713 1).toInt ∧ (g713 1).toInt ≤ 4 := by omega
          refine lv_aload_n hx hb dX12_without_109 rfl (lv_at hl 4 rfl) ?_
          refine g_get cx hP iw_X12_without_X12 0 rfl rfl 1 (by decide) rfl fw_X12_without_13 rfl dX12_without_110 ?_
          refine lv_bipush (v := 7) hx hb dX12_without_113 (by decide) ?_
          refine lv_iload_n hx hb dX12_without_115 rfl (lv_at hl 5 rfl) ?_
          refine lv_bipush (v := 8) hx hb dX12_without_116 (by decide) ?_
          refine lv_iand hx hb dX12_without_118 (lv_topi (fun v718 e718 => ?_))
          have t718 : 0 ≤ v718.toInt ∧ v718.toInt ≤ p0.toInt := by rw [e718]; exact and_l rfl (by omega)
          refine lv_bipush (v := 8) hx hb dX12_without_119 (by decide) ?_
          refine lv_icmp_ne (tgt := 129) hx hb dX12_without_121 (by decide) (fun c719 => ?_) (fun c719 => ?_)
          · have f719 : ¬ v718.toInt = 8 := f_ne rfl (by decide) c719
            refine lv_iload hx hb dX12_without_129 (lv_at hl 0 rfl) ?_
            have hn720 : vp_in 7 26 := f_in (a := 7) (by decide) (by omega) (by omega)
            refine va_iast hx hb cx.2.1 hP hD hS 2 0 rfl rfl hn720 dX12_without_131 (fun H locs hP hD hS => ?_)
            obtain ⟨g721, eg721⟩ : ∃ g : Nat → Int32, g = upd g713 ((7 : Int32).toNatClampNeg) v13 := ⟨_, rfl⟩
            rw [← eg721] at hP hD
            have hP : va_P D vwCl [cell22_ qm sm tm, cell5_ k qm sm, (qm 2, .inl (k 0, 26, .inl g721)), cell8_ k qm sm, cell6_ k qm sm, cell15_ k qm sm, cell14_ k qm tm, cell12_ k qm tm, cell18_ k qm tm, cell17_ k qm tm, cell19_ k qm tm, cell21_ k qm tm, cell20_ k qm sm, cell16_ k qm sm, cell11_ k qm sm, cell10_ k qm sm, cell9_ k qm sm, cell7_ k qm sm] H := hP
            have hD : va_D A [cell22_ qm sm tm, cell5_ k qm sm, (qm 2, .inl (k 0, 26, .inl g721)), cell8_ k qm sm, cell6_ k qm sm, cell15_ k qm sm, cell14_ k qm tm, cell12_ k qm tm, cell18_ k qm tm, cell17_ k qm tm, cell19_ k qm tm, cell21_ k qm tm, cell20_ k qm sm, cell16_ k qm sm, cell11_ k qm sm, cell10_ k qm sm, cell9_ k qm sm, cell7_ k qm sm] := hD
            have s722 := updI eg721 (by decide) (show 0 ≤ 7 from by omega) 0
            have s723 := updI eg721 (by decide) (show 0 ≤ 7 from by omega) 1
            have el724 : 0 ≤ (g721 0).toInt ∧ (g721 0).toInt ≤ 5 := by omega
            have el725 : 0 ≤ (g721 1).toInt ∧ (g721 1).toInt ≤ 4 := by omega
            refine lv_aload_n hx hb dX12_without_132 rfl (lv_at hl 4 rfl) ?_
            refine lv_iconst (v := 0) hx hb dX12_without_133 (by decide) ?_
            refine g_vF (w1 := fun (u : (Nat → Int64) × (Nat → Int64) × (Nat → Int32)) => [cell22_ qm sm tm, cell5_ k qm sm, (qm 2, .inl (k 0, 26, .inl g721)), cell8_ k qm sm, cell6_ k qm sm, cell15_ k qm sm, cell14_ k qm tm, cell12_ k qm tm, cell18_ k qm tm, cell17_ k qm tm, cell130_ k qm (u.1), cell122_ k qm (u.2.1), cell123_ k qm (u.2.2), cell16_ k qm sm, cell11_ k qm sm, cell10_ k qm sm, cell9_ k qm sm, cell7_ k qm sm]) (g_runVF (ws := [cell22_ qm sm tm, cell5_ k qm sm, (qm 2, .inl (k 0, 26, .inl g721)), cell8_ k qm sm, cell6_ k qm sm, cell15_ k qm sm, cell14_ k qm tm, cell12_ k qm tm, cell18_ k qm tm, cell17_ k qm tm, cell19_ k qm tm, cell21_ k qm tm, cell20_ k qm sm, cell16_ k qm sm, cell11_ k qm sm, cell10_ k qm sm, cell9_ k qm sm, cell7_ k qm sm]) (rest := []) cx hP hD hS [.int 0] (c_X12_layBest l D k b qm (up2 sm 2 g721) tm H.size 0 (show 0 ≤ (g721 0).toInt ∧ (g721 0).toInt ≤ 5 from by first | decide | omega) (show 0 ≤ (g721 1).toInt ∧ (g721 1).toInt ≤ 4 from by first | decide | omega) (show 0 ≤ (0 : Int32).toInt ∧ (0 : Int32).toInt ≤ 4 from by first | decide | omega)) gX12_without_X12_layBest rfl rfl rfl nd_X12_layBest ⟨Nat.le_of_ble_eq_true rfl, Nat.le_of_ble_eq_true rfl⟩ (ci := 10) (q0 := 0) rfl rfl rfl hl.1 rfl (Nat.le_of_ble_eq_true rfl) ⟨Nat.zero_le _, Nat.zero_le _⟩ dX12_without_134) cx.2.2.1 hD hS (fun u727 H locs hw726 hP hD hS => ?_)
            obtain ⟨m728, m729, m730⟩ := u727
            have hP : va_P D vwCl [cell22_ qm sm tm, cell5_ k qm sm, (qm 2, .inl (k 0, 26, .inl g721)), cell8_ k qm sm, cell6_ k qm sm, cell15_ k qm sm, cell14_ k qm tm, cell12_ k qm tm, cell18_ k qm tm, cell17_ k qm tm, (qm 10, .inl (k 1, 1500, .inr (.inl m728))), (qm 11, .inl (k 1, 1500, .inr (.inl m729))), (qm 12, .inl (k 0, 1500, .inl m730)), cell16_ k qm sm, cell11_ k qm sm, cell10_ k qm sm, cell9_ k qm sm, cell7_ k qm sm] H := hP
            have hD : va_D A [cell22_ qm sm tm, cell5_ k qm sm, (qm 2, .inl (k 0, 26, .inl g721)), cell8_ k qm sm, cell6_ k qm sm, cell15_ k qm sm, cell14_ k qm tm, cell12_ k qm tm, cell18_ k qm tm, cell17_ k qm tm, (qm 10, .inl (k 1, 1500, .inr (.inl m728))), (qm 11, .inl (k 1, 1500, .inr (.inl m729))), (qm 12, .inl (k 0, 1500, .inl m730)), cell16_ k qm sm, cell11_ k qm sm, cell10_ k qm sm, cell9_ k qm sm, cell7_ k qm sm] := hD
            have w731 : (m728, m729, m730) = J_X12_layBest (up2 sm 2 g721) tm (0 : Int32) := hw726
            clear hw726
            refine lv_aload_n hx hb dX12_without_137 rfl (lv_at hl 4 rfl) ?_
            refine g_get cx hP iw_X12_without_X12 0 rfl rfl 1 (by decide) rfl fw_X12_without_13 rfl dX12_without_138 ?_
            refine lv_iconst (v := 4) hx hb dX12_without_141 (by decide) ?_
            refine lv_iload_n hx hb dX12_without_142 rfl (lv_at hl 3 rfl) ?_
            have hn733 : vp_in 4 26 := f_in (a := 4) (by decide) (by omega) (by omega)
            refine va_iast hx hb cx.2.1 hP hD hS 2 0 rfl rfl hn733 dX12_without_143 (fun H locs hP hD hS => ?_)
            obtain ⟨g734, eg734⟩ : ∃ g : Nat → Int32, g = upd g721 ((4 : Int32).toNatClampNeg) v7 := ⟨_, rfl⟩
            rw [← eg734] at hP hD
            have hP : va_P D vwCl [cell22_ qm sm tm, cell5_ k qm sm, (qm 2, .inl (k 0, 26, .inl g734)), cell8_ k qm sm, cell6_ k qm sm, cell15_ k qm sm, cell14_ k qm tm, cell12_ k qm tm, cell18_ k qm tm, cell17_ k qm tm, (qm 10, .inl (k 1, 1500, .inr (.inl m728))), (qm 11, .inl (k 1, 1500, .inr (.inl m729))), (qm 12, .inl (k 0, 1500, .inl m730)), cell16_ k qm sm, cell11_ k qm sm, cell10_ k qm sm, cell9_ k qm sm, cell7_ k qm sm] H := hP
            have hD : va_D A [cell22_ qm sm tm, cell5_ k qm sm, (qm 2, .inl (k 0, 26, .inl g734)), cell8_ k qm sm, cell6_ k qm sm, cell15_ k qm sm, cell14_ k qm tm, cell12_ k qm tm, cell18_ k qm tm, cell17_ k qm tm, (qm 10, .inl (k 1, 1500, .inr (.inl m728))), (qm 11, .inl (k 1, 1500, .inr (.inl m729))), (qm 12, .inl (k 0, 1500, .inl m730)), cell16_ k qm sm, cell11_ k qm sm, cell10_ k qm sm, cell9_ k qm sm, cell7_ k qm sm] := hD
            have s735 := updI eg734 (by decide) (show 0 ≤ 4 from by omega) 0
            have s736 := updI eg734 (by decide) (show 0 ≤ 4 from by omega) 1
            have el737 : 0 ≤ (g734 0).toInt ∧ (g734 0).toInt ≤ 5 := by omega
            have el738 : 0 ≤ (g734 1).toInt ∧ (g734 1).toInt ≤ 4 := by omega
            refine lv_aload_n hx hb dX12_without_144 rfl (lv_at hl 4 rfl) ?_
            refine g_get cx hP iw_X12_without_X12 0 rfl rfl 1 (by decide) rfl fw_X12_without_13 rfl dX12_without_145 ?_
            refine lv_iconst (v := 5) hx hb dX12_without_148 (by decide) ?_
            refine lv_iload hx hb dX12_without_149 (lv_at hl 2 rfl) ?_
            have hn739 : vp_in 5 26 := f_in (a := 5) (by decide) (by omega) (by omega)
            refine va_iast hx hb cx.2.1 hP hD hS 2 0 rfl rfl hn739 dX12_without_151 (fun H locs hP hD hS => ?_)
            obtain ⟨g740, eg740⟩ : ∃ g : Nat → Int32, g = upd g734 ((5 : Int32).toNatClampNeg) v9 := ⟨_, rfl⟩
            rw [← eg740] at hP hD
            have hP : va_P D vwCl [cell22_ qm sm tm, cell5_ k qm sm, (qm 2, .inl (k 0, 26, .inl g740)), cell8_ k qm sm, cell6_ k qm sm, cell15_ k qm sm, cell14_ k qm tm, cell12_ k qm tm, cell18_ k qm tm, cell17_ k qm tm, (qm 10, .inl (k 1, 1500, .inr (.inl m728))), (qm 11, .inl (k 1, 1500, .inr (.inl m729))), (qm 12, .inl (k 0, 1500, .inl m730)), cell16_ k qm sm, cell11_ k qm sm, cell10_ k qm sm, cell9_ k qm sm, cell7_ k qm sm] H := hP
            have hD : va_D A [cell22_ qm sm tm, cell5_ k qm sm, (qm 2, .inl (k 0, 26, .inl g740)), cell8_ k qm sm, cell6_ k qm sm, cell15_ k qm sm, cell14_ k qm tm, cell12_ k qm tm, cell18_ k qm tm, cell17_ k qm tm, (qm 10, .inl (k 1, 1500, .inr (.inl m728))), (qm 11, .inl (k 1, 1500, .inr (.inl m729))), (qm 12, .inl (k 0, 1500, .inl m730)), cell16_ k qm sm, cell11_ k qm sm, cell10_ k qm sm, cell9_ k qm sm, cell7_ k qm sm] := hD
            have s741 := updI eg740 (by decide) (show 0 ≤ 5 from by omega) 0
            have s742 := updI eg740 (by decide) (show 0 ≤ 5 from by omega) 1
            have el743 : 0 ≤ (g740 0).toInt ∧ (g740 0).toInt ≤ 5 := by omega
            have el744 : 0 ≤ (g740 1).toInt ∧ (g740 1).toInt ≤ 4 := by omega
            refine lv_aload_n hx hb dX12_without_152 rfl (lv_at hl 4 rfl) ?_
            refine g_get cx hP iw_X12_without_X12 0 rfl rfl 1 (by decide) rfl fw_X12_without_13 rfl dX12_without_153 ?_
            refine lv_bipush (v := 6) hx hb dX12_without_156 (by decide) ?_
            refine lv_iload hx hb dX12_without_158 (lv_at hl 1 rfl) ?_
            have hn745 : vp_in 6 26 := f_in (a := 6) (by decide) (by omega) (by omega)
            refine va_iast hx hb cx.2.1 hP hD hS 2 0 rfl rfl hn745 dX12_without_160 (fun H locs hP hD hS => ?_)
            obtain ⟨g746, eg746⟩ : ∃ g : Nat → Int32, g = upd g740 ((6 : Int32).toNatClampNeg) v11 := ⟨_, rfl⟩
            rw [← eg746] at hP hD
            have hP : va_P D vwCl [cell22_ qm sm tm, cell5_ k qm sm, (qm 2, .inl (k 0, 26, .inl g746)), cell8_ k qm sm, cell6_ k qm sm, cell15_ k qm sm, cell14_ k qm tm, cell12_ k qm tm, cell18_ k qm tm, cell17_ k qm tm, (qm 10, .inl (k 1, 1500, .inr (.inl m728))), (qm 11, .inl (k 1, 1500, .inr (.inl m729))), (qm 12, .inl (k 0, 1500, .inl m730)), cell16_ k qm sm, cell11_ k qm sm, cell10_ k qm sm, cell9_ k qm sm, cell7_ k qm sm] H := hP
            have hD : va_D A [cell22_ qm sm tm, cell5_ k qm sm, (qm 2, .inl (k 0, 26, .inl g746)), cell8_ k qm sm, cell6_ k qm sm, cell15_ k qm sm, cell14_ k qm tm, cell12_ k qm tm, cell18_ k qm tm, cell17_ k qm tm, (qm 10, .inl (k 1, 1500, .inr (.inl m728))), (qm 11, .inl (k 1, 1500, .inr (.inl m729))), (qm 12, .inl (k 0, 1500, .inl m730)), cell16_ k qm sm, cell11_ k qm sm, cell10_ k qm sm, cell9_ k qm sm, cell7_ k qm sm] := hD
            have s747 := updI eg746 (by decide) (show 0 ≤ 6 from by omega) 0
            have s748 := updI eg746 (by decide) (show 0 ≤ 6 from by omega) 1
            have el749 : 0 ≤ (g746 0).toInt ∧ (g746 0).toInt ≤ 5 := by omega
            have el750 : 0 ≤ (g746 1).toInt ∧ (g746 1).toInt ≤ 4 := by omega
            refine lv_aload_n hx hb dX12_without_161 rfl (lv_at hl 4 rfl) ?_
            refine g_get cx hP iw_X12_without_X12 0 rfl rfl 1 (by decide) rfl fw_X12_without_13 rfl dX12_without_162 ?_
            refine lv_bipush (v := 7) hx hb dX12_without_165 (by decide) ?_
            refine lv_iload hx hb dX12_without_167 (lv_at hl 0 rfl) ?_
            have hn751 : vp_in 7 26 := f_in (a := 7) (by decide) (by omega) (by omega)
            refine va_iast hx hb cx.2.1 hP hD hS 2 0 rfl rfl hn751 dX12_without_169 (fun H locs hP hD hS => ?_)
            obtain ⟨g752, eg752⟩ : ∃ g : Nat → Int32, g = upd g746 ((7 : Int32).toNatClampNeg) v13 := ⟨_, rfl⟩
            rw [← eg752] at hP hD
            have hP : va_P D vwCl [cell22_ qm sm tm, cell5_ k qm sm, (qm 2, .inl (k 0, 26, .inl g752)), cell8_ k qm sm, cell6_ k qm sm, cell15_ k qm sm, cell14_ k qm tm, cell12_ k qm tm, cell18_ k qm tm, cell17_ k qm tm, (qm 10, .inl (k 1, 1500, .inr (.inl m728))), (qm 11, .inl (k 1, 1500, .inr (.inl m729))), (qm 12, .inl (k 0, 1500, .inl m730)), cell16_ k qm sm, cell11_ k qm sm, cell10_ k qm sm, cell9_ k qm sm, cell7_ k qm sm] H := hP
            have hD : va_D A [cell22_ qm sm tm, cell5_ k qm sm, (qm 2, .inl (k 0, 26, .inl g752)), cell8_ k qm sm, cell6_ k qm sm, cell15_ k qm sm, cell14_ k qm tm, cell12_ k qm tm, cell18_ k qm tm, cell17_ k qm tm, (qm 10, .inl (k 1, 1500, .inr (.inl m728))), (qm 11, .inl (k 1, 1500, .inr (.inl m729))), (qm 12, .inl (k 0, 1500, .inl m730)), cell16_ k qm sm, cell11_ k qm sm, cell10_ k qm sm, cell9_ k qm sm, cell7_ k qm sm] := hD
            have s753 := updI eg752 (by decide) (show 0 ≤ 7 from by omega) 0
            have s754 := updI eg752 (by decide) (show 0 ≤ 7 from by omega) 1
            have el755 : 0 ≤ (g752 0).toInt ∧ (g752 0).toInt ≤ 5 := by omega
            have el756 : 0 ≤ (g752 1).toInt ∧ (g752 1).toInt ≤ 4 := by omega
            refine lv_aload_n hx hb dX12_without_170 rfl (lv_at hl 4 rfl) ?_
            refine g_get cx hP iw_X12_without_X12 0 rfl rfl 18 (by decide) rfl fw_X12_without_38 rfl dX12_without_171 ?_
            refine lv_iconst (v := 0) hx hb dX12_without_174 (by decide) ?_
            have hn757 : vp_in 0 1500 := f_in (a := 0) (by decide) (by omega) (by omega)
            refine va_lald hx hb cx.2.1 hP 10 1 rfl rfl hn757 dX12_without_175 (lv_topl (fun v758 e758 => ?_))
            refine lv_aload_n hx hb dX12_without_176 rfl (lv_at hl 4 rfl) ?_
            refine g_get cx hP iw_X12_without_X12 0 rfl rfl 1 (by decide) rfl fw_X12_without_13 rfl dX12_without_177 ?_
            refine lv_iconst (v := 0) hx hb dX12_without_180 (by decide) ?_
            have hn759 : vp_in 0 26 := f_in (a := 0) (by decide) (by omega) (by omega)
            refine va_iald hx hb cx.2.1 hP 2 0 rfl rfl hn759 dX12_without_181 (lv_topi (fun v760 e760 => ?_))
            have uv760 : v760.toInt = (g752 0).toInt := congrArg Int32.toInt e760
            have t760 : 0 ≤ v760.toInt ∧ v760.toInt ≤ 5 := by rw [e760]; exact el755
            refine g_lr (g_runS (wc := []) (rest := [.long v758]) cx hP hD hS [] rfl (by decide) [.int v760] (c_X12_parts l D k b H.size v760) gX12_without_X12_parts rfl rfl rfl nd_X12_parts ⟨Nat.le_of_ble_eq_true rfl, Nat.le_of_ble_eq_true rfl⟩ rfl hl.1 rfl (Nat.le_of_ble_eq_true rfl) ⟨Nat.zero_le _, Nat.zero_le _⟩ dX12_without_182) cx.2.2.1 hP hD hS [] rfl rfl (fun r762 H locs hw761 hP hS => ?_)
            replace hw761 : (r762.toInt % 2 = 1) ∧ (r762 = J_X12_parts v760) := hw761
            obtain ⟨w763, w764⟩ := hw761
            refine lv_iload_n hx hb dX12_without_185 rfl (lv_at hl 6 rfl) ?_
            refine g_lr (g_runS (wc := []) (rest := []) cx hP hD hS [] rfl (by decide) [.long v758, .long r762, .int p1] (c_X12_told l D k b H.size v758 r762 p1 (show ¬ r762.toInt = 0 from by first | decide | omega)) gX12_without_X12_told rfl rfl rfl nd_X12_told ⟨Nat.le_of_ble_eq_true rfl, Nat.le_of_ble_eq_true rfl⟩ rfl hl.1 rfl (Nat.le_of_ble_eq_true rfl) ⟨Nat.zero_le _, Nat.zero_le _⟩ dX12_without_186) cx.2.2.1 hP hD hS [] rfl rfl (fun r767 H locs hw766 hP hS => ?_)
            have w768 : r767 = J_X12_told v758 r762 p1 := hw766
            clear hw766
            rw [hQ]
            exact x_l cx hr (m728, m729, m730, g752) hP hD hS ⟨(show 0 ≤ (g752 0).toInt ∧ (g752 0).toInt ≤ 5 from by omega), (show 0 ≤ (g752 1).toInt ∧ (g752 1).toInt ≤ 4 from by omega), (show g752 = (sm 2) from rest8 eg473 eg705 eg713 eg721 eg734 eg740 eg746 eg752 e7 e9 e11 e13), (show (r767, m728, m729, m730, g752) = J_X12_without sm tm p0 p1 from (exl_X12_without_12 e1 w4 e7 e9 e11 e13 e14 eg473 e478 eg705 e710 eg713 e718 eg721 eg734 eg740 eg746 eg752 e758 e760 c5 c15 c479 c711 c719 w731 w764 w768))⟩ dX12_without_189
          · have f719 : v718.toInt = 8 := f_eq rfl (by decide) c719
            refine lv_bipush (v := (-9)) hx hb dX12_without_124 (by decide) ?_
            refine lv_goto (tgt := 131) hx hb dX12_without_126 (by decide) ?_
            have hn770 : vp_in 7 26 := f_in (a := 7) (by decide) (by omega) (by omega)
            refine va_iast hx hb cx.2.1 hP hD hS 2 0 rfl rfl hn770 dX12_without_131 (fun H locs hP hD hS => ?_)
            obtain ⟨g771, eg771⟩ : ∃ g : Nat → Int32, g = upd g713 ((7 : Int32).toNatClampNeg) (-9) := ⟨_, rfl⟩
            rw [← eg771] at hP hD
            have hP : va_P D vwCl [cell22_ qm sm tm, cell5_ k qm sm, (qm 2, .inl (k 0, 26, .inl g771)), cell8_ k qm sm, cell6_ k qm sm, cell15_ k qm sm, cell14_ k qm tm, cell12_ k qm tm, cell18_ k qm tm, cell17_ k qm tm, cell19_ k qm tm, cell21_ k qm tm, cell20_ k qm sm, cell16_ k qm sm, cell11_ k qm sm, cell10_ k qm sm, cell9_ k qm sm, cell7_ k qm sm] H := hP
            have hD : va_D A [cell22_ qm sm tm, cell5_ k qm sm, (qm 2, .inl (k 0, 26, .inl g771)), cell8_ k qm sm, cell6_ k qm sm, cell15_ k qm sm, cell14_ k qm tm, cell12_ k qm tm, cell18_ k qm tm, cell17_ k qm tm, cell19_ k qm tm, cell21_ k qm tm, cell20_ k qm sm, cell16_ k qm sm, cell11_ k qm sm, cell10_ k qm sm, cell9_ k qm sm, cell7_ k qm sm] := hD
            have s772 := updI eg771 (by decide) (show 0 ≤ 7 from by omega) 0
            have s772l : ((-9) : Int32).toInt = -9 := by decide
            have s773 := updI eg771 (by decide) (show 0 ≤ 7 from by omega) 1
            have s773l : ((-9) : Int32).toInt = -9 := by decide
            have el774 : 0 ≤ (g771 0).toInt ∧ (g771 0).toInt ≤ 5 := by omega
            have el775 : 0 ≤ (g771 1).toInt ∧ (g771 1).toInt ≤ 4 := by omega
            refine lv_aload_n hx hb dX12_without_132 rfl (lv_at hl 4 rfl) ?_
            refine lv_iconst (v := 0) hx hb dX12_without_133 (by decide) ?_
            refine g_vF (w1 := fun (u : (Nat → Int64) × (Nat → Int64) × (Nat → Int32)) => [cell22_ qm sm tm, cell5_ k qm sm, (qm 2, .inl (k 0, 26, .inl g771)), cell8_ k qm sm, cell6_ k qm sm, cell15_ k qm sm, cell14_ k qm tm, cell12_ k qm tm, cell18_ k qm tm, cell17_ k qm tm, cell130_ k qm (u.1), cell122_ k qm (u.2.1), cell123_ k qm (u.2.2), cell16_ k qm sm, cell11_ k qm sm, cell10_ k qm sm, cell9_ k qm sm, cell7_ k qm sm]) (g_runVF (ws := [cell22_ qm sm tm, cell5_ k qm sm, (qm 2, .inl (k 0, 26, .inl g771)), cell8_ k qm sm, cell6_ k qm sm, cell15_ k qm sm, cell14_ k qm tm, cell12_ k qm tm, cell18_ k qm tm, cell17_ k qm tm, cell19_ k qm tm, cell21_ k qm tm, cell20_ k qm sm, cell16_ k qm sm, cell11_ k qm sm, cell10_ k qm sm, cell9_ k qm sm, cell7_ k qm sm]) (rest := []) cx hP hD hS [.int 0] (c_X12_layBest l D k b qm (up2 sm 2 g771) tm H.size 0 (show 0 ≤ (g771 0).toInt ∧ (g771 0).toInt ≤ 5 from by first | decide | omega) (show 0 ≤ (g771 1).toInt ∧ (g771 1).toInt ≤ 4 from by first | decide | omega) (show 0 ≤ (0 : Int32).toInt ∧ (0 : Int32).toInt ≤ 4 from by first | decide | omega)) gX12_without_X12_layBest rfl rfl rfl nd_X12_layBest ⟨Nat.le_of_ble_eq_true rfl, Nat.le_of_ble_eq_true rfl⟩ (ci := 10) (q0 := 0) rfl rfl rfl hl.1 rfl (Nat.le_of_ble_eq_true rfl) ⟨Nat.zero_le _, Nat.zero_le _⟩ dX12_without_134) cx.2.2.1 hD hS (fun u777 H locs hw776 hP hD hS => ?_)
            obtain ⟨m778, m779, m780⟩ := u777
            have hP : va_P D vwCl [cell22_ qm sm tm, cell5_ k qm sm, (qm 2, .inl (k 0, 26, .inl g771)), cell8_ k qm sm, cell6_ k qm sm, cell15_ k qm sm, cell14_ k qm tm, cell12_ k qm tm, cell18_ k qm tm, cell17_ k qm tm, (qm 10, .inl (k 1, 1500, .inr (.inl m778))), (qm 11, .inl (k 1, 1500, .inr (.inl m779))), (qm 12, .inl (k 0, 1500, .inl m780)), cell16_ k qm sm, cell11_ k qm sm, cell10_ k qm sm, cell9_ k qm sm, cell7_ k qm sm] H := hP
            have hD : va_D A [cell22_ qm sm tm, cell5_ k qm sm, (qm 2, .inl (k 0, 26, .inl g771)), cell8_ k qm sm, cell6_ k qm sm, cell15_ k qm sm, cell14_ k qm tm, cell12_ k qm tm, cell18_ k qm tm, cell17_ k qm tm, (qm 10, .inl (k 1, 1500, .inr (.inl m778))), (qm 11, .inl (k 1, 1500, .inr (.inl m779))), (qm 12, .inl (k 0, 1500, .inl m780)), cell16_ k qm sm, cell11_ k qm sm, cell10_ k qm sm, cell9_ k qm sm, cell7_ k qm sm] := hD
            have w781 : (m778, m779, m780) = J_X12_layBest (up2 sm 2 g771) tm (0 : Int32) := hw776
            clear hw776
            refine lv_aload_n hx hb dX12_without_137 rfl (lv_at hl 4 rfl) ?_
            refine g_get cx hP iw_X12_without_X12 0 rfl rfl 1 (by decide) rfl fw_X12_without_13 rfl dX12_without_138 ?_
            refine lv_iconst (v := 4) hx hb dX12_without_141 (by decide) ?_
            refine lv_iload_n hx hb dX12_without_142 rfl (lv_at hl 3 rfl) ?_
            have hn783 : vp_in 4 26 := f_in (a := 4) (by decide) (by omega) (by omega)
            refine va_iast hx hb cx.2.1 hP hD hS 2 0 rfl rfl hn783 dX12_without_143 (fun H locs hP hD hS => ?_)
            obtain ⟨g784, eg784⟩ : ∃ g : Nat → Int32, g = upd g771 ((4 : Int32).toNatClampNeg) v7 := ⟨_, rfl⟩
            rw [← eg784] at hP hD
            have hP : va_P D vwCl [cell22_ qm sm tm, cell5_ k qm sm, (qm 2, .inl (k 0, 26, .inl g784)), cell8_ k qm sm, cell6_ k qm sm, cell15_ k qm sm, cell14_ k qm tm, cell12_ k qm tm, cell18_ k qm tm, cell17_ k qm tm, (qm 10, .inl (k 1, 1500, .inr (.inl m778))), (qm 11, .inl (k 1, 1500, .inr (.inl m779))), (qm 12, .inl (k 0, 1500, .inl m780)), cell16_ k qm sm, cell11_ k qm sm, cell10_ k qm sm, cell9_ k qm sm, cell7_ k qm sm] H := hP
            have hD : va_D A [cell22_ qm sm tm, cell5_ k qm sm, (qm 2, .inl (k 0, 26, .inl g784)), cell8_ k qm sm, cell6_ k qm sm, cell15_ k qm sm, cell14_ k qm tm, cell12_ k qm tm, cell18_ k qm tm, cell17_ k qm tm, (qm 10, .inl (k 1, 1500, .inr (.inl m778))), (qm 11, .inl (k 1, 1500, .inr (.inl m779))), (qm 12, .inl (k 0, 1500, .inl m780)), cell16_ k qm sm, cell11_ k qm sm, cell10_ k qm sm, cell9_ k qm sm, cell7_ k qm sm] := hD
            have s785 := updI eg784 (by decide) (show 0 ≤ 4 from by omega) 0
            have s786 := updI eg784 (by decide) (show 0 ≤ 4 from by omega) 1
            have el787 : 0 ≤ (g784 0).toInt ∧ (g784 0).toInt ≤ 5 := by omega
            have el788 : 0 ≤ (g784 1).toInt ∧ (g784 1).toInt ≤ 4 := by omega
            refine lv_aload_n hx hb dX12_without_144 rfl (lv_at hl 4 rfl) ?_
            refine g_get cx hP iw_X12_without_X12 0 rfl rfl 1 (by decide) rfl fw_X12_without_13 rfl dX12_without_145 ?_
            refine lv_iconst (v := 5) hx hb dX12_without_148 (by decide) ?_
            refine lv_iload hx hb dX12_without_149 (lv_at hl 2 rfl) ?_
            have hn789 : vp_in 5 26 := f_in (a := 5) (by decide) (by omega) (by omega)
            refine va_iast hx hb cx.2.1 hP hD hS 2 0 rfl rfl hn789 dX12_without_151 (fun H locs hP hD hS => ?_)
            obtain ⟨g790, eg790⟩ : ∃ g : Nat → Int32, g = upd g784 ((5 : Int32).toNatClampNeg) v9 := ⟨_, rfl⟩
            rw [← eg790] at hP hD
            have hP : va_P D vwCl [cell22_ qm sm tm, cell5_ k qm sm, (qm 2, .inl (k 0, 26, .inl g790)), cell8_ k qm sm, cell6_ k qm sm, cell15_ k qm sm, cell14_ k qm tm, cell12_ k qm tm, cell18_ k qm tm, cell17_ k qm tm, (qm 10, .inl (k 1, 1500, .inr (.inl m778))), (qm 11, .inl (k 1, 1500, .inr (.inl m779))), (qm 12, .inl (k 0, 1500, .inl m780)), cell16_ k qm sm, cell11_ k qm sm, cell10_ k qm sm, cell9_ k qm sm, cell7_ k qm sm] H := hP
            have hD : va_D A [cell22_ qm sm tm, cell5_ k qm sm, (qm 2, .inl (k 0, 26, .inl g790)), cell8_ k qm sm, cell6_ k qm sm, cell15_ k qm sm, cell14_ k qm tm, cell12_ k qm tm, cell18_ k qm tm, cell17_ k qm tm, (qm 10, .inl (k 1, 1500, .inr (.inl m778))), (qm 11, .inl (k 1, 1500, .inr (.inl m779))), (qm 12, .inl (k 0, 1500, .inl m780)), cell16_ k qm sm, cell11_ k qm sm, cell10_ k qm sm, cell9_ k qm sm, cell7_ k qm sm] := hD
            have s791 := updI eg790 (by decide) (show 0 ≤ 5 from by omega) 0
            have s792 := updI eg790 (by decide) (show 0 ≤ 5 from by omega) 1
            have el793 : 0 ≤ (g790 0).toInt ∧ (g790 0).toInt ≤ 5 := by omega
            have el794 : 0 ≤ (g790 1).toInt ∧ (g790 1).toInt ≤ 4 := by omega
            refine lv_aload_n hx hb dX12_without_152 rfl (lv_at hl 4 rfl) ?_
            refine g_get cx hP iw_X12_without_X12 0 rfl rfl 1 (by decide) rfl fw_X12_without_13 rfl dX12_without_153 ?_
            refine lv_bipush (v := 6) hx hb dX12_without_156 (by decide) ?_
            refine lv_iload hx hb dX12_without_158 (lv_at hl 1 rfl) ?_
            have hn795 : vp_in 6 26 := f_in (a := 6) (by decide) (by omega) (by omega)
            refine va_iast hx hb cx.2.1 hP hD hS 2 0 rfl rfl hn795 dX12_without_160 (fun H locs hP hD hS => ?_)
            obtain ⟨g796, eg796⟩ : ∃ g : Nat → Int32, g = upd g790 ((6 : Int32).toNatClampNeg) v11 := ⟨_, rfl⟩
            rw [← eg796] at hP hD
            have hP : va_P D vwCl [cell22_ qm sm tm, cell5_ k qm sm, (qm 2, .inl (k 0, 26, .inl g796)), cell8_ k qm sm, cell6_ k qm sm, cell15_ k qm sm, cell14_ k qm tm, cell12_ k qm tm, cell18_ k qm tm, cell17_ k qm tm, (qm 10, .inl (k 1, 1500, .inr (.inl m778))), (qm 11, .inl (k 1, 1500, .inr (.inl m779))), (qm 12, .inl (k 0, 1500, .inl m780)), cell16_ k qm sm, cell11_ k qm sm, cell10_ k qm sm, cell9_ k qm sm, cell7_ k qm sm] H := hP
            have hD : va_D A [cell22_ qm sm tm, cell5_ k qm sm, (qm 2, .inl (k 0, 26, .inl g796)), cell8_ k qm sm, cell6_ k qm sm, cell15_ k qm sm, cell14_ k qm tm, cell12_ k qm tm, cell18_ k qm tm, cell17_ k qm tm, (qm 10, .inl (k 1, 1500, .inr (.inl m778))), (qm 11, .inl (k 1, 1500, .inr (.inl m779))), (qm 12, .inl (k 0, 1500, .inl m780)), cell16_ k qm sm, cell11_ k qm sm, cell10_ k qm sm, cell9_ k qm sm, cell7_ k qm sm] := hD
            have s797 := updI eg796 (by decide) (show 0 ≤ 6 from by omega) 0
            have s798 := updI eg796 (by decide) (show 0 ≤ 6 from by omega) 1
            have el799 : 0 ≤ (g796 0).toInt ∧ (g796 0).toInt ≤ 5 := by omega
            have el800 : 0 ≤ (g796 1).toInt ∧ (g796 1).toInt ≤ 4 := by omega
            refine lv_aload_n hx hb dX12_without_161 rfl (lv_at hl 4 rfl) ?_
            refine g_get cx hP iw_X12_without_X12 0 rfl rfl 1 (by decide) rfl fw_X12_without_13 rfl dX12_without_162 ?_
            refine lv_bipush (v := 7) hx hb dX12_without_165 (by decide) ?_
            refine lv_iload hx hb dX12_without_167 (lv_at hl 0 rfl) ?_
            have hn801 : vp_in 7 26 := f_in (a := 7) (by decide) (by omega) (by omega)
            refine va_iast hx hb cx.2.1 hP hD hS 2 0 rfl rfl hn801 dX12_without_169 (fun H locs hP hD hS => ?_)
            obtain ⟨g802, eg802⟩ : ∃ g : Nat → Int32, g = upd g796 ((7 : Int32).toNatClampNeg) v13 := ⟨_, rfl⟩
            rw [← eg802] at hP hD
            have hP : va_P D vwCl [cell22_ qm sm tm, cell5_ k qm sm, (qm 2, .inl (k 0, 26, .inl g802)), cell8_ k qm sm, cell6_ k qm sm, cell15_ k qm sm, cell14_ k qm tm, cell12_ k qm tm, cell18_ k qm tm, cell17_ k qm tm, (qm 10, .inl (k 1, 1500, .inr (.inl m778))), (qm 11, .inl (k 1, 1500, .inr (.inl m779))), (qm 12, .inl (k 0, 1500, .inl m780)), cell16_ k qm sm, cell11_ k qm sm, cell10_ k qm sm, cell9_ k qm sm, cell7_ k qm sm] H := hP
            have hD : va_D A [cell22_ qm sm tm, cell5_ k qm sm, (qm 2, .inl (k 0, 26, .inl g802)), cell8_ k qm sm, cell6_ k qm sm, cell15_ k qm sm, cell14_ k qm tm, cell12_ k qm tm, cell18_ k qm tm, cell17_ k qm tm, (qm 10, .inl (k 1, 1500, .inr (.inl m778))), (qm 11, .inl (k 1, 1500, .inr (.inl m779))), (qm 12, .inl (k 0, 1500, .inl m780)), cell16_ k qm sm, cell11_ k qm sm, cell10_ k qm sm, cell9_ k qm sm, cell7_ k qm sm] := hD
            have s803 := updI eg802 (by decide) (show 0 ≤ 7 from by omega) 0
            have s804 := updI eg802 (by decide) (show 0 ≤ 7 from by omega) 1
            have el805 : 0 ≤ (g802 0).toInt ∧ (g802 0).toInt ≤ 5 := by omega
            have el806 : 0 ≤ (g802 1).toInt ∧ (g802 1).toInt ≤ 4 := by omega
            refine lv_aload_n hx hb dX12_without_170 rfl (lv_at hl 4 rfl) ?_
            refine g_get cx hP iw_X12_without_X12 0 rfl rfl 18 (by decide) rfl fw_X12_without_38 rfl dX12_without_171 ?_
            refine lv_iconst (v := 0) hx hb dX12_without_174 (by decide) ?_
            have hn807 : vp_in 0 1500 := f_in (a := 0) (by decide) (by omega) (by omega)
            refine va_lald hx hb cx.2.1 hP 10 1 rfl rfl hn807 dX12_without_175 (lv_topl (fun v808 e808 => ?_))
            refine lv_aload_n hx hb dX12_without_176 rfl (lv_at hl 4 rfl) ?_
            refine g_get cx hP iw_X12_without_X12 0 rfl rfl 1 (by decide) rfl fw_X12_without_13 rfl dX12_without_177 ?_
            refine lv_iconst (v := 0) hx hb dX12_without_180 (by decide) ?_
            have hn809 : vp_in 0 26 := f_in (a := 0) (by decide) (by omega) (by omega)
            refine va_iald hx hb cx.2.1 hP 2 0 rfl rfl hn809 dX12_without_181 (lv_topi (fun v810 e810 => ?_))
            have uv810 : v810.toInt = (g802 0).toInt := congrArg Int32.toInt e810
            have t810 : 0 ≤ v810.toInt ∧ v810.toInt ≤ 5 := by rw [e810]; exact el805
            refine g_lr (g_runS (wc := []) (rest := [.long v808]) cx hP hD hS [] rfl (by decide) [.int v810] (c_X12_parts l D k b H.size v810) gX12_without_X12_parts rfl rfl rfl nd_X12_parts ⟨Nat.le_of_ble_eq_true rfl, Nat.le_of_ble_eq_true rfl⟩ rfl hl.1 rfl (Nat.le_of_ble_eq_true rfl) ⟨Nat.zero_le _, Nat.zero_le _⟩ dX12_without_182) cx.2.2.1 hP hD hS [] rfl rfl (fun r812 H locs hw811 hP hS => ?_)
            replace hw811 : (r812.toInt % 2 = 1) ∧ (r812 = J_X12_parts v810) := hw811
            obtain ⟨w813, w814⟩ := hw811
            refine lv_iload_n hx hb dX12_without_185 rfl (lv_at hl 6 rfl) ?_
            refine g_lr (g_runS (wc := []) (rest := []) cx hP hD hS [] rfl (by decide) [.long v808, .long r812, .int p1] (c_X12_told l D k b H.size v808 r812 p1 (show ¬ r812.toInt = 0 from by first | decide | omega)) gX12_without_X12_told rfl rfl rfl nd_X12_told ⟨Nat.le_of_ble_eq_true rfl, Nat.le_of_ble_eq_true rfl⟩ rfl hl.1 rfl (Nat.le_of_ble_eq_true rfl) ⟨Nat.zero_le _, Nat.zero_le _⟩ dX12_without_186) cx.2.2.1 hP hD hS [] rfl rfl (fun r817 H locs hw816 hP hS => ?_)
            have w818 : r817 = J_X12_told v808 r812 p1 := hw816
            clear hw816
            rw [hQ]
            exact x_l cx hr (m778, m779, m780, g802) hP hD hS ⟨(show 0 ≤ (g802 0).toInt ∧ (g802 0).toInt ≤ 5 from by omega), (show 0 ≤ (g802 1).toInt ∧ (g802 1).toInt ≤ 4 from by omega), (show g802 = (sm 2) from rest8 eg473 eg705 eg713 eg771 eg784 eg790 eg796 eg802 e7 e9 e11 e13), (show (r817, m778, m779, m780, g802) = J_X12_without sm tm p0 p1 from (exl_X12_without_13 e1 w4 e7 e9 e11 e13 e14 eg473 e478 eg705 e710 eg713 e718 eg771 eg784 eg790 eg796 eg802 e808 e810 c5 c15 c479 c711 c719 w781 w814 w818))⟩ dX12_without_189
        · have f711 : v710.toInt = 4 := f_eq rfl (by decide) c711
          refine lv_bipush (v := (-9)) hx hb dX12_without_101 (by decide) ?_
          refine lv_goto (tgt := 108) hx hb dX12_without_103 (by decide) ?_
          have hn820 : vp_in 6 26 := f_in (a := 6) (by decide) (by omega) (by omega)
          refine va_iast hx hb cx.2.1 hP hD hS 2 0 rfl rfl hn820 dX12_without_108 (fun H locs hP hD hS => ?_)
          obtain ⟨g821, eg821⟩ : ∃ g : Nat → Int32, g = upd g705 ((6 : Int32).toNatClampNeg) (-9) := ⟨_, rfl⟩
          rw [← eg821] at hP hD
          have hP : va_P D vwCl [cell22_ qm sm tm, cell5_ k qm sm, (qm 2, .inl (k 0, 26, .inl g821)), cell8_ k qm sm, cell6_ k qm sm, cell15_ k qm sm, cell14_ k qm tm, cell12_ k qm tm, cell18_ k qm tm, cell17_ k qm tm, cell19_ k qm tm, cell21_ k qm tm, cell20_ k qm sm, cell16_ k qm sm, cell11_ k qm sm, cell10_ k qm sm, cell9_ k qm sm, cell7_ k qm sm] H := hP
          have hD : va_D A [cell22_ qm sm tm, cell5_ k qm sm, (qm 2, .inl (k 0, 26, .inl g821)), cell8_ k qm sm, cell6_ k qm sm, cell15_ k qm sm, cell14_ k qm tm, cell12_ k qm tm, cell18_ k qm tm, cell17_ k qm tm, cell19_ k qm tm, cell21_ k qm tm, cell20_ k qm sm, cell16_ k qm sm, cell11_ k qm sm, cell10_ k qm sm, cell9_ k qm sm, cell7_ k qm sm] := hD
          have s822 := updI eg821 (by decide) (show 0 ≤ 6 from by omega) 0
          have s822l : ((-9) : Int32).toInt = -9 := by decide
          have s823 := updI eg821 (by decide) (show 0 ≤ 6 from by omega) 1
          have s823l : ((-9) : Int32).toInt = -9 := by decide
          have el824 : 0 ≤ (g821 0).toInt ∧ (g821 0).toInt ≤ 5 := by omega
          have el825 : 0 ≤ (g821 1).toInt ∧ (g821 1).toInt ≤ 4 := by omega
          refine lv_aload_n hx hb dX12_without_109 rfl (lv_at hl 4 rfl) ?_
          refine g_get cx hP iw_X12_without_X12 0 rfl rfl 1 (by decide) rfl fw_X12_without_13 rfl dX12_without_110 ?_
          refine lv_bipush (v := 7) hx hb dX12_without_113 (by decide) ?_
          refine lv_iload_n hx hb dX12_without_115 rfl (lv_at hl 5 rfl) ?_
          refine lv_bipush (v := 8) hx hb dX12_without_116 (by decide) ?_
          refine lv_iand hx hb dX12_without_118 (lv_topi (fun v826 e826 => ?_))
          have t826 : 0 ≤ v826.toInt ∧ v826.toInt ≤ p0.toInt := by rw [e826]; exact and_l rfl (by omega)
          refine lv_bipush (v := 8) hx hb dX12_without_119 (by decide) ?_
          refine lv_icmp_ne (tgt := 129) hx hb dX12_without_121 (by decide) (fun c827 => ?_) (fun c827 => ?_)
          · have f827 : ¬ v826.toInt = 8 := f_ne rfl (by decide) c827
            refine lv_iload hx hb dX12_without_129 (lv_at hl 0 rfl) ?_
            have hn828 : vp_in 7 26 := f_in (a := 7) (by decide) (by omega) (by omega)
            refine va_iast hx hb cx.2.1 hP hD hS 2 0 rfl rfl hn828 dX12_without_131 (fun H locs hP hD hS => ?_)
            obtain ⟨g829, eg829⟩ : ∃ g : Nat → Int32, g = upd g821 ((7 : Int32).toNatClampNeg) v13 := ⟨_, rfl⟩
            rw [← eg829] at hP hD
            have hP : va_P D vwCl [cell22_ qm sm tm, cell5_ k qm sm, (qm 2, .inl (k 0, 26, .inl g829)), cell8_ k qm sm, cell6_ k qm sm, cell15_ k qm sm, cell14_ k qm tm, cell12_ k qm tm, cell18_ k qm tm, cell17_ k qm tm, cell19_ k qm tm, cell21_ k qm tm, cell20_ k qm sm, cell16_ k qm sm, cell11_ k qm sm, cell10_ k qm sm, cell9_ k qm sm, cell7_ k qm sm] H := hP
            have hD : va_D A [cell22_ qm sm tm, cell5_ k qm sm, (qm 2, .inl (k 0, 26, .inl g829)), cell8_ k qm sm, cell6_ k qm sm, cell15_ k qm sm, cell14_ k qm tm, cell12_ k qm tm, cell18_ k qm tm, cell17_ k qm tm, cell19_ k qm tm, cell21_ k qm tm, cell20_ k qm sm, cell16_ k qm sm, cell11_ k qm sm, cell10_ k qm sm, cell9_ k qm sm, cell7_ k qm sm] := hD
            have s830 := updI eg829 (by decide) (show 0 ≤ 7 from by omega) 0
            have s831 := updI eg829 (by decide) (show 0 ≤ 7 from by omega) 1
            have el832 : 0 ≤ (g829 0).toInt ∧ (g829 0).toInt ≤ 5 := by omega
            have el833 : 0 ≤ (g829 1).toInt ∧ (g829 1).toInt ≤ 4 := by omega
            refine lv_aload_n hx hb dX12_without_132 rfl (lv_at hl 4 rfl) ?_
            refine lv_iconst (v := 0) hx hb dX12_without_133 (by decide) ?_
            refine g_vF (w1 := fun (u : (Nat → Int64) × (Nat → Int64) × (Nat → Int32)) => [cell22_ qm sm tm, cell5_ k qm sm, (qm 2, .inl (k 0, 26, .inl g829)), cell8_ k qm sm, cell6_ k qm sm, cell15_ k qm sm, cell14_ k qm tm, cell12_ k qm tm, cell18_ k qm tm, cell17_ k qm tm, cell130_ k qm (u.1), cell122_ k qm (u.2.1), cell123_ k qm (u.2.2), cell16_ k qm sm, cell11_ k qm sm, cell10_ k qm sm, cell9_ k qm sm, cell7_ k qm sm]) (g_runVF (ws := [cell22_ qm sm tm, cell5_ k qm sm, (qm 2, .inl (k 0, 26, .inl g829)), cell8_ k qm sm, cell6_ k qm sm, cell15_ k qm sm, cell14_ k qm tm, cell12_ k qm tm, cell18_ k qm tm, cell17_ k qm tm, cell19_ k qm tm, cell21_ k qm tm, cell20_ k qm sm, cell16_ k qm sm, cell11_ k qm sm, cell10_ k qm sm, cell9_ k qm sm, cell7_ k qm sm]) (rest := []) cx hP hD hS [.int 0] (c_X12_layBest l D k b qm (up2 sm 2 g829) tm H.size 0 (show 0 ≤ (g829 0).toInt ∧ (g829 0).toInt ≤ 5 from by first | decide | omega) (show 0 ≤ (g829 1).toInt ∧ (g829 1).toInt ≤ 4 from by first | decide | omega) (show 0 ≤ (0 : Int32).toInt ∧ (0 : Int32).toInt ≤ 4 from by first | decide | omega)) gX12_without_X12_layBest rfl rfl rfl nd_X12_layBest ⟨Nat.le_of_ble_eq_true rfl, Nat.le_of_ble_eq_true rfl⟩ (ci := 10) (q0 := 0) rfl rfl rfl hl.1 rfl (Nat.le_of_ble_eq_true rfl) ⟨Nat.zero_le _, Nat.zero_le _⟩ dX12_without_134) cx.2.2.1 hD hS (fun u835 H locs hw834 hP hD hS => ?_)
            obtain ⟨m836, m837, m838⟩ := u835
            have hP : va_P D vwCl [cell22_ qm sm tm, cell5_ k qm sm, (qm 2, .inl (k 0, 26, .inl g829)), cell8_ k qm sm, cell6_ k qm sm, cell15_ k qm sm, cell14_ k qm tm, cell12_ k qm tm, cell18_ k qm tm, cell17_ k qm tm, (qm 10, .inl (k 1, 1500, .inr (.inl m836))), (qm 11, .inl (k 1, 1500, .inr (.inl m837))), (qm 12, .inl (k 0, 1500, .inl m838)), cell16_ k qm sm, cell11_ k qm sm, cell10_ k qm sm, cell9_ k qm sm, cell7_ k qm sm] H := hP
            have hD : va_D A [cell22_ qm sm tm, cell5_ k qm sm, (qm 2, .inl (k 0, 26, .inl g829)), cell8_ k qm sm, cell6_ k qm sm, cell15_ k qm sm, cell14_ k qm tm, cell12_ k qm tm, cell18_ k qm tm, cell17_ k qm tm, (qm 10, .inl (k 1, 1500, .inr (.inl m836))), (qm 11, .inl (k 1, 1500, .inr (.inl m837))), (qm 12, .inl (k 0, 1500, .inl m838)), cell16_ k qm sm, cell11_ k qm sm, cell10_ k qm sm, cell9_ k qm sm, cell7_ k qm sm] := hD
            have w839 : (m836, m837, m838) = J_X12_layBest (up2 sm 2 g829) tm (0 : Int32) := hw834
            clear hw834
            refine lv_aload_n hx hb dX12_without_137 rfl (lv_at hl 4 rfl) ?_
            refine g_get cx hP iw_X12_without_X12 0 rfl rfl 1 (by decide) rfl fw_X12_without_13 rfl dX12_without_138 ?_
            refine lv_iconst (v := 4) hx hb dX12_without_141 (by decide) ?_
            refine lv_iload_n hx hb dX12_without_142 rfl (lv_at hl 3 rfl) ?_
            have hn841 : vp_in 4 26 := f_in (a := 4) (by decide) (by omega) (by omega)
            refine va_iast hx hb cx.2.1 hP hD hS 2 0 rfl rfl hn841 dX12_without_143 (fun H locs hP hD hS => ?_)
            obtain ⟨g842, eg842⟩ : ∃ g : Nat → Int32, g = upd g829 ((4 : Int32).toNatClampNeg) v7 := ⟨_, rfl⟩
            rw [← eg842] at hP hD
            have hP : va_P D vwCl [cell22_ qm sm tm, cell5_ k qm sm, (qm 2, .inl (k 0, 26, .inl g842)), cell8_ k qm sm, cell6_ k qm sm, cell15_ k qm sm, cell14_ k qm tm, cell12_ k qm tm, cell18_ k qm tm, cell17_ k qm tm, (qm 10, .inl (k 1, 1500, .inr (.inl m836))), (qm 11, .inl (k 1, 1500, .inr (.inl m837))), (qm 12, .inl (k 0, 1500, .inl m838)), cell16_ k qm sm, cell11_ k qm sm, cell10_ k qm sm, cell9_ k qm sm, cell7_ k qm sm] H := hP
            have hD : va_D A [cell22_ qm sm tm, cell5_ k qm sm, (qm 2, .inl (k 0, 26, .inl g842)), cell8_ k qm sm, cell6_ k qm sm, cell15_ k qm sm, cell14_ k qm tm, cell12_ k qm tm, cell18_ k qm tm, cell17_ k qm tm, (qm 10, .inl (k 1, 1500, .inr (.inl m836))), (qm 11, .inl (k 1, 1500, .inr (.inl m837))), (qm 12, .inl (k 0, 1500, .inl m838)), cell16_ k qm sm, cell11_ k qm sm, cell10_ k qm sm, cell9_ k qm sm, cell7_ k qm sm] := hD
            have s843 := updI eg842 (by decide) (show 0 ≤ 4 from by omega) 0
            have s844 := updI eg842 (by decide) (show 0 ≤ 4 from by omega) 1
            have el845 : 0 ≤ (g842 0).toInt ∧ (g842 0).toInt ≤ 5 := by omega
            have el846 : 0 ≤ (g842 1).toInt ∧ (g842 1).toInt ≤ 4 := by omega
            refine lv_aload_n hx hb dX12_without_144 rfl (lv_at hl 4 rfl) ?_
            refine g_get cx hP iw_X12_without_X12 0 rfl rfl 1 (by decide) rfl fw_X12_without_13 rfl dX12_without_145 ?_
            refine lv_iconst (v := 5) hx hb dX12_without_148 (by decide) ?_
            refine lv_iload hx hb dX12_without_149 (lv_at hl 2 rfl) ?_
            have hn847 : vp_in 5 26 := f_in (a := 5) (by decide) (by omega) (by omega)
            refine va_iast hx hb cx.2.1 hP hD hS 2 0 rfl rfl hn847 dX12_without_151 (fun H locs hP hD hS => ?_)
            obtain ⟨g848, eg848⟩ : ∃ g : Nat → Int32, g = upd g842 ((5 : Int32).toNatClampNeg) v9 := ⟨_, rfl⟩
            rw [← eg848] at hP hD
            have hP : va_P D vwCl [cell22_ qm sm tm, cell5_ k qm sm, (qm 2, .inl (k 0, 26, .inl g848)), cell8_ k qm sm, cell6_ k qm sm, cell15_ k qm sm, cell14_ k qm tm, cell12_ k qm tm, cell18_ k qm tm, cell17_ k qm tm, (qm 10, .inl (k 1, 1500, .inr (.inl m836))), (qm 11, .inl (k 1, 1500, .inr (.inl m837))), (qm 12, .inl (k 0, 1500, .inl m838)), cell16_ k qm sm, cell11_ k qm sm, cell10_ k qm sm, cell9_ k qm sm, cell7_ k qm sm] H := hP
            have hD : va_D A [cell22_ qm sm tm, cell5_ k qm sm, (qm 2, .inl (k 0, 26, .inl g848)), cell8_ k qm sm, cell6_ k qm sm, cell15_ k qm sm, cell14_ k qm tm, cell12_ k qm tm, cell18_ k qm tm, cell17_ k qm tm, (qm 10, .inl (k 1, 1500, .inr (.inl m836))), (qm 11, .inl (k 1, 1500, .inr (.inl m837))), (qm 12, .inl (k 0, 1500, .inl m838)), cell16_ k qm sm, cell11_ k qm sm, cell10_ k qm sm, cell9_ k qm sm, cell7_ k qm sm] := hD
            have s849 := updI eg848 (by decide) (show 0 ≤ 5 from by omega) 0
            have s850 := updI eg848 (by decide) (show 0 ≤ 5 from by omega) 1
            have el851 : 0 ≤ (g848 0).toInt ∧ (g848 0).toInt ≤ 5 := by omega
            have el852 : 0 ≤ (g848 1).toInt ∧ (g848 1).toInt ≤ 4 := by omega
            refine lv_aload_n hx hb dX12_without_152 rfl (lv_at hl 4 rfl) ?_
            refine g_get cx hP iw_X12_without_X12 0 rfl rfl 1 (by decide) rfl fw_X12_without_13 rfl dX12_without_153 ?_
            refine lv_bipush (v := 6) hx hb dX12_without_156 (by decide) ?_
            refine lv_iload hx hb dX12_without_158 (lv_at hl 1 rfl) ?_
            have hn853 : vp_in 6 26 := f_in (a := 6) (by decide) (by omega) (by omega)
            refine va_iast hx hb cx.2.1 hP hD hS 2 0 rfl rfl hn853 dX12_without_160 (fun H locs hP hD hS => ?_)
            obtain ⟨g854, eg854⟩ : ∃ g : Nat → Int32, g = upd g848 ((6 : Int32).toNatClampNeg) v11 := ⟨_, rfl⟩
            rw [← eg854] at hP hD
            have hP : va_P D vwCl [cell22_ qm sm tm, cell5_ k qm sm, (qm 2, .inl (k 0, 26, .inl g854)), cell8_ k qm sm, cell6_ k qm sm, cell15_ k qm sm, cell14_ k qm tm, cell12_ k qm tm, cell18_ k qm tm, cell17_ k qm tm, (qm 10, .inl (k 1, 1500, .inr (.inl m836))), (qm 11, .inl (k 1, 1500, .inr (.inl m837))), (qm 12, .inl (k 0, 1500, .inl m838)), cell16_ k qm sm, cell11_ k qm sm, cell10_ k qm sm, cell9_ k qm sm, cell7_ k qm sm] H := hP
            have hD : va_D A [cell22_ qm sm tm, cell5_ k qm sm, (qm 2, .inl (k 0, 26, .inl g854)), cell8_ k qm sm, cell6_ k qm sm, cell15_ k qm sm, cell14_ k qm tm, cell12_ k qm tm, cell18_ k qm tm, cell17_ k qm tm, (qm 10, .inl (k 1, 1500, .inr (.inl m836))), (qm 11, .inl (k 1, 1500, .inr (.inl m837))), (qm 12, .inl (k 0, 1500, .inl m838)), cell16_ k qm sm, cell11_ k qm sm, cell10_ k qm sm, cell9_ k qm sm, cell7_ k qm sm] := hD
            have s855 := updI eg854 (by decide) (show 0 ≤ 6 from by omega) 0
            have s856 := updI eg854 (by decide) (show 0 ≤ 6 from by omega) 1
            have el857 : 0 ≤ (g854 0).toInt ∧ (g854 0).toInt ≤ 5 := by omega
            have el858 : 0 ≤ (g854 1).toInt ∧ (g854 1).toInt ≤ 4 := by omega
            refine lv_aload_n hx hb dX12_without_161 rfl (lv_at hl 4 rfl) ?_
            refine g_get cx hP iw_X12_without_X12 0 rfl rfl 1 (by decide) rfl fw_X12_without_13 rfl dX12_without_162 ?_
            refine lv_bipush (v := 7) hx hb dX12_without_165 (by decide) ?_
            refine lv_iload hx hb dX12_without_167 (lv_at hl 0 rfl) ?_
            have hn859 : vp_in 7 26 := f_in (a := 7) (by decide) (by omega) (by omega)
            refine va_iast hx hb cx.2.1 hP hD hS 2 0 rfl rfl hn859 dX12_without_169 (fun H locs hP hD hS => ?_)
            obtain ⟨g860, eg860⟩ : ∃ g : Nat → Int32, g = upd g854 ((7 : Int32).toNatClampNeg) v13 := ⟨_, rfl⟩
            rw [← eg860] at hP hD
            have hP : va_P D vwCl [cell22_ qm sm tm, cell5_ k qm sm, (qm 2, .inl (k 0, 26, .inl g860)), cell8_ k qm sm, cell6_ k qm sm, cell15_ k qm sm, cell14_ k qm tm, cell12_ k qm tm, cell18_ k qm tm, cell17_ k qm tm, (qm 10, .inl (k 1, 1500, .inr (.inl m836))), (qm 11, .inl (k 1, 1500, .inr (.inl m837))), (qm 12, .inl (k 0, 1500, .inl m838)), cell16_ k qm sm, cell11_ k qm sm, cell10_ k qm sm, cell9_ k qm sm, cell7_ k qm sm] H := hP
            have hD : va_D A [cell22_ qm sm tm, cell5_ k qm sm, (qm 2, .inl (k 0, 26, .inl g860)), cell8_ k qm sm, cell6_ k qm sm, cell15_ k qm sm, cell14_ k qm tm, cell12_ k qm tm, cell18_ k qm tm, cell17_ k qm tm, (qm 10, .inl (k 1, 1500, .inr (.inl m836))), (qm 11, .inl (k 1, 1500, .inr (.inl m837))), (qm 12, .inl (k 0, 1500, .inl m838)), cell16_ k qm sm, cell11_ k qm sm, cell10_ k qm sm, cell9_ k qm sm, cell7_ k qm sm] := hD
            have s861 := updI eg860 (by decide) (show 0 ≤ 7 from by omega) 0
            have s862 := updI eg860 (by decide) (show 0 ≤ 7 from by omega) 1
            have el863 : 0 ≤ (g860 0).toInt ∧ (g860 0).toInt ≤ 5 := by omega
            have el864 : 0 ≤ (g860 1).toInt ∧ (g860 1).toInt ≤ 4 := by omega
            refine lv_aload_n hx hb dX12_without_170 rfl (lv_at hl 4 rfl) ?_
            refine g_get cx hP iw_X12_without_X12 0 rfl rfl 18 (by decide) rfl fw_X12_without_38 rfl dX12_without_171 ?_
            refine lv_iconst (v := 0) hx hb dX12_without_174 (by decide) ?_
            have hn865 : vp_in 0 1500 := f_in (a := 0) (by decide) (by omega) (by omega)
            refine va_lald hx hb cx.2.1 hP 10 1 rfl rfl hn865 dX12_without_175 (lv_topl (fun v866 e866 => ?_))
            refine lv_aload_n hx hb dX12_without_176 rfl (lv_at hl 4 rfl) ?_
            refine g_get cx hP iw_X12_without_X12 0 rfl rfl 1 (by decide) rfl fw_X12_without_13 rfl dX12_without_177 ?_
            refine lv_iconst (v := 0) hx hb dX12_without_180 (by decide) ?_
            have hn867 : vp_in 0 26 := f_in (a := 0) (by decide) (by omega) (by omega)
            refine va_iald hx hb cx.2.1 hP 2 0 rfl rfl hn867 dX12_without_181 (lv_topi (fun v868 e868 => ?_))
            have uv868 : v868.toInt = (g860 0).toInt := congrArg Int32.toInt e868
            have t868 : 0 ≤ v868.toInt ∧ v868.toInt ≤ 5 := by rw [e868]; exact el863
            refine g_lr (g_runS (wc := []) (rest := [.long v866]) cx hP hD hS [] rfl (by decide) [.int v868] (c_X12_parts l D k b H.size v868) gX12_without_X12_parts rfl rfl rfl nd_X12_parts ⟨Nat.le_of_ble_eq_true rfl, Nat.le_of_ble_eq_true rfl⟩ rfl hl.1 rfl (Nat.le_of_ble_eq_true rfl) ⟨Nat.zero_le _, Nat.zero_le _⟩ dX12_without_182) cx.2.2.1 hP hD hS [] rfl rfl (fun r870 H locs hw869 hP hS => ?_)
            replace hw869 : (r870.toInt % 2 = 1) ∧ (r870 = J_X12_parts v868) := hw869
            obtain ⟨w871, w872⟩ := hw869
            refine lv_iload_n hx hb dX12_without_185 rfl (lv_at hl 6 rfl) ?_
            refine g_lr (g_runS (wc := []) (rest := []) cx hP hD hS [] rfl (by decide) [.long v866, .long r870, .int p1] (c_X12_told l D k b H.size v866 r870 p1 (show ¬ r870.toInt = 0 from by first | decide | omega)) gX12_without_X12_told rfl rfl rfl nd_X12_told ⟨Nat.le_of_ble_eq_true rfl, Nat.le_of_ble_eq_true rfl⟩ rfl hl.1 rfl (Nat.le_of_ble_eq_true rfl) ⟨Nat.zero_le _, Nat.zero_le _⟩ dX12_without_186) cx.2.2.1 hP hD hS [] rfl rfl (fun r875 H locs hw874 hP hS => ?_)
            have w876 : r875 = J_X12_told v866 r870 p1 := hw874
            clear hw874
            rw [hQ]
            exact x_l cx hr (m836, m837, m838, g860) hP hD hS ⟨(show 0 ≤ (g860 0).toInt ∧ (g860 0).toInt ≤ 5 from by omega), (show 0 ≤ (g860 1).toInt ∧ (g860 1).toInt ≤ 4 from by omega), (show g860 = (sm 2) from rest8 eg473 eg705 eg821 eg829 eg842 eg848 eg854 eg860 e7 e9 e11 e13), (show (r875, m836, m837, m838, g860) = J_X12_without sm tm p0 p1 from (exl_X12_without_14 e1 w4 e7 e9 e11 e13 e14 eg473 e478 eg705 e710 eg821 e826 eg829 eg842 eg848 eg854 eg860 e866 e868 c5 c15 c479 c711 c827 w839 w872 w876))⟩ dX12_without_189
          · have f827 : v826.toInt = 8 := f_eq rfl (by decide) c827
            refine lv_bipush (v := (-9)) hx hb dX12_without_124 (by decide) ?_
            refine lv_goto (tgt := 131) hx hb dX12_without_126 (by decide) ?_
            have hn878 : vp_in 7 26 := f_in (a := 7) (by decide) (by omega) (by omega)
            refine va_iast hx hb cx.2.1 hP hD hS 2 0 rfl rfl hn878 dX12_without_131 (fun H locs hP hD hS => ?_)
            obtain ⟨g879, eg879⟩ : ∃ g : Nat → Int32, g = upd g821 ((7 : Int32).toNatClampNeg) (-9) := ⟨_, rfl⟩
            rw [← eg879] at hP hD
            have hP : va_P D vwCl [cell22_ qm sm tm, cell5_ k qm sm, (qm 2, .inl (k 0, 26, .inl g879)), cell8_ k qm sm, cell6_ k qm sm, cell15_ k qm sm, cell14_ k qm tm, cell12_ k qm tm, cell18_ k qm tm, cell17_ k qm tm, cell19_ k qm tm, cell21_ k qm tm, cell20_ k qm sm, cell16_ k qm sm, cell11_ k qm sm, cell10_ k qm sm, cell9_ k qm sm, cell7_ k qm sm] H := hP
            have hD : va_D A [cell22_ qm sm tm, cell5_ k qm sm, (qm 2, .inl (k 0, 26, .inl g879)), cell8_ k qm sm, cell6_ k qm sm, cell15_ k qm sm, cell14_ k qm tm, cell12_ k qm tm, cell18_ k qm tm, cell17_ k qm tm, cell19_ k qm tm, cell21_ k qm tm, cell20_ k qm sm, cell16_ k qm sm, cell11_ k qm sm, cell10_ k qm sm, cell9_ k qm sm, cell7_ k qm sm] := hD
            have s880 := updI eg879 (by decide) (show 0 ≤ 7 from by omega) 0
            have s880l : ((-9) : Int32).toInt = -9 := by decide
            have s881 := updI eg879 (by decide) (show 0 ≤ 7 from by omega) 1
            have s881l : ((-9) : Int32).toInt = -9 := by decide
            have el882 : 0 ≤ (g879 0).toInt ∧ (g879 0).toInt ≤ 5 := by omega
            have el883 : 0 ≤ (g879 1).toInt ∧ (g879 1).toInt ≤ 4 := by omega
            refine lv_aload_n hx hb dX12_without_132 rfl (lv_at hl 4 rfl) ?_
            refine lv_iconst (v := 0) hx hb dX12_without_133 (by decide) ?_
            refine g_vF (w1 := fun (u : (Nat → Int64) × (Nat → Int64) × (Nat → Int32)) => [cell22_ qm sm tm, cell5_ k qm sm, (qm 2, .inl (k 0, 26, .inl g879)), cell8_ k qm sm, cell6_ k qm sm, cell15_ k qm sm, cell14_ k qm tm, cell12_ k qm tm, cell18_ k qm tm, cell17_ k qm tm, cell130_ k qm (u.1), cell122_ k qm (u.2.1), cell123_ k qm (u.2.2), cell16_ k qm sm, cell11_ k qm sm, cell10_ k qm sm, cell9_ k qm sm, cell7_ k qm sm]) (g_runVF (ws := [cell22_ qm sm tm, cell5_ k qm sm, (qm 2, .inl (k 0, 26, .inl g879)), cell8_ k qm sm, cell6_ k qm sm, cell15_ k qm sm, cell14_ k qm tm, cell12_ k qm tm, cell18_ k qm tm, cell17_ k qm tm, cell19_ k qm tm, cell21_ k qm tm, cell20_ k qm sm, cell16_ k qm sm, cell11_ k qm sm, cell10_ k qm sm, cell9_ k qm sm, cell7_ k qm sm]) (rest := []) cx hP hD hS [.int 0] (c_X12_layBest l D k b qm (up2 sm 2 g879) tm H.size 0 (show 0 ≤ (g879 0).toInt ∧ (g879 0).toInt ≤ 5 from by first | decide | omega) (show 0 ≤ (g879 1).toInt ∧ (g879 1).toInt ≤ 4 from by first | decide | omega) (show 0 ≤ (0 : Int32).toInt ∧ (0 : Int32).toInt ≤ 4 from by first | decide | omega)) gX12_without_X12_layBest rfl rfl rfl nd_X12_layBest ⟨Nat.le_of_ble_eq_true rfl, Nat.le_of_ble_eq_true rfl⟩ (ci := 10) (q0 := 0) rfl rfl rfl hl.1 rfl (Nat.le_of_ble_eq_true rfl) ⟨Nat.zero_le _, Nat.zero_le _⟩ dX12_without_134) cx.2.2.1 hD hS (fun u885 H locs hw884 hP hD hS => ?_)
            obtain ⟨m886, m887, m888⟩ := u885
            have hP : va_P D vwCl [cell22_ qm sm tm, cell5_ k qm sm, (qm 2, .inl (k 0, 26, .inl g879)), cell8_ k qm sm, cell6_ k qm sm, cell15_ k qm sm, cell14_ k qm tm, cell12_ k qm tm, cell18_ k qm tm, cell17_ k qm tm, (qm 10, .inl (k 1, 1500, .inr (.inl m886))), (qm 11, .inl (k 1, 1500, .inr (.inl m887))), (qm 12, .inl (k 0, 1500, .inl m888)), cell16_ k qm sm, cell11_ k qm sm, cell10_ k qm sm, cell9_ k qm sm, cell7_ k qm sm] H := hP
            have hD : va_D A [cell22_ qm sm tm, cell5_ k qm sm, (qm 2, .inl (k 0, 26, .inl g879)), cell8_ k qm sm, cell6_ k qm sm, cell15_ k qm sm, cell14_ k qm tm, cell12_ k qm tm, cell18_ k qm tm, cell17_ k qm tm, (qm 10, .inl (k 1, 1500, .inr (.inl m886))), (qm 11, .inl (k 1, 1500, .inr (.inl m887))), (qm 12, .inl (k 0, 1500, .inl m888)), cell16_ k qm sm, cell11_ k qm sm, cell10_ k qm sm, cell9_ k qm sm, cell7_ k qm sm] := hD
            have w889 : (m886, m887, m888) = J_X12_layBest (up2 sm 2 g879) tm (0 : Int32) := hw884
            clear hw884
            refine lv_aload_n hx hb dX12_without_137 rfl (lv_at hl 4 rfl) ?_
            refine g_get cx hP iw_X12_without_X12 0 rfl rfl 1 (by decide) rfl fw_X12_without_13 rfl dX12_without_138 ?_
            refine lv_iconst (v := 4) hx hb dX12_without_141 (by decide) ?_
            refine lv_iload_n hx hb dX12_without_142 rfl (lv_at hl 3 rfl) ?_
            have hn891 : vp_in 4 26 := f_in (a := 4) (by decide) (by omega) (by omega)
            refine va_iast hx hb cx.2.1 hP hD hS 2 0 rfl rfl hn891 dX12_without_143 (fun H locs hP hD hS => ?_)
            obtain ⟨g892, eg892⟩ : ∃ g : Nat → Int32, g = upd g879 ((4 : Int32).toNatClampNeg) v7 := ⟨_, rfl⟩
            rw [← eg892] at hP hD
            have hP : va_P D vwCl [cell22_ qm sm tm, cell5_ k qm sm, (qm 2, .inl (k 0, 26, .inl g892)), cell8_ k qm sm, cell6_ k qm sm, cell15_ k qm sm, cell14_ k qm tm, cell12_ k qm tm, cell18_ k qm tm, cell17_ k qm tm, (qm 10, .inl (k 1, 1500, .inr (.inl m886))), (qm 11, .inl (k 1, 1500, .inr (.inl m887))), (qm 12, .inl (k 0, 1500, .inl m888)), cell16_ k qm sm, cell11_ k qm sm, cell10_ k qm sm, cell9_ k qm sm, cell7_ k qm sm] H := hP
            have hD : va_D A [cell22_ qm sm tm, cell5_ k qm sm, (qm 2, .inl (k 0, 26, .inl g892)), cell8_ k qm sm, cell6_ k qm sm, cell15_ k qm sm, cell14_ k qm tm, cell12_ k qm tm, cell18_ k qm tm, cell17_ k qm tm, (qm 10, .inl (k 1, 1500, .inr (.inl m886))), (qm 11, .inl (k 1, 1500, .inr (.inl m887))), (qm 12, .inl (k 0, 1500, .inl m888)), cell16_ k qm sm, cell11_ k qm sm, cell10_ k qm sm, cell9_ k qm sm, cell7_ k qm sm] := hD
            have s893 := updI eg892 (by decide) (show 0 ≤ 4 from by omega) 0
            have s894 := updI eg892 (by decide) (show 0 ≤ 4 from by omega) 1
            have el895 : 0 ≤ (g892 0).toInt ∧ (g892 0).toInt ≤ 5 := by omega
            have el896 : 0 ≤ (g892 1).toInt ∧ (g892 1).toInt ≤ 4 := by omega
            refine lv_aload_n hx hb dX12_without_144 rfl (lv_at hl 4 rfl) ?_
            refine g_get cx hP iw_X12_without_X12 0 rfl rfl 1 (by decide) rfl fw_X12_without_13 rfl dX12_without_145 ?_
            refine lv_iconst (v := 5) hx hb dX12_without_148 (by decide) ?_
            refine lv_iload hx hb dX12_without_149 (lv_at hl 2 rfl) ?_
            have hn897 : vp_in 5 26 := f_in (a := 5) (by decide) (by omega) (by omega)
            refine va_iast hx hb cx.2.1 hP hD hS 2 0 rfl rfl hn897 dX12_without_151 (fun H locs hP hD hS => ?_)
            obtain ⟨g898, eg898⟩ : ∃ g : Nat → Int32, g = upd g892 ((5 : Int32).toNatClampNeg) v9 := ⟨_, rfl⟩
            rw [← eg898] at hP hD
            have hP : va_P D vwCl [cell22_ qm sm tm, cell5_ k qm sm, (qm 2, .inl (k 0, 26, .inl g898)), cell8_ k qm sm, cell6_ k qm sm, cell15_ k qm sm, cell14_ k qm tm, cell12_ k qm tm, cell18_ k qm tm, cell17_ k qm tm, (qm 10, .inl (k 1, 1500, .inr (.inl m886))), (qm 11, .inl (k 1, 1500, .inr (.inl m887))), (qm 12, .inl (k 0, 1500, .inl m888)), cell16_ k qm sm, cell11_ k qm sm, cell10_ k qm sm, cell9_ k qm sm, cell7_ k qm sm] H := hP
            have hD : va_D A [cell22_ qm sm tm, cell5_ k qm sm, (qm 2, .inl (k 0, 26, .inl g898)), cell8_ k qm sm, cell6_ k qm sm, cell15_ k qm sm, cell14_ k qm tm, cell12_ k qm tm, cell18_ k qm tm, cell17_ k qm tm, (qm 10, .inl (k 1, 1500, .inr (.inl m886))), (qm 11, .inl (k 1, 1500, .inr (.inl m887))), (qm 12, .inl (k 0, 1500, .inl m888)), cell16_ k qm sm, cell11_ k qm sm, cell10_ k qm sm, cell9_ k qm sm, cell7_ k qm sm] := hD
            have s899 := updI eg898 (by decide) (show 0 ≤ 5 from by omega) 0
            have s900 := updI eg898 (by decide) (show 0 ≤ 5 from by omega) 1
            have el901 : 0 ≤ (g898 0).toInt ∧ (g898 0).toInt ≤ 5 := by omega
            have el902 : 0 ≤ (g898 1).toInt ∧ (g898 1).toInt ≤ 4 := by omega
            refine lv_aload_n hx hb dX12_without_152 rfl (lv_at hl 4 rfl) ?_
            refine g_get cx hP iw_X12_without_X12 0 rfl rfl 1 (by decide) rfl fw_X12_without_13 rfl dX12_without_153 ?_
            refine lv_bipush (v := 6) hx hb dX12_without_156 (by decide) ?_
            refine lv_iload hx hb dX12_without_158 (lv_at hl 1 rfl) ?_
            have hn903 : vp_in 6 26 := f_in (a := 6) (by decide) (by omega) (by omega)
            refine va_iast hx hb cx.2.1 hP hD hS 2 0 rfl rfl hn903 dX12_without_160 (fun H locs hP hD hS => ?_)
            obtain ⟨g904, eg904⟩ : ∃ g : Nat → Int32, g = upd g898 ((6 : Int32).toNatClampNeg) v11 := ⟨_, rfl⟩
            rw [← eg904] at hP hD
            have hP : va_P D vwCl [cell22_ qm sm tm, cell5_ k qm sm, (qm 2, .inl (k 0, 26, .inl g904)), cell8_ k qm sm, cell6_ k qm sm, cell15_ k qm sm, cell14_ k qm tm, cell12_ k qm tm, cell18_ k qm tm, cell17_ k qm tm, (qm 10, .inl (k 1, 1500, .inr (.inl m886))), (qm 11, .inl (k 1, 1500, .inr (.inl m887))), (qm 12, .inl (k 0, 1500, .inl m888)), cell16_ k qm sm, cell11_ k qm sm, cell10_ k qm sm, cell9_ k qm sm, cell7_ k qm sm] H := hP
            have hD : va_D A [cell22_ qm sm tm, cell5_ k qm sm, (qm 2, .inl (k 0, 26, .inl g904)), cell8_ k qm sm, cell6_ k qm sm, cell15_ k qm sm, cell14_ k qm tm, cell12_ k qm tm, cell18_ k qm tm, cell17_ k qm tm, (qm 10, .inl (k 1, 1500, .inr (.inl m886))), (qm 11, .inl (k 1, 1500, .inr (.inl m887))), (qm 12, .inl (k 0, 1500, .inl m888)), cell16_ k qm sm, cell11_ k qm sm, cell10_ k qm sm, cell9_ k qm sm, cell7_ k qm sm] := hD
            have s905 := updI eg904 (by decide) (show 0 ≤ 6 from by omega) 0
            have s906 := updI eg904 (by decide) (show 0 ≤ 6 from by omega) 1
            have el907 : 0 ≤ (g904 0).toInt ∧ (g904 0).toInt ≤ 5 := by omega
            have el908 : 0 ≤ (g904 1).toInt ∧ (g904 1).toInt ≤ 4 := by omega
            refine lv_aload_n hx hb dX12_without_161 rfl (lv_at hl 4 rfl) ?_
            refine g_get cx hP iw_X12_without_X12 0 rfl rfl 1 (by decide) rfl fw_X12_without_13 rfl dX12_without_162 ?_
            refine lv_bipush (v := 7) hx hb dX12_without_165 (by decide) ?_
            refine lv_iload hx hb dX12_without_167 (lv_at hl 0 rfl) ?_
            have hn909 : vp_in 7 26 := f_in (a := 7) (by decide) (by omega) (by omega)
            refine va_iast hx hb cx.2.1 hP hD hS 2 0 rfl rfl hn909 dX12_without_169 (fun H locs hP hD hS => ?_)
            obtain ⟨g910, eg910⟩ : ∃ g : Nat → Int32, g = upd g904 ((7 : Int32).toNatClampNeg) v13 := ⟨_, rfl⟩
            rw [← eg910] at hP hD
            have hP : va_P D vwCl [cell22_ qm sm tm, cell5_ k qm sm, (qm 2, .inl (k 0, 26, .inl g910)), cell8_ k qm sm, cell6_ k qm sm, cell15_ k qm sm, cell14_ k qm tm, cell12_ k qm tm, cell18_ k qm tm, cell17_ k qm tm, (qm 10, .inl (k 1, 1500, .inr (.inl m886))), (qm 11, .inl (k 1, 1500, .inr (.inl m887))), (qm 12, .inl (k 0, 1500, .inl m888)), cell16_ k qm sm, cell11_ k qm sm, cell10_ k qm sm, cell9_ k qm sm, cell7_ k qm sm] H := hP
            have hD : va_D A [cell22_ qm sm tm, cell5_ k qm sm, (qm 2, .inl (k 0, 26, .inl g910)), cell8_ k qm sm, cell6_ k qm sm, cell15_ k qm sm, cell14_ k qm tm, cell12_ k qm tm, cell18_ k qm tm, cell17_ k qm tm, (qm 10, .inl (k 1, 1500, .inr (.inl m886))), (qm 11, .inl (k 1, 1500, .inr (.inl m887))), (qm 12, .inl (k 0, 1500, .inl m888)), cell16_ k qm sm, cell11_ k qm sm, cell10_ k qm sm, cell9_ k qm sm, cell7_ k qm sm] := hD
            have s911 := updI eg910 (by decide) (show 0 ≤ 7 from by omega) 0
            have s912 := updI eg910 (by decide) (show 0 ≤ 7 from by omega) 1
            have el913 : 0 ≤ (g910 0).toInt ∧ (g910 0).toInt ≤ 5 := by omega
            have el914 : 0 ≤ (g910 1).toInt ∧ (g910 1).toInt ≤ 4 := by omega
            refine lv_aload_n hx hb dX12_without_170 rfl (lv_at hl 4 rfl) ?_
            refine g_get cx hP iw_X12_without_X12 0 rfl rfl 18 (by decide) rfl fw_X12_without_38 rfl dX12_without_171 ?_
            refine lv_iconst (v := 0) hx hb dX12_without_174 (by decide) ?_
            have hn915 : vp_in 0 1500 := f_in (a := 0) (by decide) (by omega) (by omega)
            refine va_lald hx hb cx.2.1 hP 10 1 rfl rfl hn915 dX12_without_175 (lv_topl (fun v916 e916 => ?_))
            refine lv_aload_n hx hb dX12_without_176 rfl (lv_at hl 4 rfl) ?_
            refine g_get cx hP iw_X12_without_X12 0 rfl rfl 1 (by decide) rfl fw_X12_without_13 rfl dX12_without_177 ?_
            refine lv_iconst (v := 0) hx hb dX12_without_180 (by decide) ?_
            have hn917 : vp_in 0 26 := f_in (a := 0) (by decide) (by omega) (by omega)
            refine va_iald hx hb cx.2.1 hP 2 0 rfl rfl hn917 dX12_without_181 (lv_topi (fun v918 e918 => ?_))
            have uv918 : v918.toInt = (g910 0).toInt := congrArg Int32.toInt e918
            have t918 : 0 ≤ v918.toInt ∧ v918.toInt ≤ 5 := by rw [e918]; exact el913
            refine g_lr (g_runS (wc := []) (rest := [.long v916]) cx hP hD hS [] rfl (by decide) [.int v918] (c_X12_parts l D k b H.size v918) gX12_without_X12_parts rfl rfl rfl nd_X12_parts ⟨Nat.le_of_ble_eq_true rfl, Nat.le_of_ble_eq_true rfl⟩ rfl hl.1 rfl (Nat.le_of_ble_eq_true rfl) ⟨Nat.zero_le _, Nat.zero_le _⟩ dX12_without_182) cx.2.2.1 hP hD hS [] rfl rfl (fun r920 H locs hw919 hP hS => ?_)
            replace hw919 : (r920.toInt % 2 = 1) ∧ (r920 = J_X12_parts v918) := hw919
            obtain ⟨w921, w922⟩ := hw919
            refine lv_iload_n hx hb dX12_without_185 rfl (lv_at hl 6 rfl) ?_
            refine g_lr (g_runS (wc := []) (rest := []) cx hP hD hS [] rfl (by decide) [.long v916, .long r920, .int p1] (c_X12_told l D k b H.size v916 r920 p1 (show ¬ r920.toInt = 0 from by first | decide | omega)) gX12_without_X12_told rfl rfl rfl nd_X12_told ⟨Nat.le_of_ble_eq_true rfl, Nat.le_of_ble_eq_true rfl⟩ rfl hl.1 rfl (Nat.le_of_ble_eq_true rfl) ⟨Nat.zero_le _, Nat.zero_le _⟩ dX12_without_186) cx.2.2.1 hP hD hS [] rfl rfl (fun r925 H locs hw924 hP hS => ?_)
            have w926 : r925 = J_X12_told v916 r920 p1 := hw924
            clear hw924
            rw [hQ]
            exact x_l cx hr (m886, m887, m888, g910) hP hD hS ⟨(show 0 ≤ (g910 0).toInt ∧ (g910 0).toInt ≤ 5 from by omega), (show 0 ≤ (g910 1).toInt ∧ (g910 1).toInt ≤ 4 from by omega), (show g910 = (sm 2) from rest8 eg473 eg705 eg821 eg879 eg892 eg898 eg904 eg910 e7 e9 e11 e13), (show (r925, m886, m887, m888, g910) = J_X12_without sm tm p0 p1 from (exl_X12_without_15 e1 w4 e7 e9 e11 e13 e14 eg473 e478 eg705 e710 eg821 e826 eg879 eg892 eg898 eg904 eg910 e916 e918 c5 c15 c479 c711 c827 w889 w922 w926))⟩ dX12_without_189
  · have f5 : r3.toInt = 0 := f_eq rfl (by decide) c5
    have k5 : p0.toInt < 0 ∨ 15 < p0.toInt := in_f (i2l_t rfl e1) (by decide) (by decide) w4 c5
    refine lv_ldc2 (v := (-2)) hx hb cx.1.2.2.2.1 (cx.1.2.2.2.2 _ kJ_X12_without_206) dX12_without_12 ?_
    rw [hQ]
    exact x_l cx hr ((tm 10), (tm 11), (sm 12), (sm 2)) hP hD hS ⟨(show 0 ≤ ((sm 2) 0).toInt ∧ ((sm 2) 0).toInt ≤ 5 from by omega), (show 0 ≤ ((sm 2) 1).toInt ∧ ((sm 2) 1).toInt ≤ 4 from by omega), (show (sm 2) = (sm 2) from rfl), (show (((-2) : Int64), (tm 10), (tm 11), (sm 12), (sm 2)) = J_X12_without sm tm p0 p1 from (exl_X12_without_16 e1 w4 c5))⟩ dX12_without_15
