theorem fw_X12_isComing_13 : Cond.fieldLink RX12 13 "StillInAugustModel" "house" "[I" ∈ wsX12_isComing := by decide +kernel
theorem kJ_X12_isComing_146 : Cond.constantLong RX12 146 (2) ∈ wsX12_isComing := by decide +kernel
theorem iw_X12_isComing_X12 : ∀ w ∈ u_ws RX12 TX12 33, w ∈ wsX12_isComing := fun _ h => List.mem_cons_of_mem _ (List.mem_append_right _ h)
def J_X12_isComing (sm : Nat → Nat → Int32) (tm : Nat → Nat → Int64) (p0 : Int32) : Int32 := if ((sm 2) (6 : Int32).toNatClampNeg) = (-9) then (J_X12_in (p0.toInt64) 0 0) else (J_X12_in (p0.toInt64) 0 2)
set_option maxHeartbeats 4000000 in
set_option maxRecDepth 100000 in
theorem c_X12_isComing (l : Launch) (D : va_G) (k : Nat → ClassId) (b : Nat → Nat) (qm : Nat → Nat) (sm : Nat → Nat → Int32) (tm : Nat → Nat → Int64) (sz : Nat) (p0 : Int32) : MetI l D k b yX12_isComing wsX12_isComing ({ frames := 1, cells := 0, slots := 0, locals := 25 } : Room) [cell22_ qm sm tm, cell5_ k qm sm, cell13_ k qm sm, cell8_ k qm sm, cell6_ k qm sm, cell14_ k qm sm, cell15_ k qm tm, cell12_ k qm tm, cell18_ k qm tm, cell17_ k qm tm, cell19_ k qm tm, cell21_ k qm tm, cell20_ k qm sm, cell16_ k qm sm, cell11_ k qm sm, cell10_ k qm sm, cell9_ k qm sm, cell7_ k qm sm] sz [.ref (qm 0), .int p0] (fun (r : Int32) (u : Unit) => (0 ≤ r.toInt ∧ r.toInt ≤ 1) ∧ (Imp (r.toInt = 1) (0 ≤ p0.toInt ∧ p0.toInt ≤ 2)) ∧ (r = J_X12_isComing sm tm p0)) (fun u => [cell22_ qm sm tm, cell5_ k qm sm, cell13_ k qm sm, cell8_ k qm sm, cell6_ k qm sm, cell14_ k qm sm, cell15_ k qm tm, cell12_ k qm tm, cell18_ k qm tm, cell17_ k qm tm, cell19_ k qm tm, cell21_ k qm tm, cell20_ k qm sm, cell16_ k qm sm, cell11_ k qm sm, cell10_ k qm sm, cell9_ k qm sm, cell7_ k qm sm]) := by
  refine g_enter (cc := cX12_isComing) (maxL := 2) (ret := (some .boolean)) (by decide) rfl (Nat.le_of_ble_eq_true rfl) ?_
  intro p e s m below meth c A hsz hAe cx hr hP hD hS ls hl
  rw [hAe]
  refine g_q (fun Q hQ => ?_)
  have hx := cx.1.1
  have hb := cx.1.2.1
  have bp0 := i_rng p0
  have hl : lv_has ls 2 [(0, .ref (qm 0)), (1, .int p0)] := hl
  obtain ⟨H, eH⟩ : ∃ H : Heap, H = s.heap := ⟨_, rfl⟩
  obtain ⟨locs, el⟩ : ∃ L : List Loc, L = [] := ⟨_, rfl⟩
  have hP : va_P D vwCl [cell22_ qm sm tm, cell5_ k qm sm, cell13_ k qm sm, cell8_ k qm sm, cell6_ k qm sm, cell14_ k qm sm, cell15_ k qm tm, cell12_ k qm tm, cell18_ k qm tm, cell17_ k qm tm, cell19_ k qm tm, cell21_ k qm tm, cell20_ k qm sm, cell16_ k qm sm, cell11_ k qm sm, cell10_ k qm sm, cell9_ k qm sm, cell7_ k qm sm] H := by rw [eH]; exact hP
  have hD : va_D A [cell22_ qm sm tm, cell5_ k qm sm, cell13_ k qm sm, cell8_ k qm sm, cell6_ k qm sm, cell14_ k qm sm, cell15_ k qm tm, cell12_ k qm tm, cell18_ k qm tm, cell17_ k qm tm, cell19_ k qm tm, cell21_ k qm tm, cell20_ k qm sm, cell16_ k qm sm, cell11_ k qm sm, cell10_ k qm sm, cell9_ k qm sm, cell7_ k qm sm] := hD
  have hS : va_S A s.heap H locs := by rw [eH, el]; exact hS
  suffices goal : W p l e ({ frames := 1, cells := 0, slots := 0, locals := 25 } : Room) s m ([.ref (qm 0), .int p0] : List Value).toArray below meth c H locs 0 0 Q (F0 m 0 ls []) by rw [eH, el] at goal; exact goal
  refine lv_iload_n hx hb dX12_isComing_0 rfl (lv_at hl 1 rfl) ?_
  obtain ⟨v1, e1⟩ : ∃ z : Int64, z = (p0 : Int32).toInt64 := ⟨_, rfl⟩
  refine lv_i2l (v := v1) hx hb dX12_isComing_1 e1.symm ?_
  refine lv_lconst (v := 0) hx hb dX12_isComing_2 (by decide) ?_
  refine lv_aload_n hx hb dX12_isComing_3 rfl (lv_at hl 0 rfl) ?_
  refine g_get cx hP iw_X12_isComing_X12 0 rfl rfl 1 (by decide) rfl fw_X12_isComing_13 rfl dX12_isComing_4 ?_
  refine lv_bipush (v := 6) hx hb dX12_isComing_7 (by decide) ?_
  have hn2 : vp_in 6 26 := f_in (a := 6) (by decide) (by omega) (by omega)
  refine va_iald hx hb cx.2.1 hP 2 0 rfl rfl hn2 dX12_isComing_9 (lv_topi (fun v3 e3 => ?_))
  have uv3 : v3.toInt = ((sm 2) 6).toInt := congrArg Int32.toInt e3
  refine lv_bipush (v := (-9)) hx hb dX12_isComing_10 (by decide) ?_
  refine lv_icmp_ne (tgt := 19) hx hb dX12_isComing_12 (by decide) (fun c4 => ?_) (fun c4 => ?_)
  · have f4 : ¬ v3.toInt = (-9) := f_ne rfl (by decide) c4
    refine lv_ldc2 (v := 2) hx hb cx.1.2.2.2.1 (cx.1.2.2.2.2 _ kJ_X12_isComing_146) dX12_isComing_19 ?_
    refine g_ir (g_runS (wc := []) (rest := []) cx hP hD hS [] rfl (by decide) [.long v1, .long 0, .long 2] (c_X12_in l D k b H.size v1 0 2) gX12_isComing_X12_in rfl rfl rfl nd_X12_in ⟨Nat.le_of_ble_eq_true rfl, Nat.le_of_ble_eq_true rfl⟩ rfl hl.1 rfl (Nat.le_of_ble_eq_true rfl) ⟨Nat.zero_le _, Nat.zero_le _⟩ dX12_isComing_22) cx.2.2.1 hP hD hS [] rfl rfl (fun r6 H locs hw5 hP hS => ?_)
    have w7 : r6 = J_X12_in v1 (0 : Int64) (2 : Int64) := hw5
    clear hw5
    have zr6 := in_b w7
    rw [hQ]
    exact x_z cx hr (nar_z (by omega)) () hP hD hS ⟨(show 0 ≤ r6.toInt ∧ r6.toInt ≤ 1 from by omega), (show Imp (r6.toInt = 1) (0 ≤ p0.toInt ∧ p0.toInt ≤ 2) from fun h => by have q : 0 ≤ p0.toInt ∧ p0.toInt ≤ 2 := in_t (i2l_t rfl e1) (by decide) (by decide) w7 (ne1 h); omega), (show r6 = J_X12_isComing sm tm p0 from by subst e1 e3 w7; first | (refine Eq.symm ?_; refine Eq.trans (if_neg c4) ?_; rfl) | (unfold J_X12_isComing; try dsimp only; rw [if_neg c4]))⟩ dX12_isComing_25
  · have f4 : v3.toInt = (-9) := f_eq rfl (by decide) c4
    refine lv_lconst (v := 0) hx hb dX12_isComing_15 (by decide) ?_
    refine lv_goto (tgt := 22) hx hb dX12_isComing_16 (by decide) ?_
    refine g_ir (g_runS (wc := []) (rest := []) cx hP hD hS [] rfl (by decide) [.long v1, .long 0, .long 0] (c_X12_in l D k b H.size v1 0 0) gX12_isComing_X12_in rfl rfl rfl nd_X12_in ⟨Nat.le_of_ble_eq_true rfl, Nat.le_of_ble_eq_true rfl⟩ rfl hl.1 rfl (Nat.le_of_ble_eq_true rfl) ⟨Nat.zero_le _, Nat.zero_le _⟩ dX12_isComing_22) cx.2.2.1 hP hD hS [] rfl rfl (fun r9 H locs hw8 hP hS => ?_)
    have w10 : r9 = J_X12_in v1 (0 : Int64) (0 : Int64) := hw8
    clear hw8
    have zr9 := in_b w10
    rw [hQ]
    exact x_z cx hr (nar_z (by omega)) () hP hD hS ⟨(show 0 ≤ r9.toInt ∧ r9.toInt ≤ 1 from by omega), (show Imp (r9.toInt = 1) (0 ≤ p0.toInt ∧ p0.toInt ≤ 2) from fun h => by have q : 0 ≤ p0.toInt ∧ p0.toInt ≤ 0 := in_t (i2l_t rfl e1) (by decide) (by decide) w10 (ne1 h); omega), (show r9 = J_X12_isComing sm tm p0 from by subst e1 e3 w10; first | (refine Eq.symm ?_; refine Eq.trans (if_pos c4) ?_; rfl) | (unfold J_X12_isComing; try dsimp only; rw [if_pos c4]))⟩ dX12_isComing_25
