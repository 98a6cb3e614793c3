theorem fw_X4_bonusFor_60 : Cond.fieldLink RX4 60 "StillInAugust$House" "bonus" "I" ∈ wsX4_bonusFor := by decide +kernel
theorem iw_X4_bonusFor_X4 : ∀ w ∈ u_ws RX4 TX4 14, w ∈ wsX4_bonusFor := fun _ h => List.mem_cons_of_mem _ (List.mem_append_right _ h)
def J_X4_bonusFor (sh : Nat → Nat → Int32) (p0 : Int32) : Int32 := if (sh 0 11) = (-9) then (0 : Int32) else ((sh 0 11) * (J_X3_total p0))
set_option maxHeartbeats 4000000 in
set_option maxRecDepth 100000 in
theorem c_X4_bonusFor (l : Launch) (D : va_G) (k : Nat → ClassId) (b : Nat → Nat) (qh : Nat → Nat) (sh : Nat → Nat → Int32) (sz : Nat) (p0 : Int32) : MetI l D k b yX4_bonusFor wsX4_bonusFor ({ frames := 1, cells := 0, slots := 0, locals := 20 } : Room) [cell32_ qh sh, cell0_ k qh sh, cell1_ k qh sh, cell4_ k qh sh, cell3_ k qh sh, cell2_ k qh sh] sz [.ref (qh 0), .int p0] (fun (r : Int32) (u : Unit) => r = J_X4_bonusFor sh p0) (fun u => [cell32_ qh sh, cell0_ k qh sh, cell1_ k qh sh, cell4_ k qh sh, cell3_ k qh sh, cell2_ k qh sh]) := by
  refine g_enter (cc := cX4_bonusFor) (maxL := 2) (ret := (some .int)) (by decide) rfl (Nat.le_of_ble_eq_true rfl) ?_
  intro p e s m below meth c A hsz hAe cx hr hP hD hS ls hl
  rw [hAe]
  refine g_q (fun Q hQ => ?_)
  have hx := cx.1.1
  have hb := cx.1.2.1
  have bp0 := i_rng p0
  have hl : lv_has ls 2 [(0, .ref (qh 0)), (1, .int p0)] := hl
  obtain ⟨H, eH⟩ : ∃ H : Heap, H = s.heap := ⟨_, rfl⟩
  obtain ⟨locs, el⟩ : ∃ L : List Loc, L = [] := ⟨_, rfl⟩
  have hP : va_P D vwCl [cell32_ qh sh, cell0_ k qh sh, cell1_ k qh sh, cell4_ k qh sh, cell3_ k qh sh, cell2_ k qh sh] H := by rw [eH]; exact hP
  have hD : va_D A [cell32_ qh sh, cell0_ k qh sh, cell1_ k qh sh, cell4_ k qh sh, cell3_ k qh sh, cell2_ k qh sh] := hD
  have hS : va_S A s.heap H locs := by rw [eH, el]; exact hS
  suffices goal : W p l e ({ frames := 1, cells := 0, slots := 0, locals := 20 } : Room) s m ([.ref (qh 0), .int p0] : List Value).toArray below meth c H locs 0 0 Q (F0 m 0 ls []) by rw [eH, el] at goal; exact goal
  refine lv_aload_n hx hb dX4_bonusFor_0 rfl (lv_at hl 0 rfl) ?_
  refine g_get cx hP iw_X4_bonusFor_X4 0 rfl rfl 11 (by decide) rfl fw_X4_bonusFor_60 rfl dX4_bonusFor_1 ?_
  refine lv_bipush (v := (-9)) hx hb dX4_bonusFor_4 (by decide) ?_
  refine lv_icmp_ne (tgt := 13) hx hb dX4_bonusFor_6 (by decide) (fun c1 => ?_) (fun c1 => ?_)
  · have f1 : ¬ (sh 0 11).toInt = (-9) := f_ne rfl (by decide) c1
    refine lv_aload_n hx hb dX4_bonusFor_13 rfl (lv_at hl 0 rfl) ?_
    refine g_get cx hP iw_X4_bonusFor_X4 0 rfl rfl 11 (by decide) rfl fw_X4_bonusFor_60 rfl dX4_bonusFor_14 ?_
    refine lv_iload_n hx hb dX4_bonusFor_17 rfl (lv_at hl 1 rfl) ?_
    refine g_ir (g_runS (wc := []) (rest := [.int (sh 0 11)]) cx hP hD hS [] rfl (by decide) [.int p0] (c_X3_total l D k b H.size p0) gX4_bonusFor_X3_total rfl rfl rfl nd_X3_total ⟨Nat.le_of_ble_eq_true rfl, Nat.le_of_ble_eq_true rfl⟩ rfl hl.1 rfl (Nat.le_of_ble_eq_true rfl) ⟨Nat.zero_le _, Nat.zero_le _⟩ dX4_bonusFor_18) cx.2.2.1 hP hD hS [] rfl rfl (fun r3 H locs hw2 hP hS => ?_)
    have w4 : r3 = J_X3_total p0 := hw2
    clear hw2
    refine lv_imul hx hb dX4_bonusFor_21 (lv_topi (fun v5 e5 => ?_))
    rw [hQ]
    exact x_i cx hr () hP hD hS (show v5 = J_X4_bonusFor sh p0 from by subst w4 e5; first | (refine Eq.symm ?_; refine Eq.trans (if_neg c1) ?_; rfl) | (unfold J_X4_bonusFor; try dsimp only; rw [if_neg c1])) dX4_bonusFor_22
  · have f1 : (sh 0 11).toInt = (-9) := f_eq rfl (by decide) c1
    refine lv_iconst (v := 0) hx hb dX4_bonusFor_9 (by decide) ?_
    refine lv_goto (tgt := 22) hx hb dX4_bonusFor_10 (by decide) ?_
    have hlit6 : (0 : Int32).toInt = 0 := by decide
    rw [hQ]
    exact x_i cx hr () hP hD hS (show (0 : Int32) = J_X4_bonusFor sh p0 from by first | (refine Eq.symm ?_; refine Eq.trans (if_pos c1) ?_; rfl) | (unfold J_X4_bonusFor; try dsimp only; rw [if_pos c1])) dX4_bonusFor_22
