theorem fw_X4_mostTaught_54 : Cond.fieldLink RX4 54 "StillInAugust$House" "teachPrice" "I" ∈ wsX4_mostTaught := by decide +kernel
theorem iw_X4_mostTaught_X4 : ∀ w ∈ u_ws RX4 TX4 14, w ∈ wsX4_mostTaught := fun _ h => List.mem_cons_of_mem _ (List.mem_append_right _ h)
def J_X4_mostTaught (sh : Nat → Nat → Int32) (p0 : Int32) : Int32 := if (sh 0 9) = (-9) then (0 : Int32) else if (J_X3_ofAge p0 0) ≤ 0 then (0 : Int32) else if (J_X3_ofAge p0 2) ≤ 0 then (0 : Int32) else (1 : Int32)
set_option maxHeartbeats 4000000 in
set_option maxRecDepth 100000 in
theorem c_X4_mostTaught (l : Launch) (D : va_G) (k : Nat → ClassId) (b : Nat → Nat) (qh : Nat → Nat) (sh : Nat → Nat → Int32) (sz : Nat) (p0 : Int32) (hp0 : 0 ≤ p0.toInt ∧ p0.toInt ≤ 9999) : MetI l D k b yX4_mostTaught wsX4_mostTaught ({ frames := 1, cells := 0, slots := 0, locals := 21 } : Room) [cell32_ qh sh, cell0_ k qh sh, cell1_ k qh sh, cell4_ k qh sh, cell3_ k qh sh, cell2_ k qh sh] sz [.ref (qh 0), .int p0] (fun (r : Int32) (u : Unit) => (r.toInt = 0 ∨ (r.toInt = 1 ∧ 0 < p0.toInt / 100)) ∧ (r = J_X4_mostTaught sh p0)) (fun u => [cell32_ qh sh, cell0_ k qh sh, cell1_ k qh sh, cell4_ k qh sh, cell3_ k qh sh, cell2_ k qh sh]) := by
  refine g_enter (cc := cX4_mostTaught) (maxL := 2) (ret := (some .int)) (by decide) rfl (Nat.le_of_ble_eq_true rfl) ?_
  intro p e s m below meth c A hsz hAe cx hr hP hD hS ls hl
  rw [hAe]
  refine g_q (fun Q hQ => ?_)
  have hx := cx.1.1
  have hb := cx.1.2.1
  have bp0 := i_rng p0
  have hl : lv_has ls 2 [(0, .ref (qh 0)), (1, .int p0)] := hl
  obtain ⟨H, eH⟩ : ∃ H : Heap, H = s.heap := ⟨_, rfl⟩
  obtain ⟨locs, el⟩ : ∃ L : List Loc, L = [] := ⟨_, rfl⟩
  have hP : va_P D vwCl [cell32_ qh sh, cell0_ k qh sh, cell1_ k qh sh, cell4_ k qh sh, cell3_ k qh sh, cell2_ k qh sh] H := by rw [eH]; exact hP
  have hD : va_D A [cell32_ qh sh, cell0_ k qh sh, cell1_ k qh sh, cell4_ k qh sh, cell3_ k qh sh, cell2_ k qh sh] := hD
  have hS : va_S A s.heap H locs := by rw [eH, el]; exact hS
  suffices goal : W p l e ({ frames := 1, cells := 0, slots := 0, locals := 21 } : Room) s m ([.ref (qh 0), .int p0] : List Value).toArray below meth c H locs 0 0 Q (F0 m 0 ls []) by rw [eH, el] at goal; exact goal
  refine lv_aload_n hx hb dX4_mostTaught_0 rfl (lv_at hl 0 rfl) ?_
  refine g_get cx hP iw_X4_mostTaught_X4 0 rfl rfl 9 (by decide) rfl fw_X4_mostTaught_54 rfl dX4_mostTaught_1 ?_
  refine lv_bipush (v := (-9)) hx hb dX4_mostTaught_4 (by decide) ?_
  refine lv_icmp_eq (tgt := 29) hx hb dX4_mostTaught_6 (by decide) (fun c1 => ?_) (fun c1 => ?_)
  · have f1 : (sh 0 9).toInt = (-9) := f_eq rfl (by decide) c1
    refine lv_iconst (v := 0) hx hb dX4_mostTaught_29 (by decide) ?_
    have hlit2 : (0 : Int32).toInt = 0 := by decide
    rw [hQ]
    exact x_i cx hr () hP hD hS ⟨(show (0 : Int32).toInt = 0 ∨ ((0 : Int32).toInt = 1 ∧ 0 < p0.toInt / 100) from by omega), (show (0 : Int32) = J_X4_mostTaught sh p0 from by first | (refine Eq.symm ?_; refine Eq.trans (if_pos c1) ?_; rfl) | (unfold J_X4_mostTaught; try dsimp only; rw [if_pos c1]))⟩ dX4_mostTaught_30
  · have f1 : ¬ (sh 0 9).toInt = (-9) := f_ne rfl (by decide) c1
    refine lv_iload_n hx hb dX4_mostTaught_9 rfl (lv_at hl 1 rfl) ?_
    refine lv_iconst (v := 0) hx hb dX4_mostTaught_10 (by decide) ?_
    have hlit3 : (0 : Int32).toInt = 0 := by decide
    refine g_ir (g_runS (wc := []) (rest := []) cx hP hD hS [] rfl (by decide) [.int p0, .int 0] (c_X3_ofAge l D k b H.size p0 0) gX4_mostTaught_X3_ofAge rfl rfl rfl nd_X3_ofAge ⟨Nat.le_of_ble_eq_true rfl, Nat.le_of_ble_eq_true rfl⟩ rfl hl.1 rfl (Nat.le_of_ble_eq_true rfl) ⟨Nat.zero_le _, Nat.zero_le _⟩ dX4_mostTaught_11) cx.2.2.1 hP hD hS [] rfl rfl (fun r5 H locs hw4 hP hS => ?_)
    have w6 : r5 = J_X3_ofAge p0 (0 : Int32) := hw4
    clear hw4
    have zr5 : r5.toInt = p0.toInt / 100 := (agep w6 (by omega)).1 (by decide)
    refine lv_if_le (tgt := 29) hx hb dX4_mostTaught_14 (by decide) (fun c7 => ?_) (fun c7 => ?_)
    · have f7 : r5.toInt ≤ 0 := f_le rfl (by decide) c7
      refine lv_iconst (v := 0) hx hb dX4_mostTaught_29 (by decide) ?_
      have hlit8 : (0 : Int32).toInt = 0 := by decide
      rw [hQ]
      exact x_i cx hr () hP hD hS ⟨(show (0 : Int32).toInt = 0 ∨ ((0 : Int32).toInt = 1 ∧ 0 < p0.toInt / 100) from by omega), (show (0 : Int32) = J_X4_mostTaught sh p0 from by subst w6; first | (refine Eq.symm ?_; refine Eq.trans (if_neg c1) ?_; refine Eq.trans (if_pos c7) ?_; rfl) | (unfold J_X4_mostTaught; try dsimp only; rw [if_neg c1, if_pos c7]))⟩ dX4_mostTaught_30
    · have f7 : 0 < r5.toInt := f_nle rfl (by decide) c7
      refine lv_iload_n hx hb dX4_mostTaught_17 rfl (lv_at hl 1 rfl) ?_
      refine lv_iconst (v := 2) hx hb dX4_mostTaught_18 (by decide) ?_
      have hlit9 : (2 : Int32).toInt = 2 := by decide
      refine g_ir (g_runS (wc := []) (rest := []) cx hP hD hS [] rfl (by decide) [.int p0, .int 2] (c_X3_ofAge l D k b H.size p0 2) gX4_mostTaught_X3_ofAge rfl rfl rfl nd_X3_ofAge ⟨Nat.le_of_ble_eq_true rfl, Nat.le_of_ble_eq_true rfl⟩ rfl hl.1 rfl (Nat.le_of_ble_eq_true rfl) ⟨Nat.zero_le _, Nat.zero_le _⟩ dX4_mostTaught_19) cx.2.2.1 hP hD hS [] rfl rfl (fun r11 H locs hw10 hP hS => ?_)
      have w12 : r11 = J_X3_ofAge p0 (2 : Int32) := hw10
      clear hw10
      refine lv_if_le (tgt := 29) hx hb dX4_mostTaught_22 (by decide) (fun c13 => ?_) (fun c13 => ?_)
      · have f13 : r11.toInt ≤ 0 := f_le rfl (by decide) c13
        refine lv_iconst (v := 0) hx hb dX4_mostTaught_29 (by decide) ?_
        have hlit14 : (0 : Int32).toInt = 0 := by decide
        rw [hQ]
        exact x_i cx hr () hP hD hS ⟨(show (0 : Int32).toInt = 0 ∨ ((0 : Int32).toInt = 1 ∧ 0 < p0.toInt / 100) from by omega), (show (0 : Int32) = J_X4_mostTaught sh p0 from by subst w6 w12; first | (refine Eq.symm ?_; refine Eq.trans (if_neg c1) ?_; refine Eq.trans (if_neg c7) ?_; refine Eq.trans (if_pos c13) ?_; rfl) | (unfold J_X4_mostTaught; try dsimp only; rw [if_neg c1, if_neg c7, if_pos c13]))⟩ dX4_mostTaught_30
      · have f13 : 0 < r11.toInt := f_nle rfl (by decide) c13
        refine lv_iconst (v := 1) hx hb dX4_mostTaught_25 (by decide) ?_
        refine lv_goto (tgt := 30) hx hb dX4_mostTaught_26 (by decide) ?_
        have hlit15 : (1 : Int32).toInt = 1 := by decide
        rw [hQ]
        exact x_i cx hr () hP hD hS ⟨(show (1 : Int32).toInt = 0 ∨ ((1 : Int32).toInt = 1 ∧ 0 < p0.toInt / 100) from by omega), (show (1 : Int32) = J_X4_mostTaught sh p0 from by subst w6 w12; first | (refine Eq.symm ?_; refine Eq.trans (if_neg c1) ?_; refine Eq.trans (if_neg c7) ?_; refine Eq.trans (if_neg c13) ?_; rfl) | (unfold J_X4_mostTaught; try dsimp only; rw [if_neg c1, if_neg c7, if_neg c13]))⟩ dX4_mostTaught_30
