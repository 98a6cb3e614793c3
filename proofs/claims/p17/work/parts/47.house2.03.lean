theorem fw_X4_mostComing_57 : Cond.fieldLink RX4 57 "StillInAugust$House" "agencyPrice" "I" ∈ wsX4_mostComing := by decide +kernel
theorem iw_X4_mostComing_X4 : ∀ w ∈ u_ws RX4 TX4 14, w ∈ wsX4_mostComing := fun _ h => List.mem_cons_of_mem _ (List.mem_append_right _ h)
def J_X4_mostComing (sh : Nat → Nat → Int32) : Int32 := if (sh 0 10) = (-9) then (0 : Int32) else (2 : Int32)
set_option maxHeartbeats 4000000 in
set_option maxRecDepth 100000 in
theorem c_X4_mostComing (l : Launch) (D : va_G) (k : Nat → ClassId) (b : Nat → Nat) (qh : Nat → Nat) (sh : Nat → Nat → Int32) (sz : Nat) : MetI l D k b yX4_mostComing wsX4_mostComing ({ frames := 0, cells := 0, slots := 0, locals := 0 } : Room) [cell32_ qh sh, cell0_ k qh sh, cell1_ k qh sh, cell4_ k qh sh, cell3_ k qh sh, cell2_ k qh sh] sz [.ref (qh 0)] (fun (r : Int32) (u : Unit) => (r.toInt = 0 ∨ r.toInt = 2) ∧ (r = J_X4_mostComing sh)) (fun u => [cell32_ qh sh, cell0_ k qh sh, cell1_ k qh sh, cell4_ k qh sh, cell3_ k qh sh, cell2_ k qh sh]) := by
  refine g_enter (cc := cX4_mostComing) (maxL := 1) (ret := (some .int)) (by decide) rfl (Nat.le_of_ble_eq_true rfl) ?_
  intro p e s m below meth c A hsz hAe cx hr hP hD hS ls hl
  rw [hAe]
  refine g_q (fun Q hQ => ?_)
  have hx := cx.1.1
  have hb := cx.1.2.1
  have hl : lv_has ls 1 [(0, .ref (qh 0))] := hl
  obtain ⟨H, eH⟩ : ∃ H : Heap, H = s.heap := ⟨_, rfl⟩
  obtain ⟨locs, el⟩ : ∃ L : List Loc, L = [] := ⟨_, rfl⟩
  have hP : va_P D vwCl [cell32_ qh sh, cell0_ k qh sh, cell1_ k qh sh, cell4_ k qh sh, cell3_ k qh sh, cell2_ k qh sh] H := by rw [eH]; exact hP
  have hD : va_D A [cell32_ qh sh, cell0_ k qh sh, cell1_ k qh sh, cell4_ k qh sh, cell3_ k qh sh, cell2_ k qh sh] := hD
  have hS : va_S A s.heap H locs := by rw [eH, el]; exact hS
  suffices goal : W p l e ({ frames := 0, cells := 0, slots := 0, locals := 0 } : Room) s m ([.ref (qh 0)] : List Value).toArray below meth c H locs 0 0 Q (F0 m 0 ls []) by rw [eH, el] at goal; exact goal
  refine lv_aload_n hx hb dX4_mostComing_0 rfl (lv_at hl 0 rfl) ?_
  refine g_get cx hP iw_X4_mostComing_X4 0 rfl rfl 10 (by decide) rfl fw_X4_mostComing_57 rfl dX4_mostComing_1 ?_
  refine lv_bipush (v := (-9)) hx hb dX4_mostComing_4 (by decide) ?_
  refine lv_icmp_ne (tgt := 13) hx hb dX4_mostComing_6 (by decide) (fun c1 => ?_) (fun c1 => ?_)
  · have f1 : ¬ (sh 0 10).toInt = (-9) := f_ne rfl (by decide) c1
    refine lv_iconst (v := 2) hx hb dX4_mostComing_13 (by decide) ?_
    have hlit2 : (2 : Int32).toInt = 2 := by decide
    rw [hQ]
    exact x_i cx hr () hP hD hS ⟨(show (2 : Int32).toInt = 0 ∨ (2 : Int32).toInt = 2 from by omega), (show (2 : Int32) = J_X4_mostComing sh from by first | (refine Eq.symm ?_; refine Eq.trans (if_neg c1) ?_; rfl) | (unfold J_X4_mostComing; try dsimp only; rw [if_neg c1]))⟩ dX4_mostComing_14
  · have f1 : (sh 0 10).toInt = (-9) := f_eq rfl (by decide) c1
    refine lv_iconst (v := 0) hx hb dX4_mostComing_9 (by decide) ?_
    refine lv_goto (tgt := 14) hx hb dX4_mostComing_10 (by decide) ?_
    have hlit3 : (0 : Int32).toInt = 0 := by decide
    rw [hQ]
    exact x_i cx hr () hP hD hS ⟨(show (0 : Int32).toInt = 0 ∨ (0 : Int32).toInt = 2 from by omega), (show (0 : Int32) = J_X4_mostComing sh from by first | (refine Eq.symm ?_; refine Eq.trans (if_pos c1) ?_; rfl) | (unfold J_X4_mostComing; try dsimp only; rw [if_pos c1]))⟩ dX4_mostComing_14
