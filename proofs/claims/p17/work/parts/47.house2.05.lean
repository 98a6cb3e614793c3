theorem fw_X4_mostLetGo_51 : Cond.fieldLink RX4 51 "StillInAugust$House" "letGoPrice" "I" ∈ wsX4_mostLetGo := by decide +kernel
theorem iw_X4_mostLetGo_X4 : ∀ w ∈ u_ws RX4 TX4 14, w ∈ wsX4_mostLetGo := fun _ h => List.mem_cons_of_mem _ (List.mem_append_right _ h)
def J_X4_mostLetGo (sh : Nat → Nat → Int32) (p0 : Int32) : Int32 := if (sh 0 8) = (-9) then (0 : Int32) else (J_X3_total p0)
set_option maxHeartbeats 4000000 in
set_option maxRecDepth 100000 in
theorem c_X4_mostLetGo (l : Launch) (D : va_G) (k : Nat → ClassId) (b : Nat → Nat) (qh : Nat → Nat) (sh : Nat → Nat → Int32) (sz : Nat) (p0 : Int32) (hv : 0 ≤ p0.toInt ∧ p0.toInt ≤ 400 ∧ tot p0 ≤ 4) : MetI l D k b yX4_mostLetGo wsX4_mostLetGo ({ frames := 1, cells := 0, slots := 0, locals := 20 } : Room) [cell32_ qh sh, cell0_ k qh sh, cell1_ k qh sh, cell4_ k qh sh, cell3_ k qh sh, cell2_ k qh sh] sz [.ref (qh 0), .int p0] (fun (r : Int32) (u : Unit) => (0 ≤ r.toInt ∧ r.toInt ≤ tot p0) ∧ (r = J_X4_mostLetGo sh p0)) (fun u => [cell32_ qh sh, cell0_ k qh sh, cell1_ k qh sh, cell4_ k qh sh, cell3_ k qh sh, cell2_ k qh sh]) := by
  refine g_enter (cc := cX4_mostLetGo) (maxL := 2) (ret := (some .int)) (by decide) rfl (Nat.le_of_ble_eq_true rfl) ?_
  intro p e s m below meth c A hsz hAe cx hr hP hD hS ls hl
  rw [hAe]
  refine g_q (fun Q hQ => ?_)
  have hx := cx.1.1
  have hb := cx.1.2.1
  have bp0 := i_rng p0
  have hl : lv_has ls 2 [(0, .ref (qh 0)), (1, .int p0)] := hl
  obtain ⟨H, eH⟩ : ∃ H : Heap, H = s.heap := ⟨_, rfl⟩
  obtain ⟨locs, el⟩ : ∃ L : List Loc, L = [] := ⟨_, rfl⟩
  have hP : va_P D vwCl [cell32_ qh sh, cell0_ k qh sh, cell1_ k qh sh, cell4_ k qh sh, cell3_ k qh sh, cell2_ k qh sh] H := by rw [eH]; exact hP
  have hD : va_D A [cell32_ qh sh, cell0_ k qh sh, cell1_ k qh sh, cell4_ k qh sh, cell3_ k qh sh, cell2_ k qh sh] := hD
  have hS : va_S A s.heap H locs := by rw [eH, el]; exact hS
  suffices goal : W p l e ({ frames := 1, cells := 0, slots := 0, locals := 20 } : Room) s m ([.ref (qh 0), .int p0] : List Value).toArray below meth c H locs 0 0 Q (F0 m 0 ls []) by rw [eH, el] at goal; exact goal
  have y0 := tot_0 (x := p0) hv.1
  refine lv_aload_n hx hb dX4_mostLetGo_0 rfl (lv_at hl 0 rfl) ?_
  refine g_get cx hP iw_X4_mostLetGo_X4 0 rfl rfl 8 (by decide) rfl fw_X4_mostLetGo_51 rfl dX4_mostLetGo_1 ?_
  refine lv_bipush (v := (-9)) hx hb dX4_mostLetGo_4 (by decide) ?_
  refine lv_icmp_ne (tgt := 13) hx hb dX4_mostLetGo_6 (by decide) (fun c1 => ?_) (fun c1 => ?_)
  · have f1 : ¬ (sh 0 8).toInt = (-9) := f_ne rfl (by decide) c1
    refine lv_iload_n hx hb dX4_mostLetGo_13 rfl (lv_at hl 1 rfl) ?_
    refine g_ir (g_runS (wc := []) (rest := []) cx hP hD hS [] rfl (by decide) [.int p0] (c_X3_total l D k b H.size p0) gX4_mostLetGo_X3_total rfl rfl rfl nd_X3_total ⟨Nat.le_of_ble_eq_true rfl, Nat.le_of_ble_eq_true rfl⟩ rfl hl.1 rfl (Nat.le_of_ble_eq_true rfl) ⟨Nat.zero_le _, Nat.zero_le _⟩ dX4_mostLetGo_14) cx.2.2.1 hP hD hS [] rfl rfl (fun r3 H locs hw2 hP hS => ?_)
    have w4 : r3 = J_X3_total p0 := hw2
    clear hw2
    have zr3 : r3.toInt = tot p0 := tot3 w4 (show 0 ≤ p0.toInt from by first | decide | omega)
    have yr3 := tot_0 (x := p0) (by first | decide | omega)
    rw [hQ]
    exact x_i cx hr () hP hD hS ⟨(show 0 ≤ r3.toInt ∧ r3.toInt ≤ tot p0 from by omega), (show r3 = J_X4_mostLetGo sh p0 from by subst w4; first | (refine Eq.symm ?_; refine Eq.trans (if_neg c1) ?_; rfl) | (unfold J_X4_mostLetGo; try dsimp only; rw [if_neg c1]))⟩ dX4_mostLetGo_17
  · have f1 : (sh 0 8).toInt = (-9) := f_eq rfl (by decide) c1
    refine lv_iconst (v := 0) hx hb dX4_mostLetGo_9 (by decide) ?_
    refine lv_goto (tgt := 17) hx hb dX4_mostLetGo_10 (by decide) ?_
    have hlit5 : (0 : Int32).toInt = 0 := by decide
    rw [hQ]
    exact x_i cx hr () hP hD hS ⟨(show 0 ≤ (0 : Int32).toInt ∧ (0 : Int32).toInt ≤ tot p0 from by omega), (show (0 : Int32) = J_X4_mostLetGo sh p0 from by first | (refine Eq.symm ?_; refine Eq.trans (if_pos c1) ?_; rfl) | (unfold J_X4_mostLetGo; try dsimp only; rw [if_pos c1]))⟩ dX4_mostLetGo_17
