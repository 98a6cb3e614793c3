theorem mw_X4_mostTaken_minL127 : Cond.methodLink RX4 127 Lib.Math.min.name ∈ wsX4_mostTaken := by decide +kernel
theorem mw_X4_mostTaken_minS : Cond.static Lib.Math.min.name ∈ wsX4_mostTaken := by decide +kernel
theorem mw_X4_mostTaken_minI : Cond.initialized "java/lang/Math" ∈ wsX4_mostTaken := by decide +kernel
theorem mw_X4_mostTaken_minC : Cond.code Lib.Math.min.name Lib.Math.min.code 2 (some .int) ∈ wsX4_mostTaken := by decide +kernel
theorem fw_X4_mostTaken_15 : Cond.fieldLink RX4 15 "StillInAugust$House" "offers" "[I" ∈ wsX4_mostTaken := by decide +kernel
theorem fw_X4_mostTaken_36 : Cond.fieldLink RX4 36 "StillInAugust$House" "hooks" "I" ∈ wsX4_mostTaken := by decide +kernel
theorem iw_X4_mostTaken_X4 : ∀ w ∈ u_ws RX4 TX4 14, w ∈ wsX4_mostTaken := fun _ h => List.mem_cons_of_mem _ (List.mem_append_right _ h)
def J_X4_mostTaken (sh : Nat → Nat → Int32) (p0 : Int32) (p1 : Int32) : Int32 := (if ((sh 0 1) - (J_X3_total p1)) < ((sh 2) (p0).toNatClampNeg) then ((sh 0 1) - (J_X3_total p1)) else ((sh 2) (p0).toNatClampNeg))
set_option maxHeartbeats 4000000 in
set_option maxRecDepth 100000 in
theorem c_X4_mostTaken (l : Launch) (D : va_G) (k : Nat → ClassId) (b : Nat → Nat) (qh : Nat → Nat) (sh : Nat → Nat → Int32) (sz : Nat) (p0 : Int32) (p1 : Int32) (h_hk : 0 ≤ (sh 0 1).toInt ∧ (sh 0 1).toInt ≤ 4) (h_of : ∀ j, 0 ≤ (sh 2 j).toInt ∧ (sh 2 j).toInt ≤ 4) (hv : 0 ≤ p1.toInt ∧ p1.toInt ≤ 400 ∧ tot p1 ≤ 4) (hp0 : 0 ≤ p0.toInt ∧ p0.toInt ≤ 4) : MetI l D k b yX4_mostTaken wsX4_mostTaken ({ frames := 1, cells := 0, slots := 0, locals := 21 } : Room) [cell32_ qh sh, cell0_ k qh sh, cell1_ k qh sh, cell4_ k qh sh, cell3_ k qh sh, cell2_ k qh sh] sz [.ref (qh 0), .int p0, .int p1] (fun (r : Int32) (u : Unit) => (-4 ≤ r.toInt ∧ r.toInt ≤ 4 ∧ r.toInt ≤ (sh 0 1).toInt - (tot p1)) ∧ ((sh 0 1).toInt < tot p1 ∨ 0 ≤ r.toInt) ∧ (r = J_X4_mostTaken sh p0 p1)) (fun u => [cell32_ qh sh, cell0_ k qh sh, cell1_ k qh sh, cell4_ k qh sh, cell3_ k qh sh, cell2_ k qh sh]) := by
  refine g_enter (cc := cX4_mostTaken) (maxL := 3) (ret := (some .int)) (by decide) rfl (Nat.le_of_ble_eq_true rfl) ?_
  intro p e s m below meth c A hsz hAe cx hr hP hD hS ls hl
  rw [hAe]
  refine g_q (fun Q hQ => ?_)
  have hx := cx.1.1
  have hb := cx.1.2.1
  have bp0 := i_rng p0
  have bp1 := i_rng p1
  have hl : lv_has ls 3 [(0, .ref (qh 0)), (1, .int p0), (2, .int p1)] := hl
  obtain ⟨H, eH⟩ : ∃ H : Heap, H = s.heap := ⟨_, rfl⟩
  obtain ⟨locs, el⟩ : ∃ L : List Loc, L = [] := ⟨_, rfl⟩
  have hP : va_P D vwCl [cell32_ qh sh, cell0_ k qh sh, cell1_ k qh sh, cell4_ k qh sh, cell3_ k qh sh, cell2_ k qh sh] H := by rw [eH]; exact hP
  have hD : va_D A [cell32_ qh sh, cell0_ k qh sh, cell1_ k qh sh, cell4_ k qh sh, cell3_ k qh sh, cell2_ k qh sh] := hD
  have hS : va_S A s.heap H locs := by rw [eH, el]; exact hS
  suffices goal : W p l e ({ frames := 1, cells := 0, slots := 0, locals := 21 } : Room) s m ([.ref (qh 0), .int p0, .int p1] : List Value).toArray below meth c H locs 0 0 Q (F0 m 0 ls []) by rw [eH, el] at goal; exact goal
  refine lv_aload_n hx hb dX4_mostTaken_0 rfl (lv_at hl 0 rfl) ?_
  refine g_get cx hP iw_X4_mostTaken_X4 0 rfl rfl 3 (by decide) rfl fw_X4_mostTaken_15 rfl dX4_mostTaken_1 ?_
  refine lv_iload_n hx hb dX4_mostTaken_4 rfl (lv_at hl 1 rfl) ?_
  have hn1 : vp_in p0 5 := f_in (a := p0.toInt) rfl (by omega) (by omega)
  refine va_iald hx hb cx.2.1 hP 2 0 rfl rfl hn1 dX4_mostTaken_5 (lv_topi (fun v2 e2 => ?_))
  have t2 : 0 ≤ v2.toInt ∧ v2.toInt ≤ 4 := by rw [e2]; exact h_of _
  refine lv_aload_n hx hb dX4_mostTaken_6 rfl (lv_at hl 0 rfl) ?_
  refine g_get cx hP iw_X4_mostTaken_X4 0 rfl rfl 1 (by decide) rfl fw_X4_mostTaken_36 rfl dX4_mostTaken_7 ?_
  refine lv_iload_n hx hb dX4_mostTaken_10 rfl (lv_at hl 2 rfl) ?_
  refine g_ir (g_runS (wc := []) (rest := [.int (sh 0 1), .int v2]) cx hP hD hS [] rfl (by decide) [.int p1] (c_X3_total l D k b H.size p1) gX4_mostTaken_X3_total rfl rfl rfl nd_X3_total ⟨Nat.le_of_ble_eq_true rfl, Nat.le_of_ble_eq_true rfl⟩ rfl hl.1 rfl (Nat.le_of_ble_eq_true rfl) ⟨Nat.zero_le _, Nat.zero_le _⟩ dX4_mostTaken_11) cx.2.2.1 hP hD hS [] rfl rfl (fun r4 H locs hw3 hP hS => ?_)
  have w5 : r4 = J_X3_total p1 := hw3
  clear hw3
  have zr4 : r4.toInt = tot p1 := tot3 w5 (show 0 ≤ p1.toInt from by first | decide | omega)
  have yr4 := tot_0 (x := p1) (by first | decide | omega)
  refine lv_isub hx hb dX4_mostTaken_14 (lv_topi (fun v6 e6 => ?_))
  have t6 : v6.toInt = (sh 0 1).toInt - r4.toInt := by rw [e6]; exact i_sub rfl rfl (by omega) (by omega)
  refine va_mmin hx hb (cx.1.2.2.1.trans hl.1.symm) cx.1.2.2.2.1 (cx.1.2.2.2.2 _ mw_X4_mostTaken_minL127) (cx.1.2.2.2.2 _ mw_X4_mostTaken_minS) (cx.1.2.2.2.2 _ mw_X4_mostTaken_minI) (cx.1.2.2.2.2 _ mw_X4_mostTaken_minC) (Nat.le_of_ble_eq_true rfl) (Nat.le_of_ble_eq_true rfl) (Nat.zero_le _) (Nat.zero_le _) dX4_mostTaken_15 (lv_topi (fun v7 e7 => ?_))
  have t7 := i_min rfl rfl (a := v2.toInt) (b := v6.toInt) e7
  rw [hQ]
  exact x_i cx hr () hP hD hS ⟨(show -4 ≤ v7.toInt ∧ v7.toInt ≤ 4 ∧ v7.toInt ≤ (sh 0 1).toInt - (tot p1) from by omega), (show (sh 0 1).toInt < tot p1 ∨ 0 ≤ v7.toInt from by omega), (show v7 = J_X4_mostTaken sh p0 p1 from by subst e2 w5 e6 e7; rfl)⟩ dX4_mostTaken_18
