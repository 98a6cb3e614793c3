theorem mw_X4_takenByLevel_maxL97 : Cond.methodLink RX4 97 Lib.Math.max.name ∈ wsX4_takenByLevel := by decide +kernel
theorem mw_X4_takenByLevel_maxS : Cond.static Lib.Math.max.name ∈ wsX4_takenByLevel := by decide +kernel
theorem mw_X4_takenByLevel_maxI : Cond.initialized "java/lang/Math" ∈ wsX4_takenByLevel := by decide +kernel
theorem mw_X4_takenByLevel_maxC : Cond.code Lib.Math.max.name Lib.Math.max.code 2 (some .int) ∈ wsX4_takenByLevel := by decide +kernel
theorem mw_X4_takenByLevel_minL127 : Cond.methodLink RX4 127 Lib.Math.min.name ∈ wsX4_takenByLevel := by decide +kernel
theorem mw_X4_takenByLevel_minS : Cond.static Lib.Math.min.name ∈ wsX4_takenByLevel := by decide +kernel
theorem mw_X4_takenByLevel_minI : Cond.initialized "java/lang/Math" ∈ wsX4_takenByLevel := by decide +kernel
theorem mw_X4_takenByLevel_minC : Cond.code Lib.Math.min.name Lib.Math.min.code 2 (some .int) ∈ wsX4_takenByLevel := by decide +kernel
def J_X4_takenByLevel (sh : Nat → Nat → Int32) (p0 : Int32) (p1 : Int32) (p2 : Int32) : Int32 := let y6 := J_X4_mostTaken sh p0 p1; (if (if 0 < (p2 - (J_X3_total p1)) then (p2 - (J_X3_total p1)) else 0) < y6 then (if 0 < (p2 - (J_X3_total p1)) then (p2 - (J_X3_total p1)) else 0) else y6)
set_option maxHeartbeats 4000000 in
set_option maxRecDepth 100000 in
theorem c_X4_takenByLevel (l : Launch) (D : va_G) (k : Nat → ClassId) (b : Nat → Nat) (qh : Nat → Nat) (sh : Nat → Nat → Int32) (sz : Nat) (p0 : Int32) (p1 : Int32) (p2 : Int32) (h_hk : 0 ≤ (sh 0 1).toInt ∧ (sh 0 1).toInt ≤ 4) (h_of : ∀ j, 0 ≤ (sh 2 j).toInt ∧ (sh 2 j).toInt ≤ 4) (hv : 0 ≤ p1.toInt ∧ p1.toInt ≤ 400 ∧ tot p1 ≤ 4) (ht : tot p1 ≤ (sh 0 1).toInt) (hp0 : 0 ≤ p0.toInt ∧ p0.toInt ≤ 4) : MetI l D k b yX4_takenByLevel wsX4_takenByLevel ({ frames := 2, cells := 0, slots := 0, locals := 43 } : Room) [cell32_ qh sh, cell0_ k qh sh, cell1_ k qh sh, cell4_ k qh sh, cell3_ k qh sh, cell2_ k qh sh] sz [.ref (qh 0), .int p0, .int p1, .int p2] (fun (r : Int32) (u : Unit) => (0 ≤ r.toInt ∧ r.toInt ≤ 4 ∧ r.toInt ≤ (sh 0 1).toInt - (tot p1)) ∧ (r = J_X4_takenByLevel sh p0 p1 p2)) (fun u => [cell32_ qh sh, cell0_ k qh sh, cell1_ k qh sh, cell4_ k qh sh, cell3_ k qh sh, cell2_ k qh sh]) := by
  refine g_enter (cc := cX4_takenByLevel) (maxL := 4) (ret := (some .int)) (by decide) rfl (Nat.le_of_ble_eq_true rfl) ?_
  intro p e s m below meth c A hsz hAe cx hr hP hD hS ls hl
  rw [hAe]
  refine g_q (fun Q hQ => ?_)
  have hx := cx.1.1
  have hb := cx.1.2.1
  have bp0 := i_rng p0
  have bp1 := i_rng p1
  have bp2 := i_rng p2
  have hl : lv_has ls 4 [(0, .ref (qh 0)), (1, .int p0), (2, .int p1), (3, .int p2)] := hl
  obtain ⟨H, eH⟩ : ∃ H : Heap, H = s.heap := ⟨_, rfl⟩
  obtain ⟨locs, el⟩ : ∃ L : List Loc, L = [] := ⟨_, rfl⟩
  have hP : va_P D vwCl [cell32_ qh sh, cell0_ k qh sh, cell1_ k qh sh, cell4_ k qh sh, cell3_ k qh sh, cell2_ k qh sh] H := by rw [eH]; exact hP
  have hD : va_D A [cell32_ qh sh, cell0_ k qh sh, cell1_ k qh sh, cell4_ k qh sh, cell3_ k qh sh, cell2_ k qh sh] := hD
  have hS : va_S A s.heap H locs := by rw [eH, el]; exact hS
  suffices goal : W p l e ({ frames := 2, cells := 0, slots := 0, locals := 43 } : Room) s m ([.ref (qh 0), .int p0, .int p1, .int p2] : List Value).toArray below meth c H locs 0 0 Q (F0 m 0 ls []) by rw [eH, el] at goal; exact goal
  refine lv_aload_n hx hb dX4_takenByLevel_0 rfl (lv_at hl 0 rfl) ?_
  refine lv_iload_n hx hb dX4_takenByLevel_1 rfl (lv_at hl 1 rfl) ?_
  refine lv_iload_n hx hb dX4_takenByLevel_2 rfl (lv_at hl 2 rfl) ?_
  refine g_iF (w1 := fun (_ : Unit) => [cell32_ qh sh, cell0_ k qh sh, cell1_ k qh sh, cell4_ k qh sh, cell3_ k qh sh, cell2_ k qh sh]) (g_runVF (ws := [cell32_ qh sh, cell0_ k qh sh, cell1_ k qh sh, cell4_ k qh sh, cell3_ k qh sh, cell2_ k qh sh]) (rest := []) cx hP hD hS [.int p0, .int p1] (c_X4_mostTaken l D k b qh sh H.size p0 p1 (show 0 ≤ (sh 0 1).toInt ∧ (sh 0 1).toInt ≤ 4 from by first | decide | omega) h_of (show 0 ≤ p1.toInt ∧ p1.toInt ≤ 400 ∧ tot p1 ≤ 4 from by first | decide | omega) (show 0 ≤ p0.toInt ∧ p0.toInt ≤ 4 from by first | decide | omega)) gX4_takenByLevel_X4_mostTaken rfl rfl rfl nd_X4_mostTaken ⟨Nat.le_of_ble_eq_true rfl, Nat.le_of_ble_eq_true rfl⟩ (ci := 2) (q0 := 0) rfl rfl rfl hl.1 rfl (Nat.le_of_ble_eq_true rfl) ⟨Nat.zero_le _, Nat.zero_le _⟩ dX4_takenByLevel_3) cx.2.2.1 hD hS (fun r2 _ H locs hw1 hP hD hS => ?_)
  replace hw1 : (-4 ≤ r2.toInt ∧ r2.toInt ≤ 4 ∧ r2.toInt ≤ (sh 0 1).toInt - (tot p1)) ∧ ((sh 0 1).toInt < tot p1 ∨ 0 ≤ r2.toInt) ∧ (r2 = J_X4_mostTaken sh p0 p1) := hw1
  obtain ⟨w3, w4, w5⟩ := hw1
  have k7 : r2 = (J_X4_mostTaken sh p0 p1) := congrArg (fun z => z) w5
  refine lv_iconst (v := 0) hx hb dX4_takenByLevel_6 (by decide) ?_
  refine lv_iload_n hx hb dX4_takenByLevel_7 rfl (lv_at hl 3 rfl) ?_
  refine lv_iload_n hx hb dX4_takenByLevel_8 rfl (lv_at hl 2 rfl) ?_
  refine g_ir (g_runS (wc := []) (rest := [.int p2, .int 0, .int r2]) cx hP hD hS [] rfl (by decide) [.int p1] (c_X3_total l D k b H.size p1) gX4_takenByLevel_X3_total rfl rfl rfl nd_X3_total ⟨Nat.le_of_ble_eq_true rfl, Nat.le_of_ble_eq_true rfl⟩ rfl hl.1 rfl (Nat.le_of_ble_eq_true rfl) ⟨Nat.zero_le _, Nat.zero_le _⟩ dX4_takenByLevel_9) cx.2.2.1 hP hD hS [] rfl rfl (fun r9 H locs hw8 hP hS => ?_)
  have w10 : r9 = J_X3_total p1 := hw8
  clear hw8
  have zr9 : r9.toInt = tot p1 := tot3 w10 (show 0 ≤ p1.toInt from by first | decide | omega)
  have yr9 := tot_0 (x := p1) (by first | decide | omega)
  refine lv_isub hx hb dX4_takenByLevel_12 (lv_topi (fun v11 e11 => ?_))
  refine va_mmax hx hb (cx.1.2.2.1.trans hl.1.symm) cx.1.2.2.2.1 (cx.1.2.2.2.2 _ mw_X4_takenByLevel_maxL97) (cx.1.2.2.2.2 _ mw_X4_takenByLevel_maxS) (cx.1.2.2.2.2 _ mw_X4_takenByLevel_maxI) (cx.1.2.2.2.2 _ mw_X4_takenByLevel_maxC) (Nat.le_of_ble_eq_true rfl) (Nat.le_of_ble_eq_true rfl) (Nat.zero_le _) (Nat.zero_le _) dX4_takenByLevel_13 (lv_topi (fun v12 e12 => ?_))
  have t12 := i_max (by decide) rfl (a := 0) (b := v11.toInt) e12
  refine va_mmin hx hb (cx.1.2.2.1.trans hl.1.symm) cx.1.2.2.2.1 (cx.1.2.2.2.2 _ mw_X4_takenByLevel_minL127) (cx.1.2.2.2.2 _ mw_X4_takenByLevel_minS) (cx.1.2.2.2.2 _ mw_X4_takenByLevel_minI) (cx.1.2.2.2.2 _ mw_X4_takenByLevel_minC) (Nat.le_of_ble_eq_true rfl) (Nat.le_of_ble_eq_true rfl) (Nat.zero_le _) (Nat.zero_le _) dX4_takenByLevel_16 (lv_topi (fun v13 e13 => ?_))
  have t13 := i_min rfl rfl (a := r2.toInt) (b := v12.toInt) e13
  rw [hQ]
  exact x_i cx hr () hP hD hS ⟨(show 0 ≤ v13.toInt ∧ v13.toInt ≤ 4 ∧ v13.toInt ≤ (sh 0 1).toInt - (tot p1) from by omega), (show v13 = J_X4_takenByLevel sh p0 p1 p2 from by subst k7 w10 e11 e12 e13; rfl)⟩ dX4_takenByLevel_19
