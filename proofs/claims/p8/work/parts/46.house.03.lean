theorem mw_X4_fifths_maxL97 : Cond.methodLink RX4 97 Lib.Math.max.name ∈ wsX4_fifths := by decide +kernel
theorem mw_X4_fifths_maxS : Cond.static Lib.Math.max.name ∈ wsX4_fifths := by decide +kernel
theorem mw_X4_fifths_maxI : Cond.initialized "java/lang/Math" ∈ wsX4_fifths := by decide +kernel
theorem mw_X4_fifths_maxC : Cond.code Lib.Math.max.name Lib.Math.max.code 2 (some .int) ∈ wsX4_fifths := by decide +kernel
theorem fw_X4_fifths_18 : Cond.fieldLink RX4 18 "StillInAugust$House" "goes" "[I" ∈ wsX4_fifths := by decide +kernel
theorem fw_X4_fifths_63 : Cond.fieldLink RX4 63 "StillInAugust$House" "fifthsLess" "I" ∈ wsX4_fifths := by decide +kernel
theorem iw_X4_fifths_X4 : ∀ w ∈ u_ws RX4 TX4 14, w ∈ wsX4_fifths := fun _ h => List.mem_cons_of_mem _ (List.mem_append_right _ h)
def J_X4_fifths (sh : Nat → Nat → Int32) (p0 : Int32) : Int32 := (if 0 < (((sh 3) (p0).toNatClampNeg) - (sh 0 12)) then (((sh 3) (p0).toNatClampNeg) - (sh 0 12)) else 0)
set_option maxHeartbeats 4000000 in
set_option maxRecDepth 100000 in
theorem c_X4_fifths (l : Launch) (D : va_G) (k : Nat → ClassId) (b : Nat → Nat) (qh : Nat → Nat) (sh : Nat → Nat → Int32) (sz : Nat) (p0 : Int32) (h_fl : 0 ≤ (sh 0 12).toInt ∧ (sh 0 12).toInt ≤ 5) (h_go : ∀ j, 0 ≤ (sh 3 j).toInt ∧ (sh 3 j).toInt ≤ 5) (hp0 : 0 ≤ p0.toInt ∧ p0.toInt ≤ 2) : MetI l D k b yX4_fifths wsX4_fifths ({ frames := 1, cells := 0, slots := 0, locals := 21 } : Room) [cell32_ qh sh, cell0_ k qh sh, cell1_ k qh sh, cell4_ k qh sh, cell3_ k qh sh, cell2_ k qh sh] sz [.ref (qh 0), .int p0] (fun (r : Int32) (u : Unit) => (0 ≤ r.toInt ∧ r.toInt ≤ 5) ∧ (r = J_X4_fifths sh p0)) (fun u => [cell32_ qh sh, cell0_ k qh sh, cell1_ k qh sh, cell4_ k qh sh, cell3_ k qh sh, cell2_ k qh sh]) := by
  refine g_enter (cc := cX4_fifths) (maxL := 2) (ret := (some .int)) (by decide) rfl (Nat.le_of_ble_eq_true rfl) ?_
  intro p e s m below meth c A hsz hAe cx hr hP hD hS ls hl
  rw [hAe]
  refine g_q (fun Q hQ => ?_)
  have hx := cx.1.1
  have hb := cx.1.2.1
  have bp0 := i_rng p0
  have hl : lv_has ls 2 [(0, .ref (qh 0)), (1, .int p0)] := hl
  obtain ⟨H, eH⟩ : ∃ H : Heap, H = s.heap := ⟨_, rfl⟩
  obtain ⟨locs, el⟩ : ∃ L : List Loc, L = [] := ⟨_, rfl⟩
  have hP : va_P D vwCl [cell32_ qh sh, cell0_ k qh sh, cell1_ k qh sh, cell4_ k qh sh, cell3_ k qh sh, cell2_ k qh sh] H := by rw [eH]; exact hP
  have hD : va_D A [cell32_ qh sh, cell0_ k qh sh, cell1_ k qh sh, cell4_ k qh sh, cell3_ k qh sh, cell2_ k qh sh] := hD
  have hS : va_S A s.heap H locs := by rw [eH, el]; exact hS
  suffices goal : W p l e ({ frames := 1, cells := 0, slots := 0, locals := 21 } : Room) s m ([.ref (qh 0), .int p0] : List Value).toArray below meth c H locs 0 0 Q (F0 m 0 ls []) by rw [eH, el] at goal; exact goal
  refine lv_iconst (v := 0) hx hb dX4_fifths_0 (by decide) ?_
  refine lv_aload_n hx hb dX4_fifths_1 rfl (lv_at hl 0 rfl) ?_
  refine g_get cx hP iw_X4_fifths_X4 0 rfl rfl 4 (by decide) rfl fw_X4_fifths_18 rfl dX4_fifths_2 ?_
  refine lv_iload_n hx hb dX4_fifths_5 rfl (lv_at hl 1 rfl) ?_
  have hn1 : vp_in p0 3 := f_in (a := p0.toInt) rfl (by omega) (by omega)
  refine va_iald hx hb cx.2.1 hP 3 0 rfl rfl hn1 dX4_fifths_6 (lv_topi (fun v2 e2 => ?_))
  have t2 : 0 ≤ v2.toInt ∧ v2.toInt ≤ 5 := by rw [e2]; exact h_go _
  refine lv_aload_n hx hb dX4_fifths_7 rfl (lv_at hl 0 rfl) ?_
  refine g_get cx hP iw_X4_fifths_X4 0 rfl rfl 12 (by decide) rfl fw_X4_fifths_63 rfl dX4_fifths_8 ?_
  refine lv_isub hx hb dX4_fifths_11 (lv_topi (fun v3 e3 => ?_))
  have t3 : v3.toInt = v2.toInt - (sh 0 12).toInt := by rw [e3]; exact i_sub rfl rfl (by omega) (by omega)
  refine va_mmax hx hb (cx.1.2.2.1.trans hl.1.symm) cx.1.2.2.2.1 (cx.1.2.2.2.2 _ mw_X4_fifths_maxL97) (cx.1.2.2.2.2 _ mw_X4_fifths_maxS) (cx.1.2.2.2.2 _ mw_X4_fifths_maxI) (cx.1.2.2.2.2 _ mw_X4_fifths_maxC) (Nat.le_of_ble_eq_true rfl) (Nat.le_of_ble_eq_true rfl) (Nat.zero_le _) (Nat.zero_le _) dX4_fifths_12 (lv_topi (fun v4 e4 => ?_))
  have t4 := i_max (by decide) rfl (a := 0) (b := v3.toInt) e4
  rw [hQ]
  exact x_i cx hr () hP hD hS ⟨(show 0 ≤ v4.toInt ∧ v4.toInt ≤ 5 from by omega), (show v4 = J_X4_fifths sh p0 from by subst e2 e3 e4; rfl)⟩ dX4_fifths_15
