theorem fw_X4_partsTo_26 : Cond.fieldLink RX4 26 "StillInAugust$House" "sundays" "[I" ∈ wsX4_partsTo := by decide +kernel
theorem iw_X4_partsTo_X4 : ∀ w ∈ u_ws RX4 TX4 14, w ∈ wsX4_partsTo := fun _ h => List.mem_cons_of_mem _ (List.mem_append_right _ h)
def J_X4_partsTo (sh : Nat → Nat → Int32) (p0 : Int32) (p1 : Int32) : Int32 := ((sh 5) (((p0 * (15 : Int32)) + p1)).toNatClampNeg)
theorem exl_X4_partsTo_0 {sh : Nat → Nat → Int32} {p0 : Int32} {p1 : Int32} {v4 : Int32} {v1 : Int32} {v2 : Int32} (e1 : v1 = (p0 * (15 : Int32))) (e2 : v2 = (v1 + p1)) (e4 : v4 = ((sh 5) (v2).toNatClampNeg)) : v4 = J_X4_partsTo sh p0 p1 := by subst e1 e2 e4; refine Eq.symm ?_; unfold J_X4_partsTo; rfl
set_option maxHeartbeats 4000000 in
set_option maxRecDepth 100000 in
theorem c_X4_partsTo (l : Launch) (D : va_G) (k : Nat → ClassId) (b : Nat → Nat) (qh : Nat → Nat) (sh : Nat → Nat → Int32) (sz : Nat) (p0 : Int32) (p1 : Int32) (h_su : SUok (sh 5)) (hp0 : 0 ≤ p0.toInt ∧ p0.toInt ≤ 34) (hp1 : 0 ≤ p1.toInt ∧ p1.toInt ≤ 14) : MetI l D k b yX4_partsTo wsX4_partsTo ({ frames := 0, cells := 0, slots := 0, locals := 0 } : Room) [cell32_ qh sh, cell0_ k qh sh, cell1_ k qh sh, cell4_ k qh sh, cell3_ k qh sh, cell2_ k qh sh] sz [.ref (qh 0), .int p0, .int p1] (fun (r : Int32) (u : Unit) => (r = 0 ∨ totN p1.toNatClampNeg ≤ totN p0.toNatClampNeg) ∧ (r = J_X4_partsTo sh p0 p1)) (fun u => [cell32_ qh sh, cell0_ k qh sh, cell1_ k qh sh, cell4_ k qh sh, cell3_ k qh sh, cell2_ k qh sh]) := by
  refine g_enter (cc := cX4_partsTo) (maxL := 3) (ret := (some .int)) (by decide) rfl (Nat.le_of_ble_eq_true rfl) ?_
  intro p e s m below meth c A hsz hAe cx hr hP hD hS ls hl
  rw [hAe]
  refine g_q (fun Q hQ => ?_)
  have hx := cx.1.1
  have hb := cx.1.2.1
  have bp0 := i_rng p0
  have bp1 := i_rng p1
  have hl : lv_has ls 3 [(0, .ref (qh 0)), (1, .int p0), (2, .int p1)] := hl
  obtain ⟨H, eH⟩ : ∃ H : Heap, H = s.heap := ⟨_, rfl⟩
  obtain ⟨locs, el⟩ : ∃ L : List Loc, L = [] := ⟨_, rfl⟩
  have hP : va_P D vwCl [cell32_ qh sh, cell0_ k qh sh, cell1_ k qh sh, cell4_ k qh sh, cell3_ k qh sh, cell2_ k qh sh] H := by rw [eH]; exact hP
  have hD : va_D A [cell32_ qh sh, cell0_ k qh sh, cell1_ k qh sh, cell4_ k qh sh, cell3_ k qh sh, cell2_ k qh sh] := hD
  have hS : va_S A s.heap H locs := by rw [eH, el]; exact hS
  suffices goal : W p l e ({ frames := 0, cells := 0, slots := 0, locals := 0 } : Room) s m ([.ref (qh 0), .int p0, .int p1] : List Value).toArray below meth c H locs 0 0 Q (F0 m 0 ls []) by rw [eH, el] at goal; exact goal
  refine lv_aload_n hx hb dX4_partsTo_0 rfl (lv_at hl 0 rfl) ?_
  refine g_get cx hP iw_X4_partsTo_X4 0 rfl rfl 13 (by decide) rfl fw_X4_partsTo_26 rfl dX4_partsTo_1 ?_
  refine lv_iload_n hx hb dX4_partsTo_4 rfl (lv_at hl 1 rfl) ?_
  refine lv_bipush (v := 15) hx hb dX4_partsTo_5 (by decide) ?_
  refine lv_imul hx hb dX4_partsTo_7 (lv_topi (fun v1 e1 => ?_))
  have t1 : v1.toInt = p0.toInt * 15 := by rw [e1]; exact i_mul rfl (by decide) (by omega) (by omega)
  refine lv_iload_n hx hb dX4_partsTo_8 rfl (lv_at hl 2 rfl) ?_
  refine lv_iadd hx hb dX4_partsTo_9 (lv_topi (fun v2 e2 => ?_))
  have t2 : v2.toInt = v1.toInt + p1.toInt := by rw [e2]; exact i_add rfl rfl (by omega) (by omega)
  have hn3 : vp_in v2 525 := f_in (a := v2.toInt) rfl (by omega) (by omega)
  refine va_iald hx hb cx.2.1 hP 5 0 rfl rfl hn3 dX4_partsTo_10 (lv_topi (fun v4 e4 => ?_))
  have su0 := SU_get (k := p0) (b := p1) e4 h_su (by omega) ⟨by omega, by omega⟩ ⟨by omega, by omega⟩
  rw [hQ]
  exact x_i cx hr () hP hD hS ⟨(show v4 = 0 ∨ totN p1.toNatClampNeg ≤ totN p0.toNatClampNeg from su0), (show v4 = J_X4_partsTo sh p0 p1 from (exl_X4_partsTo_0 e1 e2 e4))⟩ dX4_partsTo_11
