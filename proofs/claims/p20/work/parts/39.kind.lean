theorem fw_X3_kind_15 : Cond.fieldLink RX3 15 "StillInAugust$Hands" "BEGINNINGS" "[I" ∈ wsX3_kind := by decide +kernel
def J_X3_kind (p0 : Int32) : Int32 := (((zBEG.getD ((p0 / 100)).toNatClampNeg 0) + ((((p0 / 10) - (p0 / 10) / 10 * 10) * (5 - (p0 / 100))) - ((((p0 / 10) - (p0 / 10) / 10 * 10) * (((p0 / 10) - (p0 / 10) / 10 * 10) - 1)) / 2))) + (p0 - p0 / 10 * 10))
set_option maxHeartbeats 4000000 in
set_option maxRecDepth 100000 in
theorem c_X3_kind (l : Launch) (D : va_G) (k : Nat → ClassId) (b : Nat → Nat) (sz : Nat) (p0 : Int32) (hv : 0 ≤ p0.toInt ∧ p0.toInt ≤ 400 ∧ p0.toInt / 100 + p0.toInt / 10 % 10 + p0.toInt % 10 ≤ 4) : MetI l D k b yX3_kind wsX3_kind ({ frames := 0, cells := 0, slots := 0, locals := 0 } : Room) [] sz [.int p0] (fun (r : Int32) (u : Unit) => r = J_X3_kind p0) (fun u => []) := by
  refine g_enter (cc := cX3_kind) (maxL := 4) (ret := (some .int)) (by decide) rfl (Nat.le_of_ble_eq_true rfl) ?_
  intro p e s m below meth c A hsz hAe cx hr hP hD hS ls hl
  rw [hAe]
  refine g_q (fun Q hQ => ?_)
  have hx := cx.1.1
  have hb := cx.1.2.1
  have bp0 := i_rng p0
  have hl : lv_has ls 4 [(0, .int p0)] := hl
  obtain ⟨H, eH⟩ : ∃ H : Heap, H = s.heap := ⟨_, rfl⟩
  obtain ⟨locs, el⟩ : ∃ L : List Loc, L = [] := ⟨_, rfl⟩
  have hP : va_P D vwCl [] H := by rw [eH]; exact hP
  have hD : va_D A [] := hD
  have hS : va_S A s.heap H locs := by rw [eH, el]; exact hS
  suffices goal : W p l e ({ frames := 0, cells := 0, slots := 0, locals := 0 } : Room) s m ([.int p0] : List Value).toArray below meth c H locs 0 0 Q (F0 m 0 ls []) by rw [eH, el] at goal; exact goal
  refine lv_iload_n hx hb dX3_kind_0 rfl (lv_at hl 0 rfl) ?_
  refine lv_bipush (v := 100) hx hb dX3_kind_1 (by decide) ?_
  refine lv_idiv hx hb dX3_kind_3 (by decide) (lv_topi (fun v1 e1 => ?_))
  have t1 : v1.toInt = p0.toInt / 100 := by rw [e1]; exact i_div rfl (by decide) (by omega) (by omega) (by omega)
  refine lv_istore_n (lv' := [(1, .int v1), (0, .int p0)]) hx hb dX3_kind_4 rfl hl (by decide) rfl (fun ls hl => ?_)
  refine lv_iload_n hx hb dX3_kind_5 rfl (lv_at hl 1 rfl) ?_
  refine lv_bipush (v := 10) hx hb dX3_kind_6 (by decide) ?_
  refine lv_idiv hx hb dX3_kind_8 (by decide) (lv_topi (fun v2 e2 => ?_))
  have t2 : v2.toInt = p0.toInt / 10 := by rw [e2]; exact i_div rfl (by decide) (by omega) (by omega) (by omega)
  refine lv_bipush (v := 10) hx hb dX3_kind_9 (by decide) ?_
  refine lv_irem hx hb dX3_kind_11 (by decide) (lv_topi (fun v3 e3 => ?_))
  have t3 : v3.toInt = v2.toInt % 10 := by rw [e3]; exact i_rem rfl (by decide) (by omega) (by omega) (by omega) (by omega)
  refine lv_istore_n (lv' := [(2, .int v3), (1, .int v1), (0, .int p0)]) hx hb dX3_kind_12 rfl hl (by decide) rfl (fun ls hl => ?_)
  refine lv_iload_n hx hb dX3_kind_13 rfl (lv_at hl 0 rfl) ?_
  refine lv_iconst (v := 5) hx hb dX3_kind_14 (by decide) ?_
  refine lv_iload_n hx hb dX3_kind_15 rfl (lv_at hl 1 rfl) ?_
  refine lv_isub hx hb dX3_kind_16 (lv_topi (fun v4 e4 => ?_))
  have t4 : v4.toInt = 5 - v1.toInt := by rw [e4]; exact i_sub (by decide) rfl (by omega) (by omega)
  refine lv_imul hx hb dX3_kind_17 (lv_topi (fun v5 e5 => ?_))
  have t5b : 0 ≤ v3.toInt * v4.toInt ∧ v3.toInt * v4.toInt ≤ 45 := ⟨Int.mul_nonneg (by omega) (by omega), Int.le_trans (Int.mul_le_mul (c := 9) (d := 5) (by omega) (by omega) (by omega) (by omega)) (by decide)⟩
  have t5c : v5.toInt = v3.toInt * v4.toInt := by rw [e5]; exact i_mul rfl rfl (by omega) (by omega)
  have t5 : 0 ≤ v5.toInt ∧ v5.toInt ≤ 45 := by rw [t5c]; exact t5b
  refine lv_iload_n hx hb dX3_kind_18 rfl (lv_at hl 0 rfl) ?_
  refine lv_iload_n hx hb dX3_kind_19 rfl (lv_at hl 0 rfl) ?_
  refine lv_iconst (v := 1) hx hb dX3_kind_20 (by decide) ?_
  refine lv_isub hx hb dX3_kind_21 (lv_topi (fun v6 e6 => ?_))
  have t6 : v6.toInt = v3.toInt - 1 := by rw [e6]; exact i_sub rfl (by decide) (by omega) (by omega)
  refine lv_imul hx hb dX3_kind_22 (lv_topi (fun v7 e7 => ?_))
  refine lv_iconst (v := 2) hx hb dX3_kind_23 (by decide) ?_
  refine lv_idiv hx hb dX3_kind_24 (by decide) (lv_topi (fun v8 e8 => ?_))
  refine lv_isub hx hb dX3_kind_25 (lv_topi (fun v9 e9 => ?_))
  refine lv_istore_n (lv' := [(3, .int v9), (2, .int v3), (1, .int v1), (0, .int p0)]) hx hb dX3_kind_26 rfl hl (by decide) rfl (fun ls hl => ?_)
  refine va_gets hx hb cx.2.2.2.t1.1 hS cx.1.2.2.2.1 (cx.1.2.2.2.2 _ fw_X3_kind_15) (fun _ h => h) dX3_kind_27 ?_
  refine lv_iload_n hx hb dX3_kind_30 rfl (lv_at hl 2 rfl) ?_
  have hn10 : vp_in v1 5 := f_in (a := v1.toInt) rfl (by omega) (by omega)
  refine va_ti hx hb cx.2.2.2.t1.2 hS hn10 rfl dX3_kind_31 (lv_topi (fun v11 e11 => ?_))
  refine lv_iload_n hx hb dX3_kind_32 rfl (lv_at hl 0 rfl) ?_
  refine lv_iadd hx hb dX3_kind_33 (lv_topi (fun v12 e12 => ?_))
  refine lv_iload_n hx hb dX3_kind_34 rfl (lv_at hl 3 rfl) ?_
  refine lv_bipush (v := 10) hx hb dX3_kind_35 (by decide) ?_
  refine lv_irem hx hb dX3_kind_37 (by decide) (lv_topi (fun v13 e13 => ?_))
  have t13 : v13.toInt = p0.toInt % 10 := by rw [e13]; exact i_rem rfl (by decide) (by omega) (by omega) (by omega) (by omega)
  refine lv_iadd hx hb dX3_kind_38 (lv_topi (fun v14 e14 => ?_))
  rw [hQ]
  exact x_i cx hr () hP hD hS (show v14 = J_X3_kind p0 from by subst e1 e2 e3 e4 e5 e6 e7 e8 e9 e11 e12 e13 e14; rfl) dX3_kind_39
