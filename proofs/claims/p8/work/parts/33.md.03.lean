theorem fw_X12_level_19 : Cond.fieldLink RX12 19 "StillInAugustModel" "levels" "[I" ∈ wsX12_level := by decide +kernel
theorem kJ_X12_level_69 : Cond.constantLong RX12 69 (4) ∈ wsX12_level := by decide +kernel
theorem iw_X12_level_X12 : ∀ w ∈ u_ws RX12 TX12 33, w ∈ wsX12_level := fun _ h => List.mem_cons_of_mem _ (List.mem_append_right _ h)
def J_X12_level (sm : Nat → Nat → Int32) (tm : Nat → Nat → Int64) (p0 : Int32) (p1 : Int32) : Int32 := let y6 := J_X12_isRule p0; if y6 = 0 then ((-1) : Int32) else if (J_X12_in (p1.toInt64) 0 4) = 0 then ((-1) : Int32) else ((sm 4) ((((5 : Int32) * p0) + p1)).toNatClampNeg)
set_option maxHeartbeats 4000000 in
set_option maxRecDepth 100000 in
theorem c_X12_level (l : Launch) (D : va_G) (k : Nat → ClassId) (b : Nat → Nat) (qm : Nat → Nat) (sm : Nat → Nat → Int32) (tm : Nat → Nat → Int64) (sz : Nat) (p0 : Int32) (p1 : Int32) : MetI l D k b yX12_level wsX12_level ({ frames := 2, cells := 0, slots := 0, locals := 45 } : Room) [cell22_ qm sm tm, cell5_ k qm sm, cell13_ k qm sm, cell8_ k qm sm, cell6_ k qm sm, cell14_ k qm sm, cell15_ k qm tm, cell12_ k qm tm, cell18_ k qm tm, cell17_ k qm tm, cell19_ k qm tm, cell21_ k qm tm, cell20_ k qm sm, cell16_ k qm sm, cell11_ k qm sm, cell10_ k qm sm, cell9_ k qm sm, cell7_ k qm sm] sz [.ref (qm 0), .int p0, .int p1] (fun (r : Int32) (u : Unit) => r = J_X12_level sm tm p0 p1) (fun u => [cell22_ qm sm tm, cell5_ k qm sm, cell13_ k qm sm, cell8_ k qm sm, cell6_ k qm sm, cell14_ k qm sm, cell15_ k qm tm, cell12_ k qm tm, cell18_ k qm tm, cell17_ k qm tm, cell19_ k qm tm, cell21_ k qm tm, cell20_ k qm sm, cell16_ k qm sm, cell11_ k qm sm, cell10_ k qm sm, cell9_ k qm sm, cell7_ k qm sm]) := by
  refine g_enter (cc := cX12_level) (maxL := 3) (ret := (some .int)) (by decide) rfl (Nat.le_of_ble_eq_true rfl) ?_
  intro p e s m below meth c A hsz hAe cx hr hP hD hS ls hl
  rw [hAe]
  refine g_q (fun Q hQ => ?_)
  have hx := cx.1.1
  have hb := cx.1.2.1
  have bp0 := i_rng p0
  have bp1 := i_rng p1
  have hl : lv_has ls 3 [(0, .ref (qm 0)), (1, .int p0), (2, .int p1)] := hl
  obtain ⟨H, eH⟩ : ∃ H : Heap, H = s.heap := ⟨_, rfl⟩
  obtain ⟨locs, el⟩ : ∃ L : List Loc, L = [] := ⟨_, rfl⟩
  have hP : va_P D vwCl [cell22_ qm sm tm, cell5_ k qm sm, cell13_ k qm sm, cell8_ k qm sm, cell6_ k qm sm, cell14_ k qm sm, cell15_ k qm tm, cell12_ k qm tm, cell18_ k qm tm, cell17_ k qm tm, cell19_ k qm tm, cell21_ k qm tm, cell20_ k qm sm, cell16_ k qm sm, cell11_ k qm sm, cell10_ k qm sm, cell9_ k qm sm, cell7_ k qm sm] H := by rw [eH]; exact hP
  have hD : va_D A [cell22_ qm sm tm, cell5_ k qm sm, cell13_ k qm sm, cell8_ k qm sm, cell6_ k qm sm, cell14_ k qm sm, cell15_ k qm tm, cell12_ k qm tm, cell18_ k qm tm, cell17_ k qm tm, cell19_ k qm tm, cell21_ k qm tm, cell20_ k qm sm, cell16_ k qm sm, cell11_ k qm sm, cell10_ k qm sm, cell9_ k qm sm, cell7_ k qm sm] := hD
  have hS : va_S A s.heap H locs := by rw [eH, el]; exact hS
  suffices goal : W p l e ({ frames := 2, cells := 0, slots := 0, locals := 45 } : Room) s m ([.ref (qm 0), .int p0, .int p1] : List Value).toArray below meth c H locs 0 0 Q (F0 m 0 ls []) by rw [eH, el] at goal; exact goal
  refine lv_iload_n hx hb dX12_level_0 rfl (lv_at hl 1 rfl) ?_
  refine g_ir (g_runS (wc := []) (rest := []) cx hP hD hS [] rfl (by decide) [.int p0] (c_X12_isRule l D k b H.size p0) gX12_level_X12_isRule rfl rfl rfl nd_X12_isRule ⟨Nat.le_of_ble_eq_true rfl, Nat.le_of_ble_eq_true rfl⟩ rfl hl.1 rfl (Nat.le_of_ble_eq_true rfl) ⟨Nat.zero_le _, Nat.zero_le _⟩ dX12_level_1) cx.2.2.1 hP hD hS [] rfl rfl (fun r2 H locs hw1 hP hS => ?_)
  replace hw1 : (0 ≤ r2.toInt ∧ r2.toInt ≤ 1) ∧ (Imp (r2.toInt = 1) (0 ≤ p0.toInt ∧ p0.toInt ≤ 2)) ∧ (r2 = J_X12_isRule p0) := hw1
  obtain ⟨w3, w4, w5⟩ := hw1
  have k7 : r2 = (J_X12_isRule p0) := congrArg (fun z => z) w5
  have zr2 : 0 ≤ r2.toInt ∧ r2.toInt ≤ 1 := w3
  refine lv_if_eq (tgt := 32) hx hb dX12_level_4 (by decide) (fun c8 => ?_) (fun c8 => ?_)
  · have f8 : r2.toInt = 0 := f_eq rfl (by decide) c8
    refine lv_iconst (v := (-1)) hx hb dX12_level_32 (by decide) ?_
    have hlit9 : ((-1) : Int32).toInt = -1 := by decide
    rw [hQ]
    exact x_i cx hr () hP hD hS (show ((-1) : Int32) = J_X12_level sm tm p0 p1 from by subst k7; first | (refine Eq.symm ?_; refine Eq.trans (if_pos c8) ?_; rfl) | (unfold J_X12_level; try dsimp only; rw [if_pos c8])) dX12_level_33
  · have f8 : ¬ r2.toInt = 0 := f_ne rfl (by decide) c8
    have k8 : (0 ≤ p0.toInt ∧ p0.toInt ≤ 2) := w4 (by omega)
    refine lv_iload_n hx hb dX12_level_7 rfl (lv_at hl 2 rfl) ?_
    obtain ⟨v10, e10⟩ : ∃ z : Int64, z = (p1 : Int32).toInt64 := ⟨_, rfl⟩
    refine lv_i2l (v := v10) hx hb dX12_level_8 e10.symm ?_
    refine lv_lconst (v := 0) hx hb dX12_level_9 (by decide) ?_
    refine lv_ldc2 (v := 4) hx hb cx.1.2.2.2.1 (cx.1.2.2.2.2 _ kJ_X12_level_69) dX12_level_10 ?_
    refine g_ir (g_runS (wc := []) (rest := []) cx hP hD hS [] rfl (by decide) [.long v10, .long 0, .long 4] (c_X12_in l D k b H.size v10 0 4) gX12_level_X12_in rfl rfl rfl nd_X12_in ⟨Nat.le_of_ble_eq_true rfl, Nat.le_of_ble_eq_true rfl⟩ rfl hl.1 rfl (Nat.le_of_ble_eq_true rfl) ⟨Nat.zero_le _, Nat.zero_le _⟩ dX12_level_13) cx.2.2.1 hP hD hS [] rfl rfl (fun r12 H locs hw11 hP hS => ?_)
    have w13 : r12 = J_X12_in v10 (0 : Int64) (4 : Int64) := hw11
    clear hw11
    have zr12 := in_b w13
    refine lv_if_eq (tgt := 32) hx hb dX12_level_16 (by decide) (fun c14 => ?_) (fun c14 => ?_)
    · have f14 : r12.toInt = 0 := f_eq rfl (by decide) c14
      have k14 : p1.toInt < 0 ∨ 4 < p1.toInt := in_f (i2l_t rfl e10) (by decide) (by decide) w13 c14
      refine lv_iconst (v := (-1)) hx hb dX12_level_32 (by decide) ?_
      have hlit15 : ((-1) : Int32).toInt = -1 := by decide
      rw [hQ]
      exact x_i cx hr () hP hD hS (show ((-1) : Int32) = J_X12_level sm tm p0 p1 from by subst k7 e10 w13; first | (refine Eq.symm ?_; refine Eq.trans (if_neg c8) ?_; refine Eq.trans (if_pos c14) ?_; rfl) | (unfold J_X12_level; try dsimp only; rw [if_neg c8, if_pos c14])) dX12_level_33
    · have f14 : ¬ r12.toInt = 0 := f_ne rfl (by decide) c14
      have k14 : 0 ≤ p1.toInt ∧ p1.toInt ≤ 4 := in_t (i2l_t rfl e10) (by decide) (by decide) w13 c14
      refine lv_aload_n hx hb dX12_level_19 rfl (lv_at hl 0 rfl) ?_
      refine g_get cx hP iw_X12_level_X12 0 rfl rfl 11 (by decide) rfl fw_X12_level_19 rfl dX12_level_20 ?_
      refine lv_iconst (v := 5) hx hb dX12_level_23 (by decide) ?_
      refine lv_iload_n hx hb dX12_level_24 rfl (lv_at hl 1 rfl) ?_
      refine lv_imul hx hb dX12_level_25 (lv_topi (fun v16 e16 => ?_))
      have t16 : v16.toInt = 5 * p0.toInt := by rw [e16]; exact i_mul (by decide) rfl (by omega) (by omega)
      refine lv_iload_n hx hb dX12_level_26 rfl (lv_at hl 2 rfl) ?_
      refine lv_iadd hx hb dX12_level_27 (lv_topi (fun v17 e17 => ?_))
      have t17 : v17.toInt = v16.toInt + p1.toInt := by rw [e17]; exact i_add rfl rfl (by omega) (by omega)
      have hn18 : vp_in v17 15 := f_in (a := v17.toInt) rfl (by omega) (by omega)
      refine va_iald hx hb cx.2.1 hP 4 0 rfl rfl hn18 dX12_level_28 (lv_topi (fun v19 e19 => ?_))
      refine lv_goto (tgt := 33) hx hb dX12_level_29 (by decide) ?_
      rw [hQ]
      exact x_i cx hr () hP hD hS (show v19 = J_X12_level sm tm p0 p1 from by subst k7 e10 w13 e16 e17 e19; first | (refine Eq.symm ?_; refine Eq.trans (if_neg c8) ?_; refine Eq.trans (if_neg c14) ?_; rfl) | (unfold J_X12_level; try dsimp only; rw [if_neg c8, if_neg c14])) dX12_level_33
