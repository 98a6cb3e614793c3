theorem fw_X12_about_13 : Cond.fieldLink RX12 13 "StillInAugustModel" "house" "[I" ∈ wsX12_about := by decide +kernel
theorem kJ_X12_about_71 : Cond.constantLong RX12 71 (7) ∈ wsX12_about := by decide +kernel
theorem iw_X12_about_X12 : ∀ w ∈ u_ws RX12 TX12 33, w ∈ wsX12_about := fun _ h => List.mem_cons_of_mem _ (List.mem_append_right _ h)
def J_X12_about (sm : Nat → Nat → Int32) (tm : Nat → Nat → Int64) (p0 : Int32) : Int32 := if (J_X12_in (p0.toInt64) 0 7) = 0 then ((-2) : Int32) else ((sm 2) (p0).toNatClampNeg)
set_option maxHeartbeats 4000000 in
set_option maxRecDepth 100000 in
theorem c_X12_about (l : Launch) (D : va_G) (k : Nat → ClassId) (b : Nat → Nat) (qm : Nat → Nat) (sm : Nat → Nat → Int32) (tm : Nat → Nat → Int64) (sz : Nat) (p0 : Int32) : MetI l D k b yX12_about wsX12_about ({ frames := 1, cells := 0, slots := 0, locals := 25 } : Room) [cell22_ qm sm tm, cell5_ k qm sm, cell13_ k qm sm, cell8_ k qm sm, cell6_ k qm sm, cell14_ k qm sm, cell15_ k qm tm, cell12_ k qm tm, cell18_ k qm tm, cell17_ k qm tm, cell19_ k qm tm, cell21_ k qm tm, cell20_ k qm sm, cell16_ k qm sm, cell11_ k qm sm, cell10_ k qm sm, cell9_ k qm sm, cell7_ k qm sm] sz [.ref (qm 0), .int p0] (fun (r : Int32) (u : Unit) => r = J_X12_about sm tm p0) (fun u => [cell22_ qm sm tm, cell5_ k qm sm, cell13_ k qm sm, cell8_ k qm sm, cell6_ k qm sm, cell14_ k qm sm, cell15_ k qm tm, cell12_ k qm tm, cell18_ k qm tm, cell17_ k qm tm, cell19_ k qm tm, cell21_ k qm tm, cell20_ k qm sm, cell16_ k qm sm, cell11_ k qm sm, cell10_ k qm sm, cell9_ k qm sm, cell7_ k qm sm]) := by
  refine g_enter (cc := cX12_about) (maxL := 2) (ret := (some .int)) (by decide) rfl (Nat.le_of_ble_eq_true rfl) ?_
  intro p e s m below meth c A hsz hAe cx hr hP hD hS ls hl
  rw [hAe]
  refine g_q (fun Q hQ => ?_)
  have hx := cx.1.1
  have hb := cx.1.2.1
  have bp0 := i_rng p0
  have hl : lv_has ls 2 [(0, .ref (qm 0)), (1, .int p0)] := hl
  obtain ⟨H, eH⟩ : ∃ H : Heap, H = s.heap := ⟨_, rfl⟩
  obtain ⟨locs, el⟩ : ∃ L : List Loc, L = [] := ⟨_, rfl⟩
  have hP : va_P D vwCl [cell22_ qm sm tm, cell5_ k qm sm, cell13_ k qm sm, cell8_ k qm sm, cell6_ k qm sm, cell14_ k qm sm, cell15_ k qm tm, cell12_ k qm tm, cell18_ k qm tm, cell17_ k qm tm, cell19_ k qm tm, cell21_ k qm tm, cell20_ k qm sm, cell16_ k qm sm, cell11_ k qm sm, cell10_ k qm sm, cell9_ k qm sm, cell7_ k qm sm] H := by rw [eH]; exact hP
  have hD : va_D A [cell22_ qm sm tm, cell5_ k qm sm, cell13_ k qm sm, cell8_ k qm sm, cell6_ k qm sm, cell14_ k qm sm, cell15_ k qm tm, cell12_ k qm tm, cell18_ k qm tm, cell17_ k qm tm, cell19_ k qm tm, cell21_ k qm tm, cell20_ k qm sm, cell16_ k qm sm, cell11_ k qm sm, cell10_ k qm sm, cell9_ k qm sm, cell7_ k qm sm] := hD
  have hS : va_S A s.heap H locs := by rw [eH, el]; exact hS
  suffices goal : W p l e ({ frames := 1, cells := 0, slots := 0, locals := 25 } : Room) s m ([.ref (qm 0), .int p0] : List Value).toArray below meth c H locs 0 0 Q (F0 m 0 ls []) by rw [eH, el] at goal; exact goal
  refine lv_iload_n hx hb dX12_about_0 rfl (lv_at hl 1 rfl) ?_
  obtain ⟨v1, e1⟩ : ∃ z : Int64, z = (p0 : Int32).toInt64 := ⟨_, rfl⟩
  refine lv_i2l (v := v1) hx hb dX12_about_1 e1.symm ?_
  refine lv_lconst (v := 0) hx hb dX12_about_2 (by decide) ?_
  refine lv_ldc2 (v := 7) hx hb cx.1.2.2.2.1 (cx.1.2.2.2.2 _ kJ_X12_about_71) dX12_about_3 ?_
  refine g_ir (g_runS (wc := []) (rest := []) cx hP hD hS [] rfl (by decide) [.long v1, .long 0, .long 7] (c_X12_in l D k b H.size v1 0 7) gX12_about_X12_in rfl rfl rfl nd_X12_in ⟨Nat.le_of_ble_eq_true rfl, Nat.le_of_ble_eq_true rfl⟩ rfl hl.1 rfl (Nat.le_of_ble_eq_true rfl) ⟨Nat.zero_le _, Nat.zero_le _⟩ dX12_about_6) cx.2.2.1 hP hD hS [] rfl rfl (fun r3 H locs hw2 hP hS => ?_)
  have w4 : r3 = J_X12_in v1 (0 : Int64) (7 : Int64) := hw2
  clear hw2
  have zr3 := in_b w4
  refine lv_if_eq (tgt := 21) hx hb dX12_about_9 (by decide) (fun c5 => ?_) (fun c5 => ?_)
  · have f5 : r3.toInt = 0 := f_eq rfl (by decide) c5
    have k5 : p0.toInt < 0 ∨ 7 < p0.toInt := in_f (i2l_t rfl e1) (by decide) (by decide) w4 c5
    refine lv_bipush (v := (-2)) hx hb dX12_about_21 (by decide) ?_
    have hlit6 : ((-2) : Int32).toInt = -2 := by decide
    rw [hQ]
    exact x_i cx hr () hP hD hS (show ((-2) : Int32) = J_X12_about sm tm p0 from by subst e1 w4; first | (refine Eq.symm ?_; refine Eq.trans (if_pos c5) ?_; rfl) | (unfold J_X12_about; try dsimp only; rw [if_pos c5])) dX12_about_23
  · have f5 : ¬ r3.toInt = 0 := f_ne rfl (by decide) c5
    have k5 : 0 ≤ p0.toInt ∧ p0.toInt ≤ 7 := in_t (i2l_t rfl e1) (by decide) (by decide) w4 c5
    refine lv_aload_n hx hb dX12_about_12 rfl (lv_at hl 0 rfl) ?_
    refine g_get cx hP iw_X12_about_X12 0 rfl rfl 1 (by decide) rfl fw_X12_about_13 rfl dX12_about_13 ?_
    refine lv_iload_n hx hb dX12_about_16 rfl (lv_at hl 1 rfl) ?_
    have hn7 : vp_in p0 26 := f_in (a := p0.toInt) rfl (by omega) (by omega)
    refine va_iald hx hb cx.2.1 hP 2 0 rfl rfl hn7 dX12_about_17 (lv_topi (fun v8 e8 => ?_))
    refine lv_goto (tgt := 23) hx hb dX12_about_18 (by decide) ?_
    rw [hQ]
    exact x_i cx hr () hP hD hS (show v8 = J_X12_about sm tm p0 from by subst e1 w4 e8; first | (refine Eq.symm ?_; refine Eq.trans (if_neg c5) ?_; rfl) | (unfold J_X12_about; try dsimp only; rw [if_neg c5])) dX12_about_23
