theorem fw_X12_goes_13 : Cond.fieldLink RX12 13 "StillInAugustModel" "house" "[I" ∈ wsX12_goes := by decide +kernel
theorem iw_X12_goes_X12 : ∀ w ∈ u_ws RX12 TX12 33, w ∈ wsX12_goes := fun _ h => List.mem_cons_of_mem _ (List.mem_append_right _ h)
def J_X12_goes (sm : Nat → Nat → Int32) (tm : Nat → Nat → Int64) (p0 : Int32) : Int32 := if ((sm 2) (7 : Int32).toNatClampNeg) = (-9) then if 0 ≤ (((sm 2) (((20 : Int32) + p0)).toNatClampNeg) - (0 : Int32)) then (((sm 2) (((20 : Int32) + p0)).toNatClampNeg) - (0 : Int32)) else (0 : Int32) else if 0 ≤ (((sm 2) (((20 : Int32) + p0)).toNatClampNeg) - ((sm 2) (8 : Int32).toNatClampNeg)) then (((sm 2) (((20 : Int32) + p0)).toNatClampNeg) - ((sm 2) (8 : Int32).toNatClampNeg)) else (0 : Int32)
set_option maxHeartbeats 4000000 in
set_option maxRecDepth 100000 in
theorem c_X12_goes (l : Launch) (D : va_G) (k : Nat → ClassId) (b : Nat → Nat) (qm : Nat → Nat) (sm : Nat → Nat → Int32) (tm : Nat → Nat → Int64) (sz : Nat) (p0 : Int32) (hp0 : 0 ≤ p0.toInt ∧ p0.toInt ≤ 2) : MetI l D k b yX12_goes wsX12_goes ({ frames := 0, cells := 0, slots := 0, locals := 0 } : Room) [cell22_ qm sm tm, cell5_ k qm sm, cell13_ k qm sm, cell8_ k qm sm, cell6_ k qm sm, cell14_ k qm sm, cell15_ k qm tm, cell12_ k qm tm, cell18_ k qm tm, cell17_ k qm tm, cell19_ k qm tm, cell21_ k qm tm, cell20_ k qm sm, cell16_ k qm sm, cell11_ k qm sm, cell10_ k qm sm, cell9_ k qm sm, cell7_ k qm sm] sz [.ref (qm 0), .int p0] (fun (r : Int32) (u : Unit) => r = J_X12_goes sm tm p0) (fun u => [cell22_ qm sm tm, cell5_ k qm sm, cell13_ k qm sm, cell8_ k qm sm, cell6_ k qm sm, cell14_ k qm sm, cell15_ k qm tm, cell12_ k qm tm, cell18_ k qm tm, cell17_ k qm tm, cell19_ k qm tm, cell21_ k qm tm, cell20_ k qm sm, cell16_ k qm sm, cell11_ k qm sm, cell10_ k qm sm, cell9_ k qm sm, cell7_ k qm sm]) := by
  refine g_enter (cc := cX12_goes) (maxL := 3) (ret := (some .int)) (by decide) rfl (Nat.le_of_ble_eq_true rfl) ?_
  intro p e s m below meth c A hsz hAe cx hr hP hD hS ls hl
  rw [hAe]
  refine g_q (fun Q hQ => ?_)
  have hx := cx.1.1
  have hb := cx.1.2.1
  have bp0 := i_rng p0
  have hl : lv_has ls 3 [(0, .ref (qm 0)), (1, .int p0)] := hl
  obtain ⟨H, eH⟩ : ∃ H : Heap, H = s.heap := ⟨_, rfl⟩
  obtain ⟨locs, el⟩ : ∃ L : List Loc, L = [] := ⟨_, rfl⟩
  have hP : va_P D vwCl [cell22_ qm sm tm, cell5_ k qm sm, cell13_ k qm sm, cell8_ k qm sm, cell6_ k qm sm, cell14_ k qm sm, cell15_ k qm tm, cell12_ k qm tm, cell18_ k qm tm, cell17_ k qm tm, cell19_ k qm tm, cell21_ k qm tm, cell20_ k qm sm, cell16_ k qm sm, cell11_ k qm sm, cell10_ k qm sm, cell9_ k qm sm, cell7_ k qm sm] H := by rw [eH]; exact hP
  have hD : va_D A [cell22_ qm sm tm, cell5_ k qm sm, cell13_ k qm sm, cell8_ k qm sm, cell6_ k qm sm, cell14_ k qm sm, cell15_ k qm tm, cell12_ k qm tm, cell18_ k qm tm, cell17_ k qm tm, cell19_ k qm tm, cell21_ k qm tm, cell20_ k qm sm, cell16_ k qm sm, cell11_ k qm sm, cell10_ k qm sm, cell9_ k qm sm, cell7_ k qm sm] := hD
  have hS : va_S A s.heap H locs := by rw [eH, el]; exact hS
  suffices goal : W p l e ({ frames := 0, cells := 0, slots := 0, locals := 0 } : Room) s m ([.ref (qm 0), .int p0] : List Value).toArray below meth c H locs 0 0 Q (F0 m 0 ls []) by rw [eH, el] at goal; exact goal
  refine lv_aload_n hx hb dX12_goes_0 rfl (lv_at hl 0 rfl) ?_
  refine g_get cx hP iw_X12_goes_X12 0 rfl rfl 1 (by decide) rfl fw_X12_goes_13 rfl dX12_goes_1 ?_
  refine lv_bipush (v := 20) hx hb dX12_goes_4 (by decide) ?_
  refine lv_iload_n hx hb dX12_goes_6 rfl (lv_at hl 1 rfl) ?_
  refine lv_iadd hx hb dX12_goes_7 (lv_topi (fun v1 e1 => ?_))
  have t1 : v1.toInt = 20 + p0.toInt := by rw [e1]; exact i_add (by decide) rfl (by omega) (by omega)
  have hn2 : vp_in v1 26 := f_in (a := v1.toInt) rfl (by omega) (by omega)
  refine va_iald hx hb cx.2.1 hP 2 0 rfl rfl hn2 dX12_goes_8 (lv_topi (fun v3 e3 => ?_))
  refine lv_aload_n hx hb dX12_goes_9 rfl (lv_at hl 0 rfl) ?_
  refine g_get cx hP iw_X12_goes_X12 0 rfl rfl 1 (by decide) rfl fw_X12_goes_13 rfl dX12_goes_10 ?_
  refine lv_bipush (v := 7) hx hb dX12_goes_13 (by decide) ?_
  have hn4 : vp_in 7 26 := f_in (a := 7) (by decide) (by omega) (by omega)
  refine va_iald hx hb cx.2.1 hP 2 0 rfl rfl hn4 dX12_goes_15 (lv_topi (fun v5 e5 => ?_))
  have uv5 : v5.toInt = ((sm 2) 7).toInt := congrArg Int32.toInt e5
  refine lv_bipush (v := (-9)) hx hb dX12_goes_16 (by decide) ?_
  refine lv_icmp_ne (tgt := 25) hx hb dX12_goes_18 (by decide) (fun c6 => ?_) (fun c6 => ?_)
  · have f6 : ¬ v5.toInt = (-9) := f_ne rfl (by decide) c6
    refine lv_aload_n hx hb dX12_goes_25 rfl (lv_at hl 0 rfl) ?_
    refine g_get cx hP iw_X12_goes_X12 0 rfl rfl 1 (by decide) rfl fw_X12_goes_13 rfl dX12_goes_26 ?_
    refine lv_bipush (v := 8) hx hb dX12_goes_29 (by decide) ?_
    have hn7 : vp_in 8 26 := f_in (a := 8) (by decide) (by omega) (by omega)
    refine va_iald hx hb cx.2.1 hP 2 0 rfl rfl hn7 dX12_goes_31 (lv_topi (fun v8 e8 => ?_))
    have uv8 : v8.toInt = ((sm 2) 8).toInt := congrArg Int32.toInt e8
    refine lv_isub hx hb dX12_goes_32 (lv_topi (fun v9 e9 => ?_))
    refine lv_istore_n (lv' := [(2, .int v9), (0, .ref (qm 0)), (1, .int p0)]) hx hb dX12_goes_33 rfl hl (by decide) rfl (fun ls hl => ?_)
    refine lv_iload_n hx hb dX12_goes_34 rfl (lv_at hl 0 rfl) ?_
    refine lv_if_ge (tgt := 42) hx hb dX12_goes_35 (by decide) (fun c10 => ?_) (fun c10 => ?_)
    · have f10 : 0 ≤ v9.toInt := f_le (by decide) rfl c10
      refine lv_iload_n hx hb dX12_goes_42 rfl (lv_at hl 0 rfl) ?_
      rw [hQ]
      exact x_i cx hr () hP hD hS (show v9 = J_X12_goes sm tm p0 from by subst e1 e3 e5 e8 e9; first | (refine Eq.symm ?_; refine Eq.trans (if_neg c6) ?_; refine Eq.trans (if_pos c10) ?_; rfl) | (unfold J_X12_goes; try dsimp only; rw [if_neg c6, if_pos c10])) dX12_goes_43
    · have f10 : v9.toInt < 0 := f_nle (by decide) rfl c10
      refine lv_iconst (v := 0) hx hb dX12_goes_38 (by decide) ?_
      refine lv_goto (tgt := 43) hx hb dX12_goes_39 (by decide) ?_
      have hlit11 : (0 : Int32).toInt = 0 := by decide
      rw [hQ]
      exact x_i cx hr () hP hD hS (show (0 : Int32) = J_X12_goes sm tm p0 from by subst e1 e3 e5 e8 e9; first | (refine Eq.symm ?_; refine Eq.trans (if_neg c6) ?_; refine Eq.trans (if_neg c10) ?_; rfl) | (unfold J_X12_goes; try dsimp only; rw [if_neg c6, if_neg c10])) dX12_goes_43
  · have f6 : v5.toInt = (-9) := f_eq rfl (by decide) c6
    refine lv_iconst (v := 0) hx hb dX12_goes_21 (by decide) ?_
    refine lv_goto (tgt := 32) hx hb dX12_goes_22 (by decide) ?_
    refine lv_isub hx hb dX12_goes_32 (lv_topi (fun v12 e12 => ?_))
    refine lv_istore_n (lv' := [(2, .int v12), (0, .ref (qm 0)), (1, .int p0)]) hx hb dX12_goes_33 rfl hl (by decide) rfl (fun ls hl => ?_)
    refine lv_iload_n hx hb dX12_goes_34 rfl (lv_at hl 0 rfl) ?_
    refine lv_if_ge (tgt := 42) hx hb dX12_goes_35 (by decide) (fun c13 => ?_) (fun c13 => ?_)
    · have f13 : 0 ≤ v12.toInt := f_le (by decide) rfl c13
      refine lv_iload_n hx hb dX12_goes_42 rfl (lv_at hl 0 rfl) ?_
      rw [hQ]
      exact x_i cx hr () hP hD hS (show v12 = J_X12_goes sm tm p0 from by subst e1 e3 e5 e12; first | (refine Eq.symm ?_; refine Eq.trans (if_pos c6) ?_; refine Eq.trans (if_pos c13) ?_; rfl) | (unfold J_X12_goes; try dsimp only; rw [if_pos c6, if_pos c13])) dX12_goes_43
    · have f13 : v12.toInt < 0 := f_nle (by decide) rfl c13
      refine lv_iconst (v := 0) hx hb dX12_goes_38 (by decide) ?_
      refine lv_goto (tgt := 43) hx hb dX12_goes_39 (by decide) ?_
      have hlit14 : (0 : Int32).toInt = 0 := by decide
      rw [hQ]
      exact x_i cx hr () hP hD hS (show (0 : Int32) = J_X12_goes sm tm p0 from by subst e1 e3 e5 e12; first | (refine Eq.symm ?_; refine Eq.trans (if_pos c6) ?_; refine Eq.trans (if_neg c13) ?_; rfl) | (unfold J_X12_goes; try dsimp only; rw [if_pos c6, if_neg c13])) dX12_goes_43
