theorem fw_X12_bonus_13 : Cond.fieldLink RX12 13 "StillInAugustModel" "house" "[I" ∈ wsX12_bonus := by decide +kernel
theorem iw_X12_bonus_X12 : ∀ w ∈ u_ws RX12 TX12 33, w ∈ wsX12_bonus := fun _ h => List.mem_cons_of_mem _ (List.mem_append_right _ h)
def J_X12_bonus (sm : Nat → Nat → Int32) (tm : Nat → Nat → Int64) (p0 : Int32) : Int32 := if ((sm 2) (7 : Int32).toNatClampNeg) = (-9) then (0 : Int32) else (((sm 2) (7 : Int32).toNatClampNeg) * (J_X12_all p0))
set_option maxHeartbeats 4000000 in
set_option maxRecDepth 100000 in
theorem c_X12_bonus (l : Launch) (D : va_G) (k : Nat → ClassId) (b : Nat → Nat) (qm : Nat → Nat) (sm : Nat → Nat → Int32) (tm : Nat → Nat → Int64) (sz : Nat) (p0 : Int32) : MetI l D k b yX12_bonus wsX12_bonus ({ frames := 1, cells := 0, slots := 0, locals := 20 } : Room) [cell22_ qm sm tm, cell5_ k qm sm, cell13_ k qm sm, cell8_ k qm sm, cell6_ k qm sm, cell14_ k qm sm, cell15_ k qm tm, cell12_ k qm tm, cell18_ k qm tm, cell17_ k qm tm, cell19_ k qm tm, cell21_ k qm tm, cell20_ k qm sm, cell16_ k qm sm, cell11_ k qm sm, cell10_ k qm sm, cell9_ k qm sm, cell7_ k qm sm] sz [.ref (qm 0), .int p0] (fun (r : Int32) (u : Unit) => r = J_X12_bonus sm tm p0) (fun u => [cell22_ qm sm tm, cell5_ k qm sm, cell13_ k qm sm, cell8_ k qm sm, cell6_ k qm sm, cell14_ k qm sm, cell15_ k qm tm, cell12_ k qm tm, cell18_ k qm tm, cell17_ k qm tm, cell19_ k qm tm, cell21_ k qm tm, cell20_ k qm sm, cell16_ k qm sm, cell11_ k qm sm, cell10_ k qm sm, cell9_ k qm sm, cell7_ k qm sm]) := by
  refine g_enter (cc := cX12_bonus) (maxL := 2) (ret := (some .int)) (by decide) rfl (Nat.le_of_ble_eq_true rfl) ?_
  intro p e s m below meth c A hsz hAe cx hr hP hD hS ls hl
  rw [hAe]
  refine g_q (fun Q hQ => ?_)
  have hx := cx.1.1
  have hb := cx.1.2.1
  have bp0 := i_rng p0
  have hl : lv_has ls 2 [(0, .ref (qm 0)), (1, .int p0)] := hl
  obtain ⟨H, eH⟩ : ∃ H : Heap, H = s.heap := ⟨_, rfl⟩
  obtain ⟨locs, el⟩ : ∃ L : List Loc, L = [] := ⟨_, rfl⟩
  have hP : va_P D vwCl [cell22_ qm sm tm, cell5_ k qm sm, cell13_ k qm sm, cell8_ k qm sm, cell6_ k qm sm, cell14_ k qm sm, cell15_ k qm tm, cell12_ k qm tm, cell18_ k qm tm, cell17_ k qm tm, cell19_ k qm tm, cell21_ k qm tm, cell20_ k qm sm, cell16_ k qm sm, cell11_ k qm sm, cell10_ k qm sm, cell9_ k qm sm, cell7_ k qm sm] H := by rw [eH]; exact hP
  have hD : va_D A [cell22_ qm sm tm, cell5_ k qm sm, cell13_ k qm sm, cell8_ k qm sm, cell6_ k qm sm, cell14_ k qm sm, cell15_ k qm tm, cell12_ k qm tm, cell18_ k qm tm, cell17_ k qm tm, cell19_ k qm tm, cell21_ k qm tm, cell20_ k qm sm, cell16_ k qm sm, cell11_ k qm sm, cell10_ k qm sm, cell9_ k qm sm, cell7_ k qm sm] := hD
  have hS : va_S A s.heap H locs := by rw [eH, el]; exact hS
  suffices goal : W p l e ({ frames := 1, cells := 0, slots := 0, locals := 20 } : Room) s m ([.ref (qm 0), .int p0] : List Value).toArray below meth c H locs 0 0 Q (F0 m 0 ls []) by rw [eH, el] at goal; exact goal
  refine lv_aload_n hx hb dX12_bonus_0 rfl (lv_at hl 0 rfl) ?_
  refine g_get cx hP iw_X12_bonus_X12 0 rfl rfl 1 (by decide) rfl fw_X12_bonus_13 rfl dX12_bonus_1 ?_
  refine lv_bipush (v := 7) hx hb dX12_bonus_4 (by decide) ?_
  have hn1 : vp_in 7 26 := f_in (a := 7) (by decide) (by omega) (by omega)
  refine va_iald hx hb cx.2.1 hP 2 0 rfl rfl hn1 dX12_bonus_6 (lv_topi (fun v2 e2 => ?_))
  have uv2 : v2.toInt = ((sm 2) 7).toInt := congrArg Int32.toInt e2
  refine lv_bipush (v := (-9)) hx hb dX12_bonus_7 (by decide) ?_
  refine lv_icmp_ne (tgt := 16) hx hb dX12_bonus_9 (by decide) (fun c3 => ?_) (fun c3 => ?_)
  · have f3 : ¬ v2.toInt = (-9) := f_ne rfl (by decide) c3
    refine lv_aload_n hx hb dX12_bonus_16 rfl (lv_at hl 0 rfl) ?_
    refine g_get cx hP iw_X12_bonus_X12 0 rfl rfl 1 (by decide) rfl fw_X12_bonus_13 rfl dX12_bonus_17 ?_
    refine lv_bipush (v := 7) hx hb dX12_bonus_20 (by decide) ?_
    have hn4 : vp_in 7 26 := f_in (a := 7) (by decide) (by omega) (by omega)
    refine va_iald hx hb cx.2.1 hP 2 0 rfl rfl hn4 dX12_bonus_22 (lv_topi (fun v5 e5 => ?_))
    have qv5_ : v5.toInt = v2.toInt := congrArg Int32.toInt (e5.trans e2.symm)
    have uv5 : v5.toInt = ((sm 2) 7).toInt := congrArg Int32.toInt e5
    refine lv_iload_n hx hb dX12_bonus_23 rfl (lv_at hl 1 rfl) ?_
    refine g_ir (g_runS (wc := []) (rest := [.int v5]) cx hP hD hS [] rfl (by decide) [.int p0] (c_X12_all l D k b H.size p0) gX12_bonus_X12_all rfl rfl rfl nd_X12_all ⟨Nat.le_of_ble_eq_true rfl, Nat.le_of_ble_eq_true rfl⟩ rfl hl.1 rfl (Nat.le_of_ble_eq_true rfl) ⟨Nat.zero_le _, Nat.zero_le _⟩ dX12_bonus_24) cx.2.2.1 hP hD hS [] rfl rfl (fun r7 H locs hw6 hP hS => ?_)
    have w8 : r7 = J_X12_all p0 := hw6
    clear hw6
    refine lv_imul hx hb dX12_bonus_27 (lv_topi (fun v9 e9 => ?_))
    rw [hQ]
    exact x_i cx hr () hP hD hS (show v9 = J_X12_bonus sm tm p0 from by subst e2 e5 w8 e9; first | (refine Eq.symm ?_; refine Eq.trans (if_neg c3) ?_; rfl) | (unfold J_X12_bonus; try dsimp only; rw [if_neg c3])) dX12_bonus_28
  · have f3 : v2.toInt = (-9) := f_eq rfl (by decide) c3
    refine lv_iconst (v := 0) hx hb dX12_bonus_12 (by decide) ?_
    refine lv_goto (tgt := 28) hx hb dX12_bonus_13 (by decide) ?_
    have hlit10 : (0 : Int32).toInt = 0 := by decide
    rw [hQ]
    exact x_i cx hr () hP hD hS (show (0 : Int32) = J_X12_bonus sm tm p0 from by subst e2; first | (refine Eq.symm ?_; refine Eq.trans (if_pos c3) ?_; rfl) | (unfold J_X12_bonus; try dsimp only; rw [if_pos c3])) dX12_bonus_28

